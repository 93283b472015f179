theorem wm_1134 : Cond.codeWith yL_minutes cL_minutes 4 (some .int) [(0, 9, 12, 13), (0, 9, 15, 40)] ∈ kWS := kws_at 1134 (by decide +kernel) (by decide +kernel)
theorem wm_1132 : Cond.methodLink RL 159 yL_minutes ∈ kWS := kws_at 1132 (by decide +kernel) (by decide +kernel)
theorem wm_1133 : Cond.static yL_minutes ∈ kWS := kws_at 1133 (by decide +kernel) (by decide +kernel)
theorem lk_SRL_159 : kLS RL 159 yL_minutes (Cond.codeWith yL_minutes cL_minutes 4 (some .int) [(0, 9, 12, 13), (0, 9, 15, 40)]) 3 := ⟨wm_1132, wm_1133, wm_0, wm_1134, ⟨by decide +kernel, by decide +kernel, by decide +kernel⟩⟩
theorem wm_1816 : Cond.code yX12_minutes cX12_minutes 4 (some .int) ∈ kWS := kws_at 1816 (by decide +kernel) (by decide +kernel)
theorem wm_1813 : Cond.methodLink RL 161 yX12_minutes ∈ kWS := kws_at 1813 (by decide +kernel) (by decide +kernel)
theorem wm_1815 : Cond.selects RX12 yX12_minutes yX12_minutes ∈ kWS := kws_at 1815 (by decide +kernel) (by decide +kernel)
theorem wm_1814 : Cond.instanceMethod yX12_minutes ∈ kWS := kws_at 1814 (by decide +kernel) (by decide +kernel)
theorem lk_VRL_161 : kLV RL 161 yX12_minutes (Cond.code yX12_minutes cX12_minutes 4 (some .int)) 1 := ⟨wm_1813, wm_1814, wm_1815, wm_12, wm_1816, ⟨by decide +kernel, by decide +kernel, by decide +kernel⟩⟩
theorem wm_1183 : Cond.codeWith yL_day cL_day 4 (some .int) [(0, 9, 12, 13)] ∈ kWS := kws_at 1183 (by decide +kernel) (by decide +kernel)
theorem wm_1181 : Cond.methodLink RL 162 yL_day ∈ kWS := kws_at 1181 (by decide +kernel) (by decide +kernel)
theorem wm_1182 : Cond.static yL_day ∈ kWS := kws_at 1182 (by decide +kernel) (by decide +kernel)
theorem lk_SRL_162 : kLS RL 162 yL_day (Cond.codeWith yL_day cL_day 4 (some .int) [(0, 9, 12, 13)]) 3 := ⟨wm_1181, wm_1182, wm_0, wm_1183, ⟨by decide +kernel, by decide +kernel, by decide +kernel⟩⟩
theorem wm_1831 : Cond.code yX12_day cX12_day 2 (some .int) ∈ kWS := kws_at 1831 (by decide +kernel) (by decide +kernel)
theorem wm_1828 : Cond.methodLink RL 164 yX12_day ∈ kWS := kws_at 1828 (by decide +kernel) (by decide +kernel)
theorem wm_1830 : Cond.selects RX12 yX12_day yX12_day ∈ kWS := kws_at 1830 (by decide +kernel) (by decide +kernel)
theorem wm_1829 : Cond.instanceMethod yX12_day ∈ kWS := kws_at 1829 (by decide +kernel) (by decide +kernel)
theorem lk_VRL_164 : kLV RL 164 yX12_day (Cond.code yX12_day cX12_day 2 (some .int)) 1 := ⟨wm_1828, wm_1829, wm_1830, wm_12, wm_1831, ⟨by decide +kernel, by decide +kernel, by decide +kernel⟩⟩
theorem wm_1191 : Cond.codeWith yL_passing cL_passing 5 (some .int) [(0, 10, 13, 22), (0, 10, 17, 13)] ∈ kWS := kws_at 1191 (by decide +kernel) (by decide +kernel)
theorem wm_1189 : Cond.methodLink RL 165 yL_passing ∈ kWS := kws_at 1189 (by decide +kernel) (by decide +kernel)
theorem wm_1190 : Cond.static yL_passing ∈ kWS := kws_at 1190 (by decide +kernel) (by decide +kernel)
theorem lk_SRL_165 : kLS RL 165 yL_passing (Cond.codeWith yL_passing cL_passing 5 (some .int) [(0, 10, 13, 22), (0, 10, 17, 13)]) 4 := ⟨wm_1189, wm_1190, wm_0, wm_1191, ⟨by decide +kernel, by decide +kernel, by decide +kernel⟩⟩
theorem wm_1839 : Cond.code yX12_passing cX12_passing 3 (some .int) ∈ kWS := kws_at 1839 (by decide +kernel) (by decide +kernel)
theorem wm_1836 : Cond.methodLink RL 167 yX12_passing ∈ kWS := kws_at 1836 (by decide +kernel) (by decide +kernel)
theorem wm_1838 : Cond.selects RX12 yX12_passing yX12_passing ∈ kWS := kws_at 1838 (by decide +kernel) (by decide +kernel)
theorem wm_1837 : Cond.instanceMethod yX12_passing ∈ kWS := kws_at 1837 (by decide +kernel) (by decide +kernel)
theorem lk_VRL_167 : kLV RL 167 yX12_passing (Cond.code yX12_passing cX12_passing 3 (some .int)) 2 := ⟨wm_1836, wm_1837, wm_1838, wm_12, wm_1839, ⟨by decide +kernel, by decide +kernel, by decide +kernel⟩⟩
theorem wm_487 : Cond.code yX11_clear cX11_clear 2 (some .int) ∈ kWS := kws_at 487 (by decide +kernel) (by decide +kernel)
theorem wm_484 : Cond.methodLink RL 168 yX11_clear ∈ kWS := kws_at 484 (by decide +kernel) (by decide +kernel)
theorem wm_486 : Cond.selects RX11 yX11_clear yX11_clear ∈ kWS := kws_at 486 (by decide +kernel) (by decide +kernel)
theorem wm_485 : Cond.instanceMethod yX11_clear ∈ kWS := kws_at 485 (by decide +kernel) (by decide +kernel)
theorem lk_VRL_168 : kLV RL 168 yX11_clear (Cond.code yX11_clear cX11_clear 2 (some .int)) 0 := ⟨wm_484, wm_485, wm_486, wm_1, wm_487, ⟨by decide +kernel, by decide +kernel, by decide +kernel⟩⟩
theorem wm_1843 : Cond.code yX12_clear cX12_clear 2 (some .int) ∈ kWS := kws_at 1843 (by decide +kernel) (by decide +kernel)
theorem wm_1840 : Cond.methodLink RL 171 yX12_clear ∈ kWS := kws_at 1840 (by decide +kernel) (by decide +kernel)
theorem wm_1842 : Cond.selects RX12 yX12_clear yX12_clear ∈ kWS := kws_at 1842 (by decide +kernel) (by decide +kernel)
theorem wm_1841 : Cond.instanceMethod yX12_clear ∈ kWS := kws_at 1841 (by decide +kernel) (by decide +kernel)
theorem lk_VRL_171 : kLV RL 171 yX12_clear (Cond.code yX12_clear cX12_clear 2 (some .int)) 0 := ⟨wm_1840, wm_1841, wm_1842, wm_12, wm_1843, ⟨by decide +kernel, by decide +kernel, by decide +kernel⟩⟩
theorem wm_1202 : Cond.codeWith yL_judge cL_judge 4 (some .int) [(0, 9, 12, 13)] ∈ kWS := kws_at 1202 (by decide +kernel) (by decide +kernel)
theorem wm_1200 : Cond.methodLink RL 172 yL_judge ∈ kWS := kws_at 1200 (by decide +kernel) (by decide +kernel)
theorem wm_1201 : Cond.static yL_judge ∈ kWS := kws_at 1201 (by decide +kernel) (by decide +kernel)
theorem lk_SRL_172 : kLS RL 172 yL_judge (Cond.codeWith yL_judge cL_judge 4 (some .int) [(0, 9, 12, 13)]) 3 := ⟨wm_1200, wm_1201, wm_0, wm_1202, ⟨by decide +kernel, by decide +kernel, by decide +kernel⟩⟩
theorem wm_1847 : Cond.code yX12_judge cX12_judge 7 (some .int) ∈ kWS := kws_at 1847 (by decide +kernel) (by decide +kernel)
theorem wm_1844 : Cond.methodLink RL 174 yX12_judge ∈ kWS := kws_at 1844 (by decide +kernel) (by decide +kernel)
theorem wm_1846 : Cond.selects RX12 yX12_judge yX12_judge ∈ kWS := kws_at 1846 (by decide +kernel) (by decide +kernel)
theorem wm_1845 : Cond.instanceMethod yX12_judge ∈ kWS := kws_at 1845 (by decide +kernel) (by decide +kernel)
theorem lk_VRL_174 : kLV RL 174 yX12_judge (Cond.code yX12_judge cX12_judge 7 (some .int)) 1 := ⟨wm_1844, wm_1845, wm_1846, wm_12, wm_1847, ⟨by decide +kernel, by decide +kernel, by decide +kernel⟩⟩
theorem wm_1226 : Cond.codeWith yL_run cL_run 7 (some .int) [(0, 14, 17, 13)] ∈ kWS := kws_at 1226 (by decide +kernel) (by decide +kernel)
theorem wm_1224 : Cond.methodLink RL 175 yL_run ∈ kWS := kws_at 1224 (by decide +kernel) (by decide +kernel)
theorem wm_1225 : Cond.static yL_run ∈ kWS := kws_at 1225 (by decide +kernel) (by decide +kernel)
theorem lk_SRL_175 : kLS RL 175 yL_run (Cond.codeWith yL_run cL_run 7 (some .int) [(0, 14, 17, 13)]) 6 := ⟨wm_1224, wm_1225, wm_0, wm_1226, ⟨by decide +kernel, by decide +kernel, by decide +kernel⟩⟩
theorem wm_1863 : Cond.code yX12_run cX12_run 5 (some .int) ∈ kWS := kws_at 1863 (by decide +kernel) (by decide +kernel)
theorem wm_1860 : Cond.methodLink RL 178 yX12_run ∈ kWS := kws_at 1860 (by decide +kernel) (by decide +kernel)
theorem wm_1862 : Cond.selects RX12 yX12_run yX12_run ∈ kWS := kws_at 1862 (by decide +kernel) (by decide +kernel)
theorem wm_1861 : Cond.instanceMethod yX12_run ∈ kWS := kws_at 1861 (by decide +kernel) (by decide +kernel)
theorem lk_VRL_178 : kLV RL 178 yX12_run (Cond.code yX12_run cX12_run 5 (some .int)) 4 := ⟨wm_1860, wm_1861, wm_1862, wm_12, wm_1863, ⟨by decide +kernel, by decide +kernel, by decide +kernel⟩⟩
theorem wm_1263 : Cond.codeWith yL_best cL_best 4 (some .int) [(0, 9, 12, 13)] ∈ kWS := kws_at 1263 (by decide +kernel) (by decide +kernel)
theorem wm_1261 : Cond.methodLink RL 179 yL_best ∈ kWS := kws_at 1261 (by decide +kernel) (by decide +kernel)
theorem wm_1262 : Cond.static yL_best ∈ kWS := kws_at 1262 (by decide +kernel) (by decide +kernel)
theorem lk_SRL_179 : kLS RL 179 yL_best (Cond.codeWith yL_best cL_best 4 (some .int) [(0, 9, 12, 13)]) 3 := ⟨wm_1261, wm_1262, wm_0, wm_1263, ⟨by decide +kernel, by decide +kernel, by decide +kernel⟩⟩
theorem wm_1887 : Cond.code yX12_best cX12_best 6 (some .int) ∈ kWS := kws_at 1887 (by decide +kernel) (by decide +kernel)
theorem wm_1884 : Cond.methodLink RL 181 yX12_best ∈ kWS := kws_at 1884 (by decide +kernel) (by decide +kernel)
theorem wm_1886 : Cond.selects RX12 yX12_best yX12_best ∈ kWS := kws_at 1886 (by decide +kernel) (by decide +kernel)
theorem wm_1885 : Cond.instanceMethod yX12_best ∈ kWS := kws_at 1885 (by decide +kernel) (by decide +kernel)
theorem lk_VRL_181 : kLV RL 181 yX12_best (Cond.code yX12_best cX12_best 6 (some .int)) 1 := ⟨wm_1884, wm_1885, wm_1886, wm_12, wm_1887, ⟨by decide +kernel, by decide +kernel, by decide +kernel⟩⟩
theorem wm_1274 : Cond.codeWith yL_often cL_often 4 (some .int) [(0, 9, 12, 13)] ∈ kWS := kws_at 1274 (by decide +kernel) (by decide +kernel)
theorem wm_1272 : Cond.methodLink RL 182 yL_often ∈ kWS := kws_at 1272 (by decide +kernel) (by decide +kernel)
theorem wm_1273 : Cond.static yL_often ∈ kWS := kws_at 1273 (by decide +kernel) (by decide +kernel)
theorem lk_SRL_182 : kLS RL 182 yL_often (Cond.codeWith yL_often cL_often 4 (some .int) [(0, 9, 12, 13)]) 3 := ⟨wm_1272, wm_1273, wm_0, wm_1274, ⟨by decide +kernel, by decide +kernel, by decide +kernel⟩⟩
theorem wm_1891 : Cond.code yX12_often cX12_often 5 (some .int) ∈ kWS := kws_at 1891 (by decide +kernel) (by decide +kernel)
theorem wm_1888 : Cond.methodLink RL 184 yX12_often ∈ kWS := kws_at 1888 (by decide +kernel) (by decide +kernel)
theorem wm_1890 : Cond.selects RX12 yX12_often yX12_often ∈ kWS := kws_at 1890 (by decide +kernel) (by decide +kernel)
theorem wm_1889 : Cond.instanceMethod yX12_often ∈ kWS := kws_at 1889 (by decide +kernel) (by decide +kernel)
theorem lk_VRL_184 : kLV RL 184 yX12_often (Cond.code yX12_often cX12_often 5 (some .int)) 1 := ⟨wm_1888, wm_1889, wm_1890, wm_12, wm_1891, ⟨by decide +kernel, by decide +kernel, by decide +kernel⟩⟩
theorem wm_1281 : Cond.codeWith yL_taught cL_taught 7 (some .int) [(0, 14, 17, 22), (0, 14, 21, 13)] ∈ kWS := kws_at 1281 (by decide +kernel) (by decide +kernel)
theorem wm_1279 : Cond.methodLink RL 185 yL_taught ∈ kWS := kws_at 1279 (by decide +kernel) (by decide +kernel)
theorem wm_1280 : Cond.static yL_taught ∈ kWS := kws_at 1280 (by decide +kernel) (by decide +kernel)
theorem lk_SRL_185 : kLS RL 185 yL_taught (Cond.codeWith yL_taught cL_taught 7 (some .int) [(0, 14, 17, 22), (0, 14, 21, 13)]) 6 := ⟨wm_1279, wm_1280, wm_0, wm_1281, ⟨by decide +kernel, by decide +kernel, by decide +kernel⟩⟩
theorem wm_1895 : Cond.code yX12_taught cX12_taught 5 (some .int) ∈ kWS := kws_at 1895 (by decide +kernel) (by decide +kernel)
theorem wm_1892 : Cond.methodLink RL 187 yX12_taught ∈ kWS := kws_at 1892 (by decide +kernel) (by decide +kernel)
theorem wm_1894 : Cond.selects RX12 yX12_taught yX12_taught ∈ kWS := kws_at 1894 (by decide +kernel) (by decide +kernel)
theorem wm_1893 : Cond.instanceMethod yX12_taught ∈ kWS := kws_at 1893 (by decide +kernel) (by decide +kernel)
theorem lk_VRL_187 : kLV RL 187 yX12_taught (Cond.code yX12_taught cX12_taught 5 (some .int)) 4 := ⟨wm_1892, wm_1893, wm_1894, wm_12, wm_1895, ⟨by decide +kernel, by decide +kernel, by decide +kernel⟩⟩
theorem wm_1299 : Cond.codeWith yL_pays cL_pays 6 (some .int) [(0, 12, 15, 13)] ∈ kWS := kws_at 1299 (by decide +kernel) (by decide +kernel)
theorem wm_1297 : Cond.methodLink RL 188 yL_pays ∈ kWS := kws_at 1297 (by decide +kernel) (by decide +kernel)
theorem wm_1298 : Cond.static yL_pays ∈ kWS := kws_at 1298 (by decide +kernel) (by decide +kernel)
theorem lk_SRL_188 : kLS RL 188 yL_pays (Cond.codeWith yL_pays cL_pays 6 (some .int) [(0, 12, 15, 13)]) 5 := ⟨wm_1297, wm_1298, wm_0, wm_1299, ⟨by decide +kernel, by decide +kernel, by decide +kernel⟩⟩
theorem wm_1907 : Cond.code yX12_pays cX12_pays 8 (some .int) ∈ kWS := kws_at 1907 (by decide +kernel) (by decide +kernel)
theorem wm_1904 : Cond.methodLink RL 191 yX12_pays ∈ kWS := kws_at 1904 (by decide +kernel) (by decide +kernel)
theorem wm_1906 : Cond.selects RX12 yX12_pays yX12_pays ∈ kWS := kws_at 1906 (by decide +kernel) (by decide +kernel)
theorem wm_1905 : Cond.instanceMethod yX12_pays ∈ kWS := kws_at 1905 (by decide +kernel) (by decide +kernel)
theorem lk_VRL_191 : kLV RL 191 yX12_pays (Cond.code yX12_pays cX12_pays 8 (some .int)) 3 := ⟨wm_1904, wm_1905, wm_1906, wm_12, wm_1907, ⟨by decide +kernel, by decide +kernel, by decide +kernel⟩⟩
theorem dL_law_774 : decode cL_law 774 = .ok (.aload_n 1, 1) := by decide +kernel
theorem dL_law_775 : decode cL_law 775 = .ok (.aload_n 0, 1) := by decide +kernel
theorem dL_law_776 : decode cL_law 776 = .ok (.iload 4, 2) := by decide +kernel
theorem dL_law_778 : decode cL_law 778 = .ok (.iconst 1, 1) := by decide +kernel
theorem dL_law_779 : decode cL_law 779 = .ok (.iadd, 1) := by decide +kernel
theorem dL_law_780 : decode cL_law 780 = .ok (.iaload, 1) := by decide +kernel
theorem dL_law_781 : decode cL_law 781 = .ok (.aload_n 3, 1) := by decide +kernel
theorem dL_law_782 : decode cL_law 782 = .ok (.invokestatic 159, 3) := by decide +kernel
theorem dL_law_785 : decode cL_law 785 = .ok (.istore 5, 2) := by decide +kernel
theorem dL_law_787 : decode cL_law 787 = .ok (.aload_n 2, 1) := by decide +kernel
theorem dL_law_788 : decode cL_law 788 = .ok (.aload_n 0, 1) := by decide +kernel
theorem dL_law_789 : decode cL_law 789 = .ok (.iload 4, 2) := by decide +kernel
theorem dL_law_791 : decode cL_law 791 = .ok (.iconst 1, 1) := by decide +kernel
theorem dL_law_792 : decode cL_law 792 = .ok (.iadd, 1) := by decide +kernel
theorem dL_law_793 : decode cL_law 793 = .ok (.iaload, 1) := by decide +kernel
theorem dL_law_794 : decode cL_law 794 = .ok (.invokevirtual 161, 3) := by decide +kernel
theorem dL_law_797 : decode cL_law 797 = .ok (.istore 6, 2) := by decide +kernel
theorem dL_law_799 : decode cL_law 799 = .ok (.aload_n 2, 1) := by decide +kernel
theorem dL_law_800 : decode cL_law 800 = .ok (.invokevirtual 127, 3) := by decide +kernel
theorem dL_law_803 : decode cL_law 803 = .ok (.iload 5, 2) := by decide +kernel
theorem dL_law_805 : decode cL_law 805 = .ok (.if_icmp .eq 5, 3) := by decide +kernel
theorem dL_law_810 : decode cL_law 810 = .ok (.iload 5, 2) := by decide +kernel
theorem dL_law_812 : decode cL_law 812 = .ok (.ifCond .ne 15, 3) := by decide +kernel
theorem dL_law_827 : decode cL_law 827 = .ok (.goto 1591, 3) := by decide +kernel
theorem dL_law_830 : decode cL_law 830 = .ok (.aload_n 1, 1) := by decide +kernel
theorem dL_law_831 : decode cL_law 831 = .ok (.aload_n 0, 1) := by decide +kernel
theorem dL_law_832 : decode cL_law 832 = .ok (.iload 4, 2) := by decide +kernel
theorem dL_law_834 : decode cL_law 834 = .ok (.iconst 1, 1) := by decide +kernel
theorem dL_law_835 : decode cL_law 835 = .ok (.iadd, 1) := by decide +kernel
theorem dL_law_836 : decode cL_law 836 = .ok (.iaload, 1) := by decide +kernel
theorem dL_law_837 : decode cL_law 837 = .ok (.aload_n 3, 1) := by decide +kernel
theorem dL_law_838 : decode cL_law 838 = .ok (.invokestatic 162, 3) := by decide +kernel
theorem dL_law_841 : decode cL_law 841 = .ok (.istore 5, 2) := by decide +kernel
theorem dL_law_843 : decode cL_law 843 = .ok (.aload_n 2, 1) := by decide +kernel
theorem dL_law_844 : decode cL_law 844 = .ok (.aload_n 0, 1) := by decide +kernel
theorem dL_law_845 : decode cL_law 845 = .ok (.iload 4, 2) := by decide +kernel
theorem dL_law_847 : decode cL_law 847 = .ok (.iconst 1, 1) := by decide +kernel
theorem dL_law_848 : decode cL_law 848 = .ok (.iadd, 1) := by decide +kernel
theorem dL_law_849 : decode cL_law 849 = .ok (.iaload, 1) := by decide +kernel
theorem dL_law_850 : decode cL_law 850 = .ok (.invokevirtual 164, 3) := by decide +kernel
theorem dL_law_853 : decode cL_law 853 = .ok (.istore 6, 2) := by decide +kernel
theorem dL_law_855 : decode cL_law 855 = .ok (.aload_n 2, 1) := by decide +kernel
theorem dL_law_856 : decode cL_law 856 = .ok (.invokevirtual 127, 3) := by decide +kernel
theorem dL_law_859 : decode cL_law 859 = .ok (.iload 5, 2) := by decide +kernel
theorem dL_law_861 : decode cL_law 861 = .ok (.if_icmp .eq 5, 3) := by decide +kernel
theorem dL_law_866 : decode cL_law 866 = .ok (.iload 5, 2) := by decide +kernel
theorem dL_law_868 : decode cL_law 868 = .ok (.ifCond .ne 15, 3) := by decide +kernel
theorem dL_law_871 : decode cL_law 871 = .ok (.aload_n 3, 1) := by decide +kernel
theorem dL_law_872 : decode cL_law 872 = .ok (.iconst 0, 1) := by decide +kernel
theorem dL_law_873 : decode cL_law 873 = .ok (.laload, 1) := by decide +kernel
theorem dL_law_874 : decode cL_law 874 = .ok (.iload 6, 2) := by decide +kernel
theorem dL_law_876 : decode cL_law 876 = .ok (.i2l, 1) := by decide +kernel
theorem dL_law_877 : decode cL_law 877 = .ok (.lcmp, 1) := by decide +kernel
theorem dL_law_878 : decode cL_law 878 = .ok (.ifCond .eq 5, 3) := by decide +kernel
theorem dL_law_883 : decode cL_law 883 = .ok (.goto 1535, 3) := by decide +kernel
theorem dL_law_886 : decode cL_law 886 = .ok (.aload_n 1, 1) := by decide +kernel
theorem dL_law_887 : decode cL_law 887 = .ok (.aload_n 0, 1) := by decide +kernel
theorem dL_law_888 : decode cL_law 888 = .ok (.iload 4, 2) := by decide +kernel
theorem dL_law_890 : decode cL_law 890 = .ok (.iconst 1, 1) := by decide +kernel
theorem dL_law_891 : decode cL_law 891 = .ok (.iadd, 1) := by decide +kernel
theorem dL_law_892 : decode cL_law 892 = .ok (.iaload, 1) := by decide +kernel
theorem dL_law_893 : decode cL_law 893 = .ok (.aload_n 0, 1) := by decide +kernel
theorem dL_law_894 : decode cL_law 894 = .ok (.iload 4, 2) := by decide +kernel
theorem dL_law_896 : decode cL_law 896 = .ok (.iconst 2, 1) := by decide +kernel
theorem dL_law_897 : decode cL_law 897 = .ok (.iadd, 1) := by decide +kernel
theorem dL_law_898 : decode cL_law 898 = .ok (.iaload, 1) := by decide +kernel
theorem dL_law_899 : decode cL_law 899 = .ok (.aload_n 3, 1) := by decide +kernel
theorem dL_law_900 : decode cL_law 900 = .ok (.invokestatic 165, 3) := by decide +kernel
theorem dL_law_903 : decode cL_law 903 = .ok (.istore 5, 2) := by decide +kernel
theorem dL_law_905 : decode cL_law 905 = .ok (.aload_n 2, 1) := by decide +kernel
theorem dL_law_906 : decode cL_law 906 = .ok (.aload_n 0, 1) := by decide +kernel
theorem dL_law_907 : decode cL_law 907 = .ok (.iload 4, 2) := by decide +kernel
theorem dL_law_909 : decode cL_law 909 = .ok (.iconst 1, 1) := by decide +kernel
theorem dL_law_910 : decode cL_law 910 = .ok (.iadd, 1) := by decide +kernel
theorem dL_law_911 : decode cL_law 911 = .ok (.iaload, 1) := by decide +kernel
theorem dL_law_912 : decode cL_law 912 = .ok (.aload_n 0, 1) := by decide +kernel
theorem dL_law_913 : decode cL_law 913 = .ok (.iload 4, 2) := by decide +kernel
theorem dL_law_915 : decode cL_law 915 = .ok (.iconst 2, 1) := by decide +kernel
theorem dL_law_916 : decode cL_law 916 = .ok (.iadd, 1) := by decide +kernel
theorem dL_law_917 : decode cL_law 917 = .ok (.iaload, 1) := by decide +kernel
theorem dL_law_918 : decode cL_law 918 = .ok (.invokevirtual 167, 3) := by decide +kernel
theorem dL_law_921 : decode cL_law 921 = .ok (.istore 6, 2) := by decide +kernel
theorem dL_law_923 : decode cL_law 923 = .ok (.aload_n 2, 1) := by decide +kernel
theorem dL_law_924 : decode cL_law 924 = .ok (.invokevirtual 127, 3) := by decide +kernel
theorem dL_law_927 : decode cL_law 927 = .ok (.iload 5, 2) := by decide +kernel
theorem dL_law_929 : decode cL_law 929 = .ok (.if_icmp .eq 5, 3) := by decide +kernel
theorem dL_law_934 : decode cL_law 934 = .ok (.iload 5, 2) := by decide +kernel
theorem dL_law_936 : decode cL_law 936 = .ok (.ifCond .ne 15, 3) := by decide +kernel
theorem dL_law_951 : decode cL_law 951 = .ok (.goto 1467, 3) := by decide +kernel
theorem dL_law_954 : decode cL_law 954 = .ok (.aload_n 1, 1) := by decide +kernel
theorem dL_law_955 : decode cL_law 955 = .ok (.invokevirtual 168, 3) := by decide +kernel
theorem dL_law_958 : decode cL_law 958 = .ok (.aload_n 2, 1) := by decide +kernel
theorem dL_law_959 : decode cL_law 959 = .ok (.invokevirtual 171, 3) := by decide +kernel
theorem dL_law_962 : decode cL_law 962 = .ok (.if_icmp .eq 1456, 3) := by decide +kernel
theorem dL_law_967 : decode cL_law 967 = .ok (.aload_n 1, 1) := by decide +kernel
theorem dL_law_968 : decode cL_law 968 = .ok (.aload_n 0, 1) := by decide +kernel
theorem dL_law_969 : decode cL_law 969 = .ok (.iload 4, 2) := by decide +kernel
theorem dL_law_971 : decode cL_law 971 = .ok (.iconst 1, 1) := by decide +kernel
theorem dL_law_972 : decode cL_law 972 = .ok (.iadd, 1) := by decide +kernel
theorem dL_law_973 : decode cL_law 973 = .ok (.iaload, 1) := by decide +kernel
theorem dL_law_974 : decode cL_law 974 = .ok (.aload_n 3, 1) := by decide +kernel
theorem dL_law_975 : decode cL_law 975 = .ok (.invokestatic 172, 3) := by decide +kernel
theorem dL_law_978 : decode cL_law 978 = .ok (.istore 5, 2) := by decide +kernel
theorem dL_law_980 : decode cL_law 980 = .ok (.aload_n 2, 1) := by decide +kernel
theorem dL_law_981 : decode cL_law 981 = .ok (.aload_n 0, 1) := by decide +kernel
theorem dL_law_982 : decode cL_law 982 = .ok (.iload 4, 2) := by decide +kernel
theorem dL_law_984 : decode cL_law 984 = .ok (.iconst 1, 1) := by decide +kernel
theorem dL_law_985 : decode cL_law 985 = .ok (.iadd, 1) := by decide +kernel
theorem dL_law_986 : decode cL_law 986 = .ok (.iaload, 1) := by decide +kernel
theorem dL_law_987 : decode cL_law 987 = .ok (.invokevirtual 174, 3) := by decide +kernel
theorem dL_law_990 : decode cL_law 990 = .ok (.istore 6, 2) := by decide +kernel
theorem dL_law_992 : decode cL_law 992 = .ok (.aload_n 2, 1) := by decide +kernel
theorem dL_law_993 : decode cL_law 993 = .ok (.invokevirtual 127, 3) := by decide +kernel
theorem dL_law_996 : decode cL_law 996 = .ok (.iload 5, 2) := by decide +kernel
theorem dL_law_998 : decode cL_law 998 = .ok (.if_icmp .eq 5, 3) := by decide +kernel
theorem dL_law_1003 : decode cL_law 1003 = .ok (.iload 5, 2) := by decide +kernel
theorem dL_law_1005 : decode cL_law 1005 = .ok (.ifCond .ne 15, 3) := by decide +kernel
theorem dL_law_1008 : decode cL_law 1008 = .ok (.aload_n 3, 1) := by decide +kernel
theorem dL_law_1009 : decode cL_law 1009 = .ok (.iconst 0, 1) := by decide +kernel
theorem dL_law_1010 : decode cL_law 1010 = .ok (.laload, 1) := by decide +kernel
theorem dL_law_1011 : decode cL_law 1011 = .ok (.iload 6, 2) := by decide +kernel
theorem dL_law_1013 : decode cL_law 1013 = .ok (.i2l, 1) := by decide +kernel
theorem dL_law_1014 : decode cL_law 1014 = .ok (.lcmp, 1) := by decide +kernel
theorem dL_law_1015 : decode cL_law 1015 = .ok (.ifCond .eq 5, 3) := by decide +kernel
theorem dL_law_1020 : decode cL_law 1020 = .ok (.goto 1398, 3) := by decide +kernel
theorem dL_law_1023 : decode cL_law 1023 = .ok (.aload_n 1, 1) := by decide +kernel
theorem dL_law_1024 : decode cL_law 1024 = .ok (.aload_n 0, 1) := by decide +kernel
theorem dL_law_1025 : decode cL_law 1025 = .ok (.iload 4, 2) := by decide +kernel
theorem dL_law_1027 : decode cL_law 1027 = .ok (.iconst 1, 1) := by decide +kernel
theorem dL_law_1028 : decode cL_law 1028 = .ok (.iadd, 1) := by decide +kernel
theorem dL_law_1029 : decode cL_law 1029 = .ok (.iaload, 1) := by decide +kernel
theorem dL_law_1030 : decode cL_law 1030 = .ok (.aload_n 0, 1) := by decide +kernel
theorem dL_law_1031 : decode cL_law 1031 = .ok (.iload 4, 2) := by decide +kernel
theorem dL_law_1033 : decode cL_law 1033 = .ok (.iconst 2, 1) := by decide +kernel
theorem dL_law_1034 : decode cL_law 1034 = .ok (.iadd, 1) := by decide +kernel
theorem dL_law_1035 : decode cL_law 1035 = .ok (.iaload, 1) := by decide +kernel
theorem dL_law_1036 : decode cL_law 1036 = .ok (.aload_n 0, 1) := by decide +kernel
theorem dL_law_1037 : decode cL_law 1037 = .ok (.iload 4, 2) := by decide +kernel
theorem dL_law_1039 : decode cL_law 1039 = .ok (.iconst 3, 1) := by decide +kernel
theorem dL_law_1040 : decode cL_law 1040 = .ok (.iadd, 1) := by decide +kernel
theorem dL_law_1041 : decode cL_law 1041 = .ok (.iaload, 1) := by decide +kernel
theorem dL_law_1042 : decode cL_law 1042 = .ok (.aload_n 0, 1) := by decide +kernel
theorem dL_law_1043 : decode cL_law 1043 = .ok (.iload 4, 2) := by decide +kernel
theorem dL_law_1045 : decode cL_law 1045 = .ok (.iconst 4, 1) := by decide +kernel
theorem dL_law_1046 : decode cL_law 1046 = .ok (.iadd, 1) := by decide +kernel
theorem dL_law_1047 : decode cL_law 1047 = .ok (.iaload, 1) := by decide +kernel
theorem dL_law_1048 : decode cL_law 1048 = .ok (.aload_n 3, 1) := by decide +kernel
theorem dL_law_1049 : decode cL_law 1049 = .ok (.invokestatic 175, 3) := by decide +kernel
theorem dL_law_1052 : decode cL_law 1052 = .ok (.istore 5, 2) := by decide +kernel
theorem dL_law_1054 : decode cL_law 1054 = .ok (.aload_n 2, 1) := by decide +kernel
theorem dL_law_1055 : decode cL_law 1055 = .ok (.aload_n 0, 1) := by decide +kernel
theorem dL_law_1056 : decode cL_law 1056 = .ok (.iload 4, 2) := by decide +kernel
theorem dL_law_1058 : decode cL_law 1058 = .ok (.iconst 1, 1) := by decide +kernel
theorem dL_law_1059 : decode cL_law 1059 = .ok (.iadd, 1) := by decide +kernel
theorem dL_law_1060 : decode cL_law 1060 = .ok (.iaload, 1) := by decide +kernel
theorem dL_law_1061 : decode cL_law 1061 = .ok (.aload_n 0, 1) := by decide +kernel
theorem dL_law_1062 : decode cL_law 1062 = .ok (.iload 4, 2) := by decide +kernel
theorem dL_law_1064 : decode cL_law 1064 = .ok (.iconst 2, 1) := by decide +kernel
theorem dL_law_1065 : decode cL_law 1065 = .ok (.iadd, 1) := by decide +kernel
theorem dL_law_1066 : decode cL_law 1066 = .ok (.iaload, 1) := by decide +kernel
theorem dL_law_1067 : decode cL_law 1067 = .ok (.aload_n 0, 1) := by decide +kernel
theorem dL_law_1068 : decode cL_law 1068 = .ok (.iload 4, 2) := by decide +kernel
theorem dL_law_1070 : decode cL_law 1070 = .ok (.iconst 3, 1) := by decide +kernel
theorem dL_law_1071 : decode cL_law 1071 = .ok (.iadd, 1) := by decide +kernel
theorem dL_law_1072 : decode cL_law 1072 = .ok (.iaload, 1) := by decide +kernel
theorem dL_law_1073 : decode cL_law 1073 = .ok (.aload_n 0, 1) := by decide +kernel
theorem dL_law_1074 : decode cL_law 1074 = .ok (.iload 4, 2) := by decide +kernel
theorem dL_law_1076 : decode cL_law 1076 = .ok (.iconst 4, 1) := by decide +kernel
theorem dL_law_1077 : decode cL_law 1077 = .ok (.iadd, 1) := by decide +kernel
theorem dL_law_1078 : decode cL_law 1078 = .ok (.iaload, 1) := by decide +kernel
theorem dL_law_1079 : decode cL_law 1079 = .ok (.invokevirtual 178, 3) := by decide +kernel
theorem dL_law_1082 : decode cL_law 1082 = .ok (.istore 6, 2) := by decide +kernel
theorem dL_law_1084 : decode cL_law 1084 = .ok (.aload_n 2, 1) := by decide +kernel
theorem dL_law_1085 : decode cL_law 1085 = .ok (.invokevirtual 127, 3) := by decide +kernel
theorem dL_law_1088 : decode cL_law 1088 = .ok (.iload 5, 2) := by decide +kernel
theorem dL_law_1090 : decode cL_law 1090 = .ok (.if_icmp .eq 5, 3) := by decide +kernel
theorem dL_law_1095 : decode cL_law 1095 = .ok (.iload 5, 2) := by decide +kernel
theorem dL_law_1097 : decode cL_law 1097 = .ok (.ifCond .ne 15, 3) := by decide +kernel
theorem dL_law_1100 : decode cL_law 1100 = .ok (.aload_n 3, 1) := by decide +kernel
theorem dL_law_1101 : decode cL_law 1101 = .ok (.iconst 0, 1) := by decide +kernel
theorem dL_law_1102 : decode cL_law 1102 = .ok (.laload, 1) := by decide +kernel
theorem dL_law_1103 : decode cL_law 1103 = .ok (.iload 6, 2) := by decide +kernel
theorem dL_law_1105 : decode cL_law 1105 = .ok (.i2l, 1) := by decide +kernel
theorem dL_law_1106 : decode cL_law 1106 = .ok (.lcmp, 1) := by decide +kernel
theorem dL_law_1107 : decode cL_law 1107 = .ok (.ifCond .eq 5, 3) := by decide +kernel
theorem dL_law_1112 : decode cL_law 1112 = .ok (.goto 1306, 3) := by decide +kernel
theorem dL_law_1115 : decode cL_law 1115 = .ok (.aload_n 1, 1) := by decide +kernel
theorem dL_law_1116 : decode cL_law 1116 = .ok (.aload_n 0, 1) := by decide +kernel
theorem dL_law_1117 : decode cL_law 1117 = .ok (.iload 4, 2) := by decide +kernel
theorem dL_law_1119 : decode cL_law 1119 = .ok (.iconst 1, 1) := by decide +kernel
theorem dL_law_1120 : decode cL_law 1120 = .ok (.iadd, 1) := by decide +kernel
theorem dL_law_1121 : decode cL_law 1121 = .ok (.iaload, 1) := by decide +kernel
theorem dL_law_1122 : decode cL_law 1122 = .ok (.aload_n 3, 1) := by decide +kernel
theorem dL_law_1123 : decode cL_law 1123 = .ok (.invokestatic 179, 3) := by decide +kernel
theorem dL_law_1126 : decode cL_law 1126 = .ok (.istore 5, 2) := by decide +kernel
theorem dL_law_1128 : decode cL_law 1128 = .ok (.aload_n 2, 1) := by decide +kernel
theorem dL_law_1129 : decode cL_law 1129 = .ok (.aload_n 0, 1) := by decide +kernel
theorem dL_law_1130 : decode cL_law 1130 = .ok (.iload 4, 2) := by decide +kernel
theorem dL_law_1132 : decode cL_law 1132 = .ok (.iconst 1, 1) := by decide +kernel
theorem dL_law_1133 : decode cL_law 1133 = .ok (.iadd, 1) := by decide +kernel
theorem dL_law_1134 : decode cL_law 1134 = .ok (.iaload, 1) := by decide +kernel
theorem dL_law_1135 : decode cL_law 1135 = .ok (.invokevirtual 181, 3) := by decide +kernel
theorem dL_law_1138 : decode cL_law 1138 = .ok (.istore 6, 2) := by decide +kernel
theorem dL_law_1140 : decode cL_law 1140 = .ok (.aload_n 2, 1) := by decide +kernel
theorem dL_law_1141 : decode cL_law 1141 = .ok (.invokevirtual 127, 3) := by decide +kernel
theorem dL_law_1144 : decode cL_law 1144 = .ok (.iload 5, 2) := by decide +kernel
theorem dL_law_1146 : decode cL_law 1146 = .ok (.if_icmp .eq 5, 3) := by decide +kernel
theorem dL_law_1151 : decode cL_law 1151 = .ok (.iload 5, 2) := by decide +kernel
theorem dL_law_1153 : decode cL_law 1153 = .ok (.ifCond .ne 15, 3) := by decide +kernel
theorem dL_law_1156 : decode cL_law 1156 = .ok (.aload_n 3, 1) := by decide +kernel
theorem dL_law_1157 : decode cL_law 1157 = .ok (.iconst 0, 1) := by decide +kernel
theorem dL_law_1158 : decode cL_law 1158 = .ok (.laload, 1) := by decide +kernel
theorem dL_law_1159 : decode cL_law 1159 = .ok (.iload 6, 2) := by decide +kernel
theorem dL_law_1161 : decode cL_law 1161 = .ok (.i2l, 1) := by decide +kernel
theorem dL_law_1162 : decode cL_law 1162 = .ok (.lcmp, 1) := by decide +kernel
theorem dL_law_1163 : decode cL_law 1163 = .ok (.ifCond .eq 5, 3) := by decide +kernel
theorem dL_law_1168 : decode cL_law 1168 = .ok (.goto 1250, 3) := by decide +kernel
theorem dL_law_1171 : decode cL_law 1171 = .ok (.aload_n 1, 1) := by decide +kernel
theorem dL_law_1172 : decode cL_law 1172 = .ok (.aload_n 0, 1) := by decide +kernel
theorem dL_law_1173 : decode cL_law 1173 = .ok (.iload 4, 2) := by decide +kernel
theorem dL_law_1175 : decode cL_law 1175 = .ok (.iconst 1, 1) := by decide +kernel
theorem dL_law_1176 : decode cL_law 1176 = .ok (.iadd, 1) := by decide +kernel
theorem dL_law_1177 : decode cL_law 1177 = .ok (.iaload, 1) := by decide +kernel
theorem dL_law_1178 : decode cL_law 1178 = .ok (.aload_n 3, 1) := by decide +kernel
theorem dL_law_1179 : decode cL_law 1179 = .ok (.invokestatic 182, 3) := by decide +kernel
theorem dL_law_1182 : decode cL_law 1182 = .ok (.istore 5, 2) := by decide +kernel
theorem dL_law_1184 : decode cL_law 1184 = .ok (.aload_n 2, 1) := by decide +kernel
theorem dL_law_1185 : decode cL_law 1185 = .ok (.aload_n 0, 1) := by decide +kernel
theorem dL_law_1186 : decode cL_law 1186 = .ok (.iload 4, 2) := by decide +kernel
theorem dL_law_1188 : decode cL_law 1188 = .ok (.iconst 1, 1) := by decide +kernel
theorem dL_law_1189 : decode cL_law 1189 = .ok (.iadd, 1) := by decide +kernel
theorem dL_law_1190 : decode cL_law 1190 = .ok (.iaload, 1) := by decide +kernel
theorem dL_law_1191 : decode cL_law 1191 = .ok (.invokevirtual 184, 3) := by decide +kernel
theorem dL_law_1194 : decode cL_law 1194 = .ok (.istore 6, 2) := by decide +kernel
theorem dL_law_1196 : decode cL_law 1196 = .ok (.aload_n 2, 1) := by decide +kernel
theorem dL_law_1197 : decode cL_law 1197 = .ok (.invokevirtual 127, 3) := by decide +kernel
theorem dL_law_1200 : decode cL_law 1200 = .ok (.iload 5, 2) := by decide +kernel
theorem dL_law_1202 : decode cL_law 1202 = .ok (.if_icmp .eq 5, 3) := by decide +kernel
theorem dL_law_1207 : decode cL_law 1207 = .ok (.iload 5, 2) := by decide +kernel
theorem dL_law_1209 : decode cL_law 1209 = .ok (.ifCond .ne 15, 3) := by decide +kernel
theorem dL_law_1212 : decode cL_law 1212 = .ok (.aload_n 3, 1) := by decide +kernel
theorem dL_law_1213 : decode cL_law 1213 = .ok (.iconst 0, 1) := by decide +kernel
theorem dL_law_1214 : decode cL_law 1214 = .ok (.laload, 1) := by decide +kernel
theorem dL_law_1215 : decode cL_law 1215 = .ok (.iload 6, 2) := by decide +kernel
theorem dL_law_1217 : decode cL_law 1217 = .ok (.i2l, 1) := by decide +kernel
theorem dL_law_1218 : decode cL_law 1218 = .ok (.lcmp, 1) := by decide +kernel
theorem dL_law_1219 : decode cL_law 1219 = .ok (.ifCond .eq 5, 3) := by decide +kernel
theorem dL_law_1224 : decode cL_law 1224 = .ok (.goto 1194, 3) := by decide +kernel
theorem dL_law_1227 : decode cL_law 1227 = .ok (.aload_n 1, 1) := by decide +kernel
theorem dL_law_1228 : decode cL_law 1228 = .ok (.aload_n 0, 1) := by decide +kernel
theorem dL_law_1229 : decode cL_law 1229 = .ok (.iload 4, 2) := by decide +kernel
theorem dL_law_1231 : decode cL_law 1231 = .ok (.iconst 1, 1) := by decide +kernel
theorem dL_law_1232 : decode cL_law 1232 = .ok (.iadd, 1) := by decide +kernel
theorem dL_law_1233 : decode cL_law 1233 = .ok (.iaload, 1) := by decide +kernel
theorem dL_law_1234 : decode cL_law 1234 = .ok (.aload_n 0, 1) := by decide +kernel
theorem dL_law_1235 : decode cL_law 1235 = .ok (.iload 4, 2) := by decide +kernel
theorem dL_law_1237 : decode cL_law 1237 = .ok (.iconst 2, 1) := by decide +kernel
theorem dL_law_1238 : decode cL_law 1238 = .ok (.iadd, 1) := by decide +kernel
theorem dL_law_1239 : decode cL_law 1239 = .ok (.iaload, 1) := by decide +kernel
theorem dL_law_1240 : decode cL_law 1240 = .ok (.aload_n 0, 1) := by decide +kernel
theorem dL_law_1241 : decode cL_law 1241 = .ok (.iload 4, 2) := by decide +kernel
theorem dL_law_1243 : decode cL_law 1243 = .ok (.iconst 3, 1) := by decide +kernel
theorem dL_law_1244 : decode cL_law 1244 = .ok (.iadd, 1) := by decide +kernel
theorem dL_law_1245 : decode cL_law 1245 = .ok (.iaload, 1) := by decide +kernel
theorem dL_law_1246 : decode cL_law 1246 = .ok (.aload_n 0, 1) := by decide +kernel
theorem dL_law_1247 : decode cL_law 1247 = .ok (.iload 4, 2) := by decide +kernel
theorem dL_law_1249 : decode cL_law 1249 = .ok (.iconst 4, 1) := by decide +kernel
theorem dL_law_1250 : decode cL_law 1250 = .ok (.iadd, 1) := by decide +kernel
theorem dL_law_1251 : decode cL_law 1251 = .ok (.iaload, 1) := by decide +kernel
theorem dL_law_1252 : decode cL_law 1252 = .ok (.aload_n 3, 1) := by decide +kernel
theorem dL_law_1253 : decode cL_law 1253 = .ok (.invokestatic 185, 3) := by decide +kernel
theorem dL_law_1256 : decode cL_law 1256 = .ok (.istore 5, 2) := by decide +kernel
theorem dL_law_1258 : decode cL_law 1258 = .ok (.aload_n 2, 1) := by decide +kernel
theorem dL_law_1259 : decode cL_law 1259 = .ok (.aload_n 0, 1) := by decide +kernel
theorem dL_law_1260 : decode cL_law 1260 = .ok (.iload 4, 2) := by decide +kernel
theorem dL_law_1262 : decode cL_law 1262 = .ok (.iconst 1, 1) := by decide +kernel
theorem dL_law_1263 : decode cL_law 1263 = .ok (.iadd, 1) := by decide +kernel
theorem dL_law_1264 : decode cL_law 1264 = .ok (.iaload, 1) := by decide +kernel
theorem dL_law_1265 : decode cL_law 1265 = .ok (.aload_n 0, 1) := by decide +kernel
theorem dL_law_1266 : decode cL_law 1266 = .ok (.iload 4, 2) := by decide +kernel
theorem dL_law_1268 : decode cL_law 1268 = .ok (.iconst 2, 1) := by decide +kernel
theorem dL_law_1269 : decode cL_law 1269 = .ok (.iadd, 1) := by decide +kernel
theorem dL_law_1270 : decode cL_law 1270 = .ok (.iaload, 1) := by decide +kernel
theorem dL_law_1271 : decode cL_law 1271 = .ok (.aload_n 0, 1) := by decide +kernel
theorem dL_law_1272 : decode cL_law 1272 = .ok (.iload 4, 2) := by decide +kernel
theorem dL_law_1274 : decode cL_law 1274 = .ok (.iconst 3, 1) := by decide +kernel
theorem dL_law_1275 : decode cL_law 1275 = .ok (.iadd, 1) := by decide +kernel
theorem dL_law_1276 : decode cL_law 1276 = .ok (.iaload, 1) := by decide +kernel
theorem dL_law_1277 : decode cL_law 1277 = .ok (.aload_n 0, 1) := by decide +kernel
theorem dL_law_1278 : decode cL_law 1278 = .ok (.iload 4, 2) := by decide +kernel
theorem dL_law_1280 : decode cL_law 1280 = .ok (.iconst 4, 1) := by decide +kernel
theorem dL_law_1281 : decode cL_law 1281 = .ok (.iadd, 1) := by decide +kernel
theorem dL_law_1282 : decode cL_law 1282 = .ok (.iaload, 1) := by decide +kernel
theorem dL_law_1283 : decode cL_law 1283 = .ok (.invokevirtual 187, 3) := by decide +kernel
theorem dL_law_1286 : decode cL_law 1286 = .ok (.istore 6, 2) := by decide +kernel
theorem dL_law_1288 : decode cL_law 1288 = .ok (.aload_n 2, 1) := by decide +kernel
theorem dL_law_1289 : decode cL_law 1289 = .ok (.invokevirtual 127, 3) := by decide +kernel
theorem dL_law_1292 : decode cL_law 1292 = .ok (.iload 5, 2) := by decide +kernel
theorem dL_law_1294 : decode cL_law 1294 = .ok (.if_icmp .eq 5, 3) := by decide +kernel
theorem dL_law_1299 : decode cL_law 1299 = .ok (.iload 5, 2) := by decide +kernel
theorem dL_law_1301 : decode cL_law 1301 = .ok (.ifCond .ne 15, 3) := by decide +kernel
theorem dL_law_1316 : decode cL_law 1316 = .ok (.goto 1102, 3) := by decide +kernel
theorem dL_law_1319 : decode cL_law 1319 = .ok (.aload_n 1, 1) := by decide +kernel
theorem dL_law_1320 : decode cL_law 1320 = .ok (.aload_n 0, 1) := by decide +kernel
theorem dL_law_1321 : decode cL_law 1321 = .ok (.iload 4, 2) := by decide +kernel
theorem dL_law_1323 : decode cL_law 1323 = .ok (.iconst 1, 1) := by decide +kernel
theorem dL_law_1324 : decode cL_law 1324 = .ok (.iadd, 1) := by decide +kernel
theorem dL_law_1325 : decode cL_law 1325 = .ok (.iaload, 1) := by decide +kernel
theorem dL_law_1326 : decode cL_law 1326 = .ok (.aload_n 0, 1) := by decide +kernel
theorem dL_law_1327 : decode cL_law 1327 = .ok (.iload 4, 2) := by decide +kernel
theorem dL_law_1329 : decode cL_law 1329 = .ok (.iconst 2, 1) := by decide +kernel
theorem dL_law_1330 : decode cL_law 1330 = .ok (.iadd, 1) := by decide +kernel
theorem dL_law_1331 : decode cL_law 1331 = .ok (.iaload, 1) := by decide +kernel
theorem dL_law_1332 : decode cL_law 1332 = .ok (.aload_n 0, 1) := by decide +kernel
theorem dL_law_1333 : decode cL_law 1333 = .ok (.iload 4, 2) := by decide +kernel
theorem dL_law_1335 : decode cL_law 1335 = .ok (.iconst 3, 1) := by decide +kernel
theorem dL_law_1336 : decode cL_law 1336 = .ok (.iadd, 1) := by decide +kernel
theorem dL_law_1337 : decode cL_law 1337 = .ok (.iaload, 1) := by decide +kernel
theorem dL_law_1338 : decode cL_law 1338 = .ok (.aload_n 3, 1) := by decide +kernel
theorem dL_law_1339 : decode cL_law 1339 = .ok (.invokestatic 188, 3) := by decide +kernel
theorem dL_law_1342 : decode cL_law 1342 = .ok (.istore 5, 2) := by decide +kernel
theorem dL_law_1344 : decode cL_law 1344 = .ok (.aload_n 2, 1) := by decide +kernel
theorem dL_law_1345 : decode cL_law 1345 = .ok (.aload_n 0, 1) := by decide +kernel
theorem dL_law_1346 : decode cL_law 1346 = .ok (.iload 4, 2) := by decide +kernel
theorem dL_law_1348 : decode cL_law 1348 = .ok (.iconst 1, 1) := by decide +kernel
theorem dL_law_1349 : decode cL_law 1349 = .ok (.iadd, 1) := by decide +kernel
theorem dL_law_1350 : decode cL_law 1350 = .ok (.iaload, 1) := by decide +kernel
theorem dL_law_1351 : decode cL_law 1351 = .ok (.aload_n 0, 1) := by decide +kernel
theorem dL_law_1352 : decode cL_law 1352 = .ok (.iload 4, 2) := by decide +kernel
theorem dL_law_1354 : decode cL_law 1354 = .ok (.iconst 2, 1) := by decide +kernel
theorem dL_law_1355 : decode cL_law 1355 = .ok (.iadd, 1) := by decide +kernel
theorem dL_law_1356 : decode cL_law 1356 = .ok (.iaload, 1) := by decide +kernel
theorem dL_law_1357 : decode cL_law 1357 = .ok (.aload_n 0, 1) := by decide +kernel
theorem dL_law_1358 : decode cL_law 1358 = .ok (.iload 4, 2) := by decide +kernel
theorem dL_law_1360 : decode cL_law 1360 = .ok (.iconst 3, 1) := by decide +kernel
theorem dL_law_1361 : decode cL_law 1361 = .ok (.iadd, 1) := by decide +kernel
theorem dL_law_1362 : decode cL_law 1362 = .ok (.iaload, 1) := by decide +kernel
theorem dL_law_1363 : decode cL_law 1363 = .ok (.invokevirtual 191, 3) := by decide +kernel
theorem dL_law_1366 : decode cL_law 1366 = .ok (.istore 6, 2) := by decide +kernel
theorem dL_law_1368 : decode cL_law 1368 = .ok (.aload_n 2, 1) := by decide +kernel
theorem dL_law_1369 : decode cL_law 1369 = .ok (.invokevirtual 127, 3) := by decide +kernel
theorem dL_law_1372 : decode cL_law 1372 = .ok (.iload 5, 2) := by decide +kernel
theorem dL_law_1374 : decode cL_law 1374 = .ok (.if_icmp .eq 5, 3) := by decide +kernel
theorem dL_law_1379 : decode cL_law 1379 = .ok (.iload 5, 2) := by decide +kernel
theorem dL_law_1381 : decode cL_law 1381 = .ok (.ifCond .ne 15, 3) := by decide +kernel
theorem dL_law_1384 : decode cL_law 1384 = .ok (.aload_n 3, 1) := by decide +kernel
theorem dL_law_1385 : decode cL_law 1385 = .ok (.iconst 0, 1) := by decide +kernel
theorem dL_law_1386 : decode cL_law 1386 = .ok (.laload, 1) := by decide +kernel
theorem dL_law_1387 : decode cL_law 1387 = .ok (.iload 6, 2) := by decide +kernel
theorem dL_law_1389 : decode cL_law 1389 = .ok (.i2l, 1) := by decide +kernel
theorem dL_law_1390 : decode cL_law 1390 = .ok (.lcmp, 1) := by decide +kernel
theorem dL_law_1391 : decode cL_law 1391 = .ok (.ifCond .eq 5, 3) := by decide +kernel
theorem dL_law_1396 : decode cL_law 1396 = .ok (.goto 1022, 3) := by decide +kernel
set_option maxHeartbeats 4000000 in
set_option maxRecDepth 100000 in
/-- the law: minutes -/
theorem law_case_10 {p : Program} {l : Launch} {e : Env} {s : State} {m : MethodId} {below : List Frame} {meth : Method} {c : Code} {D : va_G} {cy : Nat → ClassId} {sa : Nat → Nat} {b : Nat} {xs : Nat → Int32} (hl0 : l.stackTraces = false) (E : kE yL_law cL_law 7 (some .boolean) #[Value.ref b] p s m meth c) (hX : va_X b 6 xs s s.heap) (hbl : b < s.heap.size) (hG : kG D cy sa (fun q => s.heap.size ≤ q) s) (u v : Nat → Nat) (o : Nat) (H : Heap) (locs : List Loc) (hP : va_P D vwCl [((u 0), .inr (12, [.ref (u 1), .int 0, .int (-1), .ref (u 2), .ref (u 3), .ref (u 4), .ref (u 5), .ref (u 6), .ref (u 7), .ref (u 8), .int 0, .ref (u 9), .ref (u 10), .ref (u 11), .ref (u 12), .ref (u 13), .ref (u 14)])), ((u 5), .inr (7, [.ref (u 39), .ref (u 40), .int 0, .int 0, .int 0, .int 0, .int 0, .int 0, .int 0, .int 0])), ((u 3), .inr (4, [.ref (u 15), .ref (u 16), .ref (u 17), .ref (u 18), .ref (u 19), .ref (u 20), .ref (u 21), .ref (u 22), .ref (u 23), .ref (u 24), .ref (u 25), .ref (u 26), .int 0, .int 0, .int 0, .int 0, .int 0])), ((v 0), .inr (13, [.int 0, .int 0, .int 0, .int (-1), .int 0, .int 0, .int 0, .int 0, .ref (v 1), .ref (v 2), .ref (v 3), .ref (v 4), .ref (v 5), .ref (v 6), .ref (v 7), .ref (v 8), .ref (v 9), .int 0, .int 0, .int 0, .int 0, .int 0, .int 0, .int 0, .int 0, .int 0, .ref (v 10), .ref (v 11), .ref (v 12), .ref (v 13), .int 0, .ref (v 14), .ref (v 15), .ref (v 16), .ref (v 17), .ref (v 18), .int 0, .int 0, .int 0, .ref (v 19), .ref (v 20), .ref (v 21), .ref (v 22), .ref (v 23), .int 0, .int 0, .int 0, .int 0])), ((v 5), .inl (cy 0, 5, .inl (fun _ => 0))), (o, .inl (cy 6, 1, .inr (.inl (fun _ => 0))))] H) (hD : va_D (fun q => s.heap.size ≤ q) [((u 0), .inr (12, [.ref (u 1), .int 0, .int (-1), .ref (u 2), .ref (u 3), .ref (u 4), .ref (u 5), .ref (u 6), .ref (u 7), .ref (u 8), .int 0, .ref (u 9), .ref (u 10), .ref (u 11), .ref (u 12), .ref (u 13), .ref (u 14)])), ((u 5), .inr (7, [.ref (u 39), .ref (u 40), .int 0, .int 0, .int 0, .int 0, .int 0, .int 0, .int 0, .int 0])), ((u 3), .inr (4, [.ref (u 15), .ref (u 16), .ref (u 17), .ref (u 18), .ref (u 19), .ref (u 20), .ref (u 21), .ref (u 22), .ref (u 23), .ref (u 24), .ref (u 25), .ref (u 26), .int 0, .int 0, .int 0, .int 0, .int 0])), ((v 0), .inr (13, [.int 0, .int 0, .int 0, .int (-1), .int 0, .int 0, .int 0, .int 0, .ref (v 1), .ref (v 2), .ref (v 3), .ref (v 4), .ref (v 5), .ref (v 6), .ref (v 7), .ref (v 8), .ref (v 9), .int 0, .int 0, .int 0, .int 0, .int 0, .int 0, .int 0, .int 0, .int 0, .ref (v 10), .ref (v 11), .ref (v 12), .ref (v 13), .int 0, .ref (v 14), .ref (v 15), .ref (v 16), .ref (v 17), .ref (v 18), .int 0, .int 0, .int 0, .ref (v 19), .ref (v 20), .ref (v 21), .ref (v 22), .ref (v 23), .int 0, .int 0, .int 0, .int 0])), ((v 5), .inl (cy 0, 5, .inl (fun _ => 0))), (o, .inl (cy 6, 1, .inr (.inl (fun _ => 0))))]) (hS : va_S (fun q => s.heap.size ≤ q) s.heap H locs) (ls : Array Slot) (hl : lv_has ls 7 [(0, .ref b), (1, .ref (u 0)), (2, .ref (v 0)), (3, .ref o), (4, .int 0)]) : W p l e room_1 s m #[Value.ref b] below meth c H locs 179 322202 (lw_Z below #[Value.ref b] s) (F0 m 774 ls []) := by
  obtain ⟨A, hAe⟩ : ∃ A : Nat → Prop, A = fun q => s.heap.size ≤ q := ⟨_, rfl⟩
  rw [← hAe] at hG hD hS
  have hA : ∀ q, s.heap.size ≤ q → A q := fun q h => by rw [hAe]; exact h
  have hAs : ∀ q, A q → s.heap.size ≤ q := fun q h => by rw [hAe] at h; exact h
  have hbA : ¬ A b := by rw [hAe]; exact Nat.not_le.mpr hbl
  obtain ⟨hx, hb, hml, hown, hts, hr, hlk, hnm⟩ := id E
  have hown : s.vm.findClass RL = some m.cls := hown
  refine lv_aload_n hx hb dL_law_774 rfl (lv_at hl 1 rfl) ?_
  refine lv_aload_n hx hb dL_law_775 rfl (lv_at hl 0 rfl) ?_
  refine lv_iload hx hb dL_law_776 (lv_at hl 4 rfl) ?_
  refine lv_iconst (v := 1) hx hb dL_law_778 (by decide) ?_
  refine lv_iadd hx hb dL_law_779 ?_
  refine lv_topi (fun x1 ex1 => ?_)
  obtain rfl : x1 = 1 := ex1.trans (by decide)
  refine va_sld hx hb hX hbl hbA hS (by unfold vp_in; decide) dL_law_780 ?_
  refine lv_topi (fun x2 ex2 => ?_)
  obtain rfl : x2 = xs 1 := ex2.trans rfl
  refine lv_aload_n hx hb dL_law_781 rfl (lv_at hl 3 rfl) ?_
  refine x_cali [3, 4] (⟨hP, hD, hG, hS, hA, rfl, rfl⟩ : kAt D cy sa A s H _ _ [((u 0), .inr (12, [.ref (u 1), .int 0, .int (-1), .ref (u 2), .ref (u 3), .ref (u 4), .ref (u 5), .ref (u 6), .ref (u 7), .ref (u 8), .int 0, .ref (u 9), .ref (u 10), .ref (u 11), .ref (u 12), .ref (u 13), .ref (u 14)])), ((u 5), .inr (7, [.ref (u 39), .ref (u 40), .int 0, .int 0, .int 0, .int 0, .int 0, .int 0, .int 0, .int 0])), ((u 3), .inr (4, [.ref (u 15), .ref (u 16), .ref (u 17), .ref (u 18), .ref (u 19), .ref (u 20), .ref (u 21), .ref (u 22), .ref (u 23), .ref (u 24), .ref (u 25), .ref (u 26), .int 0, .int 0, .int 0, .int 0, .int 0])), (o, .inl (cy 6, 1, .inr (.inl (fun _ => 0))))] [0, 1, 2, 5]) (wr := [((v 0), .inr (13, [.int 0, .int 0, .int 0, .int (-1), .int 0, .int 0, .int 0, .int 0, .ref (v 1), .ref (v 2), .ref (v 3), .ref (v 4), .ref (v 5), .ref (v 6), .ref (v 7), .ref (v 8), .ref (v 9), .int 0, .int 0, .int 0, .int 0, .int 0, .int 0, .int 0, .int 0, .int 0, .ref (v 10), .ref (v 11), .ref (v 12), .ref (v 13), .int 0, .ref (v 14), .ref (v 15), .ref (v 16), .ref (v 17), .ref (v 18), .int 0, .int 0, .int 0, .ref (v 19), .ref (v 20), .ref (v 21), .ref (v 22), .ref (v 23), .int 0, .int 0, .int 0, .int 0])), ((v 5), .inl (cy 0, 5, .inl (fun _ => 0)))]) rfl rfl (by decide) (x_runW (As := [.ref (u 0), .int (xs 1), .ref o]) (rest := []) E lk_SRL_159 (w_minutes l hl0 D cy sa u o (xs 1) H.size) (⟨hP, hD, hG, hS, hA, rfl, rfl⟩ : kAt D cy sa A s H _ _ [((u 0), .inr (12, [.ref (u 1), .int 0, .int (-1), .ref (u 2), .ref (u 3), .ref (u 4), .ref (u 5), .ref (u 6), .ref (u 7), .ref (u 8), .int 0, .ref (u 9), .ref (u 10), .ref (u 11), .ref (u 12), .ref (u 13), .ref (u 14)])), ((u 5), .inr (7, [.ref (u 39), .ref (u 40), .int 0, .int 0, .int 0, .int 0, .int 0, .int 0, .int 0, .int 0])), ((u 3), .inr (4, [.ref (u 15), .ref (u 16), .ref (u 17), .ref (u 18), .ref (u 19), .ref (u 20), .ref (u 21), .ref (u 22), .ref (u 23), .ref (u 24), .ref (u 25), .ref (u 26), .int 0, .int 0, .int 0, .int 0, .int 0])), (o, .inl (cy 6, 1, .inr (.inl (fun _ => 0))))] [0, 1, 2, 5]) hl.1 rfl rfl ⟨rfl, rfl, ⟨Nat.le_of_ble_eq_true rfl, Nat.le_of_ble_eq_true rfl⟩, ⟨Nat.le_of_ble_eq_true rfl, Nat.le_of_ble_eq_true rfl⟩, Nat.le_of_ble_eq_true rfl⟩ dL_law_782) (fun ce q9 u4 H locs hwu4 hP hD hS h1 h2 h3 => ?_) (fun r3 u4 H locs hwu4 hP hD hS => ?_)
  · have hP : va_P D vwCl [((v 0), .inr (13, [.int 0, .int 0, .int 0, .int (-1), .int 0, .int 0, .int 0, .int 0, .ref (v 1), .ref (v 2), .ref (v 3), .ref (v 4), .ref (v 5), .ref (v 6), .ref (v 7), .ref (v 8), .ref (v 9), .int 0, .int 0, .int 0, .int 0, .int 0, .int 0, .int 0, .int 0, .int 0, .ref (v 10), .ref (v 11), .ref (v 12), .ref (v 13), .int 0, .ref (v 14), .ref (v 15), .ref (v 16), .ref (v 17), .ref (v 18), .int 0, .int 0, .int 0, .ref (v 19), .ref (v 20), .ref (v 21), .ref (v 22), .ref (v 23), .int 0, .int 0, .int 0, .int 0])), ((v 5), .inl (cy 0, 5, .inl (fun _ => 0)))] H := hP
    have hD : va_D A [((v 0), .inr (13, [.int 0, .int 0, .int 0, .int (-1), .int 0, .int 0, .int 0, .int 0, .ref (v 1), .ref (v 2), .ref (v 3), .ref (v 4), .ref (v 5), .ref (v 6), .ref (v 7), .ref (v 8), .ref (v 9), .int 0, .int 0, .int 0, .int 0, .int 0, .int 0, .int 0, .int 0, .int 0, .ref (v 10), .ref (v 11), .ref (v 12), .ref (v 13), .int 0, .ref (v 14), .ref (v 15), .ref (v 16), .ref (v 17), .ref (v 18), .int 0, .int 0, .int 0, .ref (v 19), .ref (v 20), .ref (v 21), .ref (v 22), .ref (v 23), .int 0, .int 0, .int 0, .int 0])), ((v 5), .inl (cy 0, 5, .inl (fun _ => 0)))] := hD
    exact (hwu4).elim
  · have hP : va_P D vwCl [((v 0), .inr (13, [.int 0, .int 0, .int 0, .int (-1), .int 0, .int 0, .int 0, .int 0, .ref (v 1), .ref (v 2), .ref (v 3), .ref (v 4), .ref (v 5), .ref (v 6), .ref (v 7), .ref (v 8), .ref (v 9), .int 0, .int 0, .int 0, .int 0, .int 0, .int 0, .int 0, .int 0, .int 0, .ref (v 10), .ref (v 11), .ref (v 12), .ref (v 13), .int 0, .ref (v 14), .ref (v 15), .ref (v 16), .ref (v 17), .ref (v 18), .int 0, .int 0, .int 0, .ref (v 19), .ref (v 20), .ref (v 21), .ref (v 22), .ref (v 23), .int 0, .int 0, .int 0, .int 0])), ((v 5), .inl (cy 0, 5, .inl (fun _ => 0))), (o, .inl (cy 6, 1, .inr (.inl u4)))] H := hP
    have hD : va_D A [((v 0), .inr (13, [.int 0, .int 0, .int 0, .int (-1), .int 0, .int 0, .int 0, .int 0, .ref (v 1), .ref (v 2), .ref (v 3), .ref (v 4), .ref (v 5), .ref (v 6), .ref (v 7), .ref (v 8), .ref (v 9), .int 0, .int 0, .int 0, .int 0, .int 0, .int 0, .int 0, .int 0, .int 0, .ref (v 10), .ref (v 11), .ref (v 12), .ref (v 13), .int 0, .ref (v 14), .ref (v 15), .ref (v 16), .ref (v 17), .ref (v 18), .int 0, .int 0, .int 0, .ref (v 19), .ref (v 20), .ref (v 21), .ref (v 22), .ref (v 23), .int 0, .int 0, .int 0, .int 0])), ((v 5), .inl (cy 0, 5, .inl (fun _ => 0))), (o, .inl (cy 6, 1, .inr (.inl u4)))] := hD
    refine lv_istore (lv' := [(5, .int r3), (0, .ref b), (1, .ref (u 0)), (2, .ref (v 0)), (3, .ref o), (4, .int 0)]) hx hb dL_law_785 hl (by decide) rfl (fun ls hl => ?_)
    refine lv_aload_n hx hb dL_law_787 rfl (lv_at hl 3 rfl) ?_
    refine lv_aload_n hx hb dL_law_788 rfl (lv_at hl 1 rfl) ?_
    refine lv_iload hx hb dL_law_789 (lv_at hl 5 rfl) ?_
    refine lv_iconst (v := 1) hx hb dL_law_791 (by decide) ?_
    refine lv_iadd hx hb dL_law_792 ?_
    refine lv_topi (fun x5 ex5 => ?_)
    obtain rfl : x5 = 1 := ex5.trans (by decide)
    refine va_sld hx hb hX hbl hbA hS (by unfold vp_in; decide) dL_law_793 ?_
    refine lv_topi (fun x6 ex6 => ?_)
    obtain rfl : x6 = xs 1 := ex6.trans rfl
    refine k_cali [2] (⟨hP, hD, hG, hS, hA, rfl, rfl⟩ : kAt D cy sa A s H _ _ [((v 0), .inr (13, [.int 0, .int 0, .int 0, .int (-1), .int 0, .int 0, .int 0, .int 0, .ref (v 1), .ref (v 2), .ref (v 3), .ref (v 4), .ref (v 5), .ref (v 6), .ref (v 7), .ref (v 8), .ref (v 9), .int 0, .int 0, .int 0, .int 0, .int 0, .int 0, .int 0, .int 0, .int 0, .ref (v 10), .ref (v 11), .ref (v 12), .ref (v 13), .int 0, .ref (v 14), .ref (v 15), .ref (v 16), .ref (v 17), .ref (v 18), .int 0, .int 0, .int 0, .ref (v 19), .ref (v 20), .ref (v 21), .ref (v 22), .ref (v 23), .int 0, .int 0, .int 0, .int 0])), ((v 5), .inl (cy 0, 5, .inl (fun _ => 0)))] [0, 1]) (wr := [(o, .inl (cy 6, 1, .inr (.inl u4)))]) rfl rfl (by decide) (k_runV 13 0 (As := [.int (xs 1)]) (rest := []) E lk_VRL_161 rfl rfl rfl (m_minutes_ l hl0 D cy sa v (xs 1) H.size) (⟨hP, hD, hG, hS, hA, rfl, rfl⟩ : kAt D cy sa A s H _ _ [((v 0), .inr (13, [.int 0, .int 0, .int 0, .int (-1), .int 0, .int 0, .int 0, .int 0, .ref (v 1), .ref (v 2), .ref (v 3), .ref (v 4), .ref (v 5), .ref (v 6), .ref (v 7), .ref (v 8), .ref (v 9), .int 0, .int 0, .int 0, .int 0, .int 0, .int 0, .int 0, .int 0, .int 0, .ref (v 10), .ref (v 11), .ref (v 12), .ref (v 13), .int 0, .ref (v 14), .ref (v 15), .ref (v 16), .ref (v 17), .ref (v 18), .int 0, .int 0, .int 0, .ref (v 19), .ref (v 20), .ref (v 21), .ref (v 22), .ref (v 23), .int 0, .int 0, .int 0, .int 0])), ((v 5), .inl (cy 0, 5, .inl (fun _ => 0)))] [0, 1]) hl.1 rfl rfl ⟨rfl, rfl, ⟨Nat.le_of_ble_eq_true rfl, Nat.le_of_ble_eq_true rfl⟩, ⟨Nat.le_of_ble_eq_true rfl, Nat.le_of_ble_eq_true rfl⟩, Nat.le_of_ble_eq_true rfl⟩ dL_law_794) (fun r7 u8 H locs hwu8 hP hD hS => ?_)
    have hP : va_P D vwCl [(o, .inl (cy 6, 1, .inr (.inl u4))), ((v 0), .inr (13, .int u8.1 :: u8.2))] H := hP
    have hD : va_D A [(o, .inl (cy 6, 1, .inr (.inl u4))), ((v 0), .inr (13, .int u8.1 :: u8.2))] := hD
    refine lv_istore (lv' := [(6, .int r7), (5, .int r3), (0, .ref b), (1, .ref (u 0)), (2, .ref (v 0)), (3, .ref o), (4, .int 0)]) hx hb dL_law_797 hl (by decide) rfl (fun ls hl => ?_)
    refine lv_aload_n hx hb dL_law_799 rfl (lv_at hl 4 rfl) ?_
    refine k_cali [0] (⟨hP, hD, hG, hS, hA, rfl, rfl⟩ : kAt D cy sa A s H _ _ [((v 0), .inr (13, .int u8.1 :: u8.2))] [1]) (wr := [(o, .inl (cy 6, 1, .inr (.inl u4)))]) rfl rfl (by decide) (k_runV 13 1 (As := []) (rest := []) E lk_VRL_127 rfl rfl rfl (m_thrown l hl0 D cy sa v u8.1 u8.2 H.size) (⟨hP, hD, hG, hS, hA, rfl, rfl⟩ : kAt D cy sa A s H _ _ [((v 0), .inr (13, .int u8.1 :: u8.2))] [1]) hl.1 rfl rfl ⟨rfl, rfl, ⟨Nat.le_of_ble_eq_true rfl, Nat.le_of_ble_eq_true rfl⟩, ⟨Nat.le_of_ble_eq_true rfl, Nat.le_of_ble_eq_true rfl⟩, Nat.le_of_ble_eq_true rfl⟩ dL_law_800) (fun r9 u10 H locs hwu10 hP hD hS => ?_)
    have hP : va_P D vwCl [(o, .inl (cy 6, 1, .inr (.inl u4)))] H := hP
    have hD : va_D A [(o, .inl (cy 6, 1, .inr (.inl u4)))] := hD
    rcases hwu4 with ⟨rfl, x9, hx9, hf9⟩ | ⟨rfl, hpx⟩ | ⟨rfl, hpx⟩
    · exact hx9.elim
    · obtain rfl : r9 = 2 := hwu10.trans ((hwu8.2 id).trans (if_pos hpx))
      refine lv_iload hx hb dL_law_803 (lv_at hl 1 rfl) ?_
      refine lv_icmp_eq (tgt := 810) hx hb dL_law_805 (by decide) (fun _ => ?_) (fun h => absurd (by decide) h)
      refine lv_iload hx hb dL_law_810 (lv_at hl 1 rfl) ?_
      refine lv_if_ne (tgt := 827) hx hb dL_law_812 (by decide) (fun _ => ?_) (fun h => absurd h (by decide))
      refine lv_goto (tgt := 2418) hx hb dL_law_827 (by decide) ?_
      refine lv_iinc (v := 6) (lv' := [(4, .int 6), (6, .int r7), (5, .int 2), (0, .ref b), (1, .ref (u 0)), (2, .ref (v 0)), (3, .ref o)]) hx hb dL_law_2418 hl (k := 6) rfl (by decide) (by decide) rfl (fun ls hl => ?_)
      refine lv_goto (tgt := 23) hx hb dL_law_2421 (by decide) ?_
      exact law_exit E hX hbl hbA hAs hS (i := 6) (by decide) (lv_at hl 3 rfl) (lv_at hl 0 rfl) (by decide) (by decide)
    · obtain rfl : r9 = 1 := hwu10.trans ((hwu8.2 id).trans (if_neg hpx))
      refine lv_iload hx hb dL_law_803 (lv_at hl 1 rfl) ?_
      refine lv_icmp_eq (tgt := 810) hx hb dL_law_805 (by decide) (fun _ => ?_) (fun h => absurd (by decide) h)
      refine lv_iload hx hb dL_law_810 (lv_at hl 1 rfl) ?_
      refine lv_if_ne (tgt := 827) hx hb dL_law_812 (by decide) (fun _ => ?_) (fun h => absurd h (by decide))
      refine lv_goto (tgt := 2418) hx hb dL_law_827 (by decide) ?_
      refine lv_iinc (v := 6) (lv' := [(4, .int 6), (6, .int r7), (5, .int 1), (0, .ref b), (1, .ref (u 0)), (2, .ref (v 0)), (3, .ref o)]) hx hb dL_law_2418 hl (k := 6) rfl (by decide) (by decide) rfl (fun ls hl => ?_)
      refine lv_goto (tgt := 23) hx hb dL_law_2421 (by decide) ?_
      exact law_exit E hX hbl hbA hAs hS (i := 6) (by decide) (lv_at hl 3 rfl) (lv_at hl 0 rfl) (by decide) (by decide)

set_option maxHeartbeats 4000000 in
set_option maxRecDepth 100000 in
/-- the law: day -/
theorem law_case_11 {p : Program} {l : Launch} {e : Env} {s : State} {m : MethodId} {below : List Frame} {meth : Method} {c : Code} {D : va_G} {cy : Nat → ClassId} {sa : Nat → Nat} {b : Nat} {xs : Nat → Int32} (hl0 : l.stackTraces = false) (E : kE yL_law cL_law 7 (some .boolean) #[Value.ref b] p s m meth c) (hX : va_X b 6 xs s s.heap) (hbl : b < s.heap.size) (hG : kG D cy sa (fun q => s.heap.size ≤ q) s) (u v : Nat → Nat) (o : Nat) (H : Heap) (locs : List Loc) (hP : va_P D vwCl [((u 0), .inr (12, [.ref (u 1), .int 0, .int (-1), .ref (u 2), .ref (u 3), .ref (u 4), .ref (u 5), .ref (u 6), .ref (u 7), .ref (u 8), .int 0, .ref (u 9), .ref (u 10), .ref (u 11), .ref (u 12), .ref (u 13), .ref (u 14)])), ((u 5), .inr (7, [.ref (u 39), .ref (u 40), .int 0, .int 0, .int 0, .int 0, .int 0, .int 0, .int 0, .int 0])), ((v 0), .inr (13, [.int 0, .int 0, .int 0, .int (-1), .int 0, .int 0, .int 0, .int 0, .ref (v 1), .ref (v 2), .ref (v 3), .ref (v 4), .ref (v 5), .ref (v 6), .ref (v 7), .ref (v 8), .ref (v 9), .int 0, .int 0, .int 0, .int 0, .int 0, .int 0, .int 0, .int 0, .int 0, .ref (v 10), .ref (v 11), .ref (v 12), .ref (v 13), .int 0, .ref (v 14), .ref (v 15), .ref (v 16), .ref (v 17), .ref (v 18), .int 0, .int 0, .int 0, .ref (v 19), .ref (v 20), .ref (v 21), .ref (v 22), .ref (v 23), .int 0, .int 0, .int 0, .int 0])), ((v 5), .inl (cy 0, 5, .inl (fun _ => 0))), (o, .inl (cy 6, 1, .inr (.inl (fun _ => 0))))] H) (hD : va_D (fun q => s.heap.size ≤ q) [((u 0), .inr (12, [.ref (u 1), .int 0, .int (-1), .ref (u 2), .ref (u 3), .ref (u 4), .ref (u 5), .ref (u 6), .ref (u 7), .ref (u 8), .int 0, .ref (u 9), .ref (u 10), .ref (u 11), .ref (u 12), .ref (u 13), .ref (u 14)])), ((u 5), .inr (7, [.ref (u 39), .ref (u 40), .int 0, .int 0, .int 0, .int 0, .int 0, .int 0, .int 0, .int 0])), ((v 0), .inr (13, [.int 0, .int 0, .int 0, .int (-1), .int 0, .int 0, .int 0, .int 0, .ref (v 1), .ref (v 2), .ref (v 3), .ref (v 4), .ref (v 5), .ref (v 6), .ref (v 7), .ref (v 8), .ref (v 9), .int 0, .int 0, .int 0, .int 0, .int 0, .int 0, .int 0, .int 0, .int 0, .ref (v 10), .ref (v 11), .ref (v 12), .ref (v 13), .int 0, .ref (v 14), .ref (v 15), .ref (v 16), .ref (v 17), .ref (v 18), .int 0, .int 0, .int 0, .ref (v 19), .ref (v 20), .ref (v 21), .ref (v 22), .ref (v 23), .int 0, .int 0, .int 0, .int 0])), ((v 5), .inl (cy 0, 5, .inl (fun _ => 0))), (o, .inl (cy 6, 1, .inr (.inl (fun _ => 0))))]) (hS : va_S (fun q => s.heap.size ≤ q) s.heap H locs) (ls : Array Slot) (hl : lv_has ls 7 [(0, .ref b), (1, .ref (u 0)), (2, .ref (v 0)), (3, .ref o), (4, .int 0)]) : W p l e room_1 s m #[Value.ref b] below meth c H locs 179 322202 (lw_Z below #[Value.ref b] s) (F0 m 830 ls []) := by
  obtain ⟨A, hAe⟩ : ∃ A : Nat → Prop, A = fun q => s.heap.size ≤ q := ⟨_, rfl⟩
  rw [← hAe] at hG hD hS
  have hA : ∀ q, s.heap.size ≤ q → A q := fun q h => by rw [hAe]; exact h
  have hAs : ∀ q, A q → s.heap.size ≤ q := fun q h => by rw [hAe] at h; exact h
  have hbA : ¬ A b := by rw [hAe]; exact Nat.not_le.mpr hbl
  obtain ⟨hx, hb, hml, hown, hts, hr, hlk, hnm⟩ := id E
  have hown : s.vm.findClass RL = some m.cls := hown
  refine lv_aload_n hx hb dL_law_830 rfl (lv_at hl 1 rfl) ?_
  refine lv_aload_n hx hb dL_law_831 rfl (lv_at hl 0 rfl) ?_
  refine lv_iload hx hb dL_law_832 (lv_at hl 4 rfl) ?_
  refine lv_iconst (v := 1) hx hb dL_law_834 (by decide) ?_
  refine lv_iadd hx hb dL_law_835 ?_
  refine lv_topi (fun x1 ex1 => ?_)
  obtain rfl : x1 = 1 := ex1.trans (by decide)
  refine va_sld hx hb hX hbl hbA hS (by unfold vp_in; decide) dL_law_836 ?_
  refine lv_topi (fun x2 ex2 => ?_)
  obtain rfl : x2 = xs 1 := ex2.trans rfl
  refine lv_aload_n hx hb dL_law_837 rfl (lv_at hl 3 rfl) ?_
  refine x_cali [2, 3] (⟨hP, hD, hG, hS, hA, rfl, rfl⟩ : kAt D cy sa A s H _ _ [((u 0), .inr (12, [.ref (u 1), .int 0, .int (-1), .ref (u 2), .ref (u 3), .ref (u 4), .ref (u 5), .ref (u 6), .ref (u 7), .ref (u 8), .int 0, .ref (u 9), .ref (u 10), .ref (u 11), .ref (u 12), .ref (u 13), .ref (u 14)])), ((u 5), .inr (7, [.ref (u 39), .ref (u 40), .int 0, .int 0, .int 0, .int 0, .int 0, .int 0, .int 0, .int 0])), (o, .inl (cy 6, 1, .inr (.inl (fun _ => 0))))] [0, 1, 4]) (wr := [((v 0), .inr (13, [.int 0, .int 0, .int 0, .int (-1), .int 0, .int 0, .int 0, .int 0, .ref (v 1), .ref (v 2), .ref (v 3), .ref (v 4), .ref (v 5), .ref (v 6), .ref (v 7), .ref (v 8), .ref (v 9), .int 0, .int 0, .int 0, .int 0, .int 0, .int 0, .int 0, .int 0, .int 0, .ref (v 10), .ref (v 11), .ref (v 12), .ref (v 13), .int 0, .ref (v 14), .ref (v 15), .ref (v 16), .ref (v 17), .ref (v 18), .int 0, .int 0, .int 0, .ref (v 19), .ref (v 20), .ref (v 21), .ref (v 22), .ref (v 23), .int 0, .int 0, .int 0, .int 0])), ((v 5), .inl (cy 0, 5, .inl (fun _ => 0)))]) rfl rfl (by decide) (x_runW (As := [.ref (u 0), .int (xs 1), .ref o]) (rest := []) E lk_SRL_162 (w_day l hl0 D cy sa u o (xs 1) H.size) (⟨hP, hD, hG, hS, hA, rfl, rfl⟩ : kAt D cy sa A s H _ _ [((u 0), .inr (12, [.ref (u 1), .int 0, .int (-1), .ref (u 2), .ref (u 3), .ref (u 4), .ref (u 5), .ref (u 6), .ref (u 7), .ref (u 8), .int 0, .ref (u 9), .ref (u 10), .ref (u 11), .ref (u 12), .ref (u 13), .ref (u 14)])), ((u 5), .inr (7, [.ref (u 39), .ref (u 40), .int 0, .int 0, .int 0, .int 0, .int 0, .int 0, .int 0, .int 0])), (o, .inl (cy 6, 1, .inr (.inl (fun _ => 0))))] [0, 1, 4]) hl.1 rfl rfl ⟨rfl, rfl, ⟨Nat.le_of_ble_eq_true rfl, Nat.le_of_ble_eq_true rfl⟩, ⟨Nat.le_of_ble_eq_true rfl, Nat.le_of_ble_eq_true rfl⟩, Nat.le_of_ble_eq_true rfl⟩ dL_law_838) (fun ce q9 u4 H locs hwu4 hP hD hS h1 h2 h3 => ?_) (fun r3 u4 H locs hwu4 hP hD hS => ?_)
  · have hP : va_P D vwCl [((v 0), .inr (13, [.int 0, .int 0, .int 0, .int (-1), .int 0, .int 0, .int 0, .int 0, .ref (v 1), .ref (v 2), .ref (v 3), .ref (v 4), .ref (v 5), .ref (v 6), .ref (v 7), .ref (v 8), .ref (v 9), .int 0, .int 0, .int 0, .int 0, .int 0, .int 0, .int 0, .int 0, .int 0, .ref (v 10), .ref (v 11), .ref (v 12), .ref (v 13), .int 0, .ref (v 14), .ref (v 15), .ref (v 16), .ref (v 17), .ref (v 18), .int 0, .int 0, .int 0, .ref (v 19), .ref (v 20), .ref (v 21), .ref (v 22), .ref (v 23), .int 0, .int 0, .int 0, .int 0])), ((v 5), .inl (cy 0, 5, .inl (fun _ => 0)))] H := hP
    have hD : va_D A [((v 0), .inr (13, [.int 0, .int 0, .int 0, .int (-1), .int 0, .int 0, .int 0, .int 0, .ref (v 1), .ref (v 2), .ref (v 3), .ref (v 4), .ref (v 5), .ref (v 6), .ref (v 7), .ref (v 8), .ref (v 9), .int 0, .int 0, .int 0, .int 0, .int 0, .int 0, .int 0, .int 0, .int 0, .ref (v 10), .ref (v 11), .ref (v 12), .ref (v 13), .int 0, .ref (v 14), .ref (v 15), .ref (v 16), .ref (v 17), .ref (v 18), .int 0, .int 0, .int 0, .ref (v 19), .ref (v 20), .ref (v 21), .ref (v 22), .ref (v 23), .int 0, .int 0, .int 0, .int 0])), ((v 5), .inl (cy 0, 5, .inl (fun _ => 0)))] := hD
    exact (hwu4).elim
  · have hP : va_P D vwCl [((v 0), .inr (13, [.int 0, .int 0, .int 0, .int (-1), .int 0, .int 0, .int 0, .int 0, .ref (v 1), .ref (v 2), .ref (v 3), .ref (v 4), .ref (v 5), .ref (v 6), .ref (v 7), .ref (v 8), .ref (v 9), .int 0, .int 0, .int 0, .int 0, .int 0, .int 0, .int 0, .int 0, .int 0, .ref (v 10), .ref (v 11), .ref (v 12), .ref (v 13), .int 0, .ref (v 14), .ref (v 15), .ref (v 16), .ref (v 17), .ref (v 18), .int 0, .int 0, .int 0, .ref (v 19), .ref (v 20), .ref (v 21), .ref (v 22), .ref (v 23), .int 0, .int 0, .int 0, .int 0])), ((v 5), .inl (cy 0, 5, .inl (fun _ => 0))), (o, .inl (cy 6, 1, .inr (.inl u4)))] H := hP
    have hD : va_D A [((v 0), .inr (13, [.int 0, .int 0, .int 0, .int (-1), .int 0, .int 0, .int 0, .int 0, .ref (v 1), .ref (v 2), .ref (v 3), .ref (v 4), .ref (v 5), .ref (v 6), .ref (v 7), .ref (v 8), .ref (v 9), .int 0, .int 0, .int 0, .int 0, .int 0, .int 0, .int 0, .int 0, .int 0, .ref (v 10), .ref (v 11), .ref (v 12), .ref (v 13), .int 0, .ref (v 14), .ref (v 15), .ref (v 16), .ref (v 17), .ref (v 18), .int 0, .int 0, .int 0, .ref (v 19), .ref (v 20), .ref (v 21), .ref (v 22), .ref (v 23), .int 0, .int 0, .int 0, .int 0])), ((v 5), .inl (cy 0, 5, .inl (fun _ => 0))), (o, .inl (cy 6, 1, .inr (.inl u4)))] := hD
    refine lv_istore (lv' := [(5, .int r3), (0, .ref b), (1, .ref (u 0)), (2, .ref (v 0)), (3, .ref o), (4, .int 0)]) hx hb dL_law_841 hl (by decide) rfl (fun ls hl => ?_)
    refine lv_aload_n hx hb dL_law_843 rfl (lv_at hl 3 rfl) ?_
    refine lv_aload_n hx hb dL_law_844 rfl (lv_at hl 1 rfl) ?_
    refine lv_iload hx hb dL_law_845 (lv_at hl 5 rfl) ?_
    refine lv_iconst (v := 1) hx hb dL_law_847 (by decide) ?_
    refine lv_iadd hx hb dL_law_848 ?_
    refine lv_topi (fun x5 ex5 => ?_)
    obtain rfl : x5 = 1 := ex5.trans (by decide)
    refine va_sld hx hb hX hbl hbA hS (by unfold vp_in; decide) dL_law_849 ?_
    refine lv_topi (fun x6 ex6 => ?_)
    obtain rfl : x6 = xs 1 := ex6.trans rfl
    refine k_cali [2] (⟨hP, hD, hG, hS, hA, rfl, rfl⟩ : kAt D cy sa A s H _ _ [((v 0), .inr (13, [.int 0, .int 0, .int 0, .int (-1), .int 0, .int 0, .int 0, .int 0, .ref (v 1), .ref (v 2), .ref (v 3), .ref (v 4), .ref (v 5), .ref (v 6), .ref (v 7), .ref (v 8), .ref (v 9), .int 0, .int 0, .int 0, .int 0, .int 0, .int 0, .int 0, .int 0, .int 0, .ref (v 10), .ref (v 11), .ref (v 12), .ref (v 13), .int 0, .ref (v 14), .ref (v 15), .ref (v 16), .ref (v 17), .ref (v 18), .int 0, .int 0, .int 0, .ref (v 19), .ref (v 20), .ref (v 21), .ref (v 22), .ref (v 23), .int 0, .int 0, .int 0, .int 0])), ((v 5), .inl (cy 0, 5, .inl (fun _ => 0)))] [0, 1]) (wr := [(o, .inl (cy 6, 1, .inr (.inl u4)))]) rfl rfl (by decide) (k_runV 13 0 (As := [.int (xs 1)]) (rest := []) E lk_VRL_164 rfl rfl rfl (m_day_ l hl0 D cy sa v (xs 1) H.size) (⟨hP, hD, hG, hS, hA, rfl, rfl⟩ : kAt D cy sa A s H _ _ [((v 0), .inr (13, [.int 0, .int 0, .int 0, .int (-1), .int 0, .int 0, .int 0, .int 0, .ref (v 1), .ref (v 2), .ref (v 3), .ref (v 4), .ref (v 5), .ref (v 6), .ref (v 7), .ref (v 8), .ref (v 9), .int 0, .int 0, .int 0, .int 0, .int 0, .int 0, .int 0, .int 0, .int 0, .ref (v 10), .ref (v 11), .ref (v 12), .ref (v 13), .int 0, .ref (v 14), .ref (v 15), .ref (v 16), .ref (v 17), .ref (v 18), .int 0, .int 0, .int 0, .ref (v 19), .ref (v 20), .ref (v 21), .ref (v 22), .ref (v 23), .int 0, .int 0, .int 0, .int 0])), ((v 5), .inl (cy 0, 5, .inl (fun _ => 0)))] [0, 1]) hl.1 rfl rfl ⟨rfl, rfl, ⟨Nat.le_of_ble_eq_true rfl, Nat.le_of_ble_eq_true rfl⟩, ⟨Nat.le_of_ble_eq_true rfl, Nat.le_of_ble_eq_true rfl⟩, Nat.le_of_ble_eq_true rfl⟩ dL_law_850) (fun r7 u8 H locs hwu8 hP hD hS => ?_)
    have hP : va_P D vwCl [(o, .inl (cy 6, 1, .inr (.inl u4))), ((v 0), .inr (13, .int u8.1 :: u8.2))] H := hP
    have hD : va_D A [(o, .inl (cy 6, 1, .inr (.inl u4))), ((v 0), .inr (13, .int u8.1 :: u8.2))] := hD
    refine lv_istore (lv' := [(6, .int r7), (5, .int r3), (0, .ref b), (1, .ref (u 0)), (2, .ref (v 0)), (3, .ref o), (4, .int 0)]) hx hb dL_law_853 hl (by decide) rfl (fun ls hl => ?_)
    refine lv_aload_n hx hb dL_law_855 rfl (lv_at hl 4 rfl) ?_
    refine k_cali [0] (⟨hP, hD, hG, hS, hA, rfl, rfl⟩ : kAt D cy sa A s H _ _ [((v 0), .inr (13, .int u8.1 :: u8.2))] [1]) (wr := [(o, .inl (cy 6, 1, .inr (.inl u4)))]) rfl rfl (by decide) (k_runV 13 1 (As := []) (rest := []) E lk_VRL_127 rfl rfl rfl (m_thrown l hl0 D cy sa v u8.1 u8.2 H.size) (⟨hP, hD, hG, hS, hA, rfl, rfl⟩ : kAt D cy sa A s H _ _ [((v 0), .inr (13, .int u8.1 :: u8.2))] [1]) hl.1 rfl rfl ⟨rfl, rfl, ⟨Nat.le_of_ble_eq_true rfl, Nat.le_of_ble_eq_true rfl⟩, ⟨Nat.le_of_ble_eq_true rfl, Nat.le_of_ble_eq_true rfl⟩, Nat.le_of_ble_eq_true rfl⟩ dL_law_856) (fun r9 u10 H locs hwu10 hP hD hS => ?_)
    have hP : va_P D vwCl [(o, .inl (cy 6, 1, .inr (.inl u4)))] H := hP
    have hD : va_D A [(o, .inl (cy 6, 1, .inr (.inl u4)))] := hD
    rcases hwu4 with ⟨rfl, x9, hx9, hf9⟩ | ⟨rfl, hpx⟩
    · obtain ⟨ht9, hr9⟩ := hwu8.1 (hx9.2)
      obtain rfl : r9 = 0 := hwu10.trans ht9
      have heq : x9 = r7 := hx9.1.trans hr9.symm
      refine lv_iload hx hb dL_law_859 (lv_at hl 1 rfl) ?_
      refine lv_icmp_eq (tgt := 866) hx hb dL_law_861 (by decide) (fun _ => ?_) (fun h => absurd (by decide) h)
      refine lv_iload hx hb dL_law_866 (lv_at hl 1 rfl) ?_
      refine lv_if_ne (tgt := 883) hx hb dL_law_868 (by decide) (fun h => absurd (by decide) h) (fun _ => ?_)
      refine lv_aload_n hx hb dL_law_871 rfl (lv_at hl 5 rfl) ?_
      refine lv_iconst (v := 0) hx hb dL_law_872 (by decide) ?_
      refine va_lald hx hb hG.1 hP 0 6 rfl rfl (by unfold vp_in; decide) dL_law_873 ?_
      refine W.eq (g2 := F0 m 874 ls [.long (u4 0)]) rfl ?_
      refine lv_iload hx hb dL_law_874 (lv_at hl 0 rfl) ?_
      refine lv_i2l (v := (r7 : Int32).toInt64) hx hb dL_law_876 rfl ?_
      refine W.lcmp hx hb dL_law_877 ?_
      refine lv_topi (fun x11 ex11 => ?_)
      obtain rfl : x11 = 0 := ex11.trans (by rw [hf9, heq]; exact k_cmp _)
      refine lv_if_eq (tgt := 883) hx hb dL_law_878 (by decide) (fun _ => ?_) (fun h => absurd (by decide) h)
      refine lv_goto (tgt := 2418) hx hb dL_law_883 (by decide) ?_
      refine lv_iinc (v := 6) (lv' := [(4, .int 6), (6, .int r7), (5, .int 0), (0, .ref b), (1, .ref (u 0)), (2, .ref (v 0)), (3, .ref o)]) hx hb dL_law_2418 hl (k := 6) rfl (by decide) (by decide) rfl (fun ls hl => ?_)
      refine lv_goto (tgt := 23) hx hb dL_law_2421 (by decide) ?_
      exact law_exit E hX hbl hbA hAs hS (i := 6) (by decide) (lv_at hl 3 rfl) (lv_at hl 0 rfl) (by decide) (by decide)
    · obtain rfl : r9 = 1 := hwu10.trans (hwu8.2 (fun h => absurd h hpx))
      refine lv_iload hx hb dL_law_859 (lv_at hl 1 rfl) ?_
      refine lv_icmp_eq (tgt := 866) hx hb dL_law_861 (by decide) (fun _ => ?_) (fun h => absurd (by decide) h)
      refine lv_iload hx hb dL_law_866 (lv_at hl 1 rfl) ?_
      refine lv_if_ne (tgt := 883) hx hb dL_law_868 (by decide) (fun _ => ?_) (fun h => absurd h (by decide))
      refine lv_goto (tgt := 2418) hx hb dL_law_883 (by decide) ?_
      refine lv_iinc (v := 6) (lv' := [(4, .int 6), (6, .int r7), (5, .int 1), (0, .ref b), (1, .ref (u 0)), (2, .ref (v 0)), (3, .ref o)]) hx hb dL_law_2418 hl (k := 6) rfl (by decide) (by decide) rfl (fun ls hl => ?_)
      refine lv_goto (tgt := 23) hx hb dL_law_2421 (by decide) ?_
      exact law_exit E hX hbl hbA hAs hS (i := 6) (by decide) (lv_at hl 3 rfl) (lv_at hl 0 rfl) (by decide) (by decide)

set_option maxHeartbeats 4000000 in
set_option maxRecDepth 100000 in
/-- the law: passing -/
theorem law_case_12 {p : Program} {l : Launch} {e : Env} {s : State} {m : MethodId} {below : List Frame} {meth : Method} {c : Code} {D : va_G} {cy : Nat → ClassId} {sa : Nat → Nat} {b : Nat} {xs : Nat → Int32} (hl0 : l.stackTraces = false) (E : kE yL_law cL_law 7 (some .boolean) #[Value.ref b] p s m meth c) (hX : va_X b 6 xs s s.heap) (hbl : b < s.heap.size) (hG : kG D cy sa (fun q => s.heap.size ≤ q) s) (u v : Nat → Nat) (o : Nat) (H : Heap) (locs : List Loc) (hP : va_P D vwCl [((u 0), .inr (12, [.ref (u 1), .int 0, .int (-1), .ref (u 2), .ref (u 3), .ref (u 4), .ref (u 5), .ref (u 6), .ref (u 7), .ref (u 8), .int 0, .ref (u 9), .ref (u 10), .ref (u 11), .ref (u 12), .ref (u 13), .ref (u 14)])), ((u 3), .inr (4, [.ref (u 15), .ref (u 16), .ref (u 17), .ref (u 18), .ref (u 19), .ref (u 20), .ref (u 21), .ref (u 22), .ref (u 23), .ref (u 24), .ref (u 25), .ref (u 26), .int 0, .int 0, .int 0, .int 0, .int 0])), ((v 0), .inr (13, [.int 0, .int 0, .int 0, .int (-1), .int 0, .int 0, .int 0, .int 0, .ref (v 1), .ref (v 2), .ref (v 3), .ref (v 4), .ref (v 5), .ref (v 6), .ref (v 7), .ref (v 8), .ref (v 9), .int 0, .int 0, .int 0, .int 0, .int 0, .int 0, .int 0, .int 0, .int 0, .ref (v 10), .ref (v 11), .ref (v 12), .ref (v 13), .int 0, .ref (v 14), .ref (v 15), .ref (v 16), .ref (v 17), .ref (v 18), .int 0, .int 0, .int 0, .ref (v 19), .ref (v 20), .ref (v 21), .ref (v 22), .ref (v 23), .int 0, .int 0, .int 0, .int 0])), ((v 5), .inl (cy 0, 5, .inl (fun _ => 0))), (o, .inl (cy 6, 1, .inr (.inl (fun _ => 0))))] H) (hD : va_D (fun q => s.heap.size ≤ q) [((u 0), .inr (12, [.ref (u 1), .int 0, .int (-1), .ref (u 2), .ref (u 3), .ref (u 4), .ref (u 5), .ref (u 6), .ref (u 7), .ref (u 8), .int 0, .ref (u 9), .ref (u 10), .ref (u 11), .ref (u 12), .ref (u 13), .ref (u 14)])), ((u 3), .inr (4, [.ref (u 15), .ref (u 16), .ref (u 17), .ref (u 18), .ref (u 19), .ref (u 20), .ref (u 21), .ref (u 22), .ref (u 23), .ref (u 24), .ref (u 25), .ref (u 26), .int 0, .int 0, .int 0, .int 0, .int 0])), ((v 0), .inr (13, [.int 0, .int 0, .int 0, .int (-1), .int 0, .int 0, .int 0, .int 0, .ref (v 1), .ref (v 2), .ref (v 3), .ref (v 4), .ref (v 5), .ref (v 6), .ref (v 7), .ref (v 8), .ref (v 9), .int 0, .int 0, .int 0, .int 0, .int 0, .int 0, .int 0, .int 0, .int 0, .ref (v 10), .ref (v 11), .ref (v 12), .ref (v 13), .int 0, .ref (v 14), .ref (v 15), .ref (v 16), .ref (v 17), .ref (v 18), .int 0, .int 0, .int 0, .ref (v 19), .ref (v 20), .ref (v 21), .ref (v 22), .ref (v 23), .int 0, .int 0, .int 0, .int 0])), ((v 5), .inl (cy 0, 5, .inl (fun _ => 0))), (o, .inl (cy 6, 1, .inr (.inl (fun _ => 0))))]) (hS : va_S (fun q => s.heap.size ≤ q) s.heap H locs) (ls : Array Slot) (hl : lv_has ls 7 [(0, .ref b), (1, .ref (u 0)), (2, .ref (v 0)), (3, .ref o), (4, .int 0)]) : W p l e room_1 s m #[Value.ref b] below meth c H locs 179 322202 (lw_Z below #[Value.ref b] s) (F0 m 886 ls []) := by
  obtain ⟨A, hAe⟩ : ∃ A : Nat → Prop, A = fun q => s.heap.size ≤ q := ⟨_, rfl⟩
  rw [← hAe] at hG hD hS
  have hA : ∀ q, s.heap.size ≤ q → A q := fun q h => by rw [hAe]; exact h
  have hAs : ∀ q, A q → s.heap.size ≤ q := fun q h => by rw [hAe] at h; exact h
  have hbA : ¬ A b := by rw [hAe]; exact Nat.not_le.mpr hbl
  obtain ⟨hx, hb, hml, hown, hts, hr, hlk, hnm⟩ := id E
  have hown : s.vm.findClass RL = some m.cls := hown
  refine lv_aload_n hx hb dL_law_886 rfl (lv_at hl 1 rfl) ?_
  refine lv_aload_n hx hb dL_law_887 rfl (lv_at hl 0 rfl) ?_
  refine lv_iload hx hb dL_law_888 (lv_at hl 4 rfl) ?_
  refine lv_iconst (v := 1) hx hb dL_law_890 (by decide) ?_
  refine lv_iadd hx hb dL_law_891 ?_
  refine lv_topi (fun x1 ex1 => ?_)
  obtain rfl : x1 = 1 := ex1.trans (by decide)
  refine va_sld hx hb hX hbl hbA hS (by unfold vp_in; decide) dL_law_892 ?_
  refine lv_topi (fun x2 ex2 => ?_)
  obtain rfl : x2 = xs 1 := ex2.trans rfl
  refine lv_aload_n hx hb dL_law_893 rfl (lv_at hl 0 rfl) ?_
  refine lv_iload hx hb dL_law_894 (lv_at hl 4 rfl) ?_
  refine lv_iconst (v := 2) hx hb dL_law_896 (by decide) ?_
  refine lv_iadd hx hb dL_law_897 ?_
  refine lv_topi (fun x3 ex3 => ?_)
  obtain rfl : x3 = 2 := ex3.trans (by decide)
  refine va_sld hx hb hX hbl hbA hS (by unfold vp_in; decide) dL_law_898 ?_
  refine lv_topi (fun x4 ex4 => ?_)
  obtain rfl : x4 = xs 2 := ex4.trans rfl
  refine lv_aload_n hx hb dL_law_899 rfl (lv_at hl 3 rfl) ?_
  refine x_cali [2, 3] (⟨hP, hD, hG, hS, hA, rfl, rfl⟩ : kAt D cy sa A s H _ _ [((u 0), .inr (12, [.ref (u 1), .int 0, .int (-1), .ref (u 2), .ref (u 3), .ref (u 4), .ref (u 5), .ref (u 6), .ref (u 7), .ref (u 8), .int 0, .ref (u 9), .ref (u 10), .ref (u 11), .ref (u 12), .ref (u 13), .ref (u 14)])), ((u 3), .inr (4, [.ref (u 15), .ref (u 16), .ref (u 17), .ref (u 18), .ref (u 19), .ref (u 20), .ref (u 21), .ref (u 22), .ref (u 23), .ref (u 24), .ref (u 25), .ref (u 26), .int 0, .int 0, .int 0, .int 0, .int 0])), (o, .inl (cy 6, 1, .inr (.inl (fun _ => 0))))] [0, 1, 4]) (wr := [((v 0), .inr (13, [.int 0, .int 0, .int 0, .int (-1), .int 0, .int 0, .int 0, .int 0, .ref (v 1), .ref (v 2), .ref (v 3), .ref (v 4), .ref (v 5), .ref (v 6), .ref (v 7), .ref (v 8), .ref (v 9), .int 0, .int 0, .int 0, .int 0, .int 0, .int 0, .int 0, .int 0, .int 0, .ref (v 10), .ref (v 11), .ref (v 12), .ref (v 13), .int 0, .ref (v 14), .ref (v 15), .ref (v 16), .ref (v 17), .ref (v 18), .int 0, .int 0, .int 0, .ref (v 19), .ref (v 20), .ref (v 21), .ref (v 22), .ref (v 23), .int 0, .int 0, .int 0, .int 0])), ((v 5), .inl (cy 0, 5, .inl (fun _ => 0)))]) rfl rfl (by decide) (x_runW (As := [.ref (u 0), .int (xs 1), .int (xs 2), .ref o]) (rest := []) E lk_SRL_165 (w_passing l hl0 D cy sa u o (xs 1) (xs 2) H.size) (⟨hP, hD, hG, hS, hA, rfl, rfl⟩ : kAt D cy sa A s H _ _ [((u 0), .inr (12, [.ref (u 1), .int 0, .int (-1), .ref (u 2), .ref (u 3), .ref (u 4), .ref (u 5), .ref (u 6), .ref (u 7), .ref (u 8), .int 0, .ref (u 9), .ref (u 10), .ref (u 11), .ref (u 12), .ref (u 13), .ref (u 14)])), ((u 3), .inr (4, [.ref (u 15), .ref (u 16), .ref (u 17), .ref (u 18), .ref (u 19), .ref (u 20), .ref (u 21), .ref (u 22), .ref (u 23), .ref (u 24), .ref (u 25), .ref (u 26), .int 0, .int 0, .int 0, .int 0, .int 0])), (o, .inl (cy 6, 1, .inr (.inl (fun _ => 0))))] [0, 1, 4]) hl.1 rfl rfl ⟨rfl, rfl, ⟨Nat.le_of_ble_eq_true rfl, Nat.le_of_ble_eq_true rfl⟩, ⟨Nat.le_of_ble_eq_true rfl, Nat.le_of_ble_eq_true rfl⟩, Nat.le_of_ble_eq_true rfl⟩ dL_law_900) (fun ce q9 u6 H locs hwu6 hP hD hS h1 h2 h3 => ?_) (fun r5 u6 H locs hwu6 hP hD hS => ?_)
  · have hP : va_P D vwCl [((v 0), .inr (13, [.int 0, .int 0, .int 0, .int (-1), .int 0, .int 0, .int 0, .int 0, .ref (v 1), .ref (v 2), .ref (v 3), .ref (v 4), .ref (v 5), .ref (v 6), .ref (v 7), .ref (v 8), .ref (v 9), .int 0, .int 0, .int 0, .int 0, .int 0, .int 0, .int 0, .int 0, .int 0, .ref (v 10), .ref (v 11), .ref (v 12), .ref (v 13), .int 0, .ref (v 14), .ref (v 15), .ref (v 16), .ref (v 17), .ref (v 18), .int 0, .int 0, .int 0, .ref (v 19), .ref (v 20), .ref (v 21), .ref (v 22), .ref (v 23), .int 0, .int 0, .int 0, .int 0])), ((v 5), .inl (cy 0, 5, .inl (fun _ => 0)))] H := hP
    have hD : va_D A [((v 0), .inr (13, [.int 0, .int 0, .int 0, .int (-1), .int 0, .int 0, .int 0, .int 0, .ref (v 1), .ref (v 2), .ref (v 3), .ref (v 4), .ref (v 5), .ref (v 6), .ref (v 7), .ref (v 8), .ref (v 9), .int 0, .int 0, .int 0, .int 0, .int 0, .int 0, .int 0, .int 0, .int 0, .ref (v 10), .ref (v 11), .ref (v 12), .ref (v 13), .int 0, .ref (v 14), .ref (v 15), .ref (v 16), .ref (v 17), .ref (v 18), .int 0, .int 0, .int 0, .ref (v 19), .ref (v 20), .ref (v 21), .ref (v 22), .ref (v 23), .int 0, .int 0, .int 0, .int 0])), ((v 5), .inl (cy 0, 5, .inl (fun _ => 0)))] := hD
    exact (hwu6).elim
  · have hP : va_P D vwCl [((v 0), .inr (13, [.int 0, .int 0, .int 0, .int (-1), .int 0, .int 0, .int 0, .int 0, .ref (v 1), .ref (v 2), .ref (v 3), .ref (v 4), .ref (v 5), .ref (v 6), .ref (v 7), .ref (v 8), .ref (v 9), .int 0, .int 0, .int 0, .int 0, .int 0, .int 0, .int 0, .int 0, .int 0, .ref (v 10), .ref (v 11), .ref (v 12), .ref (v 13), .int 0, .ref (v 14), .ref (v 15), .ref (v 16), .ref (v 17), .ref (v 18), .int 0, .int 0, .int 0, .ref (v 19), .ref (v 20), .ref (v 21), .ref (v 22), .ref (v 23), .int 0, .int 0, .int 0, .int 0])), ((v 5), .inl (cy 0, 5, .inl (fun _ => 0))), (o, .inl (cy 6, 1, .inr (.inl u6)))] H := hP
    have hD : va_D A [((v 0), .inr (13, [.int 0, .int 0, .int 0, .int (-1), .int 0, .int 0, .int 0, .int 0, .ref (v 1), .ref (v 2), .ref (v 3), .ref (v 4), .ref (v 5), .ref (v 6), .ref (v 7), .ref (v 8), .ref (v 9), .int 0, .int 0, .int 0, .int 0, .int 0, .int 0, .int 0, .int 0, .int 0, .ref (v 10), .ref (v 11), .ref (v 12), .ref (v 13), .int 0, .ref (v 14), .ref (v 15), .ref (v 16), .ref (v 17), .ref (v 18), .int 0, .int 0, .int 0, .ref (v 19), .ref (v 20), .ref (v 21), .ref (v 22), .ref (v 23), .int 0, .int 0, .int 0, .int 0])), ((v 5), .inl (cy 0, 5, .inl (fun _ => 0))), (o, .inl (cy 6, 1, .inr (.inl u6)))] := hD
    refine lv_istore (lv' := [(5, .int r5), (0, .ref b), (1, .ref (u 0)), (2, .ref (v 0)), (3, .ref o), (4, .int 0)]) hx hb dL_law_903 hl (by decide) rfl (fun ls hl => ?_)
    refine lv_aload_n hx hb dL_law_905 rfl (lv_at hl 3 rfl) ?_
    refine lv_aload_n hx hb dL_law_906 rfl (lv_at hl 1 rfl) ?_
    refine lv_iload hx hb dL_law_907 (lv_at hl 5 rfl) ?_
    refine lv_iconst (v := 1) hx hb dL_law_909 (by decide) ?_
    refine lv_iadd hx hb dL_law_910 ?_
    refine lv_topi (fun x7 ex7 => ?_)
    obtain rfl : x7 = 1 := ex7.trans (by decide)
    refine va_sld hx hb hX hbl hbA hS (by unfold vp_in; decide) dL_law_911 ?_
    refine lv_topi (fun x8 ex8 => ?_)
    obtain rfl : x8 = xs 1 := ex8.trans rfl
    refine lv_aload_n hx hb dL_law_912 rfl (lv_at hl 1 rfl) ?_
    refine lv_iload hx hb dL_law_913 (lv_at hl 5 rfl) ?_
    refine lv_iconst (v := 2) hx hb dL_law_915 (by decide) ?_
    refine lv_iadd hx hb dL_law_916 ?_
    refine lv_topi (fun x9 ex9 => ?_)
    obtain rfl : x9 = 2 := ex9.trans (by decide)
    refine va_sld hx hb hX hbl hbA hS (by unfold vp_in; decide) dL_law_917 ?_
    refine lv_topi (fun x10 ex10 => ?_)
    obtain rfl : x10 = xs 2 := ex10.trans rfl
    refine k_cali [2] (⟨hP, hD, hG, hS, hA, rfl, rfl⟩ : kAt D cy sa A s H _ _ [((v 0), .inr (13, [.int 0, .int 0, .int 0, .int (-1), .int 0, .int 0, .int 0, .int 0, .ref (v 1), .ref (v 2), .ref (v 3), .ref (v 4), .ref (v 5), .ref (v 6), .ref (v 7), .ref (v 8), .ref (v 9), .int 0, .int 0, .int 0, .int 0, .int 0, .int 0, .int 0, .int 0, .int 0, .ref (v 10), .ref (v 11), .ref (v 12), .ref (v 13), .int 0, .ref (v 14), .ref (v 15), .ref (v 16), .ref (v 17), .ref (v 18), .int 0, .int 0, .int 0, .ref (v 19), .ref (v 20), .ref (v 21), .ref (v 22), .ref (v 23), .int 0, .int 0, .int 0, .int 0])), ((v 5), .inl (cy 0, 5, .inl (fun _ => 0)))] [0, 1]) (wr := [(o, .inl (cy 6, 1, .inr (.inl u6)))]) rfl rfl (by decide) (k_runV 13 0 (As := [.int (xs 1), .int (xs 2)]) (rest := []) E lk_VRL_167 rfl rfl rfl (m_passing_ l hl0 D cy sa v (xs 1) (xs 2) H.size) (⟨hP, hD, hG, hS, hA, rfl, rfl⟩ : kAt D cy sa A s H _ _ [((v 0), .inr (13, [.int 0, .int 0, .int 0, .int (-1), .int 0, .int 0, .int 0, .int 0, .ref (v 1), .ref (v 2), .ref (v 3), .ref (v 4), .ref (v 5), .ref (v 6), .ref (v 7), .ref (v 8), .ref (v 9), .int 0, .int 0, .int 0, .int 0, .int 0, .int 0, .int 0, .int 0, .int 0, .ref (v 10), .ref (v 11), .ref (v 12), .ref (v 13), .int 0, .ref (v 14), .ref (v 15), .ref (v 16), .ref (v 17), .ref (v 18), .int 0, .int 0, .int 0, .ref (v 19), .ref (v 20), .ref (v 21), .ref (v 22), .ref (v 23), .int 0, .int 0, .int 0, .int 0])), ((v 5), .inl (cy 0, 5, .inl (fun _ => 0)))] [0, 1]) hl.1 rfl rfl ⟨rfl, rfl, ⟨Nat.le_of_ble_eq_true rfl, Nat.le_of_ble_eq_true rfl⟩, ⟨Nat.le_of_ble_eq_true rfl, Nat.le_of_ble_eq_true rfl⟩, Nat.le_of_ble_eq_true rfl⟩ dL_law_918) (fun r11 u12 H locs hwu12 hP hD hS => ?_)
    have hP : va_P D vwCl [(o, .inl (cy 6, 1, .inr (.inl u6))), ((v 0), .inr (13, .int u12.1 :: u12.2))] H := hP
    have hD : va_D A [(o, .inl (cy 6, 1, .inr (.inl u6))), ((v 0), .inr (13, .int u12.1 :: u12.2))] := hD
    refine lv_istore (lv' := [(6, .int r11), (5, .int r5), (0, .ref b), (1, .ref (u 0)), (2, .ref (v 0)), (3, .ref o), (4, .int 0)]) hx hb dL_law_921 hl (by decide) rfl (fun ls hl => ?_)
    refine lv_aload_n hx hb dL_law_923 rfl (lv_at hl 4 rfl) ?_
    refine k_cali [0] (⟨hP, hD, hG, hS, hA, rfl, rfl⟩ : kAt D cy sa A s H _ _ [((v 0), .inr (13, .int u12.1 :: u12.2))] [1]) (wr := [(o, .inl (cy 6, 1, .inr (.inl u6)))]) rfl rfl (by decide) (k_runV 13 1 (As := []) (rest := []) E lk_VRL_127 rfl rfl rfl (m_thrown l hl0 D cy sa v u12.1 u12.2 H.size) (⟨hP, hD, hG, hS, hA, rfl, rfl⟩ : kAt D cy sa A s H _ _ [((v 0), .inr (13, .int u12.1 :: u12.2))] [1]) hl.1 rfl rfl ⟨rfl, rfl, ⟨Nat.le_of_ble_eq_true rfl, Nat.le_of_ble_eq_true rfl⟩, ⟨Nat.le_of_ble_eq_true rfl, Nat.le_of_ble_eq_true rfl⟩, Nat.le_of_ble_eq_true rfl⟩ dL_law_924) (fun r13 u14 H locs hwu14 hP hD hS => ?_)
    have hP : va_P D vwCl [(o, .inl (cy 6, 1, .inr (.inl u6)))] H := hP
    have hD : va_D A [(o, .inl (cy 6, 1, .inr (.inl u6)))] := hD
    rcases hwu6 with ⟨rfl, x9, hx9, hf9⟩ | ⟨rfl, hpx⟩
    · exact hx9.elim
    · obtain rfl : r13 = 1 := hwu14.trans (hwu12.2 id)
      refine lv_iload hx hb dL_law_927 (lv_at hl 1 rfl) ?_
      refine lv_icmp_eq (tgt := 934) hx hb dL_law_929 (by decide) (fun _ => ?_) (fun h => absurd (by decide) h)
      refine lv_iload hx hb dL_law_934 (lv_at hl 1 rfl) ?_
      refine lv_if_ne (tgt := 951) hx hb dL_law_936 (by decide) (fun _ => ?_) (fun h => absurd h (by decide))
      refine lv_goto (tgt := 2418) hx hb dL_law_951 (by decide) ?_
      refine lv_iinc (v := 6) (lv' := [(4, .int 6), (6, .int r11), (5, .int 1), (0, .ref b), (1, .ref (u 0)), (2, .ref (v 0)), (3, .ref o)]) hx hb dL_law_2418 hl (k := 6) rfl (by decide) (by decide) rfl (fun ls hl => ?_)
      refine lv_goto (tgt := 23) hx hb dL_law_2421 (by decide) ?_
      exact law_exit E hX hbl hbA hAs hS (i := 6) (by decide) (lv_at hl 3 rfl) (lv_at hl 0 rfl) (by decide) (by decide)

set_option maxHeartbeats 4000000 in
set_option maxRecDepth 100000 in
/-- the law: clear -/
theorem law_case_13 {p : Program} {l : Launch} {e : Env} {s : State} {m : MethodId} {below : List Frame} {meth : Method} {c : Code} {D : va_G} {cy : Nat → ClassId} {sa : Nat → Nat} {b : Nat} {xs : Nat → Int32} (hl0 : l.stackTraces = false) (E : kE yL_law cL_law 7 (some .boolean) #[Value.ref b] p s m meth c) (hX : va_X b 6 xs s s.heap) (hbl : b < s.heap.size) (hG : kG D cy sa (fun q => s.heap.size ≤ q) s) (u v : Nat → Nat) (o : Nat) (H : Heap) (locs : List Loc) (hP : va_P D vwCl [((u 0), .inr (12, [.ref (u 1), .int 0, .int (-1), .ref (u 2), .ref (u 3), .ref (u 4), .ref (u 5), .ref (u 6), .ref (u 7), .ref (u 8), .int 0, .ref (u 9), .ref (u 10), .ref (u 11), .ref (u 12), .ref (u 13), .ref (u 14)])), ((u 6), .inr (8, [.ref (u 41), .ref (u 42), .int 0, .ref (u 43), .ref (u 44), .int 0, .ref (u 45)])), ((v 0), .inr (13, [.int 0, .int 0, .int 0, .int (-1), .int 0, .int 0, .int 0, .int 0, .ref (v 1), .ref (v 2), .ref (v 3), .ref (v 4), .ref (v 5), .ref (v 6), .ref (v 7), .ref (v 8), .ref (v 9), .int 0, .int 0, .int 0, .int 0, .int 0, .int 0, .int 0, .int 0, .int 0, .ref (v 10), .ref (v 11), .ref (v 12), .ref (v 13), .int 0, .ref (v 14), .ref (v 15), .ref (v 16), .ref (v 17), .ref (v 18), .int 0, .int 0, .int 0, .ref (v 19), .ref (v 20), .ref (v 21), .ref (v 22), .ref (v 23), .int 0, .int 0, .int 0, .int 0])), (o, .inl (cy 6, 1, .inr (.inl (fun _ => 0))))] H) (hD : va_D (fun q => s.heap.size ≤ q) [((u 0), .inr (12, [.ref (u 1), .int 0, .int (-1), .ref (u 2), .ref (u 3), .ref (u 4), .ref (u 5), .ref (u 6), .ref (u 7), .ref (u 8), .int 0, .ref (u 9), .ref (u 10), .ref (u 11), .ref (u 12), .ref (u 13), .ref (u 14)])), ((u 6), .inr (8, [.ref (u 41), .ref (u 42), .int 0, .ref (u 43), .ref (u 44), .int 0, .ref (u 45)])), ((v 0), .inr (13, [.int 0, .int 0, .int 0, .int (-1), .int 0, .int 0, .int 0, .int 0, .ref (v 1), .ref (v 2), .ref (v 3), .ref (v 4), .ref (v 5), .ref (v 6), .ref (v 7), .ref (v 8), .ref (v 9), .int 0, .int 0, .int 0, .int 0, .int 0, .int 0, .int 0, .int 0, .int 0, .ref (v 10), .ref (v 11), .ref (v 12), .ref (v 13), .int 0, .ref (v 14), .ref (v 15), .ref (v 16), .ref (v 17), .ref (v 18), .int 0, .int 0, .int 0, .ref (v 19), .ref (v 20), .ref (v 21), .ref (v 22), .ref (v 23), .int 0, .int 0, .int 0, .int 0])), (o, .inl (cy 6, 1, .inr (.inl (fun _ => 0))))]) (hS : va_S (fun q => s.heap.size ≤ q) s.heap H locs) (ls : Array Slot) (hl : lv_has ls 7 [(0, .ref b), (1, .ref (u 0)), (2, .ref (v 0)), (3, .ref o), (4, .int 0)]) : W p l e room_1 s m #[Value.ref b] below meth c H locs 179 322202 (lw_Z below #[Value.ref b] s) (F0 m 954 ls []) := by
  obtain ⟨A, hAe⟩ : ∃ A : Nat → Prop, A = fun q => s.heap.size ≤ q := ⟨_, rfl⟩
  rw [← hAe] at hG hD hS
  have hA : ∀ q, s.heap.size ≤ q → A q := fun q h => by rw [hAe]; exact h
  have hAs : ∀ q, A q → s.heap.size ≤ q := fun q h => by rw [hAe] at h; exact h
  have hbA : ¬ A b := by rw [hAe]; exact Nat.not_le.mpr hbl
  obtain ⟨hx, hb, hml, hown, hts, hr, hlk, hnm⟩ := id E
  have hown : s.vm.findClass RL = some m.cls := hown
  refine lv_aload_n hx hb dL_law_954 rfl (lv_at hl 1 rfl) ?_
  refine k_cali [2, 3] (⟨hP, hD, hG, hS, hA, rfl, rfl⟩ : kAt D cy sa A s H _ _ [((u 0), .inr (12, [.ref (u 1), .int 0, .int (-1), .ref (u 2), .ref (u 3), .ref (u 4), .ref (u 5), .ref (u 6), .ref (u 7), .ref (u 8), .int 0, .ref (u 9), .ref (u 10), .ref (u 11), .ref (u 12), .ref (u 13), .ref (u 14)])), ((u 6), .inr (8, [.ref (u 41), .ref (u 42), .int 0, .ref (u 43), .ref (u 44), .int 0, .ref (u 45)]))] [0, 1]) (wr := [((v 0), .inr (13, [.int 0, .int 0, .int 0, .int (-1), .int 0, .int 0, .int 0, .int 0, .ref (v 1), .ref (v 2), .ref (v 3), .ref (v 4), .ref (v 5), .ref (v 6), .ref (v 7), .ref (v 8), .ref (v 9), .int 0, .int 0, .int 0, .int 0, .int 0, .int 0, .int 0, .int 0, .int 0, .ref (v 10), .ref (v 11), .ref (v 12), .ref (v 13), .int 0, .ref (v 14), .ref (v 15), .ref (v 16), .ref (v 17), .ref (v 18), .int 0, .int 0, .int 0, .ref (v 19), .ref (v 20), .ref (v 21), .ref (v 22), .ref (v 23), .int 0, .int 0, .int 0, .int 0])), (o, .inl (cy 6, 1, .inr (.inl (fun _ => 0))))]) rfl rfl (by decide) (k_runV 12 0 (As := []) (rest := []) E lk_VRL_168 rfl rfl rfl (c_LM_clear l hl0 D cy sa u  H.size) (⟨hP, hD, hG, hS, hA, rfl, rfl⟩ : kAt D cy sa A s H _ _ [((u 0), .inr (12, [.ref (u 1), .int 0, .int (-1), .ref (u 2), .ref (u 3), .ref (u 4), .ref (u 5), .ref (u 6), .ref (u 7), .ref (u 8), .int 0, .ref (u 9), .ref (u 10), .ref (u 11), .ref (u 12), .ref (u 13), .ref (u 14)])), ((u 6), .inr (8, [.ref (u 41), .ref (u 42), .int 0, .ref (u 43), .ref (u 44), .int 0, .ref (u 45)]))] [0, 1]) hl.1 rfl rfl ⟨rfl, rfl, ⟨Nat.le_of_ble_eq_true rfl, Nat.le_of_ble_eq_true rfl⟩, ⟨Nat.le_of_ble_eq_true rfl, Nat.le_of_ble_eq_true rfl⟩, Nat.le_of_ble_eq_true rfl⟩ dL_law_955) (fun r1 u2 H locs hwu2 hP hD hS => ?_)
  have hP : va_P D vwCl [((v 0), .inr (13, [.int 0, .int 0, .int 0, .int (-1), .int 0, .int 0, .int 0, .int 0, .ref (v 1), .ref (v 2), .ref (v 3), .ref (v 4), .ref (v 5), .ref (v 6), .ref (v 7), .ref (v 8), .ref (v 9), .int 0, .int 0, .int 0, .int 0, .int 0, .int 0, .int 0, .int 0, .int 0, .ref (v 10), .ref (v 11), .ref (v 12), .ref (v 13), .int 0, .ref (v 14), .ref (v 15), .ref (v 16), .ref (v 17), .ref (v 18), .int 0, .int 0, .int 0, .ref (v 19), .ref (v 20), .ref (v 21), .ref (v 22), .ref (v 23), .int 0, .int 0, .int 0, .int 0])), (o, .inl (cy 6, 1, .inr (.inl (fun _ => 0))))] H := hP
  have hD : va_D A [((v 0), .inr (13, [.int 0, .int 0, .int 0, .int (-1), .int 0, .int 0, .int 0, .int 0, .ref (v 1), .ref (v 2), .ref (v 3), .ref (v 4), .ref (v 5), .ref (v 6), .ref (v 7), .ref (v 8), .ref (v 9), .int 0, .int 0, .int 0, .int 0, .int 0, .int 0, .int 0, .int 0, .int 0, .ref (v 10), .ref (v 11), .ref (v 12), .ref (v 13), .int 0, .ref (v 14), .ref (v 15), .ref (v 16), .ref (v 17), .ref (v 18), .int 0, .int 0, .int 0, .ref (v 19), .ref (v 20), .ref (v 21), .ref (v 22), .ref (v 23), .int 0, .int 0, .int 0, .int 0])), (o, .inl (cy 6, 1, .inr (.inl (fun _ => 0))))] := hD
  refine lv_aload_n hx hb dL_law_958 rfl (lv_at hl 2 rfl) ?_
  refine k_cali [1] (⟨hP, hD, hG, hS, hA, rfl, rfl⟩ : kAt D cy sa A s H _ _ [((v 0), .inr (13, [.int 0, .int 0, .int 0, .int (-1), .int 0, .int 0, .int 0, .int 0, .ref (v 1), .ref (v 2), .ref (v 3), .ref (v 4), .ref (v 5), .ref (v 6), .ref (v 7), .ref (v 8), .ref (v 9), .int 0, .int 0, .int 0, .int 0, .int 0, .int 0, .int 0, .int 0, .int 0, .ref (v 10), .ref (v 11), .ref (v 12), .ref (v 13), .int 0, .ref (v 14), .ref (v 15), .ref (v 16), .ref (v 17), .ref (v 18), .int 0, .int 0, .int 0, .ref (v 19), .ref (v 20), .ref (v 21), .ref (v 22), .ref (v 23), .int 0, .int 0, .int 0, .int 0]))] [0]) (wr := [(o, .inl (cy 6, 1, .inr (.inl (fun _ => 0))))]) rfl rfl (by decide) (k_runV 13 0 (As := []) (rest := [.int r1]) E lk_VRL_171 rfl rfl rfl (m_clear_ l hl0 D cy sa v  H.size) (⟨hP, hD, hG, hS, hA, rfl, rfl⟩ : kAt D cy sa A s H _ _ [((v 0), .inr (13, [.int 0, .int 0, .int 0, .int (-1), .int 0, .int 0, .int 0, .int 0, .ref (v 1), .ref (v 2), .ref (v 3), .ref (v 4), .ref (v 5), .ref (v 6), .ref (v 7), .ref (v 8), .ref (v 9), .int 0, .int 0, .int 0, .int 0, .int 0, .int 0, .int 0, .int 0, .int 0, .ref (v 10), .ref (v 11), .ref (v 12), .ref (v 13), .int 0, .ref (v 14), .ref (v 15), .ref (v 16), .ref (v 17), .ref (v 18), .int 0, .int 0, .int 0, .ref (v 19), .ref (v 20), .ref (v 21), .ref (v 22), .ref (v 23), .int 0, .int 0, .int 0, .int 0]))] [0]) hl.1 rfl rfl ⟨rfl, rfl, ⟨Nat.le_of_ble_eq_true rfl, Nat.le_of_ble_eq_true rfl⟩, ⟨Nat.le_of_ble_eq_true rfl, Nat.le_of_ble_eq_true rfl⟩, Nat.le_of_ble_eq_true rfl⟩ dL_law_959) (fun r3 u4 H locs hwu4 hP hD hS => ?_)
  have hP : va_P D vwCl [(o, .inl (cy 6, 1, .inr (.inl (fun _ => 0)))), ((v 0), .inr (13, .int u4.1 :: u4.2))] H := hP
  have hD : va_D A [(o, .inl (cy 6, 1, .inr (.inl (fun _ => 0)))), ((v 0), .inr (13, .int u4.1 :: u4.2))] := hD
  have heq : r1 = r3 := hwu2.trans (hwu4.1 trivial).2.symm
  refine lv_icmp_eq (tgt := 2418) hx hb dL_law_962 (by decide) (fun _ => ?_) (fun h => absurd heq h)
  refine lv_iinc (v := 6) (lv' := [(4, .int 6), (0, .ref b), (1, .ref (u 0)), (2, .ref (v 0)), (3, .ref o)]) hx hb dL_law_2418 hl (k := 4) rfl (by decide) (by decide) rfl (fun ls hl => ?_)
  refine lv_goto (tgt := 23) hx hb dL_law_2421 (by decide) ?_
  exact law_exit E hX hbl hbA hAs hS (i := 6) (by decide) (lv_at hl 1 rfl) (lv_at hl 0 rfl) (by decide) (by decide)

set_option maxHeartbeats 4000000 in
set_option maxRecDepth 100000 in
/-- the law: judge -/
theorem law_case_14 {p : Program} {l : Launch} {e : Env} {s : State} {m : MethodId} {below : List Frame} {meth : Method} {c : Code} {D : va_G} {cy : Nat → ClassId} {sa : Nat → Nat} {b : Nat} {xs : Nat → Int32} (hl0 : l.stackTraces = false) (E : kE yL_law cL_law 7 (some .boolean) #[Value.ref b] p s m meth c) (hX : va_X b 6 xs s s.heap) (hbl : b < s.heap.size) (hG : kG D cy sa (fun q => s.heap.size ≤ q) s) (u v : Nat → Nat) (o : Nat) (H : Heap) (locs : List Loc) (hP : va_P D vwCl [((u 0), .inr (12, [.ref (u 1), .int 0, .int (-1), .ref (u 2), .ref (u 3), .ref (u 4), .ref (u 5), .ref (u 6), .ref (u 7), .ref (u 8), .int 0, .ref (u 9), .ref (u 10), .ref (u 11), .ref (u 12), .ref (u 13), .ref (u 14)])), ((u 10), .inr (5, [.ref (u 76), .int (-1), .int 0])), ((u 76), .inr (7, [.ref (u 77), .ref (u 78), .int 0, .int 0, .int 0, .int 0, .int 0, .int 0, .int 0, .int 0])), ((u 77), .inl (cy 0, 9, .inl (fun _ => 0))), ((u 78), .inl (cy 0, 9, .inl (fun _ => 0))), ((u 3), .inr (4, [.ref (u 15), .ref (u 16), .ref (u 17), .ref (u 18), .ref (u 19), .ref (u 20), .ref (u 21), .ref (u 22), .ref (u 23), .ref (u 24), .ref (u 25), .ref (u 26), .int 0, .int 0, .int 0, .int 0, .int 0])), ((u 5), .inr (7, [.ref (u 39), .ref (u 40), .int 0, .int 0, .int 0, .int 0, .int 0, .int 0, .int 0, .int 0])), ((u 39), .inl (cy 0, 9, .inl (fun _ => 0))), ((u 40), .inl (cy 0, 9, .inl (fun _ => 0))), ((u 6), .inr (8, [.ref (u 41), .ref (u 42), .int 0, .ref (u 43), .ref (u 44), .int 0, .ref (u 45)])), ((v 0), .inr (13, [.int 0, .int 0, .int 0, .int (-1), .int 0, .int 0, .int 0, .int 0, .ref (v 1), .ref (v 2), .ref (v 3), .ref (v 4), .ref (v 5), .ref (v 6), .ref (v 7), .ref (v 8), .ref (v 9), .int 0, .int 0, .int 0, .int 0, .int 0, .int 0, .int 0, .int 0, .int 0, .ref (v 10), .ref (v 11), .ref (v 12), .ref (v 13), .int 0, .ref (v 14), .ref (v 15), .ref (v 16), .ref (v 17), .ref (v 18), .int 0, .int 0, .int 0, .ref (v 19), .ref (v 20), .ref (v 21), .ref (v 22), .ref (v 23), .int 0, .int 0, .int 0, .int 0])), ((v 13), .inl (cy 5, 2, .inr (.inr (.inr (.inr (fun i => if i < 2 then some ((v 13) + 1 + i) else none)))))), (((v 13) + 1 + 0), .inl (cy 0, 120, .inl (fun _ => 0))), ((v 6), .inl (cy 0, 9, .inl (fun _ => 0))), ((v 7), .inl (cy 0, 9, .inl (fun _ => 0))), ((v 8), .inl (cy 0, 9, .inl (fun _ => 0))), ((v 9), .inl (cy 0, 9, .inl (fun _ => 0))), ((v 5), .inl (cy 0, 5, .inl (fun _ => 0))), (o, .inl (cy 6, 1, .inr (.inl (fun _ => 0))))] H) (hD : va_D (fun q => s.heap.size ≤ q) [((u 0), .inr (12, [.ref (u 1), .int 0, .int (-1), .ref (u 2), .ref (u 3), .ref (u 4), .ref (u 5), .ref (u 6), .ref (u 7), .ref (u 8), .int 0, .ref (u 9), .ref (u 10), .ref (u 11), .ref (u 12), .ref (u 13), .ref (u 14)])), ((u 10), .inr (5, [.ref (u 76), .int (-1), .int 0])), ((u 76), .inr (7, [.ref (u 77), .ref (u 78), .int 0, .int 0, .int 0, .int 0, .int 0, .int 0, .int 0, .int 0])), ((u 77), .inl (cy 0, 9, .inl (fun _ => 0))), ((u 78), .inl (cy 0, 9, .inl (fun _ => 0))), ((u 3), .inr (4, [.ref (u 15), .ref (u 16), .ref (u 17), .ref (u 18), .ref (u 19), .ref (u 20), .ref (u 21), .ref (u 22), .ref (u 23), .ref (u 24), .ref (u 25), .ref (u 26), .int 0, .int 0, .int 0, .int 0, .int 0])), ((u 5), .inr (7, [.ref (u 39), .ref (u 40), .int 0, .int 0, .int 0, .int 0, .int 0, .int 0, .int 0, .int 0])), ((u 39), .inl (cy 0, 9, .inl (fun _ => 0))), ((u 40), .inl (cy 0, 9, .inl (fun _ => 0))), ((u 6), .inr (8, [.ref (u 41), .ref (u 42), .int 0, .ref (u 43), .ref (u 44), .int 0, .ref (u 45)])), ((v 0), .inr (13, [.int 0, .int 0, .int 0, .int (-1), .int 0, .int 0, .int 0, .int 0, .ref (v 1), .ref (v 2), .ref (v 3), .ref (v 4), .ref (v 5), .ref (v 6), .ref (v 7), .ref (v 8), .ref (v 9), .int 0, .int 0, .int 0, .int 0, .int 0, .int 0, .int 0, .int 0, .int 0, .ref (v 10), .ref (v 11), .ref (v 12), .ref (v 13), .int 0, .ref (v 14), .ref (v 15), .ref (v 16), .ref (v 17), .ref (v 18), .int 0, .int 0, .int 0, .ref (v 19), .ref (v 20), .ref (v 21), .ref (v 22), .ref (v 23), .int 0, .int 0, .int 0, .int 0])), ((v 13), .inl (cy 5, 2, .inr (.inr (.inr (.inr (fun i => if i < 2 then some ((v 13) + 1 + i) else none)))))), (((v 13) + 1 + 0), .inl (cy 0, 120, .inl (fun _ => 0))), ((v 6), .inl (cy 0, 9, .inl (fun _ => 0))), ((v 7), .inl (cy 0, 9, .inl (fun _ => 0))), ((v 8), .inl (cy 0, 9, .inl (fun _ => 0))), ((v 9), .inl (cy 0, 9, .inl (fun _ => 0))), ((v 5), .inl (cy 0, 5, .inl (fun _ => 0))), (o, .inl (cy 6, 1, .inr (.inl (fun _ => 0))))]) (hS : va_S (fun q => s.heap.size ≤ q) s.heap H locs) (ls : Array Slot) (hl : lv_has ls 7 [(0, .ref b), (1, .ref (u 0)), (2, .ref (v 0)), (3, .ref o), (4, .int 0)]) : W p l e room_1 s m #[Value.ref b] below meth c H locs 179 322202 (lw_Z below #[Value.ref b] s) (F0 m 967 ls []) := by
  obtain ⟨A, hAe⟩ : ∃ A : Nat → Prop, A = fun q => s.heap.size ≤ q := ⟨_, rfl⟩
  rw [← hAe] at hG hD hS
  have hA : ∀ q, s.heap.size ≤ q → A q := fun q h => by rw [hAe]; exact h
  have hAs : ∀ q, A q → s.heap.size ≤ q := fun q h => by rw [hAe] at h; exact h
  have hbA : ¬ A b := by rw [hAe]; exact Nat.not_le.mpr hbl
  obtain ⟨hx, hb, hml, hown, hts, hr, hlk, hnm⟩ := id E
  have hown : s.vm.findClass RL = some m.cls := hown
  refine lv_aload_n hx hb dL_law_967 rfl (lv_at hl 1 rfl) ?_
  refine lv_aload_n hx hb dL_law_968 rfl (lv_at hl 0 rfl) ?_
  refine lv_iload hx hb dL_law_969 (lv_at hl 4 rfl) ?_
  refine lv_iconst (v := 1) hx hb dL_law_971 (by decide) ?_
  refine lv_iadd hx hb dL_law_972 ?_
  refine lv_topi (fun x1 ex1 => ?_)
  obtain rfl : x1 = 1 := ex1.trans (by decide)
  refine va_sld hx hb hX hbl hbA hS (by unfold vp_in; decide) dL_law_973 ?_
  refine lv_topi (fun x2 ex2 => ?_)
  obtain rfl : x2 = xs 1 := ex2.trans rfl
  refine lv_aload_n hx hb dL_law_974 rfl (lv_at hl 3 rfl) ?_
  refine x_cali [10, 11, 12, 13, 14, 15, 16, 17] (⟨hP, hD, hG, hS, hA, rfl, rfl⟩ : kAt D cy sa A s H _ _ [((u 0), .inr (12, [.ref (u 1), .int 0, .int (-1), .ref (u 2), .ref (u 3), .ref (u 4), .ref (u 5), .ref (u 6), .ref (u 7), .ref (u 8), .int 0, .ref (u 9), .ref (u 10), .ref (u 11), .ref (u 12), .ref (u 13), .ref (u 14)])), ((u 10), .inr (5, [.ref (u 76), .int (-1), .int 0])), ((u 76), .inr (7, [.ref (u 77), .ref (u 78), .int 0, .int 0, .int 0, .int 0, .int 0, .int 0, .int 0, .int 0])), ((u 77), .inl (cy 0, 9, .inl (fun _ => 0))), ((u 78), .inl (cy 0, 9, .inl (fun _ => 0))), ((u 3), .inr (4, [.ref (u 15), .ref (u 16), .ref (u 17), .ref (u 18), .ref (u 19), .ref (u 20), .ref (u 21), .ref (u 22), .ref (u 23), .ref (u 24), .ref (u 25), .ref (u 26), .int 0, .int 0, .int 0, .int 0, .int 0])), ((u 5), .inr (7, [.ref (u 39), .ref (u 40), .int 0, .int 0, .int 0, .int 0, .int 0, .int 0, .int 0, .int 0])), ((u 39), .inl (cy 0, 9, .inl (fun _ => 0))), ((u 40), .inl (cy 0, 9, .inl (fun _ => 0))), ((u 6), .inr (8, [.ref (u 41), .ref (u 42), .int 0, .ref (u 43), .ref (u 44), .int 0, .ref (u 45)])), (o, .inl (cy 6, 1, .inr (.inl (fun _ => 0))))] [0, 1, 2, 3, 4, 5, 6, 7, 8, 9, 18]) (wr := [((v 0), .inr (13, [.int 0, .int 0, .int 0, .int (-1), .int 0, .int 0, .int 0, .int 0, .ref (v 1), .ref (v 2), .ref (v 3), .ref (v 4), .ref (v 5), .ref (v 6), .ref (v 7), .ref (v 8), .ref (v 9), .int 0, .int 0, .int 0, .int 0, .int 0, .int 0, .int 0, .int 0, .int 0, .ref (v 10), .ref (v 11), .ref (v 12), .ref (v 13), .int 0, .ref (v 14), .ref (v 15), .ref (v 16), .ref (v 17), .ref (v 18), .int 0, .int 0, .int 0, .ref (v 19), .ref (v 20), .ref (v 21), .ref (v 22), .ref (v 23), .int 0, .int 0, .int 0, .int 0])), ((v 13), .inl (cy 5, 2, .inr (.inr (.inr (.inr (fun i => if i < 2 then some ((v 13) + 1 + i) else none)))))), (((v 13) + 1 + 0), .inl (cy 0, 120, .inl (fun _ => 0))), ((v 6), .inl (cy 0, 9, .inl (fun _ => 0))), ((v 7), .inl (cy 0, 9, .inl (fun _ => 0))), ((v 8), .inl (cy 0, 9, .inl (fun _ => 0))), ((v 9), .inl (cy 0, 9, .inl (fun _ => 0))), ((v 5), .inl (cy 0, 5, .inl (fun _ => 0)))]) rfl rfl (by decide) (x_runW (As := [.ref (u 0), .int (xs 1), .ref o]) (rest := []) E lk_SRL_172 (w_judge l hl0 D cy sa u o (xs 1) H.size) (⟨hP, hD, hG, hS, hA, rfl, rfl⟩ : kAt D cy sa A s H _ _ [((u 0), .inr (12, [.ref (u 1), .int 0, .int (-1), .ref (u 2), .ref (u 3), .ref (u 4), .ref (u 5), .ref (u 6), .ref (u 7), .ref (u 8), .int 0, .ref (u 9), .ref (u 10), .ref (u 11), .ref (u 12), .ref (u 13), .ref (u 14)])), ((u 10), .inr (5, [.ref (u 76), .int (-1), .int 0])), ((u 76), .inr (7, [.ref (u 77), .ref (u 78), .int 0, .int 0, .int 0, .int 0, .int 0, .int 0, .int 0, .int 0])), ((u 77), .inl (cy 0, 9, .inl (fun _ => 0))), ((u 78), .inl (cy 0, 9, .inl (fun _ => 0))), ((u 3), .inr (4, [.ref (u 15), .ref (u 16), .ref (u 17), .ref (u 18), .ref (u 19), .ref (u 20), .ref (u 21), .ref (u 22), .ref (u 23), .ref (u 24), .ref (u 25), .ref (u 26), .int 0, .int 0, .int 0, .int 0, .int 0])), ((u 5), .inr (7, [.ref (u 39), .ref (u 40), .int 0, .int 0, .int 0, .int 0, .int 0, .int 0, .int 0, .int 0])), ((u 39), .inl (cy 0, 9, .inl (fun _ => 0))), ((u 40), .inl (cy 0, 9, .inl (fun _ => 0))), ((u 6), .inr (8, [.ref (u 41), .ref (u 42), .int 0, .ref (u 43), .ref (u 44), .int 0, .ref (u 45)])), (o, .inl (cy 6, 1, .inr (.inl (fun _ => 0))))] [0, 1, 2, 3, 4, 5, 6, 7, 8, 9, 18]) hl.1 rfl rfl ⟨rfl, rfl, ⟨Nat.le_of_ble_eq_true rfl, Nat.le_of_ble_eq_true rfl⟩, ⟨Nat.le_of_ble_eq_true rfl, Nat.le_of_ble_eq_true rfl⟩, Nat.le_of_ble_eq_true rfl⟩ dL_law_975) (fun ce q9 u4 H locs hwu4 hP hD hS h1 h2 h3 => ?_) (fun r3 u4 H locs hwu4 hP hD hS => ?_)
  · have hP : va_P D vwCl [((v 0), .inr (13, [.int 0, .int 0, .int 0, .int (-1), .int 0, .int 0, .int 0, .int 0, .ref (v 1), .ref (v 2), .ref (v 3), .ref (v 4), .ref (v 5), .ref (v 6), .ref (v 7), .ref (v 8), .ref (v 9), .int 0, .int 0, .int 0, .int 0, .int 0, .int 0, .int 0, .int 0, .int 0, .ref (v 10), .ref (v 11), .ref (v 12), .ref (v 13), .int 0, .ref (v 14), .ref (v 15), .ref (v 16), .ref (v 17), .ref (v 18), .int 0, .int 0, .int 0, .ref (v 19), .ref (v 20), .ref (v 21), .ref (v 22), .ref (v 23), .int 0, .int 0, .int 0, .int 0])), ((v 13), .inl (cy 5, 2, .inr (.inr (.inr (.inr (fun i => if i < 2 then some ((v 13) + 1 + i) else none)))))), (((v 13) + 1 + 0), .inl (cy 0, 120, .inl (fun _ => 0))), ((v 6), .inl (cy 0, 9, .inl (fun _ => 0))), ((v 7), .inl (cy 0, 9, .inl (fun _ => 0))), ((v 8), .inl (cy 0, 9, .inl (fun _ => 0))), ((v 9), .inl (cy 0, 9, .inl (fun _ => 0))), ((v 5), .inl (cy 0, 5, .inl (fun _ => 0)))] H := hP
    have hD : va_D A [((v 0), .inr (13, [.int 0, .int 0, .int 0, .int (-1), .int 0, .int 0, .int 0, .int 0, .ref (v 1), .ref (v 2), .ref (v 3), .ref (v 4), .ref (v 5), .ref (v 6), .ref (v 7), .ref (v 8), .ref (v 9), .int 0, .int 0, .int 0, .int 0, .int 0, .int 0, .int 0, .int 0, .int 0, .ref (v 10), .ref (v 11), .ref (v 12), .ref (v 13), .int 0, .ref (v 14), .ref (v 15), .ref (v 16), .ref (v 17), .ref (v 18), .int 0, .int 0, .int 0, .ref (v 19), .ref (v 20), .ref (v 21), .ref (v 22), .ref (v 23), .int 0, .int 0, .int 0, .int 0])), ((v 13), .inl (cy 5, 2, .inr (.inr (.inr (.inr (fun i => if i < 2 then some ((v 13) + 1 + i) else none)))))), (((v 13) + 1 + 0), .inl (cy 0, 120, .inl (fun _ => 0))), ((v 6), .inl (cy 0, 9, .inl (fun _ => 0))), ((v 7), .inl (cy 0, 9, .inl (fun _ => 0))), ((v 8), .inl (cy 0, 9, .inl (fun _ => 0))), ((v 9), .inl (cy 0, 9, .inl (fun _ => 0))), ((v 5), .inl (cy 0, 5, .inl (fun _ => 0)))] := hD
    exact (hwu4).elim
  · have hP : va_P D vwCl [((v 0), .inr (13, [.int 0, .int 0, .int 0, .int (-1), .int 0, .int 0, .int 0, .int 0, .ref (v 1), .ref (v 2), .ref (v 3), .ref (v 4), .ref (v 5), .ref (v 6), .ref (v 7), .ref (v 8), .ref (v 9), .int 0, .int 0, .int 0, .int 0, .int 0, .int 0, .int 0, .int 0, .int 0, .ref (v 10), .ref (v 11), .ref (v 12), .ref (v 13), .int 0, .ref (v 14), .ref (v 15), .ref (v 16), .ref (v 17), .ref (v 18), .int 0, .int 0, .int 0, .ref (v 19), .ref (v 20), .ref (v 21), .ref (v 22), .ref (v 23), .int 0, .int 0, .int 0, .int 0])), ((v 13), .inl (cy 5, 2, .inr (.inr (.inr (.inr (fun i => if i < 2 then some ((v 13) + 1 + i) else none)))))), (((v 13) + 1 + 0), .inl (cy 0, 120, .inl (fun _ => 0))), ((v 6), .inl (cy 0, 9, .inl (fun _ => 0))), ((v 7), .inl (cy 0, 9, .inl (fun _ => 0))), ((v 8), .inl (cy 0, 9, .inl (fun _ => 0))), ((v 9), .inl (cy 0, 9, .inl (fun _ => 0))), ((v 5), .inl (cy 0, 5, .inl (fun _ => 0))), (o, .inl (cy 6, 1, .inr (.inl u4)))] H := hP
    have hD : va_D A [((v 0), .inr (13, [.int 0, .int 0, .int 0, .int (-1), .int 0, .int 0, .int 0, .int 0, .ref (v 1), .ref (v 2), .ref (v 3), .ref (v 4), .ref (v 5), .ref (v 6), .ref (v 7), .ref (v 8), .ref (v 9), .int 0, .int 0, .int 0, .int 0, .int 0, .int 0, .int 0, .int 0, .int 0, .ref (v 10), .ref (v 11), .ref (v 12), .ref (v 13), .int 0, .ref (v 14), .ref (v 15), .ref (v 16), .ref (v 17), .ref (v 18), .int 0, .int 0, .int 0, .ref (v 19), .ref (v 20), .ref (v 21), .ref (v 22), .ref (v 23), .int 0, .int 0, .int 0, .int 0])), ((v 13), .inl (cy 5, 2, .inr (.inr (.inr (.inr (fun i => if i < 2 then some ((v 13) + 1 + i) else none)))))), (((v 13) + 1 + 0), .inl (cy 0, 120, .inl (fun _ => 0))), ((v 6), .inl (cy 0, 9, .inl (fun _ => 0))), ((v 7), .inl (cy 0, 9, .inl (fun _ => 0))), ((v 8), .inl (cy 0, 9, .inl (fun _ => 0))), ((v 9), .inl (cy 0, 9, .inl (fun _ => 0))), ((v 5), .inl (cy 0, 5, .inl (fun _ => 0))), (o, .inl (cy 6, 1, .inr (.inl u4)))] := hD
    refine lv_istore (lv' := [(5, .int r3), (0, .ref b), (1, .ref (u 0)), (2, .ref (v 0)), (3, .ref o), (4, .int 0)]) hx hb dL_law_978 hl (by decide) rfl (fun ls hl => ?_)
    refine lv_aload_n hx hb dL_law_980 rfl (lv_at hl 3 rfl) ?_
    refine lv_aload_n hx hb dL_law_981 rfl (lv_at hl 1 rfl) ?_
    refine lv_iload hx hb dL_law_982 (lv_at hl 5 rfl) ?_
    refine lv_iconst (v := 1) hx hb dL_law_984 (by decide) ?_
    refine lv_iadd hx hb dL_law_985 ?_
    refine lv_topi (fun x5 ex5 => ?_)
    obtain rfl : x5 = 1 := ex5.trans (by decide)
    refine va_sld hx hb hX hbl hbA hS (by unfold vp_in; decide) dL_law_986 ?_
    refine lv_topi (fun x6 ex6 => ?_)
    obtain rfl : x6 = xs 1 := ex6.trans rfl
    refine k_cali [8] (⟨hP, hD, hG, hS, hA, rfl, rfl⟩ : kAt D cy sa A s H _ _ [((v 0), .inr (13, [.int 0, .int 0, .int 0, .int (-1), .int 0, .int 0, .int 0, .int 0, .ref (v 1), .ref (v 2), .ref (v 3), .ref (v 4), .ref (v 5), .ref (v 6), .ref (v 7), .ref (v 8), .ref (v 9), .int 0, .int 0, .int 0, .int 0, .int 0, .int 0, .int 0, .int 0, .int 0, .ref (v 10), .ref (v 11), .ref (v 12), .ref (v 13), .int 0, .ref (v 14), .ref (v 15), .ref (v 16), .ref (v 17), .ref (v 18), .int 0, .int 0, .int 0, .ref (v 19), .ref (v 20), .ref (v 21), .ref (v 22), .ref (v 23), .int 0, .int 0, .int 0, .int 0])), ((v 13), .inl (cy 5, 2, .inr (.inr (.inr (.inr (fun i => if i < 2 then some ((v 13) + 1 + i) else none)))))), (((v 13) + 1 + 0), .inl (cy 0, 120, .inl (fun _ => 0))), ((v 6), .inl (cy 0, 9, .inl (fun _ => 0))), ((v 7), .inl (cy 0, 9, .inl (fun _ => 0))), ((v 8), .inl (cy 0, 9, .inl (fun _ => 0))), ((v 9), .inl (cy 0, 9, .inl (fun _ => 0))), ((v 5), .inl (cy 0, 5, .inl (fun _ => 0)))] [0, 1, 2, 3, 4, 5, 6, 7]) (wr := [(o, .inl (cy 6, 1, .inr (.inl u4)))]) rfl rfl (by decide) (k_runV 13 0 (As := [.int (xs 1)]) (rest := []) E lk_VRL_174 rfl rfl rfl (m_judge_ l hl0 D cy sa v (xs 1) H.size) (⟨hP, hD, hG, hS, hA, rfl, rfl⟩ : kAt D cy sa A s H _ _ [((v 0), .inr (13, [.int 0, .int 0, .int 0, .int (-1), .int 0, .int 0, .int 0, .int 0, .ref (v 1), .ref (v 2), .ref (v 3), .ref (v 4), .ref (v 5), .ref (v 6), .ref (v 7), .ref (v 8), .ref (v 9), .int 0, .int 0, .int 0, .int 0, .int 0, .int 0, .int 0, .int 0, .int 0, .ref (v 10), .ref (v 11), .ref (v 12), .ref (v 13), .int 0, .ref (v 14), .ref (v 15), .ref (v 16), .ref (v 17), .ref (v 18), .int 0, .int 0, .int 0, .ref (v 19), .ref (v 20), .ref (v 21), .ref (v 22), .ref (v 23), .int 0, .int 0, .int 0, .int 0])), ((v 13), .inl (cy 5, 2, .inr (.inr (.inr (.inr (fun i => if i < 2 then some ((v 13) + 1 + i) else none)))))), (((v 13) + 1 + 0), .inl (cy 0, 120, .inl (fun _ => 0))), ((v 6), .inl (cy 0, 9, .inl (fun _ => 0))), ((v 7), .inl (cy 0, 9, .inl (fun _ => 0))), ((v 8), .inl (cy 0, 9, .inl (fun _ => 0))), ((v 9), .inl (cy 0, 9, .inl (fun _ => 0))), ((v 5), .inl (cy 0, 5, .inl (fun _ => 0)))] [0, 1, 2, 3, 4, 5, 6, 7]) hl.1 rfl rfl ⟨rfl, rfl, ⟨Nat.le_of_ble_eq_true rfl, Nat.le_of_ble_eq_true rfl⟩, ⟨Nat.le_of_ble_eq_true rfl, Nat.le_of_ble_eq_true rfl⟩, Nat.le_of_ble_eq_true rfl⟩ dL_law_987) (fun r7 u8 H locs hwu8 hP hD hS => ?_)
    have hP : va_P D vwCl [(o, .inl (cy 6, 1, .inr (.inl u4))), ((v 0), .inr (13, .int u8.1 :: u8.2))] H := hP
    have hD : va_D A [(o, .inl (cy 6, 1, .inr (.inl u4))), ((v 0), .inr (13, .int u8.1 :: u8.2))] := hD
    refine lv_istore (lv' := [(6, .int r7), (5, .int r3), (0, .ref b), (1, .ref (u 0)), (2, .ref (v 0)), (3, .ref o), (4, .int 0)]) hx hb dL_law_990 hl (by decide) rfl (fun ls hl => ?_)
    refine lv_aload_n hx hb dL_law_992 rfl (lv_at hl 4 rfl) ?_
    refine k_cali [0] (⟨hP, hD, hG, hS, hA, rfl, rfl⟩ : kAt D cy sa A s H _ _ [((v 0), .inr (13, .int u8.1 :: u8.2))] [1]) (wr := [(o, .inl (cy 6, 1, .inr (.inl u4)))]) rfl rfl (by decide) (k_runV 13 1 (As := []) (rest := []) E lk_VRL_127 rfl rfl rfl (m_thrown l hl0 D cy sa v u8.1 u8.2 H.size) (⟨hP, hD, hG, hS, hA, rfl, rfl⟩ : kAt D cy sa A s H _ _ [((v 0), .inr (13, .int u8.1 :: u8.2))] [1]) hl.1 rfl rfl ⟨rfl, rfl, ⟨Nat.le_of_ble_eq_true rfl, Nat.le_of_ble_eq_true rfl⟩, ⟨Nat.le_of_ble_eq_true rfl, Nat.le_of_ble_eq_true rfl⟩, Nat.le_of_ble_eq_true rfl⟩ dL_law_993) (fun r9 u10 H locs hwu10 hP hD hS => ?_)
    have hP : va_P D vwCl [(o, .inl (cy 6, 1, .inr (.inl u4)))] H := hP
    have hD : va_D A [(o, .inl (cy 6, 1, .inr (.inl u4)))] := hD
    rcases hwu4 with ⟨rfl, x9, hx9, hf9⟩ | ⟨rfl, hpx⟩
    · obtain ⟨ht9, hr9⟩ := hwu8.1 (hx9.1)
      obtain rfl : r9 = 0 := hwu10.trans ht9
      have heq : x9 = r7 := hx9.2.trans hr9.symm
      refine lv_iload hx hb dL_law_996 (lv_at hl 1 rfl) ?_
      refine lv_icmp_eq (tgt := 1003) hx hb dL_law_998 (by decide) (fun _ => ?_) (fun h => absurd (by decide) h)
      refine lv_iload hx hb dL_law_1003 (lv_at hl 1 rfl) ?_
      refine lv_if_ne (tgt := 1020) hx hb dL_law_1005 (by decide) (fun h => absurd (by decide) h) (fun _ => ?_)
      refine lv_aload_n hx hb dL_law_1008 rfl (lv_at hl 5 rfl) ?_
      refine lv_iconst (v := 0) hx hb dL_law_1009 (by decide) ?_
      refine va_lald hx hb hG.1 hP 0 6 rfl rfl (by unfold vp_in; decide) dL_law_1010 ?_
      refine W.eq (g2 := F0 m 1011 ls [.long (u4 0)]) rfl ?_
      refine lv_iload hx hb dL_law_1011 (lv_at hl 0 rfl) ?_
      refine lv_i2l (v := (r7 : Int32).toInt64) hx hb dL_law_1013 rfl ?_
      refine W.lcmp hx hb dL_law_1014 ?_
      refine lv_topi (fun x11 ex11 => ?_)
      obtain rfl : x11 = 0 := ex11.trans (by rw [hf9, heq]; exact k_cmp _)
      refine lv_if_eq (tgt := 1020) hx hb dL_law_1015 (by decide) (fun _ => ?_) (fun h => absurd (by decide) h)
      refine lv_goto (tgt := 2418) hx hb dL_law_1020 (by decide) ?_
      refine lv_iinc (v := 6) (lv' := [(4, .int 6), (6, .int r7), (5, .int 0), (0, .ref b), (1, .ref (u 0)), (2, .ref (v 0)), (3, .ref o)]) hx hb dL_law_2418 hl (k := 6) rfl (by decide) (by decide) rfl (fun ls hl => ?_)
      refine lv_goto (tgt := 23) hx hb dL_law_2421 (by decide) ?_
      exact law_exit E hX hbl hbA hAs hS (i := 6) (by decide) (lv_at hl 3 rfl) (lv_at hl 0 rfl) (by decide) (by decide)
    · obtain rfl : r9 = 1 := hwu10.trans (hwu8.2 (fun h => absurd h hpx))
      refine lv_iload hx hb dL_law_996 (lv_at hl 1 rfl) ?_
      refine lv_icmp_eq (tgt := 1003) hx hb dL_law_998 (by decide) (fun _ => ?_) (fun h => absurd (by decide) h)
      refine lv_iload hx hb dL_law_1003 (lv_at hl 1 rfl) ?_
      refine lv_if_ne (tgt := 1020) hx hb dL_law_1005 (by decide) (fun _ => ?_) (fun h => absurd h (by decide))
      refine lv_goto (tgt := 2418) hx hb dL_law_1020 (by decide) ?_
      refine lv_iinc (v := 6) (lv' := [(4, .int 6), (6, .int r7), (5, .int 1), (0, .ref b), (1, .ref (u 0)), (2, .ref (v 0)), (3, .ref o)]) hx hb dL_law_2418 hl (k := 6) rfl (by decide) (by decide) rfl (fun ls hl => ?_)
      refine lv_goto (tgt := 23) hx hb dL_law_2421 (by decide) ?_
      exact law_exit E hX hbl hbA hAs hS (i := 6) (by decide) (lv_at hl 3 rfl) (lv_at hl 0 rfl) (by decide) (by decide)

set_option maxHeartbeats 4000000 in
set_option maxRecDepth 100000 in
/-- the law: run -/
theorem law_case_15 {p : Program} {l : Launch} {e : Env} {s : State} {m : MethodId} {below : List Frame} {meth : Method} {c : Code} {D : va_G} {cy : Nat → ClassId} {sa : Nat → Nat} {b : Nat} {xs : Nat → Int32} (hl0 : l.stackTraces = false) (E : kE yL_law cL_law 7 (some .boolean) #[Value.ref b] p s m meth c) (hX : va_X b 6 xs s s.heap) (hbl : b < s.heap.size) (hG : kG D cy sa (fun q => s.heap.size ≤ q) s) (u v : Nat → Nat) (o : Nat) (H : Heap) (locs : List Loc) (hP : va_P D vwCl [((u 0), .inr (12, [.ref (u 1), .int 0, .int (-1), .ref (u 2), .ref (u 3), .ref (u 4), .ref (u 5), .ref (u 6), .ref (u 7), .ref (u 8), .int 0, .ref (u 9), .ref (u 10), .ref (u 11), .ref (u 12), .ref (u 13), .ref (u 14)])), ((u 9), .inr (10, [.ref (u 73), .int 0, .int 0])), ((u 73), .inr (7, [.ref (u 74), .ref (u 75), .int 0, .int 0, .int 0, .int 0, .int 0, .int 0, .int 0, .int 0])), ((u 74), .inl (cy 0, 9, .inl (fun _ => 0))), ((u 75), .inl (cy 0, 9, .inl (fun _ => 0))), ((u 5), .inr (7, [.ref (u 39), .ref (u 40), .int 0, .int 0, .int 0, .int 0, .int 0, .int 0, .int 0, .int 0])), ((u 39), .inl (cy 0, 9, .inl (fun _ => 0))), ((u 40), .inl (cy 0, 9, .inl (fun _ => 0))), ((u 3), .inr (4, [.ref (u 15), .ref (u 16), .ref (u 17), .ref (u 18), .ref (u 19), .ref (u 20), .ref (u 21), .ref (u 22), .ref (u 23), .ref (u 24), .ref (u 25), .ref (u 26), .int 0, .int 0, .int 0, .int 0, .int 0])), ((v 0), .inr (13, [.int 0, .int 0, .int 0, .int (-1), .int 0, .int 0, .int 0, .int 0, .ref (v 1), .ref (v 2), .ref (v 3), .ref (v 4), .ref (v 5), .ref (v 6), .ref (v 7), .ref (v 8), .ref (v 9), .int 0, .int 0, .int 0, .int 0, .int 0, .int 0, .int 0, .int 0, .int 0, .ref (v 10), .ref (v 11), .ref (v 12), .ref (v 13), .int 0, .ref (v 14), .ref (v 15), .ref (v 16), .ref (v 17), .ref (v 18), .int 0, .int 0, .int 0, .ref (v 19), .ref (v 20), .ref (v 21), .ref (v 22), .ref (v 23), .int 0, .int 0, .int 0, .int 0])), ((v 13), .inl (cy 5, 2, .inr (.inr (.inr (.inr (fun i => if i < 2 then some ((v 13) + 1 + i) else none)))))), (((v 13) + 1 + 0), .inl (cy 0, 120, .inl (fun _ => 0))), ((v 6), .inl (cy 0, 9, .inl (fun _ => 0))), ((v 7), .inl (cy 0, 9, .inl (fun _ => 0))), ((v 8), .inl (cy 0, 9, .inl (fun _ => 0))), ((v 9), .inl (cy 0, 9, .inl (fun _ => 0))), ((v 14), .inl (cy 0, 4, .inl (fun _ => 0))), ((v 5), .inl (cy 0, 5, .inl (fun _ => 0))), (o, .inl (cy 6, 1, .inr (.inl (fun _ => 0))))] H) (hD : va_D (fun q => s.heap.size ≤ q) [((u 0), .inr (12, [.ref (u 1), .int 0, .int (-1), .ref (u 2), .ref (u 3), .ref (u 4), .ref (u 5), .ref (u 6), .ref (u 7), .ref (u 8), .int 0, .ref (u 9), .ref (u 10), .ref (u 11), .ref (u 12), .ref (u 13), .ref (u 14)])), ((u 9), .inr (10, [.ref (u 73), .int 0, .int 0])), ((u 73), .inr (7, [.ref (u 74), .ref (u 75), .int 0, .int 0, .int 0, .int 0, .int 0, .int 0, .int 0, .int 0])), ((u 74), .inl (cy 0, 9, .inl (fun _ => 0))), ((u 75), .inl (cy 0, 9, .inl (fun _ => 0))), ((u 5), .inr (7, [.ref (u 39), .ref (u 40), .int 0, .int 0, .int 0, .int 0, .int 0, .int 0, .int 0, .int 0])), ((u 39), .inl (cy 0, 9, .inl (fun _ => 0))), ((u 40), .inl (cy 0, 9, .inl (fun _ => 0))), ((u 3), .inr (4, [.ref (u 15), .ref (u 16), .ref (u 17), .ref (u 18), .ref (u 19), .ref (u 20), .ref (u 21), .ref (u 22), .ref (u 23), .ref (u 24), .ref (u 25), .ref (u 26), .int 0, .int 0, .int 0, .int 0, .int 0])), ((v 0), .inr (13, [.int 0, .int 0, .int 0, .int (-1), .int 0, .int 0, .int 0, .int 0, .ref (v 1), .ref (v 2), .ref (v 3), .ref (v 4), .ref (v 5), .ref (v 6), .ref (v 7), .ref (v 8), .ref (v 9), .int 0, .int 0, .int 0, .int 0, .int 0, .int 0, .int 0, .int 0, .int 0, .ref (v 10), .ref (v 11), .ref (v 12), .ref (v 13), .int 0, .ref (v 14), .ref (v 15), .ref (v 16), .ref (v 17), .ref (v 18), .int 0, .int 0, .int 0, .ref (v 19), .ref (v 20), .ref (v 21), .ref (v 22), .ref (v 23), .int 0, .int 0, .int 0, .int 0])), ((v 13), .inl (cy 5, 2, .inr (.inr (.inr (.inr (fun i => if i < 2 then some ((v 13) + 1 + i) else none)))))), (((v 13) + 1 + 0), .inl (cy 0, 120, .inl (fun _ => 0))), ((v 6), .inl (cy 0, 9, .inl (fun _ => 0))), ((v 7), .inl (cy 0, 9, .inl (fun _ => 0))), ((v 8), .inl (cy 0, 9, .inl (fun _ => 0))), ((v 9), .inl (cy 0, 9, .inl (fun _ => 0))), ((v 14), .inl (cy 0, 4, .inl (fun _ => 0))), ((v 5), .inl (cy 0, 5, .inl (fun _ => 0))), (o, .inl (cy 6, 1, .inr (.inl (fun _ => 0))))]) (hS : va_S (fun q => s.heap.size ≤ q) s.heap H locs) (ls : Array Slot) (hl : lv_has ls 7 [(0, .ref b), (1, .ref (u 0)), (2, .ref (v 0)), (3, .ref o), (4, .int 0)]) : W p l e room_1 s m #[Value.ref b] below meth c H locs 179 322202 (lw_Z below #[Value.ref b] s) (F0 m 1023 ls []) := by
  obtain ⟨A, hAe⟩ : ∃ A : Nat → Prop, A = fun q => s.heap.size ≤ q := ⟨_, rfl⟩
  rw [← hAe] at hG hD hS
  have hA : ∀ q, s.heap.size ≤ q → A q := fun q h => by rw [hAe]; exact h
  have hAs : ∀ q, A q → s.heap.size ≤ q := fun q h => by rw [hAe] at h; exact h
  have hbA : ¬ A b := by rw [hAe]; exact Nat.not_le.mpr hbl
  obtain ⟨hx, hb, hml, hown, hts, hr, hlk, hnm⟩ := id E
  have hown : s.vm.findClass RL = some m.cls := hown
  refine lv_aload_n hx hb dL_law_1023 rfl (lv_at hl 1 rfl) ?_
  refine lv_aload_n hx hb dL_law_1024 rfl (lv_at hl 0 rfl) ?_
  refine lv_iload hx hb dL_law_1025 (lv_at hl 4 rfl) ?_
  refine lv_iconst (v := 1) hx hb dL_law_1027 (by decide) ?_
  refine lv_iadd hx hb dL_law_1028 ?_
  refine lv_topi (fun x1 ex1 => ?_)
  obtain rfl : x1 = 1 := ex1.trans (by decide)
  refine va_sld hx hb hX hbl hbA hS (by unfold vp_in; decide) dL_law_1029 ?_
  refine lv_topi (fun x2 ex2 => ?_)
  obtain rfl : x2 = xs 1 := ex2.trans rfl
  refine lv_aload_n hx hb dL_law_1030 rfl (lv_at hl 0 rfl) ?_
  refine lv_iload hx hb dL_law_1031 (lv_at hl 4 rfl) ?_
  refine lv_iconst (v := 2) hx hb dL_law_1033 (by decide) ?_
  refine lv_iadd hx hb dL_law_1034 ?_
  refine lv_topi (fun x3 ex3 => ?_)
  obtain rfl : x3 = 2 := ex3.trans (by decide)
  refine va_sld hx hb hX hbl hbA hS (by unfold vp_in; decide) dL_law_1035 ?_
  refine lv_topi (fun x4 ex4 => ?_)
  obtain rfl : x4 = xs 2 := ex4.trans rfl
  refine lv_aload_n hx hb dL_law_1036 rfl (lv_at hl 0 rfl) ?_
  refine lv_iload hx hb dL_law_1037 (lv_at hl 4 rfl) ?_
  refine lv_iconst (v := 3) hx hb dL_law_1039 (by decide) ?_
  refine lv_iadd hx hb dL_law_1040 ?_
  refine lv_topi (fun x5 ex5 => ?_)
  obtain rfl : x5 = 3 := ex5.trans (by decide)
  refine va_sld hx hb hX hbl hbA hS (by unfold vp_in; decide) dL_law_1041 ?_
  refine lv_topi (fun x6 ex6 => ?_)
  obtain rfl : x6 = xs 3 := ex6.trans rfl
  refine lv_aload_n hx hb dL_law_1042 rfl (lv_at hl 0 rfl) ?_
  refine lv_iload hx hb dL_law_1043 (lv_at hl 4 rfl) ?_
  refine lv_iconst (v := 4) hx hb dL_law_1045 (by decide) ?_
  refine lv_iadd hx hb dL_law_1046 ?_
  refine lv_topi (fun x7 ex7 => ?_)
  obtain rfl : x7 = 4 := ex7.trans (by decide)
  refine va_sld hx hb hX hbl hbA hS (by unfold vp_in; decide) dL_law_1047 ?_
  refine lv_topi (fun x8 ex8 => ?_)
  obtain rfl : x8 = xs 4 := ex8.trans rfl
  refine lv_aload_n hx hb dL_law_1048 rfl (lv_at hl 3 rfl) ?_
  refine x_cali [9, 10, 11, 12, 13, 14, 15, 16, 17] (⟨hP, hD, hG, hS, hA, rfl, rfl⟩ : kAt D cy sa A s H _ _ [((u 0), .inr (12, [.ref (u 1), .int 0, .int (-1), .ref (u 2), .ref (u 3), .ref (u 4), .ref (u 5), .ref (u 6), .ref (u 7), .ref (u 8), .int 0, .ref (u 9), .ref (u 10), .ref (u 11), .ref (u 12), .ref (u 13), .ref (u 14)])), ((u 9), .inr (10, [.ref (u 73), .int 0, .int 0])), ((u 73), .inr (7, [.ref (u 74), .ref (u 75), .int 0, .int 0, .int 0, .int 0, .int 0, .int 0, .int 0, .int 0])), ((u 74), .inl (cy 0, 9, .inl (fun _ => 0))), ((u 75), .inl (cy 0, 9, .inl (fun _ => 0))), ((u 5), .inr (7, [.ref (u 39), .ref (u 40), .int 0, .int 0, .int 0, .int 0, .int 0, .int 0, .int 0, .int 0])), ((u 39), .inl (cy 0, 9, .inl (fun _ => 0))), ((u 40), .inl (cy 0, 9, .inl (fun _ => 0))), ((u 3), .inr (4, [.ref (u 15), .ref (u 16), .ref (u 17), .ref (u 18), .ref (u 19), .ref (u 20), .ref (u 21), .ref (u 22), .ref (u 23), .ref (u 24), .ref (u 25), .ref (u 26), .int 0, .int 0, .int 0, .int 0, .int 0])), (o, .inl (cy 6, 1, .inr (.inl (fun _ => 0))))] [0, 1, 2, 3, 4, 5, 6, 7, 8, 18]) (wr := [((v 0), .inr (13, [.int 0, .int 0, .int 0, .int (-1), .int 0, .int 0, .int 0, .int 0, .ref (v 1), .ref (v 2), .ref (v 3), .ref (v 4), .ref (v 5), .ref (v 6), .ref (v 7), .ref (v 8), .ref (v 9), .int 0, .int 0, .int 0, .int 0, .int 0, .int 0, .int 0, .int 0, .int 0, .ref (v 10), .ref (v 11), .ref (v 12), .ref (v 13), .int 0, .ref (v 14), .ref (v 15), .ref (v 16), .ref (v 17), .ref (v 18), .int 0, .int 0, .int 0, .ref (v 19), .ref (v 20), .ref (v 21), .ref (v 22), .ref (v 23), .int 0, .int 0, .int 0, .int 0])), ((v 13), .inl (cy 5, 2, .inr (.inr (.inr (.inr (fun i => if i < 2 then some ((v 13) + 1 + i) else none)))))), (((v 13) + 1 + 0), .inl (cy 0, 120, .inl (fun _ => 0))), ((v 6), .inl (cy 0, 9, .inl (fun _ => 0))), ((v 7), .inl (cy 0, 9, .inl (fun _ => 0))), ((v 8), .inl (cy 0, 9, .inl (fun _ => 0))), ((v 9), .inl (cy 0, 9, .inl (fun _ => 0))), ((v 14), .inl (cy 0, 4, .inl (fun _ => 0))), ((v 5), .inl (cy 0, 5, .inl (fun _ => 0)))]) rfl rfl (by decide) (x_runW (As := [.ref (u 0), .int (xs 1), .int (xs 2), .int (xs 3), .int (xs 4), .ref o]) (rest := []) E lk_SRL_175 (w_run l hl0 D cy sa u o (xs 1) (xs 2) (xs 3) (xs 4) H.size) (⟨hP, hD, hG, hS, hA, rfl, rfl⟩ : kAt D cy sa A s H _ _ [((u 0), .inr (12, [.ref (u 1), .int 0, .int (-1), .ref (u 2), .ref (u 3), .ref (u 4), .ref (u 5), .ref (u 6), .ref (u 7), .ref (u 8), .int 0, .ref (u 9), .ref (u 10), .ref (u 11), .ref (u 12), .ref (u 13), .ref (u 14)])), ((u 9), .inr (10, [.ref (u 73), .int 0, .int 0])), ((u 73), .inr (7, [.ref (u 74), .ref (u 75), .int 0, .int 0, .int 0, .int 0, .int 0, .int 0, .int 0, .int 0])), ((u 74), .inl (cy 0, 9, .inl (fun _ => 0))), ((u 75), .inl (cy 0, 9, .inl (fun _ => 0))), ((u 5), .inr (7, [.ref (u 39), .ref (u 40), .int 0, .int 0, .int 0, .int 0, .int 0, .int 0, .int 0, .int 0])), ((u 39), .inl (cy 0, 9, .inl (fun _ => 0))), ((u 40), .inl (cy 0, 9, .inl (fun _ => 0))), ((u 3), .inr (4, [.ref (u 15), .ref (u 16), .ref (u 17), .ref (u 18), .ref (u 19), .ref (u 20), .ref (u 21), .ref (u 22), .ref (u 23), .ref (u 24), .ref (u 25), .ref (u 26), .int 0, .int 0, .int 0, .int 0, .int 0])), (o, .inl (cy 6, 1, .inr (.inl (fun _ => 0))))] [0, 1, 2, 3, 4, 5, 6, 7, 8, 18]) hl.1 rfl rfl ⟨rfl, rfl, ⟨Nat.le_of_ble_eq_true rfl, Nat.le_of_ble_eq_true rfl⟩, ⟨Nat.le_of_ble_eq_true rfl, Nat.le_of_ble_eq_true rfl⟩, Nat.le_of_ble_eq_true rfl⟩ dL_law_1049) (fun ce q9 u10 H locs hwu10 hP hD hS h1 h2 h3 => ?_) (fun r9 u10 H locs hwu10 hP hD hS => ?_)
  · have hP : va_P D vwCl [((v 0), .inr (13, [.int 0, .int 0, .int 0, .int (-1), .int 0, .int 0, .int 0, .int 0, .ref (v 1), .ref (v 2), .ref (v 3), .ref (v 4), .ref (v 5), .ref (v 6), .ref (v 7), .ref (v 8), .ref (v 9), .int 0, .int 0, .int 0, .int 0, .int 0, .int 0, .int 0, .int 0, .int 0, .ref (v 10), .ref (v 11), .ref (v 12), .ref (v 13), .int 0, .ref (v 14), .ref (v 15), .ref (v 16), .ref (v 17), .ref (v 18), .int 0, .int 0, .int 0, .ref (v 19), .ref (v 20), .ref (v 21), .ref (v 22), .ref (v 23), .int 0, .int 0, .int 0, .int 0])), ((v 13), .inl (cy 5, 2, .inr (.inr (.inr (.inr (fun i => if i < 2 then some ((v 13) + 1 + i) else none)))))), (((v 13) + 1 + 0), .inl (cy 0, 120, .inl (fun _ => 0))), ((v 6), .inl (cy 0, 9, .inl (fun _ => 0))), ((v 7), .inl (cy 0, 9, .inl (fun _ => 0))), ((v 8), .inl (cy 0, 9, .inl (fun _ => 0))), ((v 9), .inl (cy 0, 9, .inl (fun _ => 0))), ((v 14), .inl (cy 0, 4, .inl (fun _ => 0))), ((v 5), .inl (cy 0, 5, .inl (fun _ => 0)))] H := hP
    have hD : va_D A [((v 0), .inr (13, [.int 0, .int 0, .int 0, .int (-1), .int 0, .int 0, .int 0, .int 0, .ref (v 1), .ref (v 2), .ref (v 3), .ref (v 4), .ref (v 5), .ref (v 6), .ref (v 7), .ref (v 8), .ref (v 9), .int 0, .int 0, .int 0, .int 0, .int 0, .int 0, .int 0, .int 0, .int 0, .ref (v 10), .ref (v 11), .ref (v 12), .ref (v 13), .int 0, .ref (v 14), .ref (v 15), .ref (v 16), .ref (v 17), .ref (v 18), .int 0, .int 0, .int 0, .ref (v 19), .ref (v 20), .ref (v 21), .ref (v 22), .ref (v 23), .int 0, .int 0, .int 0, .int 0])), ((v 13), .inl (cy 5, 2, .inr (.inr (.inr (.inr (fun i => if i < 2 then some ((v 13) + 1 + i) else none)))))), (((v 13) + 1 + 0), .inl (cy 0, 120, .inl (fun _ => 0))), ((v 6), .inl (cy 0, 9, .inl (fun _ => 0))), ((v 7), .inl (cy 0, 9, .inl (fun _ => 0))), ((v 8), .inl (cy 0, 9, .inl (fun _ => 0))), ((v 9), .inl (cy 0, 9, .inl (fun _ => 0))), ((v 14), .inl (cy 0, 4, .inl (fun _ => 0))), ((v 5), .inl (cy 0, 5, .inl (fun _ => 0)))] := hD
    exact (hwu10).elim
  · have hP : va_P D vwCl [((v 0), .inr (13, [.int 0, .int 0, .int 0, .int (-1), .int 0, .int 0, .int 0, .int 0, .ref (v 1), .ref (v 2), .ref (v 3), .ref (v 4), .ref (v 5), .ref (v 6), .ref (v 7), .ref (v 8), .ref (v 9), .int 0, .int 0, .int 0, .int 0, .int 0, .int 0, .int 0, .int 0, .int 0, .ref (v 10), .ref (v 11), .ref (v 12), .ref (v 13), .int 0, .ref (v 14), .ref (v 15), .ref (v 16), .ref (v 17), .ref (v 18), .int 0, .int 0, .int 0, .ref (v 19), .ref (v 20), .ref (v 21), .ref (v 22), .ref (v 23), .int 0, .int 0, .int 0, .int 0])), ((v 13), .inl (cy 5, 2, .inr (.inr (.inr (.inr (fun i => if i < 2 then some ((v 13) + 1 + i) else none)))))), (((v 13) + 1 + 0), .inl (cy 0, 120, .inl (fun _ => 0))), ((v 6), .inl (cy 0, 9, .inl (fun _ => 0))), ((v 7), .inl (cy 0, 9, .inl (fun _ => 0))), ((v 8), .inl (cy 0, 9, .inl (fun _ => 0))), ((v 9), .inl (cy 0, 9, .inl (fun _ => 0))), ((v 14), .inl (cy 0, 4, .inl (fun _ => 0))), ((v 5), .inl (cy 0, 5, .inl (fun _ => 0))), (o, .inl (cy 6, 1, .inr (.inl u10)))] H := hP
    have hD : va_D A [((v 0), .inr (13, [.int 0, .int 0, .int 0, .int (-1), .int 0, .int 0, .int 0, .int 0, .ref (v 1), .ref (v 2), .ref (v 3), .ref (v 4), .ref (v 5), .ref (v 6), .ref (v 7), .ref (v 8), .ref (v 9), .int 0, .int 0, .int 0, .int 0, .int 0, .int 0, .int 0, .int 0, .int 0, .ref (v 10), .ref (v 11), .ref (v 12), .ref (v 13), .int 0, .ref (v 14), .ref (v 15), .ref (v 16), .ref (v 17), .ref (v 18), .int 0, .int 0, .int 0, .ref (v 19), .ref (v 20), .ref (v 21), .ref (v 22), .ref (v 23), .int 0, .int 0, .int 0, .int 0])), ((v 13), .inl (cy 5, 2, .inr (.inr (.inr (.inr (fun i => if i < 2 then some ((v 13) + 1 + i) else none)))))), (((v 13) + 1 + 0), .inl (cy 0, 120, .inl (fun _ => 0))), ((v 6), .inl (cy 0, 9, .inl (fun _ => 0))), ((v 7), .inl (cy 0, 9, .inl (fun _ => 0))), ((v 8), .inl (cy 0, 9, .inl (fun _ => 0))), ((v 9), .inl (cy 0, 9, .inl (fun _ => 0))), ((v 14), .inl (cy 0, 4, .inl (fun _ => 0))), ((v 5), .inl (cy 0, 5, .inl (fun _ => 0))), (o, .inl (cy 6, 1, .inr (.inl u10)))] := hD
    refine lv_istore (lv' := [(5, .int r9), (0, .ref b), (1, .ref (u 0)), (2, .ref (v 0)), (3, .ref o), (4, .int 0)]) hx hb dL_law_1052 hl (by decide) rfl (fun ls hl => ?_)
    refine lv_aload_n hx hb dL_law_1054 rfl (lv_at hl 3 rfl) ?_
    refine lv_aload_n hx hb dL_law_1055 rfl (lv_at hl 1 rfl) ?_
    refine lv_iload hx hb dL_law_1056 (lv_at hl 5 rfl) ?_
    refine lv_iconst (v := 1) hx hb dL_law_1058 (by decide) ?_
    refine lv_iadd hx hb dL_law_1059 ?_
    refine lv_topi (fun x11 ex11 => ?_)
    obtain rfl : x11 = 1 := ex11.trans (by decide)
    refine va_sld hx hb hX hbl hbA hS (by unfold vp_in; decide) dL_law_1060 ?_
    refine lv_topi (fun x12 ex12 => ?_)
    obtain rfl : x12 = xs 1 := ex12.trans rfl
    refine lv_aload_n hx hb dL_law_1061 rfl (lv_at hl 1 rfl) ?_
    refine lv_iload hx hb dL_law_1062 (lv_at hl 5 rfl) ?_
    refine lv_iconst (v := 2) hx hb dL_law_1064 (by decide) ?_
    refine lv_iadd hx hb dL_law_1065 ?_
    refine lv_topi (fun x13 ex13 => ?_)
    obtain rfl : x13 = 2 := ex13.trans (by decide)
    refine va_sld hx hb hX hbl hbA hS (by unfold vp_in; decide) dL_law_1066 ?_
    refine lv_topi (fun x14 ex14 => ?_)
    obtain rfl : x14 = xs 2 := ex14.trans rfl
    refine lv_aload_n hx hb dL_law_1067 rfl (lv_at hl 1 rfl) ?_
    refine lv_iload hx hb dL_law_1068 (lv_at hl 5 rfl) ?_
    refine lv_iconst (v := 3) hx hb dL_law_1070 (by decide) ?_
    refine lv_iadd hx hb dL_law_1071 ?_
    refine lv_topi (fun x15 ex15 => ?_)
    obtain rfl : x15 = 3 := ex15.trans (by decide)
    refine va_sld hx hb hX hbl hbA hS (by unfold vp_in; decide) dL_law_1072 ?_
    refine lv_topi (fun x16 ex16 => ?_)
    obtain rfl : x16 = xs 3 := ex16.trans rfl
    refine lv_aload_n hx hb dL_law_1073 rfl (lv_at hl 1 rfl) ?_
    refine lv_iload hx hb dL_law_1074 (lv_at hl 5 rfl) ?_
    refine lv_iconst (v := 4) hx hb dL_law_1076 (by decide) ?_
    refine lv_iadd hx hb dL_law_1077 ?_
    refine lv_topi (fun x17 ex17 => ?_)
    obtain rfl : x17 = 4 := ex17.trans (by decide)
    refine va_sld hx hb hX hbl hbA hS (by unfold vp_in; decide) dL_law_1078 ?_
    refine lv_topi (fun x18 ex18 => ?_)
    obtain rfl : x18 = xs 4 := ex18.trans rfl
    refine k_cali [9] (⟨hP, hD, hG, hS, hA, rfl, rfl⟩ : kAt D cy sa A s H _ _ [((v 0), .inr (13, [.int 0, .int 0, .int 0, .int (-1), .int 0, .int 0, .int 0, .int 0, .ref (v 1), .ref (v 2), .ref (v 3), .ref (v 4), .ref (v 5), .ref (v 6), .ref (v 7), .ref (v 8), .ref (v 9), .int 0, .int 0, .int 0, .int 0, .int 0, .int 0, .int 0, .int 0, .int 0, .ref (v 10), .ref (v 11), .ref (v 12), .ref (v 13), .int 0, .ref (v 14), .ref (v 15), .ref (v 16), .ref (v 17), .ref (v 18), .int 0, .int 0, .int 0, .ref (v 19), .ref (v 20), .ref (v 21), .ref (v 22), .ref (v 23), .int 0, .int 0, .int 0, .int 0])), ((v 13), .inl (cy 5, 2, .inr (.inr (.inr (.inr (fun i => if i < 2 then some ((v 13) + 1 + i) else none)))))), (((v 13) + 1 + 0), .inl (cy 0, 120, .inl (fun _ => 0))), ((v 6), .inl (cy 0, 9, .inl (fun _ => 0))), ((v 7), .inl (cy 0, 9, .inl (fun _ => 0))), ((v 8), .inl (cy 0, 9, .inl (fun _ => 0))), ((v 9), .inl (cy 0, 9, .inl (fun _ => 0))), ((v 14), .inl (cy 0, 4, .inl (fun _ => 0))), ((v 5), .inl (cy 0, 5, .inl (fun _ => 0)))] [0, 1, 2, 3, 4, 5, 6, 7, 8]) (wr := [(o, .inl (cy 6, 1, .inr (.inl u10)))]) rfl rfl (by decide) (k_runV 13 0 (As := [.int (xs 1), .int (xs 2), .int (xs 3), .int (xs 4)]) (rest := []) E lk_VRL_178 rfl rfl rfl (m_run_ l hl0 D cy sa v (xs 1) (xs 2) (xs 3) (xs 4) H.size) (⟨hP, hD, hG, hS, hA, rfl, rfl⟩ : kAt D cy sa A s H _ _ [((v 0), .inr (13, [.int 0, .int 0, .int 0, .int (-1), .int 0, .int 0, .int 0, .int 0, .ref (v 1), .ref (v 2), .ref (v 3), .ref (v 4), .ref (v 5), .ref (v 6), .ref (v 7), .ref (v 8), .ref (v 9), .int 0, .int 0, .int 0, .int 0, .int 0, .int 0, .int 0, .int 0, .int 0, .ref (v 10), .ref (v 11), .ref (v 12), .ref (v 13), .int 0, .ref (v 14), .ref (v 15), .ref (v 16), .ref (v 17), .ref (v 18), .int 0, .int 0, .int 0, .ref (v 19), .ref (v 20), .ref (v 21), .ref (v 22), .ref (v 23), .int 0, .int 0, .int 0, .int 0])), ((v 13), .inl (cy 5, 2, .inr (.inr (.inr (.inr (fun i => if i < 2 then some ((v 13) + 1 + i) else none)))))), (((v 13) + 1 + 0), .inl (cy 0, 120, .inl (fun _ => 0))), ((v 6), .inl (cy 0, 9, .inl (fun _ => 0))), ((v 7), .inl (cy 0, 9, .inl (fun _ => 0))), ((v 8), .inl (cy 0, 9, .inl (fun _ => 0))), ((v 9), .inl (cy 0, 9, .inl (fun _ => 0))), ((v 14), .inl (cy 0, 4, .inl (fun _ => 0))), ((v 5), .inl (cy 0, 5, .inl (fun _ => 0)))] [0, 1, 2, 3, 4, 5, 6, 7, 8]) hl.1 rfl rfl ⟨rfl, rfl, ⟨Nat.le_of_ble_eq_true rfl, Nat.le_of_ble_eq_true rfl⟩, ⟨Nat.le_of_ble_eq_true rfl, Nat.le_of_ble_eq_true rfl⟩, Nat.le_of_ble_eq_true rfl⟩ dL_law_1079) (fun r19 u20 H locs hwu20 hP hD hS => ?_)
    have hP : va_P D vwCl [(o, .inl (cy 6, 1, .inr (.inl u10))), ((v 0), .inr (13, .int u20.1 :: u20.2))] H := hP
    have hD : va_D A [(o, .inl (cy 6, 1, .inr (.inl u10))), ((v 0), .inr (13, .int u20.1 :: u20.2))] := hD
    refine lv_istore (lv' := [(6, .int r19), (5, .int r9), (0, .ref b), (1, .ref (u 0)), (2, .ref (v 0)), (3, .ref o), (4, .int 0)]) hx hb dL_law_1082 hl (by decide) rfl (fun ls hl => ?_)
    refine lv_aload_n hx hb dL_law_1084 rfl (lv_at hl 4 rfl) ?_
    refine k_cali [0] (⟨hP, hD, hG, hS, hA, rfl, rfl⟩ : kAt D cy sa A s H _ _ [((v 0), .inr (13, .int u20.1 :: u20.2))] [1]) (wr := [(o, .inl (cy 6, 1, .inr (.inl u10)))]) rfl rfl (by decide) (k_runV 13 1 (As := []) (rest := []) E lk_VRL_127 rfl rfl rfl (m_thrown l hl0 D cy sa v u20.1 u20.2 H.size) (⟨hP, hD, hG, hS, hA, rfl, rfl⟩ : kAt D cy sa A s H _ _ [((v 0), .inr (13, .int u20.1 :: u20.2))] [1]) hl.1 rfl rfl ⟨rfl, rfl, ⟨Nat.le_of_ble_eq_true rfl, Nat.le_of_ble_eq_true rfl⟩, ⟨Nat.le_of_ble_eq_true rfl, Nat.le_of_ble_eq_true rfl⟩, Nat.le_of_ble_eq_true rfl⟩ dL_law_1085) (fun r21 u22 H locs hwu22 hP hD hS => ?_)
    have hP : va_P D vwCl [(o, .inl (cy 6, 1, .inr (.inl u10)))] H := hP
    have hD : va_D A [(o, .inl (cy 6, 1, .inr (.inl u10)))] := hD
    rcases hwu10 with ⟨rfl, x9, hx9, hf9⟩ | ⟨rfl, hpx⟩
    · obtain ⟨ht9, hr9⟩ := hwu20.1 (hx9.1)
      obtain rfl : r21 = 0 := hwu22.trans ht9
      have heq : x9 = r19 := hx9.2.trans hr9.symm
      refine lv_iload hx hb dL_law_1088 (lv_at hl 1 rfl) ?_
      refine lv_icmp_eq (tgt := 1095) hx hb dL_law_1090 (by decide) (fun _ => ?_) (fun h => absurd (by decide) h)
      refine lv_iload hx hb dL_law_1095 (lv_at hl 1 rfl) ?_
      refine lv_if_ne (tgt := 1112) hx hb dL_law_1097 (by decide) (fun h => absurd (by decide) h) (fun _ => ?_)
      refine lv_aload_n hx hb dL_law_1100 rfl (lv_at hl 5 rfl) ?_
      refine lv_iconst (v := 0) hx hb dL_law_1101 (by decide) ?_
      refine va_lald hx hb hG.1 hP 0 6 rfl rfl (by unfold vp_in; decide) dL_law_1102 ?_
      refine W.eq (g2 := F0 m 1103 ls [.long (u10 0)]) rfl ?_
      refine lv_iload hx hb dL_law_1103 (lv_at hl 0 rfl) ?_
      refine lv_i2l (v := (r19 : Int32).toInt64) hx hb dL_law_1105 rfl ?_
      refine W.lcmp hx hb dL_law_1106 ?_
      refine lv_topi (fun x23 ex23 => ?_)
      obtain rfl : x23 = 0 := ex23.trans (by rw [hf9, heq]; exact k_cmp _)
      refine lv_if_eq (tgt := 1112) hx hb dL_law_1107 (by decide) (fun _ => ?_) (fun h => absurd (by decide) h)
      refine lv_goto (tgt := 2418) hx hb dL_law_1112 (by decide) ?_
      refine lv_iinc (v := 6) (lv' := [(4, .int 6), (6, .int r19), (5, .int 0), (0, .ref b), (1, .ref (u 0)), (2, .ref (v 0)), (3, .ref o)]) hx hb dL_law_2418 hl (k := 6) rfl (by decide) (by decide) rfl (fun ls hl => ?_)
      refine lv_goto (tgt := 23) hx hb dL_law_2421 (by decide) ?_
      exact law_exit E hX hbl hbA hAs hS (i := 6) (by decide) (lv_at hl 3 rfl) (lv_at hl 0 rfl) (by decide) (by decide)
    · obtain rfl : r21 = 1 := hwu22.trans (hwu20.2 (fun h => absurd h hpx))
      refine lv_iload hx hb dL_law_1088 (lv_at hl 1 rfl) ?_
      refine lv_icmp_eq (tgt := 1095) hx hb dL_law_1090 (by decide) (fun _ => ?_) (fun h => absurd (by decide) h)
      refine lv_iload hx hb dL_law_1095 (lv_at hl 1 rfl) ?_
      refine lv_if_ne (tgt := 1112) hx hb dL_law_1097 (by decide) (fun _ => ?_) (fun h => absurd h (by decide))
      refine lv_goto (tgt := 2418) hx hb dL_law_1112 (by decide) ?_
      refine lv_iinc (v := 6) (lv' := [(4, .int 6), (6, .int r19), (5, .int 1), (0, .ref b), (1, .ref (u 0)), (2, .ref (v 0)), (3, .ref o)]) hx hb dL_law_2418 hl (k := 6) rfl (by decide) (by decide) rfl (fun ls hl => ?_)
      refine lv_goto (tgt := 23) hx hb dL_law_2421 (by decide) ?_
      exact law_exit E hX hbl hbA hAs hS (i := 6) (by decide) (lv_at hl 3 rfl) (lv_at hl 0 rfl) (by decide) (by decide)

set_option maxHeartbeats 4000000 in
set_option maxRecDepth 100000 in
/-- the law: best -/
theorem law_case_16 {p : Program} {l : Launch} {e : Env} {s : State} {m : MethodId} {below : List Frame} {meth : Method} {c : Code} {D : va_G} {cy : Nat → ClassId} {sa : Nat → Nat} {b : Nat} {xs : Nat → Int32} (hl0 : l.stackTraces = false) (E : kE yL_law cL_law 7 (some .boolean) #[Value.ref b] p s m meth c) (hX : va_X b 6 xs s s.heap) (hbl : b < s.heap.size) (hG : kG D cy sa (fun q => s.heap.size ≤ q) s) (u v : Nat → Nat) (o : Nat) (H : Heap) (locs : List Loc) (hP : va_P D vwCl [((u 0), .inr (12, [.ref (u 1), .int 0, .int (-1), .ref (u 2), .ref (u 3), .ref (u 4), .ref (u 5), .ref (u 6), .ref (u 7), .ref (u 8), .int 0, .ref (u 9), .ref (u 10), .ref (u 11), .ref (u 12), .ref (u 13), .ref (u 14)])), ((u 3), .inr (4, [.ref (u 15), .ref (u 16), .ref (u 17), .ref (u 18), .ref (u 19), .ref (u 20), .ref (u 21), .ref (u 22), .ref (u 23), .ref (u 24), .ref (u 25), .ref (u 26), .int 0, .int 0, .int 0, .int 0, .int 0])), ((v 0), .inr (13, [.int 0, .int 0, .int 0, .int (-1), .int 0, .int 0, .int 0, .int 0, .ref (v 1), .ref (v 2), .ref (v 3), .ref (v 4), .ref (v 5), .ref (v 6), .ref (v 7), .ref (v 8), .ref (v 9), .int 0, .int 0, .int 0, .int 0, .int 0, .int 0, .int 0, .int 0, .int 0, .ref (v 10), .ref (v 11), .ref (v 12), .ref (v 13), .int 0, .ref (v 14), .ref (v 15), .ref (v 16), .ref (v 17), .ref (v 18), .int 0, .int 0, .int 0, .ref (v 19), .ref (v 20), .ref (v 21), .ref (v 22), .ref (v 23), .int 0, .int 0, .int 0, .int 0])), ((v 5), .inl (cy 0, 5, .inl (fun _ => 0))), (o, .inl (cy 6, 1, .inr (.inl (fun _ => 0))))] H) (hD : va_D (fun q => s.heap.size ≤ q) [((u 0), .inr (12, [.ref (u 1), .int 0, .int (-1), .ref (u 2), .ref (u 3), .ref (u 4), .ref (u 5), .ref (u 6), .ref (u 7), .ref (u 8), .int 0, .ref (u 9), .ref (u 10), .ref (u 11), .ref (u 12), .ref (u 13), .ref (u 14)])), ((u 3), .inr (4, [.ref (u 15), .ref (u 16), .ref (u 17), .ref (u 18), .ref (u 19), .ref (u 20), .ref (u 21), .ref (u 22), .ref (u 23), .ref (u 24), .ref (u 25), .ref (u 26), .int 0, .int 0, .int 0, .int 0, .int 0])), ((v 0), .inr (13, [.int 0, .int 0, .int 0, .int (-1), .int 0, .int 0, .int 0, .int 0, .ref (v 1), .ref (v 2), .ref (v 3), .ref (v 4), .ref (v 5), .ref (v 6), .ref (v 7), .ref (v 8), .ref (v 9), .int 0, .int 0, .int 0, .int 0, .int 0, .int 0, .int 0, .int 0, .int 0, .ref (v 10), .ref (v 11), .ref (v 12), .ref (v 13), .int 0, .ref (v 14), .ref (v 15), .ref (v 16), .ref (v 17), .ref (v 18), .int 0, .int 0, .int 0, .ref (v 19), .ref (v 20), .ref (v 21), .ref (v 22), .ref (v 23), .int 0, .int 0, .int 0, .int 0])), ((v 5), .inl (cy 0, 5, .inl (fun _ => 0))), (o, .inl (cy 6, 1, .inr (.inl (fun _ => 0))))]) (hS : va_S (fun q => s.heap.size ≤ q) s.heap H locs) (ls : Array Slot) (hl : lv_has ls 7 [(0, .ref b), (1, .ref (u 0)), (2, .ref (v 0)), (3, .ref o), (4, .int 0)]) : W p l e room_1 s m #[Value.ref b] below meth c H locs 179 322202 (lw_Z below #[Value.ref b] s) (F0 m 1115 ls []) := by
  obtain ⟨A, hAe⟩ : ∃ A : Nat → Prop, A = fun q => s.heap.size ≤ q := ⟨_, rfl⟩
  rw [← hAe] at hG hD hS
  have hA : ∀ q, s.heap.size ≤ q → A q := fun q h => by rw [hAe]; exact h
  have hAs : ∀ q, A q → s.heap.size ≤ q := fun q h => by rw [hAe] at h; exact h
  have hbA : ¬ A b := by rw [hAe]; exact Nat.not_le.mpr hbl
  obtain ⟨hx, hb, hml, hown, hts, hr, hlk, hnm⟩ := id E
  have hown : s.vm.findClass RL = some m.cls := hown
  refine lv_aload_n hx hb dL_law_1115 rfl (lv_at hl 1 rfl) ?_
  refine lv_aload_n hx hb dL_law_1116 rfl (lv_at hl 0 rfl) ?_
  refine lv_iload hx hb dL_law_1117 (lv_at hl 4 rfl) ?_
  refine lv_iconst (v := 1) hx hb dL_law_1119 (by decide) ?_
  refine lv_iadd hx hb dL_law_1120 ?_
  refine lv_topi (fun x1 ex1 => ?_)
  obtain rfl : x1 = 1 := ex1.trans (by decide)
  refine va_sld hx hb hX hbl hbA hS (by unfold vp_in; decide) dL_law_1121 ?_
  refine lv_topi (fun x2 ex2 => ?_)
  obtain rfl : x2 = xs 1 := ex2.trans rfl
  refine lv_aload_n hx hb dL_law_1122 rfl (lv_at hl 3 rfl) ?_
  refine x_cali [2, 3] (⟨hP, hD, hG, hS, hA, rfl, rfl⟩ : kAt D cy sa A s H _ _ [((u 0), .inr (12, [.ref (u 1), .int 0, .int (-1), .ref (u 2), .ref (u 3), .ref (u 4), .ref (u 5), .ref (u 6), .ref (u 7), .ref (u 8), .int 0, .ref (u 9), .ref (u 10), .ref (u 11), .ref (u 12), .ref (u 13), .ref (u 14)])), ((u 3), .inr (4, [.ref (u 15), .ref (u 16), .ref (u 17), .ref (u 18), .ref (u 19), .ref (u 20), .ref (u 21), .ref (u 22), .ref (u 23), .ref (u 24), .ref (u 25), .ref (u 26), .int 0, .int 0, .int 0, .int 0, .int 0])), (o, .inl (cy 6, 1, .inr (.inl (fun _ => 0))))] [0, 1, 4]) (wr := [((v 0), .inr (13, [.int 0, .int 0, .int 0, .int (-1), .int 0, .int 0, .int 0, .int 0, .ref (v 1), .ref (v 2), .ref (v 3), .ref (v 4), .ref (v 5), .ref (v 6), .ref (v 7), .ref (v 8), .ref (v 9), .int 0, .int 0, .int 0, .int 0, .int 0, .int 0, .int 0, .int 0, .int 0, .ref (v 10), .ref (v 11), .ref (v 12), .ref (v 13), .int 0, .ref (v 14), .ref (v 15), .ref (v 16), .ref (v 17), .ref (v 18), .int 0, .int 0, .int 0, .ref (v 19), .ref (v 20), .ref (v 21), .ref (v 22), .ref (v 23), .int 0, .int 0, .int 0, .int 0])), ((v 5), .inl (cy 0, 5, .inl (fun _ => 0)))]) rfl rfl (by decide) (x_runW (As := [.ref (u 0), .int (xs 1), .ref o]) (rest := []) E lk_SRL_179 (w_best l hl0 D cy sa u o (xs 1) H.size) (⟨hP, hD, hG, hS, hA, rfl, rfl⟩ : kAt D cy sa A s H _ _ [((u 0), .inr (12, [.ref (u 1), .int 0, .int (-1), .ref (u 2), .ref (u 3), .ref (u 4), .ref (u 5), .ref (u 6), .ref (u 7), .ref (u 8), .int 0, .ref (u 9), .ref (u 10), .ref (u 11), .ref (u 12), .ref (u 13), .ref (u 14)])), ((u 3), .inr (4, [.ref (u 15), .ref (u 16), .ref (u 17), .ref (u 18), .ref (u 19), .ref (u 20), .ref (u 21), .ref (u 22), .ref (u 23), .ref (u 24), .ref (u 25), .ref (u 26), .int 0, .int 0, .int 0, .int 0, .int 0])), (o, .inl (cy 6, 1, .inr (.inl (fun _ => 0))))] [0, 1, 4]) hl.1 rfl rfl ⟨rfl, rfl, ⟨Nat.le_of_ble_eq_true rfl, Nat.le_of_ble_eq_true rfl⟩, ⟨Nat.le_of_ble_eq_true rfl, Nat.le_of_ble_eq_true rfl⟩, Nat.le_of_ble_eq_true rfl⟩ dL_law_1123) (fun ce q9 u4 H locs hwu4 hP hD hS h1 h2 h3 => ?_) (fun r3 u4 H locs hwu4 hP hD hS => ?_)
  · have hP : va_P D vwCl [((v 0), .inr (13, [.int 0, .int 0, .int 0, .int (-1), .int 0, .int 0, .int 0, .int 0, .ref (v 1), .ref (v 2), .ref (v 3), .ref (v 4), .ref (v 5), .ref (v 6), .ref (v 7), .ref (v 8), .ref (v 9), .int 0, .int 0, .int 0, .int 0, .int 0, .int 0, .int 0, .int 0, .int 0, .ref (v 10), .ref (v 11), .ref (v 12), .ref (v 13), .int 0, .ref (v 14), .ref (v 15), .ref (v 16), .ref (v 17), .ref (v 18), .int 0, .int 0, .int 0, .ref (v 19), .ref (v 20), .ref (v 21), .ref (v 22), .ref (v 23), .int 0, .int 0, .int 0, .int 0])), ((v 5), .inl (cy 0, 5, .inl (fun _ => 0)))] H := hP
    have hD : va_D A [((v 0), .inr (13, [.int 0, .int 0, .int 0, .int (-1), .int 0, .int 0, .int 0, .int 0, .ref (v 1), .ref (v 2), .ref (v 3), .ref (v 4), .ref (v 5), .ref (v 6), .ref (v 7), .ref (v 8), .ref (v 9), .int 0, .int 0, .int 0, .int 0, .int 0, .int 0, .int 0, .int 0, .int 0, .ref (v 10), .ref (v 11), .ref (v 12), .ref (v 13), .int 0, .ref (v 14), .ref (v 15), .ref (v 16), .ref (v 17), .ref (v 18), .int 0, .int 0, .int 0, .ref (v 19), .ref (v 20), .ref (v 21), .ref (v 22), .ref (v 23), .int 0, .int 0, .int 0, .int 0])), ((v 5), .inl (cy 0, 5, .inl (fun _ => 0)))] := hD
    exact (hwu4).elim
  · have hP : va_P D vwCl [((v 0), .inr (13, [.int 0, .int 0, .int 0, .int (-1), .int 0, .int 0, .int 0, .int 0, .ref (v 1), .ref (v 2), .ref (v 3), .ref (v 4), .ref (v 5), .ref (v 6), .ref (v 7), .ref (v 8), .ref (v 9), .int 0, .int 0, .int 0, .int 0, .int 0, .int 0, .int 0, .int 0, .int 0, .ref (v 10), .ref (v 11), .ref (v 12), .ref (v 13), .int 0, .ref (v 14), .ref (v 15), .ref (v 16), .ref (v 17), .ref (v 18), .int 0, .int 0, .int 0, .ref (v 19), .ref (v 20), .ref (v 21), .ref (v 22), .ref (v 23), .int 0, .int 0, .int 0, .int 0])), ((v 5), .inl (cy 0, 5, .inl (fun _ => 0))), (o, .inl (cy 6, 1, .inr (.inl u4)))] H := hP
    have hD : va_D A [((v 0), .inr (13, [.int 0, .int 0, .int 0, .int (-1), .int 0, .int 0, .int 0, .int 0, .ref (v 1), .ref (v 2), .ref (v 3), .ref (v 4), .ref (v 5), .ref (v 6), .ref (v 7), .ref (v 8), .ref (v 9), .int 0, .int 0, .int 0, .int 0, .int 0, .int 0, .int 0, .int 0, .int 0, .ref (v 10), .ref (v 11), .ref (v 12), .ref (v 13), .int 0, .ref (v 14), .ref (v 15), .ref (v 16), .ref (v 17), .ref (v 18), .int 0, .int 0, .int 0, .ref (v 19), .ref (v 20), .ref (v 21), .ref (v 22), .ref (v 23), .int 0, .int 0, .int 0, .int 0])), ((v 5), .inl (cy 0, 5, .inl (fun _ => 0))), (o, .inl (cy 6, 1, .inr (.inl u4)))] := hD
    refine lv_istore (lv' := [(5, .int r3), (0, .ref b), (1, .ref (u 0)), (2, .ref (v 0)), (3, .ref o), (4, .int 0)]) hx hb dL_law_1126 hl (by decide) rfl (fun ls hl => ?_)
    refine lv_aload_n hx hb dL_law_1128 rfl (lv_at hl 3 rfl) ?_
    refine lv_aload_n hx hb dL_law_1129 rfl (lv_at hl 1 rfl) ?_
    refine lv_iload hx hb dL_law_1130 (lv_at hl 5 rfl) ?_
    refine lv_iconst (v := 1) hx hb dL_law_1132 (by decide) ?_
    refine lv_iadd hx hb dL_law_1133 ?_
    refine lv_topi (fun x5 ex5 => ?_)
    obtain rfl : x5 = 1 := ex5.trans (by decide)
    refine va_sld hx hb hX hbl hbA hS (by unfold vp_in; decide) dL_law_1134 ?_
    refine lv_topi (fun x6 ex6 => ?_)
    obtain rfl : x6 = xs 1 := ex6.trans rfl
    refine k_cali [2] (⟨hP, hD, hG, hS, hA, rfl, rfl⟩ : kAt D cy sa A s H _ _ [((v 0), .inr (13, [.int 0, .int 0, .int 0, .int (-1), .int 0, .int 0, .int 0, .int 0, .ref (v 1), .ref (v 2), .ref (v 3), .ref (v 4), .ref (v 5), .ref (v 6), .ref (v 7), .ref (v 8), .ref (v 9), .int 0, .int 0, .int 0, .int 0, .int 0, .int 0, .int 0, .int 0, .int 0, .ref (v 10), .ref (v 11), .ref (v 12), .ref (v 13), .int 0, .ref (v 14), .ref (v 15), .ref (v 16), .ref (v 17), .ref (v 18), .int 0, .int 0, .int 0, .ref (v 19), .ref (v 20), .ref (v 21), .ref (v 22), .ref (v 23), .int 0, .int 0, .int 0, .int 0])), ((v 5), .inl (cy 0, 5, .inl (fun _ => 0)))] [0, 1]) (wr := [(o, .inl (cy 6, 1, .inr (.inl u4)))]) rfl rfl (by decide) (k_runV 13 0 (As := [.int (xs 1)]) (rest := []) E lk_VRL_181 rfl rfl rfl (m_best_ l hl0 D cy sa v (xs 1) H.size) (⟨hP, hD, hG, hS, hA, rfl, rfl⟩ : kAt D cy sa A s H _ _ [((v 0), .inr (13, [.int 0, .int 0, .int 0, .int (-1), .int 0, .int 0, .int 0, .int 0, .ref (v 1), .ref (v 2), .ref (v 3), .ref (v 4), .ref (v 5), .ref (v 6), .ref (v 7), .ref (v 8), .ref (v 9), .int 0, .int 0, .int 0, .int 0, .int 0, .int 0, .int 0, .int 0, .int 0, .ref (v 10), .ref (v 11), .ref (v 12), .ref (v 13), .int 0, .ref (v 14), .ref (v 15), .ref (v 16), .ref (v 17), .ref (v 18), .int 0, .int 0, .int 0, .ref (v 19), .ref (v 20), .ref (v 21), .ref (v 22), .ref (v 23), .int 0, .int 0, .int 0, .int 0])), ((v 5), .inl (cy 0, 5, .inl (fun _ => 0)))] [0, 1]) hl.1 rfl rfl ⟨rfl, rfl, ⟨Nat.le_of_ble_eq_true rfl, Nat.le_of_ble_eq_true rfl⟩, ⟨Nat.le_of_ble_eq_true rfl, Nat.le_of_ble_eq_true rfl⟩, Nat.le_of_ble_eq_true rfl⟩ dL_law_1135) (fun r7 u8 H locs hwu8 hP hD hS => ?_)
    have hP : va_P D vwCl [(o, .inl (cy 6, 1, .inr (.inl u4))), ((v 0), .inr (13, .int u8.1 :: u8.2))] H := hP
    have hD : va_D A [(o, .inl (cy 6, 1, .inr (.inl u4))), ((v 0), .inr (13, .int u8.1 :: u8.2))] := hD
    refine lv_istore (lv' := [(6, .int r7), (5, .int r3), (0, .ref b), (1, .ref (u 0)), (2, .ref (v 0)), (3, .ref o), (4, .int 0)]) hx hb dL_law_1138 hl (by decide) rfl (fun ls hl => ?_)
    refine lv_aload_n hx hb dL_law_1140 rfl (lv_at hl 4 rfl) ?_
    refine k_cali [0] (⟨hP, hD, hG, hS, hA, rfl, rfl⟩ : kAt D cy sa A s H _ _ [((v 0), .inr (13, .int u8.1 :: u8.2))] [1]) (wr := [(o, .inl (cy 6, 1, .inr (.inl u4)))]) rfl rfl (by decide) (k_runV 13 1 (As := []) (rest := []) E lk_VRL_127 rfl rfl rfl (m_thrown l hl0 D cy sa v u8.1 u8.2 H.size) (⟨hP, hD, hG, hS, hA, rfl, rfl⟩ : kAt D cy sa A s H _ _ [((v 0), .inr (13, .int u8.1 :: u8.2))] [1]) hl.1 rfl rfl ⟨rfl, rfl, ⟨Nat.le_of_ble_eq_true rfl, Nat.le_of_ble_eq_true rfl⟩, ⟨Nat.le_of_ble_eq_true rfl, Nat.le_of_ble_eq_true rfl⟩, Nat.le_of_ble_eq_true rfl⟩ dL_law_1141) (fun r9 u10 H locs hwu10 hP hD hS => ?_)
    have hP : va_P D vwCl [(o, .inl (cy 6, 1, .inr (.inl u4)))] H := hP
    have hD : va_D A [(o, .inl (cy 6, 1, .inr (.inl u4)))] := hD
    rcases hwu4 with ⟨rfl, x9, hx9, hf9⟩ | ⟨rfl, hpx⟩
    · obtain ⟨ht9, hr9⟩ := hwu8.1 (hx9.1)
      obtain rfl : r9 = 0 := hwu10.trans ht9
      have heq : x9 = r7 := hx9.2.trans hr9.symm
      refine lv_iload hx hb dL_law_1144 (lv_at hl 1 rfl) ?_
      refine lv_icmp_eq (tgt := 1151) hx hb dL_law_1146 (by decide) (fun _ => ?_) (fun h => absurd (by decide) h)
      refine lv_iload hx hb dL_law_1151 (lv_at hl 1 rfl) ?_
      refine lv_if_ne (tgt := 1168) hx hb dL_law_1153 (by decide) (fun h => absurd (by decide) h) (fun _ => ?_)
      refine lv_aload_n hx hb dL_law_1156 rfl (lv_at hl 5 rfl) ?_
      refine lv_iconst (v := 0) hx hb dL_law_1157 (by decide) ?_
      refine va_lald hx hb hG.1 hP 0 6 rfl rfl (by unfold vp_in; decide) dL_law_1158 ?_
      refine W.eq (g2 := F0 m 1159 ls [.long (u4 0)]) rfl ?_
      refine lv_iload hx hb dL_law_1159 (lv_at hl 0 rfl) ?_
      refine lv_i2l (v := (r7 : Int32).toInt64) hx hb dL_law_1161 rfl ?_
      refine W.lcmp hx hb dL_law_1162 ?_
      refine lv_topi (fun x11 ex11 => ?_)
      obtain rfl : x11 = 0 := ex11.trans (by rw [hf9, heq]; exact k_cmp _)
      refine lv_if_eq (tgt := 1168) hx hb dL_law_1163 (by decide) (fun _ => ?_) (fun h => absurd (by decide) h)
      refine lv_goto (tgt := 2418) hx hb dL_law_1168 (by decide) ?_
      refine lv_iinc (v := 6) (lv' := [(4, .int 6), (6, .int r7), (5, .int 0), (0, .ref b), (1, .ref (u 0)), (2, .ref (v 0)), (3, .ref o)]) hx hb dL_law_2418 hl (k := 6) rfl (by decide) (by decide) rfl (fun ls hl => ?_)
      refine lv_goto (tgt := 23) hx hb dL_law_2421 (by decide) ?_
      exact law_exit E hX hbl hbA hAs hS (i := 6) (by decide) (lv_at hl 3 rfl) (lv_at hl 0 rfl) (by decide) (by decide)
    · obtain rfl : r9 = 1 := hwu10.trans (hwu8.2 (fun h => absurd h hpx))
      refine lv_iload hx hb dL_law_1144 (lv_at hl 1 rfl) ?_
      refine lv_icmp_eq (tgt := 1151) hx hb dL_law_1146 (by decide) (fun _ => ?_) (fun h => absurd (by decide) h)
      refine lv_iload hx hb dL_law_1151 (lv_at hl 1 rfl) ?_
      refine lv_if_ne (tgt := 1168) hx hb dL_law_1153 (by decide) (fun _ => ?_) (fun h => absurd h (by decide))
      refine lv_goto (tgt := 2418) hx hb dL_law_1168 (by decide) ?_
      refine lv_iinc (v := 6) (lv' := [(4, .int 6), (6, .int r7), (5, .int 1), (0, .ref b), (1, .ref (u 0)), (2, .ref (v 0)), (3, .ref o)]) hx hb dL_law_2418 hl (k := 6) rfl (by decide) (by decide) rfl (fun ls hl => ?_)
      refine lv_goto (tgt := 23) hx hb dL_law_2421 (by decide) ?_
      exact law_exit E hX hbl hbA hAs hS (i := 6) (by decide) (lv_at hl 3 rfl) (lv_at hl 0 rfl) (by decide) (by decide)

set_option maxHeartbeats 4000000 in
set_option maxRecDepth 100000 in
/-- the law: often -/
theorem law_case_17 {p : Program} {l : Launch} {e : Env} {s : State} {m : MethodId} {below : List Frame} {meth : Method} {c : Code} {D : va_G} {cy : Nat → ClassId} {sa : Nat → Nat} {b : Nat} {xs : Nat → Int32} (hl0 : l.stackTraces = false) (E : kE yL_law cL_law 7 (some .boolean) #[Value.ref b] p s m meth c) (hX : va_X b 6 xs s s.heap) (hbl : b < s.heap.size) (hG : kG D cy sa (fun q => s.heap.size ≤ q) s) (u v : Nat → Nat) (o : Nat) (H : Heap) (locs : List Loc) (hP : va_P D vwCl [((u 0), .inr (12, [.ref (u 1), .int 0, .int (-1), .ref (u 2), .ref (u 3), .ref (u 4), .ref (u 5), .ref (u 6), .ref (u 7), .ref (u 8), .int 0, .ref (u 9), .ref (u 10), .ref (u 11), .ref (u 12), .ref (u 13), .ref (u 14)])), ((u 9), .inr (10, [.ref (u 73), .int 0, .int 0])), ((u 73), .inr (7, [.ref (u 74), .ref (u 75), .int 0, .int 0, .int 0, .int 0, .int 0, .int 0, .int 0, .int 0])), ((u 74), .inl (cy 0, 9, .inl (fun _ => 0))), ((u 75), .inl (cy 0, 9, .inl (fun _ => 0))), ((u 5), .inr (7, [.ref (u 39), .ref (u 40), .int 0, .int 0, .int 0, .int 0, .int 0, .int 0, .int 0, .int 0])), ((u 39), .inl (cy 0, 9, .inl (fun _ => 0))), ((u 40), .inl (cy 0, 9, .inl (fun _ => 0))), ((u 3), .inr (4, [.ref (u 15), .ref (u 16), .ref (u 17), .ref (u 18), .ref (u 19), .ref (u 20), .ref (u 21), .ref (u 22), .ref (u 23), .ref (u 24), .ref (u 25), .ref (u 26), .int 0, .int 0, .int 0, .int 0, .int 0])), ((v 0), .inr (13, [.int 0, .int 0, .int 0, .int (-1), .int 0, .int 0, .int 0, .int 0, .ref (v 1), .ref (v 2), .ref (v 3), .ref (v 4), .ref (v 5), .ref (v 6), .ref (v 7), .ref (v 8), .ref (v 9), .int 0, .int 0, .int 0, .int 0, .int 0, .int 0, .int 0, .int 0, .int 0, .ref (v 10), .ref (v 11), .ref (v 12), .ref (v 13), .int 0, .ref (v 14), .ref (v 15), .ref (v 16), .ref (v 17), .ref (v 18), .int 0, .int 0, .int 0, .ref (v 19), .ref (v 20), .ref (v 21), .ref (v 22), .ref (v 23), .int 0, .int 0, .int 0, .int 0])), ((v 13), .inl (cy 5, 2, .inr (.inr (.inr (.inr (fun i => if i < 2 then some ((v 13) + 1 + i) else none)))))), (((v 13) + 1 + 0), .inl (cy 0, 120, .inl (fun _ => 0))), ((v 6), .inl (cy 0, 9, .inl (fun _ => 0))), ((v 7), .inl (cy 0, 9, .inl (fun _ => 0))), ((v 8), .inl (cy 0, 9, .inl (fun _ => 0))), ((v 9), .inl (cy 0, 9, .inl (fun _ => 0))), ((v 14), .inl (cy 0, 4, .inl (fun _ => 0))), ((v 5), .inl (cy 0, 5, .inl (fun _ => 0))), (o, .inl (cy 6, 1, .inr (.inl (fun _ => 0))))] H) (hD : va_D (fun q => s.heap.size ≤ q) [((u 0), .inr (12, [.ref (u 1), .int 0, .int (-1), .ref (u 2), .ref (u 3), .ref (u 4), .ref (u 5), .ref (u 6), .ref (u 7), .ref (u 8), .int 0, .ref (u 9), .ref (u 10), .ref (u 11), .ref (u 12), .ref (u 13), .ref (u 14)])), ((u 9), .inr (10, [.ref (u 73), .int 0, .int 0])), ((u 73), .inr (7, [.ref (u 74), .ref (u 75), .int 0, .int 0, .int 0, .int 0, .int 0, .int 0, .int 0, .int 0])), ((u 74), .inl (cy 0, 9, .inl (fun _ => 0))), ((u 75), .inl (cy 0, 9, .inl (fun _ => 0))), ((u 5), .inr (7, [.ref (u 39), .ref (u 40), .int 0, .int 0, .int 0, .int 0, .int 0, .int 0, .int 0, .int 0])), ((u 39), .inl (cy 0, 9, .inl (fun _ => 0))), ((u 40), .inl (cy 0, 9, .inl (fun _ => 0))), ((u 3), .inr (4, [.ref (u 15), .ref (u 16), .ref (u 17), .ref (u 18), .ref (u 19), .ref (u 20), .ref (u 21), .ref (u 22), .ref (u 23), .ref (u 24), .ref (u 25), .ref (u 26), .int 0, .int 0, .int 0, .int 0, .int 0])), ((v 0), .inr (13, [.int 0, .int 0, .int 0, .int (-1), .int 0, .int 0, .int 0, .int 0, .ref (v 1), .ref (v 2), .ref (v 3), .ref (v 4), .ref (v 5), .ref (v 6), .ref (v 7), .ref (v 8), .ref (v 9), .int 0, .int 0, .int 0, .int 0, .int 0, .int 0, .int 0, .int 0, .int 0, .ref (v 10), .ref (v 11), .ref (v 12), .ref (v 13), .int 0, .ref (v 14), .ref (v 15), .ref (v 16), .ref (v 17), .ref (v 18), .int 0, .int 0, .int 0, .ref (v 19), .ref (v 20), .ref (v 21), .ref (v 22), .ref (v 23), .int 0, .int 0, .int 0, .int 0])), ((v 13), .inl (cy 5, 2, .inr (.inr (.inr (.inr (fun i => if i < 2 then some ((v 13) + 1 + i) else none)))))), (((v 13) + 1 + 0), .inl (cy 0, 120, .inl (fun _ => 0))), ((v 6), .inl (cy 0, 9, .inl (fun _ => 0))), ((v 7), .inl (cy 0, 9, .inl (fun _ => 0))), ((v 8), .inl (cy 0, 9, .inl (fun _ => 0))), ((v 9), .inl (cy 0, 9, .inl (fun _ => 0))), ((v 14), .inl (cy 0, 4, .inl (fun _ => 0))), ((v 5), .inl (cy 0, 5, .inl (fun _ => 0))), (o, .inl (cy 6, 1, .inr (.inl (fun _ => 0))))]) (hS : va_S (fun q => s.heap.size ≤ q) s.heap H locs) (ls : Array Slot) (hl : lv_has ls 7 [(0, .ref b), (1, .ref (u 0)), (2, .ref (v 0)), (3, .ref o), (4, .int 0)]) : W p l e room_1 s m #[Value.ref b] below meth c H locs 179 322202 (lw_Z below #[Value.ref b] s) (F0 m 1171 ls []) := by
  obtain ⟨A, hAe⟩ : ∃ A : Nat → Prop, A = fun q => s.heap.size ≤ q := ⟨_, rfl⟩
  rw [← hAe] at hG hD hS
  have hA : ∀ q, s.heap.size ≤ q → A q := fun q h => by rw [hAe]; exact h
  have hAs : ∀ q, A q → s.heap.size ≤ q := fun q h => by rw [hAe] at h; exact h
  have hbA : ¬ A b := by rw [hAe]; exact Nat.not_le.mpr hbl
  obtain ⟨hx, hb, hml, hown, hts, hr, hlk, hnm⟩ := id E
  have hown : s.vm.findClass RL = some m.cls := hown
  refine lv_aload_n hx hb dL_law_1171 rfl (lv_at hl 1 rfl) ?_
  refine lv_aload_n hx hb dL_law_1172 rfl (lv_at hl 0 rfl) ?_
  refine lv_iload hx hb dL_law_1173 (lv_at hl 4 rfl) ?_
  refine lv_iconst (v := 1) hx hb dL_law_1175 (by decide) ?_
  refine lv_iadd hx hb dL_law_1176 ?_
  refine lv_topi (fun x1 ex1 => ?_)
  obtain rfl : x1 = 1 := ex1.trans (by decide)
  refine va_sld hx hb hX hbl hbA hS (by unfold vp_in; decide) dL_law_1177 ?_
  refine lv_topi (fun x2 ex2 => ?_)
  obtain rfl : x2 = xs 1 := ex2.trans rfl
  refine lv_aload_n hx hb dL_law_1178 rfl (lv_at hl 3 rfl) ?_
  refine x_cali [9, 10, 11, 12, 13, 14, 15, 16, 17] (⟨hP, hD, hG, hS, hA, rfl, rfl⟩ : kAt D cy sa A s H _ _ [((u 0), .inr (12, [.ref (u 1), .int 0, .int (-1), .ref (u 2), .ref (u 3), .ref (u 4), .ref (u 5), .ref (u 6), .ref (u 7), .ref (u 8), .int 0, .ref (u 9), .ref (u 10), .ref (u 11), .ref (u 12), .ref (u 13), .ref (u 14)])), ((u 9), .inr (10, [.ref (u 73), .int 0, .int 0])), ((u 73), .inr (7, [.ref (u 74), .ref (u 75), .int 0, .int 0, .int 0, .int 0, .int 0, .int 0, .int 0, .int 0])), ((u 74), .inl (cy 0, 9, .inl (fun _ => 0))), ((u 75), .inl (cy 0, 9, .inl (fun _ => 0))), ((u 5), .inr (7, [.ref (u 39), .ref (u 40), .int 0, .int 0, .int 0, .int 0, .int 0, .int 0, .int 0, .int 0])), ((u 39), .inl (cy 0, 9, .inl (fun _ => 0))), ((u 40), .inl (cy 0, 9, .inl (fun _ => 0))), ((u 3), .inr (4, [.ref (u 15), .ref (u 16), .ref (u 17), .ref (u 18), .ref (u 19), .ref (u 20), .ref (u 21), .ref (u 22), .ref (u 23), .ref (u 24), .ref (u 25), .ref (u 26), .int 0, .int 0, .int 0, .int 0, .int 0])), (o, .inl (cy 6, 1, .inr (.inl (fun _ => 0))))] [0, 1, 2, 3, 4, 5, 6, 7, 8, 18]) (wr := [((v 0), .inr (13, [.int 0, .int 0, .int 0, .int (-1), .int 0, .int 0, .int 0, .int 0, .ref (v 1), .ref (v 2), .ref (v 3), .ref (v 4), .ref (v 5), .ref (v 6), .ref (v 7), .ref (v 8), .ref (v 9), .int 0, .int 0, .int 0, .int 0, .int 0, .int 0, .int 0, .int 0, .int 0, .ref (v 10), .ref (v 11), .ref (v 12), .ref (v 13), .int 0, .ref (v 14), .ref (v 15), .ref (v 16), .ref (v 17), .ref (v 18), .int 0, .int 0, .int 0, .ref (v 19), .ref (v 20), .ref (v 21), .ref (v 22), .ref (v 23), .int 0, .int 0, .int 0, .int 0])), ((v 13), .inl (cy 5, 2, .inr (.inr (.inr (.inr (fun i => if i < 2 then some ((v 13) + 1 + i) else none)))))), (((v 13) + 1 + 0), .inl (cy 0, 120, .inl (fun _ => 0))), ((v 6), .inl (cy 0, 9, .inl (fun _ => 0))), ((v 7), .inl (cy 0, 9, .inl (fun _ => 0))), ((v 8), .inl (cy 0, 9, .inl (fun _ => 0))), ((v 9), .inl (cy 0, 9, .inl (fun _ => 0))), ((v 14), .inl (cy 0, 4, .inl (fun _ => 0))), ((v 5), .inl (cy 0, 5, .inl (fun _ => 0)))]) rfl rfl (by decide) (x_runW (As := [.ref (u 0), .int (xs 1), .ref o]) (rest := []) E lk_SRL_182 (w_often l hl0 D cy sa u o (xs 1) H.size) (⟨hP, hD, hG, hS, hA, rfl, rfl⟩ : kAt D cy sa A s H _ _ [((u 0), .inr (12, [.ref (u 1), .int 0, .int (-1), .ref (u 2), .ref (u 3), .ref (u 4), .ref (u 5), .ref (u 6), .ref (u 7), .ref (u 8), .int 0, .ref (u 9), .ref (u 10), .ref (u 11), .ref (u 12), .ref (u 13), .ref (u 14)])), ((u 9), .inr (10, [.ref (u 73), .int 0, .int 0])), ((u 73), .inr (7, [.ref (u 74), .ref (u 75), .int 0, .int 0, .int 0, .int 0, .int 0, .int 0, .int 0, .int 0])), ((u 74), .inl (cy 0, 9, .inl (fun _ => 0))), ((u 75), .inl (cy 0, 9, .inl (fun _ => 0))), ((u 5), .inr (7, [.ref (u 39), .ref (u 40), .int 0, .int 0, .int 0, .int 0, .int 0, .int 0, .int 0, .int 0])), ((u 39), .inl (cy 0, 9, .inl (fun _ => 0))), ((u 40), .inl (cy 0, 9, .inl (fun _ => 0))), ((u 3), .inr (4, [.ref (u 15), .ref (u 16), .ref (u 17), .ref (u 18), .ref (u 19), .ref (u 20), .ref (u 21), .ref (u 22), .ref (u 23), .ref (u 24), .ref (u 25), .ref (u 26), .int 0, .int 0, .int 0, .int 0, .int 0])), (o, .inl (cy 6, 1, .inr (.inl (fun _ => 0))))] [0, 1, 2, 3, 4, 5, 6, 7, 8, 18]) hl.1 rfl rfl ⟨rfl, rfl, ⟨Nat.le_of_ble_eq_true rfl, Nat.le_of_ble_eq_true rfl⟩, ⟨Nat.le_of_ble_eq_true rfl, Nat.le_of_ble_eq_true rfl⟩, Nat.le_of_ble_eq_true rfl⟩ dL_law_1179) (fun ce q9 u4 H locs hwu4 hP hD hS h1 h2 h3 => ?_) (fun r3 u4 H locs hwu4 hP hD hS => ?_)
  · have hP : va_P D vwCl [((v 0), .inr (13, [.int 0, .int 0, .int 0, .int (-1), .int 0, .int 0, .int 0, .int 0, .ref (v 1), .ref (v 2), .ref (v 3), .ref (v 4), .ref (v 5), .ref (v 6), .ref (v 7), .ref (v 8), .ref (v 9), .int 0, .int 0, .int 0, .int 0, .int 0, .int 0, .int 0, .int 0, .int 0, .ref (v 10), .ref (v 11), .ref (v 12), .ref (v 13), .int 0, .ref (v 14), .ref (v 15), .ref (v 16), .ref (v 17), .ref (v 18), .int 0, .int 0, .int 0, .ref (v 19), .ref (v 20), .ref (v 21), .ref (v 22), .ref (v 23), .int 0, .int 0, .int 0, .int 0])), ((v 13), .inl (cy 5, 2, .inr (.inr (.inr (.inr (fun i => if i < 2 then some ((v 13) + 1 + i) else none)))))), (((v 13) + 1 + 0), .inl (cy 0, 120, .inl (fun _ => 0))), ((v 6), .inl (cy 0, 9, .inl (fun _ => 0))), ((v 7), .inl (cy 0, 9, .inl (fun _ => 0))), ((v 8), .inl (cy 0, 9, .inl (fun _ => 0))), ((v 9), .inl (cy 0, 9, .inl (fun _ => 0))), ((v 14), .inl (cy 0, 4, .inl (fun _ => 0))), ((v 5), .inl (cy 0, 5, .inl (fun _ => 0)))] H := hP
    have hD : va_D A [((v 0), .inr (13, [.int 0, .int 0, .int 0, .int (-1), .int 0, .int 0, .int 0, .int 0, .ref (v 1), .ref (v 2), .ref (v 3), .ref (v 4), .ref (v 5), .ref (v 6), .ref (v 7), .ref (v 8), .ref (v 9), .int 0, .int 0, .int 0, .int 0, .int 0, .int 0, .int 0, .int 0, .int 0, .ref (v 10), .ref (v 11), .ref (v 12), .ref (v 13), .int 0, .ref (v 14), .ref (v 15), .ref (v 16), .ref (v 17), .ref (v 18), .int 0, .int 0, .int 0, .ref (v 19), .ref (v 20), .ref (v 21), .ref (v 22), .ref (v 23), .int 0, .int 0, .int 0, .int 0])), ((v 13), .inl (cy 5, 2, .inr (.inr (.inr (.inr (fun i => if i < 2 then some ((v 13) + 1 + i) else none)))))), (((v 13) + 1 + 0), .inl (cy 0, 120, .inl (fun _ => 0))), ((v 6), .inl (cy 0, 9, .inl (fun _ => 0))), ((v 7), .inl (cy 0, 9, .inl (fun _ => 0))), ((v 8), .inl (cy 0, 9, .inl (fun _ => 0))), ((v 9), .inl (cy 0, 9, .inl (fun _ => 0))), ((v 14), .inl (cy 0, 4, .inl (fun _ => 0))), ((v 5), .inl (cy 0, 5, .inl (fun _ => 0)))] := hD
    exact (hwu4).elim
  · have hP : va_P D vwCl [((v 0), .inr (13, [.int 0, .int 0, .int 0, .int (-1), .int 0, .int 0, .int 0, .int 0, .ref (v 1), .ref (v 2), .ref (v 3), .ref (v 4), .ref (v 5), .ref (v 6), .ref (v 7), .ref (v 8), .ref (v 9), .int 0, .int 0, .int 0, .int 0, .int 0, .int 0, .int 0, .int 0, .int 0, .ref (v 10), .ref (v 11), .ref (v 12), .ref (v 13), .int 0, .ref (v 14), .ref (v 15), .ref (v 16), .ref (v 17), .ref (v 18), .int 0, .int 0, .int 0, .ref (v 19), .ref (v 20), .ref (v 21), .ref (v 22), .ref (v 23), .int 0, .int 0, .int 0, .int 0])), ((v 13), .inl (cy 5, 2, .inr (.inr (.inr (.inr (fun i => if i < 2 then some ((v 13) + 1 + i) else none)))))), (((v 13) + 1 + 0), .inl (cy 0, 120, .inl (fun _ => 0))), ((v 6), .inl (cy 0, 9, .inl (fun _ => 0))), ((v 7), .inl (cy 0, 9, .inl (fun _ => 0))), ((v 8), .inl (cy 0, 9, .inl (fun _ => 0))), ((v 9), .inl (cy 0, 9, .inl (fun _ => 0))), ((v 14), .inl (cy 0, 4, .inl (fun _ => 0))), ((v 5), .inl (cy 0, 5, .inl (fun _ => 0))), (o, .inl (cy 6, 1, .inr (.inl u4)))] H := hP
    have hD : va_D A [((v 0), .inr (13, [.int 0, .int 0, .int 0, .int (-1), .int 0, .int 0, .int 0, .int 0, .ref (v 1), .ref (v 2), .ref (v 3), .ref (v 4), .ref (v 5), .ref (v 6), .ref (v 7), .ref (v 8), .ref (v 9), .int 0, .int 0, .int 0, .int 0, .int 0, .int 0, .int 0, .int 0, .int 0, .ref (v 10), .ref (v 11), .ref (v 12), .ref (v 13), .int 0, .ref (v 14), .ref (v 15), .ref (v 16), .ref (v 17), .ref (v 18), .int 0, .int 0, .int 0, .ref (v 19), .ref (v 20), .ref (v 21), .ref (v 22), .ref (v 23), .int 0, .int 0, .int 0, .int 0])), ((v 13), .inl (cy 5, 2, .inr (.inr (.inr (.inr (fun i => if i < 2 then some ((v 13) + 1 + i) else none)))))), (((v 13) + 1 + 0), .inl (cy 0, 120, .inl (fun _ => 0))), ((v 6), .inl (cy 0, 9, .inl (fun _ => 0))), ((v 7), .inl (cy 0, 9, .inl (fun _ => 0))), ((v 8), .inl (cy 0, 9, .inl (fun _ => 0))), ((v 9), .inl (cy 0, 9, .inl (fun _ => 0))), ((v 14), .inl (cy 0, 4, .inl (fun _ => 0))), ((v 5), .inl (cy 0, 5, .inl (fun _ => 0))), (o, .inl (cy 6, 1, .inr (.inl u4)))] := hD
    refine lv_istore (lv' := [(5, .int r3), (0, .ref b), (1, .ref (u 0)), (2, .ref (v 0)), (3, .ref o), (4, .int 0)]) hx hb dL_law_1182 hl (by decide) rfl (fun ls hl => ?_)
    refine lv_aload_n hx hb dL_law_1184 rfl (lv_at hl 3 rfl) ?_
    refine lv_aload_n hx hb dL_law_1185 rfl (lv_at hl 1 rfl) ?_
    refine lv_iload hx hb dL_law_1186 (lv_at hl 5 rfl) ?_
    refine lv_iconst (v := 1) hx hb dL_law_1188 (by decide) ?_
    refine lv_iadd hx hb dL_law_1189 ?_
    refine lv_topi (fun x5 ex5 => ?_)
    obtain rfl : x5 = 1 := ex5.trans (by decide)
    refine va_sld hx hb hX hbl hbA hS (by unfold vp_in; decide) dL_law_1190 ?_
    refine lv_topi (fun x6 ex6 => ?_)
    obtain rfl : x6 = xs 1 := ex6.trans rfl
    refine k_cali [9] (⟨hP, hD, hG, hS, hA, rfl, rfl⟩ : kAt D cy sa A s H _ _ [((v 0), .inr (13, [.int 0, .int 0, .int 0, .int (-1), .int 0, .int 0, .int 0, .int 0, .ref (v 1), .ref (v 2), .ref (v 3), .ref (v 4), .ref (v 5), .ref (v 6), .ref (v 7), .ref (v 8), .ref (v 9), .int 0, .int 0, .int 0, .int 0, .int 0, .int 0, .int 0, .int 0, .int 0, .ref (v 10), .ref (v 11), .ref (v 12), .ref (v 13), .int 0, .ref (v 14), .ref (v 15), .ref (v 16), .ref (v 17), .ref (v 18), .int 0, .int 0, .int 0, .ref (v 19), .ref (v 20), .ref (v 21), .ref (v 22), .ref (v 23), .int 0, .int 0, .int 0, .int 0])), ((v 13), .inl (cy 5, 2, .inr (.inr (.inr (.inr (fun i => if i < 2 then some ((v 13) + 1 + i) else none)))))), (((v 13) + 1 + 0), .inl (cy 0, 120, .inl (fun _ => 0))), ((v 6), .inl (cy 0, 9, .inl (fun _ => 0))), ((v 7), .inl (cy 0, 9, .inl (fun _ => 0))), ((v 8), .inl (cy 0, 9, .inl (fun _ => 0))), ((v 9), .inl (cy 0, 9, .inl (fun _ => 0))), ((v 14), .inl (cy 0, 4, .inl (fun _ => 0))), ((v 5), .inl (cy 0, 5, .inl (fun _ => 0)))] [0, 1, 2, 3, 4, 5, 6, 7, 8]) (wr := [(o, .inl (cy 6, 1, .inr (.inl u4)))]) rfl rfl (by decide) (k_runV 13 0 (As := [.int (xs 1)]) (rest := []) E lk_VRL_184 rfl rfl rfl (m_often_ l hl0 D cy sa v (xs 1) H.size) (⟨hP, hD, hG, hS, hA, rfl, rfl⟩ : kAt D cy sa A s H _ _ [((v 0), .inr (13, [.int 0, .int 0, .int 0, .int (-1), .int 0, .int 0, .int 0, .int 0, .ref (v 1), .ref (v 2), .ref (v 3), .ref (v 4), .ref (v 5), .ref (v 6), .ref (v 7), .ref (v 8), .ref (v 9), .int 0, .int 0, .int 0, .int 0, .int 0, .int 0, .int 0, .int 0, .int 0, .ref (v 10), .ref (v 11), .ref (v 12), .ref (v 13), .int 0, .ref (v 14), .ref (v 15), .ref (v 16), .ref (v 17), .ref (v 18), .int 0, .int 0, .int 0, .ref (v 19), .ref (v 20), .ref (v 21), .ref (v 22), .ref (v 23), .int 0, .int 0, .int 0, .int 0])), ((v 13), .inl (cy 5, 2, .inr (.inr (.inr (.inr (fun i => if i < 2 then some ((v 13) + 1 + i) else none)))))), (((v 13) + 1 + 0), .inl (cy 0, 120, .inl (fun _ => 0))), ((v 6), .inl (cy 0, 9, .inl (fun _ => 0))), ((v 7), .inl (cy 0, 9, .inl (fun _ => 0))), ((v 8), .inl (cy 0, 9, .inl (fun _ => 0))), ((v 9), .inl (cy 0, 9, .inl (fun _ => 0))), ((v 14), .inl (cy 0, 4, .inl (fun _ => 0))), ((v 5), .inl (cy 0, 5, .inl (fun _ => 0)))] [0, 1, 2, 3, 4, 5, 6, 7, 8]) hl.1 rfl rfl ⟨rfl, rfl, ⟨Nat.le_of_ble_eq_true rfl, Nat.le_of_ble_eq_true rfl⟩, ⟨Nat.le_of_ble_eq_true rfl, Nat.le_of_ble_eq_true rfl⟩, Nat.le_of_ble_eq_true rfl⟩ dL_law_1191) (fun r7 u8 H locs hwu8 hP hD hS => ?_)
    have hP : va_P D vwCl [(o, .inl (cy 6, 1, .inr (.inl u4))), ((v 0), .inr (13, .int u8.1 :: u8.2))] H := hP
    have hD : va_D A [(o, .inl (cy 6, 1, .inr (.inl u4))), ((v 0), .inr (13, .int u8.1 :: u8.2))] := hD
    refine lv_istore (lv' := [(6, .int r7), (5, .int r3), (0, .ref b), (1, .ref (u 0)), (2, .ref (v 0)), (3, .ref o), (4, .int 0)]) hx hb dL_law_1194 hl (by decide) rfl (fun ls hl => ?_)
    refine lv_aload_n hx hb dL_law_1196 rfl (lv_at hl 4 rfl) ?_
    refine k_cali [0] (⟨hP, hD, hG, hS, hA, rfl, rfl⟩ : kAt D cy sa A s H _ _ [((v 0), .inr (13, .int u8.1 :: u8.2))] [1]) (wr := [(o, .inl (cy 6, 1, .inr (.inl u4)))]) rfl rfl (by decide) (k_runV 13 1 (As := []) (rest := []) E lk_VRL_127 rfl rfl rfl (m_thrown l hl0 D cy sa v u8.1 u8.2 H.size) (⟨hP, hD, hG, hS, hA, rfl, rfl⟩ : kAt D cy sa A s H _ _ [((v 0), .inr (13, .int u8.1 :: u8.2))] [1]) hl.1 rfl rfl ⟨rfl, rfl, ⟨Nat.le_of_ble_eq_true rfl, Nat.le_of_ble_eq_true rfl⟩, ⟨Nat.le_of_ble_eq_true rfl, Nat.le_of_ble_eq_true rfl⟩, Nat.le_of_ble_eq_true rfl⟩ dL_law_1197) (fun r9 u10 H locs hwu10 hP hD hS => ?_)
    have hP : va_P D vwCl [(o, .inl (cy 6, 1, .inr (.inl u4)))] H := hP
    have hD : va_D A [(o, .inl (cy 6, 1, .inr (.inl u4)))] := hD
    rcases hwu4 with ⟨rfl, x9, hx9, hf9⟩ | ⟨rfl, hpx⟩
    · obtain ⟨ht9, hr9⟩ := hwu8.1 (hx9.1)
      obtain rfl : r9 = 0 := hwu10.trans ht9
      have heq : x9 = r7 := hx9.2.trans hr9.symm
      refine lv_iload hx hb dL_law_1200 (lv_at hl 1 rfl) ?_
      refine lv_icmp_eq (tgt := 1207) hx hb dL_law_1202 (by decide) (fun _ => ?_) (fun h => absurd (by decide) h)
      refine lv_iload hx hb dL_law_1207 (lv_at hl 1 rfl) ?_
      refine lv_if_ne (tgt := 1224) hx hb dL_law_1209 (by decide) (fun h => absurd (by decide) h) (fun _ => ?_)
      refine lv_aload_n hx hb dL_law_1212 rfl (lv_at hl 5 rfl) ?_
      refine lv_iconst (v := 0) hx hb dL_law_1213 (by decide) ?_
      refine va_lald hx hb hG.1 hP 0 6 rfl rfl (by unfold vp_in; decide) dL_law_1214 ?_
      refine W.eq (g2 := F0 m 1215 ls [.long (u4 0)]) rfl ?_
      refine lv_iload hx hb dL_law_1215 (lv_at hl 0 rfl) ?_
      refine lv_i2l (v := (r7 : Int32).toInt64) hx hb dL_law_1217 rfl ?_
      refine W.lcmp hx hb dL_law_1218 ?_
      refine lv_topi (fun x11 ex11 => ?_)
      obtain rfl : x11 = 0 := ex11.trans (by rw [hf9, heq]; exact k_cmp _)
      refine lv_if_eq (tgt := 1224) hx hb dL_law_1219 (by decide) (fun _ => ?_) (fun h => absurd (by decide) h)
      refine lv_goto (tgt := 2418) hx hb dL_law_1224 (by decide) ?_
      refine lv_iinc (v := 6) (lv' := [(4, .int 6), (6, .int r7), (5, .int 0), (0, .ref b), (1, .ref (u 0)), (2, .ref (v 0)), (3, .ref o)]) hx hb dL_law_2418 hl (k := 6) rfl (by decide) (by decide) rfl (fun ls hl => ?_)
      refine lv_goto (tgt := 23) hx hb dL_law_2421 (by decide) ?_
      exact law_exit E hX hbl hbA hAs hS (i := 6) (by decide) (lv_at hl 3 rfl) (lv_at hl 0 rfl) (by decide) (by decide)
    · obtain rfl : r9 = 1 := hwu10.trans (hwu8.2 (fun h => absurd h hpx))
      refine lv_iload hx hb dL_law_1200 (lv_at hl 1 rfl) ?_
      refine lv_icmp_eq (tgt := 1207) hx hb dL_law_1202 (by decide) (fun _ => ?_) (fun h => absurd (by decide) h)
      refine lv_iload hx hb dL_law_1207 (lv_at hl 1 rfl) ?_
      refine lv_if_ne (tgt := 1224) hx hb dL_law_1209 (by decide) (fun _ => ?_) (fun h => absurd h (by decide))
      refine lv_goto (tgt := 2418) hx hb dL_law_1224 (by decide) ?_
      refine lv_iinc (v := 6) (lv' := [(4, .int 6), (6, .int r7), (5, .int 1), (0, .ref b), (1, .ref (u 0)), (2, .ref (v 0)), (3, .ref o)]) hx hb dL_law_2418 hl (k := 6) rfl (by decide) (by decide) rfl (fun ls hl => ?_)
      refine lv_goto (tgt := 23) hx hb dL_law_2421 (by decide) ?_
      exact law_exit E hX hbl hbA hAs hS (i := 6) (by decide) (lv_at hl 3 rfl) (lv_at hl 0 rfl) (by decide) (by decide)

set_option maxHeartbeats 4000000 in
set_option maxRecDepth 100000 in
/-- the law: taught -/
theorem law_case_18 {p : Program} {l : Launch} {e : Env} {s : State} {m : MethodId} {below : List Frame} {meth : Method} {c : Code} {D : va_G} {cy : Nat → ClassId} {sa : Nat → Nat} {b : Nat} {xs : Nat → Int32} (hl0 : l.stackTraces = false) (E : kE yL_law cL_law 7 (some .boolean) #[Value.ref b] p s m meth c) (hX : va_X b 6 xs s s.heap) (hbl : b < s.heap.size) (hG : kG D cy sa (fun q => s.heap.size ≤ q) s) (u v : Nat → Nat) (o : Nat) (H : Heap) (locs : List Loc) (hP : va_P D vwCl [((u 0), .inr (12, [.ref (u 1), .int 0, .int (-1), .ref (u 2), .ref (u 3), .ref (u 4), .ref (u 5), .ref (u 6), .ref (u 7), .ref (u 8), .int 0, .ref (u 9), .ref (u 10), .ref (u 11), .ref (u 12), .ref (u 13), .ref (u 14)])), ((u 3), .inr (4, [.ref (u 15), .ref (u 16), .ref (u 17), .ref (u 18), .ref (u 19), .ref (u 20), .ref (u 21), .ref (u 22), .ref (u 23), .ref (u 24), .ref (u 25), .ref (u 26), .int 0, .int 0, .int 0, .int 0, .int 0])), ((v 0), .inr (13, [.int 0, .int 0, .int 0, .int (-1), .int 0, .int 0, .int 0, .int 0, .ref (v 1), .ref (v 2), .ref (v 3), .ref (v 4), .ref (v 5), .ref (v 6), .ref (v 7), .ref (v 8), .ref (v 9), .int 0, .int 0, .int 0, .int 0, .int 0, .int 0, .int 0, .int 0, .int 0, .ref (v 10), .ref (v 11), .ref (v 12), .ref (v 13), .int 0, .ref (v 14), .ref (v 15), .ref (v 16), .ref (v 17), .ref (v 18), .int 0, .int 0, .int 0, .ref (v 19), .ref (v 20), .ref (v 21), .ref (v 22), .ref (v 23), .int 0, .int 0, .int 0, .int 0])), ((v 5), .inl (cy 0, 5, .inl (fun _ => 0))), (o, .inl (cy 6, 1, .inr (.inl (fun _ => 0))))] H) (hD : va_D (fun q => s.heap.size ≤ q) [((u 0), .inr (12, [.ref (u 1), .int 0, .int (-1), .ref (u 2), .ref (u 3), .ref (u 4), .ref (u 5), .ref (u 6), .ref (u 7), .ref (u 8), .int 0, .ref (u 9), .ref (u 10), .ref (u 11), .ref (u 12), .ref (u 13), .ref (u 14)])), ((u 3), .inr (4, [.ref (u 15), .ref (u 16), .ref (u 17), .ref (u 18), .ref (u 19), .ref (u 20), .ref (u 21), .ref (u 22), .ref (u 23), .ref (u 24), .ref (u 25), .ref (u 26), .int 0, .int 0, .int 0, .int 0, .int 0])), ((v 0), .inr (13, [.int 0, .int 0, .int 0, .int (-1), .int 0, .int 0, .int 0, .int 0, .ref (v 1), .ref (v 2), .ref (v 3), .ref (v 4), .ref (v 5), .ref (v 6), .ref (v 7), .ref (v 8), .ref (v 9), .int 0, .int 0, .int 0, .int 0, .int 0, .int 0, .int 0, .int 0, .int 0, .ref (v 10), .ref (v 11), .ref (v 12), .ref (v 13), .int 0, .ref (v 14), .ref (v 15), .ref (v 16), .ref (v 17), .ref (v 18), .int 0, .int 0, .int 0, .ref (v 19), .ref (v 20), .ref (v 21), .ref (v 22), .ref (v 23), .int 0, .int 0, .int 0, .int 0])), ((v 5), .inl (cy 0, 5, .inl (fun _ => 0))), (o, .inl (cy 6, 1, .inr (.inl (fun _ => 0))))]) (hS : va_S (fun q => s.heap.size ≤ q) s.heap H locs) (ls : Array Slot) (hl : lv_has ls 7 [(0, .ref b), (1, .ref (u 0)), (2, .ref (v 0)), (3, .ref o), (4, .int 0)]) : W p l e room_1 s m #[Value.ref b] below meth c H locs 179 322202 (lw_Z below #[Value.ref b] s) (F0 m 1227 ls []) := by
  obtain ⟨A, hAe⟩ : ∃ A : Nat → Prop, A = fun q => s.heap.size ≤ q := ⟨_, rfl⟩
  rw [← hAe] at hG hD hS
  have hA : ∀ q, s.heap.size ≤ q → A q := fun q h => by rw [hAe]; exact h
  have hAs : ∀ q, A q → s.heap.size ≤ q := fun q h => by rw [hAe] at h; exact h
  have hbA : ¬ A b := by rw [hAe]; exact Nat.not_le.mpr hbl
  obtain ⟨hx, hb, hml, hown, hts, hr, hlk, hnm⟩ := id E
  have hown : s.vm.findClass RL = some m.cls := hown
  refine lv_aload_n hx hb dL_law_1227 rfl (lv_at hl 1 rfl) ?_
  refine lv_aload_n hx hb dL_law_1228 rfl (lv_at hl 0 rfl) ?_
  refine lv_iload hx hb dL_law_1229 (lv_at hl 4 rfl) ?_
  refine lv_iconst (v := 1) hx hb dL_law_1231 (by decide) ?_
  refine lv_iadd hx hb dL_law_1232 ?_
  refine lv_topi (fun x1 ex1 => ?_)
  obtain rfl : x1 = 1 := ex1.trans (by decide)
  refine va_sld hx hb hX hbl hbA hS (by unfold vp_in; decide) dL_law_1233 ?_
  refine lv_topi (fun x2 ex2 => ?_)
  obtain rfl : x2 = xs 1 := ex2.trans rfl
  refine lv_aload_n hx hb dL_law_1234 rfl (lv_at hl 0 rfl) ?_
  refine lv_iload hx hb dL_law_1235 (lv_at hl 4 rfl) ?_
  refine lv_iconst (v := 2) hx hb dL_law_1237 (by decide) ?_
  refine lv_iadd hx hb dL_law_1238 ?_
  refine lv_topi (fun x3 ex3 => ?_)
  obtain rfl : x3 = 2 := ex3.trans (by decide)
  refine va_sld hx hb hX hbl hbA hS (by unfold vp_in; decide) dL_law_1239 ?_
  refine lv_topi (fun x4 ex4 => ?_)
  obtain rfl : x4 = xs 2 := ex4.trans rfl
  refine lv_aload_n hx hb dL_law_1240 rfl (lv_at hl 0 rfl) ?_
  refine lv_iload hx hb dL_law_1241 (lv_at hl 4 rfl) ?_
  refine lv_iconst (v := 3) hx hb dL_law_1243 (by decide) ?_
  refine lv_iadd hx hb dL_law_1244 ?_
  refine lv_topi (fun x5 ex5 => ?_)
  obtain rfl : x5 = 3 := ex5.trans (by decide)
  refine va_sld hx hb hX hbl hbA hS (by unfold vp_in; decide) dL_law_1245 ?_
  refine lv_topi (fun x6 ex6 => ?_)
  obtain rfl : x6 = xs 3 := ex6.trans rfl
  refine lv_aload_n hx hb dL_law_1246 rfl (lv_at hl 0 rfl) ?_
  refine lv_iload hx hb dL_law_1247 (lv_at hl 4 rfl) ?_
  refine lv_iconst (v := 4) hx hb dL_law_1249 (by decide) ?_
  refine lv_iadd hx hb dL_law_1250 ?_
  refine lv_topi (fun x7 ex7 => ?_)
  obtain rfl : x7 = 4 := ex7.trans (by decide)
  refine va_sld hx hb hX hbl hbA hS (by unfold vp_in; decide) dL_law_1251 ?_
  refine lv_topi (fun x8 ex8 => ?_)
  obtain rfl : x8 = xs 4 := ex8.trans rfl
  refine lv_aload_n hx hb dL_law_1252 rfl (lv_at hl 3 rfl) ?_
  refine x_cali [2, 3] (⟨hP, hD, hG, hS, hA, rfl, rfl⟩ : kAt D cy sa A s H _ _ [((u 0), .inr (12, [.ref (u 1), .int 0, .int (-1), .ref (u 2), .ref (u 3), .ref (u 4), .ref (u 5), .ref (u 6), .ref (u 7), .ref (u 8), .int 0, .ref (u 9), .ref (u 10), .ref (u 11), .ref (u 12), .ref (u 13), .ref (u 14)])), ((u 3), .inr (4, [.ref (u 15), .ref (u 16), .ref (u 17), .ref (u 18), .ref (u 19), .ref (u 20), .ref (u 21), .ref (u 22), .ref (u 23), .ref (u 24), .ref (u 25), .ref (u 26), .int 0, .int 0, .int 0, .int 0, .int 0])), (o, .inl (cy 6, 1, .inr (.inl (fun _ => 0))))] [0, 1, 4]) (wr := [((v 0), .inr (13, [.int 0, .int 0, .int 0, .int (-1), .int 0, .int 0, .int 0, .int 0, .ref (v 1), .ref (v 2), .ref (v 3), .ref (v 4), .ref (v 5), .ref (v 6), .ref (v 7), .ref (v 8), .ref (v 9), .int 0, .int 0, .int 0, .int 0, .int 0, .int 0, .int 0, .int 0, .int 0, .ref (v 10), .ref (v 11), .ref (v 12), .ref (v 13), .int 0, .ref (v 14), .ref (v 15), .ref (v 16), .ref (v 17), .ref (v 18), .int 0, .int 0, .int 0, .ref (v 19), .ref (v 20), .ref (v 21), .ref (v 22), .ref (v 23), .int 0, .int 0, .int 0, .int 0])), ((v 5), .inl (cy 0, 5, .inl (fun _ => 0)))]) rfl rfl (by decide) (x_runW (As := [.ref (u 0), .int (xs 1), .int (xs 2), .int (xs 3), .int (xs 4), .ref o]) (rest := []) E lk_SRL_185 (w_taught l hl0 D cy sa u o (xs 1) (xs 2) (xs 3) (xs 4) H.size) (⟨hP, hD, hG, hS, hA, rfl, rfl⟩ : kAt D cy sa A s H _ _ [((u 0), .inr (12, [.ref (u 1), .int 0, .int (-1), .ref (u 2), .ref (u 3), .ref (u 4), .ref (u 5), .ref (u 6), .ref (u 7), .ref (u 8), .int 0, .ref (u 9), .ref (u 10), .ref (u 11), .ref (u 12), .ref (u 13), .ref (u 14)])), ((u 3), .inr (4, [.ref (u 15), .ref (u 16), .ref (u 17), .ref (u 18), .ref (u 19), .ref (u 20), .ref (u 21), .ref (u 22), .ref (u 23), .ref (u 24), .ref (u 25), .ref (u 26), .int 0, .int 0, .int 0, .int 0, .int 0])), (o, .inl (cy 6, 1, .inr (.inl (fun _ => 0))))] [0, 1, 4]) hl.1 rfl rfl ⟨rfl, rfl, ⟨Nat.le_of_ble_eq_true rfl, Nat.le_of_ble_eq_true rfl⟩, ⟨Nat.le_of_ble_eq_true rfl, Nat.le_of_ble_eq_true rfl⟩, Nat.le_of_ble_eq_true rfl⟩ dL_law_1253) (fun ce q9 u10 H locs hwu10 hP hD hS h1 h2 h3 => ?_) (fun r9 u10 H locs hwu10 hP hD hS => ?_)
  · have hP : va_P D vwCl [((v 0), .inr (13, [.int 0, .int 0, .int 0, .int (-1), .int 0, .int 0, .int 0, .int 0, .ref (v 1), .ref (v 2), .ref (v 3), .ref (v 4), .ref (v 5), .ref (v 6), .ref (v 7), .ref (v 8), .ref (v 9), .int 0, .int 0, .int 0, .int 0, .int 0, .int 0, .int 0, .int 0, .int 0, .ref (v 10), .ref (v 11), .ref (v 12), .ref (v 13), .int 0, .ref (v 14), .ref (v 15), .ref (v 16), .ref (v 17), .ref (v 18), .int 0, .int 0, .int 0, .ref (v 19), .ref (v 20), .ref (v 21), .ref (v 22), .ref (v 23), .int 0, .int 0, .int 0, .int 0])), ((v 5), .inl (cy 0, 5, .inl (fun _ => 0)))] H := hP
    have hD : va_D A [((v 0), .inr (13, [.int 0, .int 0, .int 0, .int (-1), .int 0, .int 0, .int 0, .int 0, .ref (v 1), .ref (v 2), .ref (v 3), .ref (v 4), .ref (v 5), .ref (v 6), .ref (v 7), .ref (v 8), .ref (v 9), .int 0, .int 0, .int 0, .int 0, .int 0, .int 0, .int 0, .int 0, .int 0, .ref (v 10), .ref (v 11), .ref (v 12), .ref (v 13), .int 0, .ref (v 14), .ref (v 15), .ref (v 16), .ref (v 17), .ref (v 18), .int 0, .int 0, .int 0, .ref (v 19), .ref (v 20), .ref (v 21), .ref (v 22), .ref (v 23), .int 0, .int 0, .int 0, .int 0])), ((v 5), .inl (cy 0, 5, .inl (fun _ => 0)))] := hD
    exact (hwu10).elim
  · have hP : va_P D vwCl [((v 0), .inr (13, [.int 0, .int 0, .int 0, .int (-1), .int 0, .int 0, .int 0, .int 0, .ref (v 1), .ref (v 2), .ref (v 3), .ref (v 4), .ref (v 5), .ref (v 6), .ref (v 7), .ref (v 8), .ref (v 9), .int 0, .int 0, .int 0, .int 0, .int 0, .int 0, .int 0, .int 0, .int 0, .ref (v 10), .ref (v 11), .ref (v 12), .ref (v 13), .int 0, .ref (v 14), .ref (v 15), .ref (v 16), .ref (v 17), .ref (v 18), .int 0, .int 0, .int 0, .ref (v 19), .ref (v 20), .ref (v 21), .ref (v 22), .ref (v 23), .int 0, .int 0, .int 0, .int 0])), ((v 5), .inl (cy 0, 5, .inl (fun _ => 0))), (o, .inl (cy 6, 1, .inr (.inl u10)))] H := hP
    have hD : va_D A [((v 0), .inr (13, [.int 0, .int 0, .int 0, .int (-1), .int 0, .int 0, .int 0, .int 0, .ref (v 1), .ref (v 2), .ref (v 3), .ref (v 4), .ref (v 5), .ref (v 6), .ref (v 7), .ref (v 8), .ref (v 9), .int 0, .int 0, .int 0, .int 0, .int 0, .int 0, .int 0, .int 0, .int 0, .ref (v 10), .ref (v 11), .ref (v 12), .ref (v 13), .int 0, .ref (v 14), .ref (v 15), .ref (v 16), .ref (v 17), .ref (v 18), .int 0, .int 0, .int 0, .ref (v 19), .ref (v 20), .ref (v 21), .ref (v 22), .ref (v 23), .int 0, .int 0, .int 0, .int 0])), ((v 5), .inl (cy 0, 5, .inl (fun _ => 0))), (o, .inl (cy 6, 1, .inr (.inl u10)))] := hD
    refine lv_istore (lv' := [(5, .int r9), (0, .ref b), (1, .ref (u 0)), (2, .ref (v 0)), (3, .ref o), (4, .int 0)]) hx hb dL_law_1256 hl (by decide) rfl (fun ls hl => ?_)
    refine lv_aload_n hx hb dL_law_1258 rfl (lv_at hl 3 rfl) ?_
    refine lv_aload_n hx hb dL_law_1259 rfl (lv_at hl 1 rfl) ?_
    refine lv_iload hx hb dL_law_1260 (lv_at hl 5 rfl) ?_
    refine lv_iconst (v := 1) hx hb dL_law_1262 (by decide) ?_
    refine lv_iadd hx hb dL_law_1263 ?_
    refine lv_topi (fun x11 ex11 => ?_)
    obtain rfl : x11 = 1 := ex11.trans (by decide)
    refine va_sld hx hb hX hbl hbA hS (by unfold vp_in; decide) dL_law_1264 ?_
    refine lv_topi (fun x12 ex12 => ?_)
    obtain rfl : x12 = xs 1 := ex12.trans rfl
    refine lv_aload_n hx hb dL_law_1265 rfl (lv_at hl 1 rfl) ?_
    refine lv_iload hx hb dL_law_1266 (lv_at hl 5 rfl) ?_
    refine lv_iconst (v := 2) hx hb dL_law_1268 (by decide) ?_
    refine lv_iadd hx hb dL_law_1269 ?_
    refine lv_topi (fun x13 ex13 => ?_)
    obtain rfl : x13 = 2 := ex13.trans (by decide)
    refine va_sld hx hb hX hbl hbA hS (by unfold vp_in; decide) dL_law_1270 ?_
    refine lv_topi (fun x14 ex14 => ?_)
    obtain rfl : x14 = xs 2 := ex14.trans rfl
    refine lv_aload_n hx hb dL_law_1271 rfl (lv_at hl 1 rfl) ?_
    refine lv_iload hx hb dL_law_1272 (lv_at hl 5 rfl) ?_
    refine lv_iconst (v := 3) hx hb dL_law_1274 (by decide) ?_
    refine lv_iadd hx hb dL_law_1275 ?_
    refine lv_topi (fun x15 ex15 => ?_)
    obtain rfl : x15 = 3 := ex15.trans (by decide)
    refine va_sld hx hb hX hbl hbA hS (by unfold vp_in; decide) dL_law_1276 ?_
    refine lv_topi (fun x16 ex16 => ?_)
    obtain rfl : x16 = xs 3 := ex16.trans rfl
    refine lv_aload_n hx hb dL_law_1277 rfl (lv_at hl 1 rfl) ?_
    refine lv_iload hx hb dL_law_1278 (lv_at hl 5 rfl) ?_
    refine lv_iconst (v := 4) hx hb dL_law_1280 (by decide) ?_
    refine lv_iadd hx hb dL_law_1281 ?_
    refine lv_topi (fun x17 ex17 => ?_)
    obtain rfl : x17 = 4 := ex17.trans (by decide)
    refine va_sld hx hb hX hbl hbA hS (by unfold vp_in; decide) dL_law_1282 ?_
    refine lv_topi (fun x18 ex18 => ?_)
    obtain rfl : x18 = xs 4 := ex18.trans rfl
    refine k_cali [2] (⟨hP, hD, hG, hS, hA, rfl, rfl⟩ : kAt D cy sa A s H _ _ [((v 0), .inr (13, [.int 0, .int 0, .int 0, .int (-1), .int 0, .int 0, .int 0, .int 0, .ref (v 1), .ref (v 2), .ref (v 3), .ref (v 4), .ref (v 5), .ref (v 6), .ref (v 7), .ref (v 8), .ref (v 9), .int 0, .int 0, .int 0, .int 0, .int 0, .int 0, .int 0, .int 0, .int 0, .ref (v 10), .ref (v 11), .ref (v 12), .ref (v 13), .int 0, .ref (v 14), .ref (v 15), .ref (v 16), .ref (v 17), .ref (v 18), .int 0, .int 0, .int 0, .ref (v 19), .ref (v 20), .ref (v 21), .ref (v 22), .ref (v 23), .int 0, .int 0, .int 0, .int 0])), ((v 5), .inl (cy 0, 5, .inl (fun _ => 0)))] [0, 1]) (wr := [(o, .inl (cy 6, 1, .inr (.inl u10)))]) rfl rfl (by decide) (k_runV 13 0 (As := [.int (xs 1), .int (xs 2), .int (xs 3), .int (xs 4)]) (rest := []) E lk_VRL_187 rfl rfl rfl (m_taught_ l hl0 D cy sa v (xs 1) (xs 2) (xs 3) (xs 4) H.size) (⟨hP, hD, hG, hS, hA, rfl, rfl⟩ : kAt D cy sa A s H _ _ [((v 0), .inr (13, [.int 0, .int 0, .int 0, .int (-1), .int 0, .int 0, .int 0, .int 0, .ref (v 1), .ref (v 2), .ref (v 3), .ref (v 4), .ref (v 5), .ref (v 6), .ref (v 7), .ref (v 8), .ref (v 9), .int 0, .int 0, .int 0, .int 0, .int 0, .int 0, .int 0, .int 0, .int 0, .ref (v 10), .ref (v 11), .ref (v 12), .ref (v 13), .int 0, .ref (v 14), .ref (v 15), .ref (v 16), .ref (v 17), .ref (v 18), .int 0, .int 0, .int 0, .ref (v 19), .ref (v 20), .ref (v 21), .ref (v 22), .ref (v 23), .int 0, .int 0, .int 0, .int 0])), ((v 5), .inl (cy 0, 5, .inl (fun _ => 0)))] [0, 1]) hl.1 rfl rfl ⟨rfl, rfl, ⟨Nat.le_of_ble_eq_true rfl, Nat.le_of_ble_eq_true rfl⟩, ⟨Nat.le_of_ble_eq_true rfl, Nat.le_of_ble_eq_true rfl⟩, Nat.le_of_ble_eq_true rfl⟩ dL_law_1283) (fun r19 u20 H locs hwu20 hP hD hS => ?_)
    have hP : va_P D vwCl [(o, .inl (cy 6, 1, .inr (.inl u10))), ((v 0), .inr (13, .int u20.1 :: u20.2))] H := hP
    have hD : va_D A [(o, .inl (cy 6, 1, .inr (.inl u10))), ((v 0), .inr (13, .int u20.1 :: u20.2))] := hD
    refine lv_istore (lv' := [(6, .int r19), (5, .int r9), (0, .ref b), (1, .ref (u 0)), (2, .ref (v 0)), (3, .ref o), (4, .int 0)]) hx hb dL_law_1286 hl (by decide) rfl (fun ls hl => ?_)
    refine lv_aload_n hx hb dL_law_1288 rfl (lv_at hl 4 rfl) ?_
    refine k_cali [0] (⟨hP, hD, hG, hS, hA, rfl, rfl⟩ : kAt D cy sa A s H _ _ [((v 0), .inr (13, .int u20.1 :: u20.2))] [1]) (wr := [(o, .inl (cy 6, 1, .inr (.inl u10)))]) rfl rfl (by decide) (k_runV 13 1 (As := []) (rest := []) E lk_VRL_127 rfl rfl rfl (m_thrown l hl0 D cy sa v u20.1 u20.2 H.size) (⟨hP, hD, hG, hS, hA, rfl, rfl⟩ : kAt D cy sa A s H _ _ [((v 0), .inr (13, .int u20.1 :: u20.2))] [1]) hl.1 rfl rfl ⟨rfl, rfl, ⟨Nat.le_of_ble_eq_true rfl, Nat.le_of_ble_eq_true rfl⟩, ⟨Nat.le_of_ble_eq_true rfl, Nat.le_of_ble_eq_true rfl⟩, Nat.le_of_ble_eq_true rfl⟩ dL_law_1289) (fun r21 u22 H locs hwu22 hP hD hS => ?_)
    have hP : va_P D vwCl [(o, .inl (cy 6, 1, .inr (.inl u10)))] H := hP
    have hD : va_D A [(o, .inl (cy 6, 1, .inr (.inl u10)))] := hD
    rcases hwu10 with ⟨rfl, x9, hx9, hf9⟩ | ⟨rfl, hpx⟩
    · exact hx9.elim
    · obtain rfl : r21 = 1 := hwu22.trans (hwu20.2 id)
      refine lv_iload hx hb dL_law_1292 (lv_at hl 1 rfl) ?_
      refine lv_icmp_eq (tgt := 1299) hx hb dL_law_1294 (by decide) (fun _ => ?_) (fun h => absurd (by decide) h)
      refine lv_iload hx hb dL_law_1299 (lv_at hl 1 rfl) ?_
      refine lv_if_ne (tgt := 1316) hx hb dL_law_1301 (by decide) (fun _ => ?_) (fun h => absurd h (by decide))
      refine lv_goto (tgt := 2418) hx hb dL_law_1316 (by decide) ?_
      refine lv_iinc (v := 6) (lv' := [(4, .int 6), (6, .int r19), (5, .int 1), (0, .ref b), (1, .ref (u 0)), (2, .ref (v 0)), (3, .ref o)]) hx hb dL_law_2418 hl (k := 6) rfl (by decide) (by decide) rfl (fun ls hl => ?_)
      refine lv_goto (tgt := 23) hx hb dL_law_2421 (by decide) ?_
      exact law_exit E hX hbl hbA hAs hS (i := 6) (by decide) (lv_at hl 3 rfl) (lv_at hl 0 rfl) (by decide) (by decide)

set_option maxHeartbeats 4000000 in
set_option maxRecDepth 100000 in
/-- the law: pays -/
theorem law_case_19 {p : Program} {l : Launch} {e : Env} {s : State} {m : MethodId} {below : List Frame} {meth : Method} {c : Code} {D : va_G} {cy : Nat → ClassId} {sa : Nat → Nat} {b : Nat} {xs : Nat → Int32} (hl0 : l.stackTraces = false) (E : kE yL_law cL_law 7 (some .boolean) #[Value.ref b] p s m meth c) (hX : va_X b 6 xs s s.heap) (hbl : b < s.heap.size) (hG : kG D cy sa (fun q => s.heap.size ≤ q) s) (u v : Nat → Nat) (o : Nat) (H : Heap) (locs : List Loc) (hP : va_P D vwCl [((u 0), .inr (12, [.ref (u 1), .int 0, .int (-1), .ref (u 2), .ref (u 3), .ref (u 4), .ref (u 5), .ref (u 6), .ref (u 7), .ref (u 8), .int 0, .ref (u 9), .ref (u 10), .ref (u 11), .ref (u 12), .ref (u 13), .ref (u 14)])), ((u 3), .inr (4, [.ref (u 15), .ref (u 16), .ref (u 17), .ref (u 18), .ref (u 19), .ref (u 20), .ref (u 21), .ref (u 22), .ref (u 23), .ref (u 24), .ref (u 25), .ref (u 26), .int 0, .int 0, .int 0, .int 0, .int 0])), ((v 0), .inr (13, [.int 0, .int 0, .int 0, .int (-1), .int 0, .int 0, .int 0, .int 0, .ref (v 1), .ref (v 2), .ref (v 3), .ref (v 4), .ref (v 5), .ref (v 6), .ref (v 7), .ref (v 8), .ref (v 9), .int 0, .int 0, .int 0, .int 0, .int 0, .int 0, .int 0, .int 0, .int 0, .ref (v 10), .ref (v 11), .ref (v 12), .ref (v 13), .int 0, .ref (v 14), .ref (v 15), .ref (v 16), .ref (v 17), .ref (v 18), .int 0, .int 0, .int 0, .ref (v 19), .ref (v 20), .ref (v 21), .ref (v 22), .ref (v 23), .int 0, .int 0, .int 0, .int 0])), ((v 5), .inl (cy 0, 5, .inl (fun _ => 0))), (o, .inl (cy 6, 1, .inr (.inl (fun _ => 0))))] H) (hD : va_D (fun q => s.heap.size ≤ q) [((u 0), .inr (12, [.ref (u 1), .int 0, .int (-1), .ref (u 2), .ref (u 3), .ref (u 4), .ref (u 5), .ref (u 6), .ref (u 7), .ref (u 8), .int 0, .ref (u 9), .ref (u 10), .ref (u 11), .ref (u 12), .ref (u 13), .ref (u 14)])), ((u 3), .inr (4, [.ref (u 15), .ref (u 16), .ref (u 17), .ref (u 18), .ref (u 19), .ref (u 20), .ref (u 21), .ref (u 22), .ref (u 23), .ref (u 24), .ref (u 25), .ref (u 26), .int 0, .int 0, .int 0, .int 0, .int 0])), ((v 0), .inr (13, [.int 0, .int 0, .int 0, .int (-1), .int 0, .int 0, .int 0, .int 0, .ref (v 1), .ref (v 2), .ref (v 3), .ref (v 4), .ref (v 5), .ref (v 6), .ref (v 7), .ref (v 8), .ref (v 9), .int 0, .int 0, .int 0, .int 0, .int 0, .int 0, .int 0, .int 0, .int 0, .ref (v 10), .ref (v 11), .ref (v 12), .ref (v 13), .int 0, .ref (v 14), .ref (v 15), .ref (v 16), .ref (v 17), .ref (v 18), .int 0, .int 0, .int 0, .ref (v 19), .ref (v 20), .ref (v 21), .ref (v 22), .ref (v 23), .int 0, .int 0, .int 0, .int 0])), ((v 5), .inl (cy 0, 5, .inl (fun _ => 0))), (o, .inl (cy 6, 1, .inr (.inl (fun _ => 0))))]) (hS : va_S (fun q => s.heap.size ≤ q) s.heap H locs) (ls : Array Slot) (hl : lv_has ls 7 [(0, .ref b), (1, .ref (u 0)), (2, .ref (v 0)), (3, .ref o), (4, .int 0)]) : W p l e room_1 s m #[Value.ref b] below meth c H locs 179 322202 (lw_Z below #[Value.ref b] s) (F0 m 1319 ls []) := by
  obtain ⟨A, hAe⟩ : ∃ A : Nat → Prop, A = fun q => s.heap.size ≤ q := ⟨_, rfl⟩
  rw [← hAe] at hG hD hS
  have hA : ∀ q, s.heap.size ≤ q → A q := fun q h => by rw [hAe]; exact h
  have hAs : ∀ q, A q → s.heap.size ≤ q := fun q h => by rw [hAe] at h; exact h
  have hbA : ¬ A b := by rw [hAe]; exact Nat.not_le.mpr hbl
  obtain ⟨hx, hb, hml, hown, hts, hr, hlk, hnm⟩ := id E
  have hown : s.vm.findClass RL = some m.cls := hown
  refine lv_aload_n hx hb dL_law_1319 rfl (lv_at hl 1 rfl) ?_
  refine lv_aload_n hx hb dL_law_1320 rfl (lv_at hl 0 rfl) ?_
  refine lv_iload hx hb dL_law_1321 (lv_at hl 4 rfl) ?_
  refine lv_iconst (v := 1) hx hb dL_law_1323 (by decide) ?_
  refine lv_iadd hx hb dL_law_1324 ?_
  refine lv_topi (fun x1 ex1 => ?_)
  obtain rfl : x1 = 1 := ex1.trans (by decide)
  refine va_sld hx hb hX hbl hbA hS (by unfold vp_in; decide) dL_law_1325 ?_
  refine lv_topi (fun x2 ex2 => ?_)
  obtain rfl : x2 = xs 1 := ex2.trans rfl
  refine lv_aload_n hx hb dL_law_1326 rfl (lv_at hl 0 rfl) ?_
  refine lv_iload hx hb dL_law_1327 (lv_at hl 4 rfl) ?_
  refine lv_iconst (v := 2) hx hb dL_law_1329 (by decide) ?_
  refine lv_iadd hx hb dL_law_1330 ?_
  refine lv_topi (fun x3 ex3 => ?_)
  obtain rfl : x3 = 2 := ex3.trans (by decide)
  refine va_sld hx hb hX hbl hbA hS (by unfold vp_in; decide) dL_law_1331 ?_
  refine lv_topi (fun x4 ex4 => ?_)
  obtain rfl : x4 = xs 2 := ex4.trans rfl
  refine lv_aload_n hx hb dL_law_1332 rfl (lv_at hl 0 rfl) ?_
  refine lv_iload hx hb dL_law_1333 (lv_at hl 4 rfl) ?_
  refine lv_iconst (v := 3) hx hb dL_law_1335 (by decide) ?_
  refine lv_iadd hx hb dL_law_1336 ?_
  refine lv_topi (fun x5 ex5 => ?_)
  obtain rfl : x5 = 3 := ex5.trans (by decide)
  refine va_sld hx hb hX hbl hbA hS (by unfold vp_in; decide) dL_law_1337 ?_
  refine lv_topi (fun x6 ex6 => ?_)
  obtain rfl : x6 = xs 3 := ex6.trans rfl
  refine lv_aload_n hx hb dL_law_1338 rfl (lv_at hl 3 rfl) ?_
  refine x_cali [2, 3] (⟨hP, hD, hG, hS, hA, rfl, rfl⟩ : kAt D cy sa A s H _ _ [((u 0), .inr (12, [.ref (u 1), .int 0, .int (-1), .ref (u 2), .ref (u 3), .ref (u 4), .ref (u 5), .ref (u 6), .ref (u 7), .ref (u 8), .int 0, .ref (u 9), .ref (u 10), .ref (u 11), .ref (u 12), .ref (u 13), .ref (u 14)])), ((u 3), .inr (4, [.ref (u 15), .ref (u 16), .ref (u 17), .ref (u 18), .ref (u 19), .ref (u 20), .ref (u 21), .ref (u 22), .ref (u 23), .ref (u 24), .ref (u 25), .ref (u 26), .int 0, .int 0, .int 0, .int 0, .int 0])), (o, .inl (cy 6, 1, .inr (.inl (fun _ => 0))))] [0, 1, 4]) (wr := [((v 0), .inr (13, [.int 0, .int 0, .int 0, .int (-1), .int 0, .int 0, .int 0, .int 0, .ref (v 1), .ref (v 2), .ref (v 3), .ref (v 4), .ref (v 5), .ref (v 6), .ref (v 7), .ref (v 8), .ref (v 9), .int 0, .int 0, .int 0, .int 0, .int 0, .int 0, .int 0, .int 0, .int 0, .ref (v 10), .ref (v 11), .ref (v 12), .ref (v 13), .int 0, .ref (v 14), .ref (v 15), .ref (v 16), .ref (v 17), .ref (v 18), .int 0, .int 0, .int 0, .ref (v 19), .ref (v 20), .ref (v 21), .ref (v 22), .ref (v 23), .int 0, .int 0, .int 0, .int 0])), ((v 5), .inl (cy 0, 5, .inl (fun _ => 0)))]) rfl rfl (by decide) (x_runW (As := [.ref (u 0), .int (xs 1), .int (xs 2), .int (xs 3), .ref o]) (rest := []) E lk_SRL_188 (w_pays l hl0 D cy sa u o (xs 1) (xs 2) (xs 3) H.size) (⟨hP, hD, hG, hS, hA, rfl, rfl⟩ : kAt D cy sa A s H _ _ [((u 0), .inr (12, [.ref (u 1), .int 0, .int (-1), .ref (u 2), .ref (u 3), .ref (u 4), .ref (u 5), .ref (u 6), .ref (u 7), .ref (u 8), .int 0, .ref (u 9), .ref (u 10), .ref (u 11), .ref (u 12), .ref (u 13), .ref (u 14)])), ((u 3), .inr (4, [.ref (u 15), .ref (u 16), .ref (u 17), .ref (u 18), .ref (u 19), .ref (u 20), .ref (u 21), .ref (u 22), .ref (u 23), .ref (u 24), .ref (u 25), .ref (u 26), .int 0, .int 0, .int 0, .int 0, .int 0])), (o, .inl (cy 6, 1, .inr (.inl (fun _ => 0))))] [0, 1, 4]) hl.1 rfl rfl ⟨rfl, rfl, ⟨Nat.le_of_ble_eq_true rfl, Nat.le_of_ble_eq_true rfl⟩, ⟨Nat.le_of_ble_eq_true rfl, Nat.le_of_ble_eq_true rfl⟩, Nat.le_of_ble_eq_true rfl⟩ dL_law_1339) (fun ce q9 u8 H locs hwu8 hP hD hS h1 h2 h3 => ?_) (fun r7 u8 H locs hwu8 hP hD hS => ?_)
  · have hP : va_P D vwCl [((v 0), .inr (13, [.int 0, .int 0, .int 0, .int (-1), .int 0, .int 0, .int 0, .int 0, .ref (v 1), .ref (v 2), .ref (v 3), .ref (v 4), .ref (v 5), .ref (v 6), .ref (v 7), .ref (v 8), .ref (v 9), .int 0, .int 0, .int 0, .int 0, .int 0, .int 0, .int 0, .int 0, .int 0, .ref (v 10), .ref (v 11), .ref (v 12), .ref (v 13), .int 0, .ref (v 14), .ref (v 15), .ref (v 16), .ref (v 17), .ref (v 18), .int 0, .int 0, .int 0, .ref (v 19), .ref (v 20), .ref (v 21), .ref (v 22), .ref (v 23), .int 0, .int 0, .int 0, .int 0])), ((v 5), .inl (cy 0, 5, .inl (fun _ => 0)))] H := hP
    have hD : va_D A [((v 0), .inr (13, [.int 0, .int 0, .int 0, .int (-1), .int 0, .int 0, .int 0, .int 0, .ref (v 1), .ref (v 2), .ref (v 3), .ref (v 4), .ref (v 5), .ref (v 6), .ref (v 7), .ref (v 8), .ref (v 9), .int 0, .int 0, .int 0, .int 0, .int 0, .int 0, .int 0, .int 0, .int 0, .ref (v 10), .ref (v 11), .ref (v 12), .ref (v 13), .int 0, .ref (v 14), .ref (v 15), .ref (v 16), .ref (v 17), .ref (v 18), .int 0, .int 0, .int 0, .ref (v 19), .ref (v 20), .ref (v 21), .ref (v 22), .ref (v 23), .int 0, .int 0, .int 0, .int 0])), ((v 5), .inl (cy 0, 5, .inl (fun _ => 0)))] := hD
    exact (hwu8).elim
  · have hP : va_P D vwCl [((v 0), .inr (13, [.int 0, .int 0, .int 0, .int (-1), .int 0, .int 0, .int 0, .int 0, .ref (v 1), .ref (v 2), .ref (v 3), .ref (v 4), .ref (v 5), .ref (v 6), .ref (v 7), .ref (v 8), .ref (v 9), .int 0, .int 0, .int 0, .int 0, .int 0, .int 0, .int 0, .int 0, .int 0, .ref (v 10), .ref (v 11), .ref (v 12), .ref (v 13), .int 0, .ref (v 14), .ref (v 15), .ref (v 16), .ref (v 17), .ref (v 18), .int 0, .int 0, .int 0, .ref (v 19), .ref (v 20), .ref (v 21), .ref (v 22), .ref (v 23), .int 0, .int 0, .int 0, .int 0])), ((v 5), .inl (cy 0, 5, .inl (fun _ => 0))), (o, .inl (cy 6, 1, .inr (.inl u8)))] H := hP
    have hD : va_D A [((v 0), .inr (13, [.int 0, .int 0, .int 0, .int (-1), .int 0, .int 0, .int 0, .int 0, .ref (v 1), .ref (v 2), .ref (v 3), .ref (v 4), .ref (v 5), .ref (v 6), .ref (v 7), .ref (v 8), .ref (v 9), .int 0, .int 0, .int 0, .int 0, .int 0, .int 0, .int 0, .int 0, .int 0, .ref (v 10), .ref (v 11), .ref (v 12), .ref (v 13), .int 0, .ref (v 14), .ref (v 15), .ref (v 16), .ref (v 17), .ref (v 18), .int 0, .int 0, .int 0, .ref (v 19), .ref (v 20), .ref (v 21), .ref (v 22), .ref (v 23), .int 0, .int 0, .int 0, .int 0])), ((v 5), .inl (cy 0, 5, .inl (fun _ => 0))), (o, .inl (cy 6, 1, .inr (.inl u8)))] := hD
    refine lv_istore (lv' := [(5, .int r7), (0, .ref b), (1, .ref (u 0)), (2, .ref (v 0)), (3, .ref o), (4, .int 0)]) hx hb dL_law_1342 hl (by decide) rfl (fun ls hl => ?_)
    refine lv_aload_n hx hb dL_law_1344 rfl (lv_at hl 3 rfl) ?_
    refine lv_aload_n hx hb dL_law_1345 rfl (lv_at hl 1 rfl) ?_
    refine lv_iload hx hb dL_law_1346 (lv_at hl 5 rfl) ?_
    refine lv_iconst (v := 1) hx hb dL_law_1348 (by decide) ?_
    refine lv_iadd hx hb dL_law_1349 ?_
    refine lv_topi (fun x9 ex9 => ?_)
    obtain rfl : x9 = 1 := ex9.trans (by decide)
    refine va_sld hx hb hX hbl hbA hS (by unfold vp_in; decide) dL_law_1350 ?_
    refine lv_topi (fun x10 ex10 => ?_)
    obtain rfl : x10 = xs 1 := ex10.trans rfl
    refine lv_aload_n hx hb dL_law_1351 rfl (lv_at hl 1 rfl) ?_
    refine lv_iload hx hb dL_law_1352 (lv_at hl 5 rfl) ?_
    refine lv_iconst (v := 2) hx hb dL_law_1354 (by decide) ?_
    refine lv_iadd hx hb dL_law_1355 ?_
    refine lv_topi (fun x11 ex11 => ?_)
    obtain rfl : x11 = 2 := ex11.trans (by decide)
    refine va_sld hx hb hX hbl hbA hS (by unfold vp_in; decide) dL_law_1356 ?_
    refine lv_topi (fun x12 ex12 => ?_)
    obtain rfl : x12 = xs 2 := ex12.trans rfl
    refine lv_aload_n hx hb dL_law_1357 rfl (lv_at hl 1 rfl) ?_
    refine lv_iload hx hb dL_law_1358 (lv_at hl 5 rfl) ?_
    refine lv_iconst (v := 3) hx hb dL_law_1360 (by decide) ?_
    refine lv_iadd hx hb dL_law_1361 ?_
    refine lv_topi (fun x13 ex13 => ?_)
    obtain rfl : x13 = 3 := ex13.trans (by decide)
    refine va_sld hx hb hX hbl hbA hS (by unfold vp_in; decide) dL_law_1362 ?_
    refine lv_topi (fun x14 ex14 => ?_)
    obtain rfl : x14 = xs 3 := ex14.trans rfl
    refine k_cali [2] (⟨hP, hD, hG, hS, hA, rfl, rfl⟩ : kAt D cy sa A s H _ _ [((v 0), .inr (13, [.int 0, .int 0, .int 0, .int (-1), .int 0, .int 0, .int 0, .int 0, .ref (v 1), .ref (v 2), .ref (v 3), .ref (v 4), .ref (v 5), .ref (v 6), .ref (v 7), .ref (v 8), .ref (v 9), .int 0, .int 0, .int 0, .int 0, .int 0, .int 0, .int 0, .int 0, .int 0, .ref (v 10), .ref (v 11), .ref (v 12), .ref (v 13), .int 0, .ref (v 14), .ref (v 15), .ref (v 16), .ref (v 17), .ref (v 18), .int 0, .int 0, .int 0, .ref (v 19), .ref (v 20), .ref (v 21), .ref (v 22), .ref (v 23), .int 0, .int 0, .int 0, .int 0])), ((v 5), .inl (cy 0, 5, .inl (fun _ => 0)))] [0, 1]) (wr := [(o, .inl (cy 6, 1, .inr (.inl u8)))]) rfl rfl (by decide) (k_runV 13 0 (As := [.int (xs 1), .int (xs 2), .int (xs 3)]) (rest := []) E lk_VRL_191 rfl rfl rfl (m_pays_ l hl0 D cy sa v (xs 1) (xs 2) (xs 3) H.size) (⟨hP, hD, hG, hS, hA, rfl, rfl⟩ : kAt D cy sa A s H _ _ [((v 0), .inr (13, [.int 0, .int 0, .int 0, .int (-1), .int 0, .int 0, .int 0, .int 0, .ref (v 1), .ref (v 2), .ref (v 3), .ref (v 4), .ref (v 5), .ref (v 6), .ref (v 7), .ref (v 8), .ref (v 9), .int 0, .int 0, .int 0, .int 0, .int 0, .int 0, .int 0, .int 0, .int 0, .ref (v 10), .ref (v 11), .ref (v 12), .ref (v 13), .int 0, .ref (v 14), .ref (v 15), .ref (v 16), .ref (v 17), .ref (v 18), .int 0, .int 0, .int 0, .ref (v 19), .ref (v 20), .ref (v 21), .ref (v 22), .ref (v 23), .int 0, .int 0, .int 0, .int 0])), ((v 5), .inl (cy 0, 5, .inl (fun _ => 0)))] [0, 1]) hl.1 rfl rfl ⟨rfl, rfl, ⟨Nat.le_of_ble_eq_true rfl, Nat.le_of_ble_eq_true rfl⟩, ⟨Nat.le_of_ble_eq_true rfl, Nat.le_of_ble_eq_true rfl⟩, Nat.le_of_ble_eq_true rfl⟩ dL_law_1363) (fun r15 u16 H locs hwu16 hP hD hS => ?_)
    have hP : va_P D vwCl [(o, .inl (cy 6, 1, .inr (.inl u8))), ((v 0), .inr (13, .int u16.1 :: u16.2))] H := hP
    have hD : va_D A [(o, .inl (cy 6, 1, .inr (.inl u8))), ((v 0), .inr (13, .int u16.1 :: u16.2))] := hD
    refine lv_istore (lv' := [(6, .int r15), (5, .int r7), (0, .ref b), (1, .ref (u 0)), (2, .ref (v 0)), (3, .ref o), (4, .int 0)]) hx hb dL_law_1366 hl (by decide) rfl (fun ls hl => ?_)
    refine lv_aload_n hx hb dL_law_1368 rfl (lv_at hl 4 rfl) ?_
    refine k_cali [0] (⟨hP, hD, hG, hS, hA, rfl, rfl⟩ : kAt D cy sa A s H _ _ [((v 0), .inr (13, .int u16.1 :: u16.2))] [1]) (wr := [(o, .inl (cy 6, 1, .inr (.inl u8)))]) rfl rfl (by decide) (k_runV 13 1 (As := []) (rest := []) E lk_VRL_127 rfl rfl rfl (m_thrown l hl0 D cy sa v u16.1 u16.2 H.size) (⟨hP, hD, hG, hS, hA, rfl, rfl⟩ : kAt D cy sa A s H _ _ [((v 0), .inr (13, .int u16.1 :: u16.2))] [1]) hl.1 rfl rfl ⟨rfl, rfl, ⟨Nat.le_of_ble_eq_true rfl, Nat.le_of_ble_eq_true rfl⟩, ⟨Nat.le_of_ble_eq_true rfl, Nat.le_of_ble_eq_true rfl⟩, Nat.le_of_ble_eq_true rfl⟩ dL_law_1369) (fun r17 u18 H locs hwu18 hP hD hS => ?_)
    have hP : va_P D vwCl [(o, .inl (cy 6, 1, .inr (.inl u8)))] H := hP
    have hD : va_D A [(o, .inl (cy 6, 1, .inr (.inl u8)))] := hD
    rcases hwu8 with ⟨rfl, x9, hx9, hf9⟩ | ⟨rfl, hpx⟩
    · obtain ⟨ht9, hr9⟩ := hwu16.1 (hx9.1)
      obtain rfl : r17 = 0 := hwu18.trans ht9
      have heq : x9 = r15 := hx9.2.trans hr9.symm
      refine lv_iload hx hb dL_law_1372 (lv_at hl 1 rfl) ?_
      refine lv_icmp_eq (tgt := 1379) hx hb dL_law_1374 (by decide) (fun _ => ?_) (fun h => absurd (by decide) h)
      refine lv_iload hx hb dL_law_1379 (lv_at hl 1 rfl) ?_
      refine lv_if_ne (tgt := 1396) hx hb dL_law_1381 (by decide) (fun h => absurd (by decide) h) (fun _ => ?_)
      refine lv_aload_n hx hb dL_law_1384 rfl (lv_at hl 5 rfl) ?_
      refine lv_iconst (v := 0) hx hb dL_law_1385 (by decide) ?_
      refine va_lald hx hb hG.1 hP 0 6 rfl rfl (by unfold vp_in; decide) dL_law_1386 ?_
      refine W.eq (g2 := F0 m 1387 ls [.long (u8 0)]) rfl ?_
      refine lv_iload hx hb dL_law_1387 (lv_at hl 0 rfl) ?_
      refine lv_i2l (v := (r15 : Int32).toInt64) hx hb dL_law_1389 rfl ?_
      refine W.lcmp hx hb dL_law_1390 ?_
      refine lv_topi (fun x19 ex19 => ?_)
      obtain rfl : x19 = 0 := ex19.trans (by rw [hf9, heq]; exact k_cmp _)
      refine lv_if_eq (tgt := 1396) hx hb dL_law_1391 (by decide) (fun _ => ?_) (fun h => absurd (by decide) h)
      refine lv_goto (tgt := 2418) hx hb dL_law_1396 (by decide) ?_
      refine lv_iinc (v := 6) (lv' := [(4, .int 6), (6, .int r15), (5, .int 0), (0, .ref b), (1, .ref (u 0)), (2, .ref (v 0)), (3, .ref o)]) hx hb dL_law_2418 hl (k := 6) rfl (by decide) (by decide) rfl (fun ls hl => ?_)
      refine lv_goto (tgt := 23) hx hb dL_law_2421 (by decide) ?_
      exact law_exit E hX hbl hbA hAs hS (i := 6) (by decide) (lv_at hl 3 rfl) (lv_at hl 0 rfl) (by decide) (by decide)
    · obtain rfl : r17 = 1 := hwu18.trans (hwu16.2 (fun h => absurd h hpx))
      refine lv_iload hx hb dL_law_1372 (lv_at hl 1 rfl) ?_
      refine lv_icmp_eq (tgt := 1379) hx hb dL_law_1374 (by decide) (fun _ => ?_) (fun h => absurd (by decide) h)
      refine lv_iload hx hb dL_law_1379 (lv_at hl 1 rfl) ?_
      refine lv_if_ne (tgt := 1396) hx hb dL_law_1381 (by decide) (fun _ => ?_) (fun h => absurd h (by decide))
      refine lv_goto (tgt := 2418) hx hb dL_law_1396 (by decide) ?_
      refine lv_iinc (v := 6) (lv' := [(4, .int 6), (6, .int r15), (5, .int 1), (0, .ref b), (1, .ref (u 0)), (2, .ref (v 0)), (3, .ref o)]) hx hb dL_law_2418 hl (k := 6) rfl (by decide) (by decide) rfl (fun ls hl => ?_)
      refine lv_goto (tgt := 23) hx hb dL_law_2421 (by decide) ?_
      exact law_exit E hX hbl hbA hAs hS (i := 6) (by decide) (lv_at hl 3 rfl) (lv_at hl 0 rfl) (by decide) (by decide)
