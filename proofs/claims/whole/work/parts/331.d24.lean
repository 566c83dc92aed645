theorem dL_law_2062 : decode cL_law 2062 = .ok (.istore 6, 2) := by decide +kernel
theorem dL_law_2064 : decode cL_law 2064 = .ok (.aload_n 2, 1) := by decide +kernel
theorem dL_law_2065 : decode cL_law 2065 = .ok (.invokevirtual 255, 3) := by decide +kernel
theorem dL_law_2068 : decode cL_law 2068 = .ok (.dstore 7, 2) := by decide +kernel
theorem dL_law_2070 : decode cL_law 2070 = .ok (.aload_n 2, 1) := by decide +kernel
theorem dL_law_2071 : decode cL_law 2071 = .ok (.invokevirtual 143, 3) := by decide +kernel
theorem dL_law_2074 : decode cL_law 2074 = .ok (.iload 6, 2) := by decide +kernel
theorem dL_law_2076 : decode cL_law 2076 = .ok (.if_icmp .eq 5, 3) := by decide +kernel
theorem dL_law_2079 : decode cL_law 2079 = .ok (.iconst 0, 1) := by decide +kernel
theorem dL_law_2080 : decode cL_law 2080 = .ok (.ireturn, 1) := by decide +kernel
theorem dL_law_2081 : decode cL_law 2081 = .ok (.iload 6, 2) := by decide +kernel
theorem dL_law_2083 : decode cL_law 2083 = .ok (.ifCond .ne 35, 3) := by decide +kernel
theorem dL_law_2086 : decode cL_law 2086 = .ok (.aload 4, 2) := by decide +kernel
theorem dL_law_2088 : decode cL_law 2088 = .ok (.iconst 0, 1) := by decide +kernel
theorem dL_law_2089 : decode cL_law 2089 = .ok (.daload, 1) := by decide +kernel
theorem dL_law_2090 : decode cL_law 2090 = .ok (.dload 7, 2) := by decide +kernel
theorem dL_law_2092 : decode cL_law 2092 = .ok (.dcmp .l, 1) := by decide +kernel
theorem dL_law_2093 : decode cL_law 2093 = .ok (.ifCond .eq 25, 3) := by decide +kernel
theorem dL_law_2096 : decode cL_law 2096 = .ok (.aload 4, 2) := by decide +kernel
theorem dL_law_2098 : decode cL_law 2098 = .ok (.iconst 0, 1) := by decide +kernel
theorem dL_law_2099 : decode cL_law 2099 = .ok (.daload, 1) := by decide +kernel
theorem dL_law_2100 : decode cL_law 2100 = .ok (.aload 4, 2) := by decide +kernel
theorem dL_law_2102 : decode cL_law 2102 = .ok (.iconst 0, 1) := by decide +kernel
theorem dL_law_2103 : decode cL_law 2103 = .ok (.daload, 1) := by decide +kernel
theorem dL_law_2104 : decode cL_law 2104 = .ok (.dcmp .l, 1) := by decide +kernel
theorem dL_law_2105 : decode cL_law 2105 = .ok (.ifCond .eq 11, 3) := by decide +kernel
theorem dL_law_2108 : decode cL_law 2108 = .ok (.dload 7, 2) := by decide +kernel
theorem dL_law_2110 : decode cL_law 2110 = .ok (.dload 7, 2) := by decide +kernel
theorem dL_law_2112 : decode cL_law 2112 = .ok (.dcmp .l, 1) := by decide +kernel
theorem dL_law_2113 : decode cL_law 2113 = .ok (.ifCond .ne 5, 3) := by decide +kernel
theorem dL_law_2116 : decode cL_law 2116 = .ok (.iconst 0, 1) := by decide +kernel
theorem dL_law_2117 : decode cL_law 2117 = .ok (.ireturn, 1) := by decide +kernel
theorem dL_law_2118 : decode cL_law 2118 = .ok (.goto 226, 3) := by decide +kernel
theorem dL_law_2121 : decode cL_law 2121 = .ok (.aload_n 1, 1) := by decide +kernel
theorem dL_law_2122 : decode cL_law 2122 = .ok (.aload 4, 2) := by decide +kernel
theorem dL_law_2124 : decode cL_law 2124 = .ok (.invokestatic 256, 3) := by decide +kernel
theorem dL_law_2127 : decode cL_law 2127 = .ok (.istore 6, 2) := by decide +kernel
theorem dL_law_2129 : decode cL_law 2129 = .ok (.aload_n 2, 1) := by decide +kernel
theorem dL_law_2130 : decode cL_law 2130 = .ok (.invokevirtual 258, 3) := by decide +kernel
theorem dL_law_2133 : decode cL_law 2133 = .ok (.fstore 7, 2) := by decide +kernel
theorem dL_law_2135 : decode cL_law 2135 = .ok (.aload_n 2, 1) := by decide +kernel
theorem dL_law_2136 : decode cL_law 2136 = .ok (.invokevirtual 143, 3) := by decide +kernel
theorem dL_law_2139 : decode cL_law 2139 = .ok (.iload 6, 2) := by decide +kernel
theorem dL_law_2141 : decode cL_law 2141 = .ok (.if_icmp .eq 5, 3) := by decide +kernel
theorem dL_law_2144 : decode cL_law 2144 = .ok (.iconst 0, 1) := by decide +kernel
theorem dL_law_2145 : decode cL_law 2145 = .ok (.ireturn, 1) := by decide +kernel
theorem dL_law_2146 : decode cL_law 2146 = .ok (.iload 6, 2) := by decide +kernel
theorem dL_law_2148 : decode cL_law 2148 = .ok (.ifCond .ne 36, 3) := by decide +kernel
theorem dL_law_2151 : decode cL_law 2151 = .ok (.aload 4, 2) := by decide +kernel
theorem dL_law_2153 : decode cL_law 2153 = .ok (.iconst 0, 1) := by decide +kernel
