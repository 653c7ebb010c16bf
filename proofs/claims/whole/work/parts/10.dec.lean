theorem dL_law__2216 : decode cL_law_ 2216 = .ok (.iconst 0, 1) := by decide +kernel
theorem dL_law__2217 : decode cL_law_ 2217 = .ok (.laload, 1) := by decide +kernel
theorem dL_law__2218 : decode cL_law_ 2218 = .ok (.iload 6, 2) := by decide +kernel
theorem dL_law__2220 : decode cL_law_ 2220 = .ok (.i2l, 1) := by decide +kernel
theorem dL_law__2221 : decode cL_law_ 2221 = .ok (.lcmp, 1) := by decide +kernel
theorem dL_law__2222 : decode cL_law_ 2222 = .ok (.ifCond .eq 5, 3) := by decide +kernel
theorem dL_law__2225 : decode cL_law_ 2225 = .ok (.iconst 0, 1) := by decide +kernel
theorem dL_law__2226 : decode cL_law_ 2226 = .ok (.ireturn, 1) := by decide +kernel
theorem dL_law__2227 : decode cL_law_ 2227 = .ok (.goto 83, 3) := by decide +kernel
theorem dL_law__2230 : decode cL_law_ 2230 = .ok (.aload_n 1, 1) := by decide +kernel
theorem dL_law__2231 : decode cL_law_ 2231 = .ok (.aload_n 0, 1) := by decide +kernel
theorem dL_law__2232 : decode cL_law_ 2232 = .ok (.iload 4, 2) := by decide +kernel
theorem dL_law__2234 : decode cL_law_ 2234 = .ok (.iconst 1, 1) := by decide +kernel
theorem dL_law__2235 : decode cL_law_ 2235 = .ok (.iadd, 1) := by decide +kernel
theorem dL_law__2236 : decode cL_law_ 2236 = .ok (.iaload, 1) := by decide +kernel
theorem dL_law__2237 : decode cL_law_ 2237 = .ok (.aload_n 0, 1) := by decide +kernel
theorem dL_law__2238 : decode cL_law_ 2238 = .ok (.iload 4, 2) := by decide +kernel
theorem dL_law__2240 : decode cL_law_ 2240 = .ok (.iconst 2, 1) := by decide +kernel
theorem dL_law__2241 : decode cL_law_ 2241 = .ok (.iadd, 1) := by decide +kernel
theorem dL_law__2242 : decode cL_law_ 2242 = .ok (.iaload, 1) := by decide +kernel
theorem dL_law__2243 : decode cL_law_ 2243 = .ok (.aload_n 0, 1) := by decide +kernel
theorem dL_law__2244 : decode cL_law_ 2244 = .ok (.iload 4, 2) := by decide +kernel
theorem dL_law__2246 : decode cL_law_ 2246 = .ok (.iconst 3, 1) := by decide +kernel
theorem dL_law__2247 : decode cL_law_ 2247 = .ok (.iadd, 1) := by decide +kernel
theorem dL_law__2248 : decode cL_law_ 2248 = .ok (.iaload, 1) := by decide +kernel
theorem dL_law__2249 : decode cL_law_ 2249 = .ok (.aload_n 3, 1) := by decide +kernel
theorem dL_law__2250 : decode cL_law_ 2250 = .ok (.invokestatic 227, 3) := by decide +kernel
theorem dL_law__2253 : decode cL_law_ 2253 = .ok (.istore 5, 2) := by decide +kernel
theorem dL_law__2255 : decode cL_law_ 2255 = .ok (.aload_n 2, 1) := by decide +kernel
theorem dL_law__2256 : decode cL_law_ 2256 = .ok (.aload_n 0, 1) := by decide +kernel
theorem dL_law__2257 : decode cL_law_ 2257 = .ok (.iload 4, 2) := by decide +kernel
theorem dL_law__2259 : decode cL_law_ 2259 = .ok (.iconst 1, 1) := by decide +kernel
theorem dL_law__2260 : decode cL_law_ 2260 = .ok (.iadd, 1) := by decide +kernel
theorem dL_law__2261 : decode cL_law_ 2261 = .ok (.iaload, 1) := by decide +kernel
theorem dL_law__2262 : decode cL_law_ 2262 = .ok (.aload_n 0, 1) := by decide +kernel
theorem dL_law__2263 : decode cL_law_ 2263 = .ok (.iload 4, 2) := by decide +kernel
theorem dL_law__2265 : decode cL_law_ 2265 = .ok (.iconst 2, 1) := by decide +kernel
theorem dL_law__2266 : decode cL_law_ 2266 = .ok (.iadd, 1) := by decide +kernel
theorem dL_law__2267 : decode cL_law_ 2267 = .ok (.iaload, 1) := by decide +kernel
theorem dL_law__2268 : decode cL_law_ 2268 = .ok (.aload_n 0, 1) := by decide +kernel
theorem dL_law__2269 : decode cL_law_ 2269 = .ok (.iload 4, 2) := by decide +kernel
theorem dL_law__2271 : decode cL_law_ 2271 = .ok (.iconst 3, 1) := by decide +kernel
theorem dL_law__2272 : decode cL_law_ 2272 = .ok (.iadd, 1) := by decide +kernel
theorem dL_law__2273 : decode cL_law_ 2273 = .ok (.iaload, 1) := by decide +kernel
theorem dL_law__2274 : decode cL_law_ 2274 = .ok (.invokevirtual 229, 3) := by decide +kernel
theorem dL_law__2277 : decode cL_law_ 2277 = .ok (.istore 6, 2) := by decide +kernel
theorem dL_law__2279 : decode cL_law_ 2279 = .ok (.aload_n 2, 1) := by decide +kernel
theorem dL_law__2280 : decode cL_law_ 2280 = .ok (.invokevirtual 124, 3) := by decide +kernel
theorem dL_law__2283 : decode cL_law_ 2283 = .ok (.iload 5, 2) := by decide +kernel
theorem dL_law__2285 : decode cL_law_ 2285 = .ok (.if_icmp .eq 5, 3) := by decide +kernel
theorem dL_law__2288 : decode cL_law_ 2288 = .ok (.iconst 0, 1) := by decide +kernel
theorem dL_law__2289 : decode cL_law_ 2289 = .ok (.ireturn, 1) := by decide +kernel
theorem dL_law__2290 : decode cL_law_ 2290 = .ok (.iload 5, 2) := by decide +kernel
theorem dL_law__2292 : decode cL_law_ 2292 = .ok (.ifCond .ne 15, 3) := by decide +kernel
theorem dL_law__2295 : decode cL_law_ 2295 = .ok (.aload_n 3, 1) := by decide +kernel
theorem dL_law__2296 : decode cL_law_ 2296 = .ok (.iconst 0, 1) := by decide +kernel
theorem dL_law__2297 : decode cL_law_ 2297 = .ok (.laload, 1) := by decide +kernel
theorem dL_law__2298 : decode cL_law_ 2298 = .ok (.iload 6, 2) := by decide +kernel
theorem dL_law__2300 : decode cL_law_ 2300 = .ok (.i2l, 1) := by decide +kernel
theorem dL_law__2301 : decode cL_law_ 2301 = .ok (.lcmp, 1) := by decide +kernel
theorem dL_law__2302 : decode cL_law_ 2302 = .ok (.ifCond .eq 5, 3) := by decide +kernel
theorem dL_law__2305 : decode cL_law_ 2305 = .ok (.iconst 0, 1) := by decide +kernel
theorem dL_law__2306 : decode cL_law_ 2306 = .ok (.ireturn, 1) := by decide +kernel
theorem dL_law__2307 : decode cL_law_ 2307 = .ok (.goto 3, 3) := by decide +kernel
theorem dL_law__2310 : decode cL_law_ 2310 = .ok (.iinc 4 6, 3) := by decide +kernel
theorem dL_law__2313 : decode cL_law_ 2313 = .ok (.goto (-2290), 3) := by decide +kernel
theorem dL_law__2316 : decode cL_law_ 2316 = .ok (.iconst 1, 1) := by decide +kernel
theorem dL_law__2317 : decode cL_law_ 2317 = .ok (.ireturn, 1) := by decide +kernel
