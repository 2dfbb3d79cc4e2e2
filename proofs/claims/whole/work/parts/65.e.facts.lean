/-! ===== facts by program: plain cells, swapped arrays, constants, numbers ===== -/
theorem pl_6 : pl 6 = true := rfl
theorem pl_7 : pl 7 = true := rfl
theorem pl_8 : 6 ≤ 8 ∧ 8 < 2333 := by decide
theorem pl_29 : pl 29 = true := rfl
theorem pl_30 : 6 ≤ 30 ∧ 30 < 2333 := by decide
theorem pl_51 : pl 51 = true := rfl
theorem pl_52 : 6 ≤ 52 ∧ 52 < 2333 := by decide
theorem pl_55 : pl 55 = true := rfl
theorem pl_60 : pl 60 = true := rfl
theorem pl_61 : pl 61 = true := rfl
theorem pl_62 : 6 ≤ 62 ∧ 62 < 2333 := by decide
theorem pl_283 : 6 ≤ 283 ∧ 283 < 2333 := by decide
theorem pl_724 : pl 724 = true := rfl
theorem pl_725 : pl 725 = true := rfl
theorem pl_726 : pl 726 = true := rfl
theorem pl_727 : pl 727 = true := rfl
theorem pl_728 : pl 728 = true := rfl
theorem pl_729 : pl 729 = true := rfl
theorem pl_730 : pl 730 = true := rfl
theorem pl_731 : pl 731 = true := rfl
theorem pl_732 : pl 732 = true := rfl
theorem pl_733 : pl 733 = true := rfl
theorem pl_734 : pl 734 = true := rfl
theorem pl_735 : pl 735 = true := rfl
theorem pl_736 : pl 736 = true := rfl
theorem pl_737 : pl 737 = true := rfl
theorem pl_738 : pl 738 = true := rfl
theorem pl_739 : pl 739 = true := rfl
theorem pl_740 : 6 ≤ 740 ∧ 740 < 2333 := by decide
theorem pl_753 : pl 753 = true := rfl
theorem pl_754 : pl 754 = true := rfl
theorem pl_755 : pl 755 = true := rfl
theorem pl_756 : pl 756 = true := rfl
theorem pl_757 : pl 757 = true := rfl
theorem pl_758 : pl 758 = true := rfl
theorem pl_759 : pl 759 = true := rfl
theorem pl_760 : pl 760 = true := rfl
theorem pl_761 : 6 ≤ 761 ∧ 761 < 2333 := by decide
theorem pl_802 : pl 802 = true := rfl
theorem pl_803 : 6 ≤ 803 ∧ 803 < 2333 := by decide
theorem pl_824 : pl 824 = true := rfl
theorem pl_828 : 6 ≤ 828 ∧ 828 < 2333 := by decide
theorem pl_889 : 6 ≤ 889 ∧ 889 < 2333 := by decide
theorem pl_906 : pl 906 = true := rfl
theorem pl_907 : pl 907 = true := rfl
theorem pl_908 : pl 908 = true := rfl
theorem pl_909 : pl 909 = true := rfl
theorem pl_910 : 6 ≤ 910 ∧ 910 < 2333 := by decide
theorem pl_931 : 6 ≤ 931 ∧ 931 < 2333 := by decide
theorem pl_952 : 6 ≤ 952 ∧ 952 < 2333 := by decide
theorem pl_1003 : pl 1003 = true := rfl
theorem pl_1004 : pl 1004 = true := rfl
theorem pl_1005 : pl 1005 = true := rfl
theorem pl_1006 : pl 1006 = true := rfl
theorem pl_1007 : pl 1007 = true := rfl
theorem pl_1008 : 6 ≤ 1008 ∧ 1008 < 2333 := by decide
theorem pl_1049 : pl 1049 = true := rfl
theorem pl_1050 : 6 ≤ 1050 ∧ 1050 < 2333 := by decide
theorem pl_1091 : 6 ≤ 1091 ∧ 1091 < 2333 := by decide
theorem pl_1132 : pl 1132 = true := rfl
theorem pl_1133 : pl 1133 = true := rfl
theorem pl_1134 : pl 1134 = true := rfl
theorem pl_1135 : pl 1135 = true := rfl
theorem pl_1136 : pl 1136 = true := rfl
theorem pl_1137 : pl 1137 = true := rfl
theorem pl_1138 : pl 1138 = true := rfl
theorem pl_1139 : pl 1139 = true := rfl
theorem pl_1140 : 6 ≤ 1140 ∧ 1140 < 2333 := by decide
theorem pl_1149 : 6 ≤ 1149 ∧ 1149 < 2333 := by decide
theorem pl_1158 : 6 ≤ 1158 ∧ 1158 < 2333 := by decide
theorem pl_1167 : pl 1167 = true := rfl
theorem pl_1168 : pl 1168 = true := rfl
theorem pl_1169 : pl 1169 = true := rfl
theorem pl_1170 : pl 1170 = true := rfl
theorem pl_1171 : pl 1171 = true := rfl
theorem pl_1172 : pl 1172 = true := rfl
theorem pl_1173 : pl 1173 = true := rfl
theorem pl_1174 : pl 1174 = true := rfl
theorem pl_1175 : pl 1175 = true := rfl
theorem pl_1176 : 6 ≤ 1176 ∧ 1176 < 2333 := by decide
theorem pl_1197 : 6 ≤ 1197 ∧ 1197 < 2333 := by decide
theorem pl_1218 : 6 ≤ 1218 ∧ 1218 < 2333 := by decide
theorem pl_1269 : pl 1269 = true := rfl
theorem pl_1270 : pl 1270 = true := rfl
theorem pl_1271 : pl 1271 = true := rfl
theorem pl_1272 : pl 1272 = true := rfl
theorem pl_1273 : pl 1273 = true := rfl
theorem pl_1274 : pl 1274 = true := rfl
theorem pl_1275 : pl 1275 = true := rfl
theorem pl_1276 : 6 ≤ 1276 ∧ 1276 < 2333 := by decide
theorem pl_1337 : pl 1337 = true := rfl
theorem pl_1338 : 6 ≤ 1338 ∧ 1338 < 2333 := by decide
theorem pl_1343 : 6 ≤ 1343 ∧ 1343 < 2333 := by decide
theorem pl_1744 : pl 1744 = true := rfl
theorem pl_1745 : 6 ≤ 1745 ∧ 1745 < 2333 := by decide
theorem pl_2146 : pl 2146 = true := rfl
theorem pl_2147 : 6 ≤ 2147 ∧ 2147 < 2333 := by decide
theorem pl_2152 : pl 2152 = true := rfl
theorem pl_2153 : pl 2153 = true := rfl
theorem pl_2154 : pl 2154 = true := rfl
theorem pl_2155 : pl 2155 = true := rfl
theorem pl_2156 : pl 2156 = true := rfl
theorem pl_2157 : pl 2157 = true := rfl
theorem pl_2158 : pl 2158 = true := rfl
theorem pl_2159 : pl 2159 = true := rfl
theorem pl_2160 : pl 2160 = true := rfl
theorem pl_2161 : pl 2161 = true := rfl
theorem pl_2162 : pl 2162 = true := rfl
theorem pl_2163 : pl 2163 = true := rfl
theorem pl_2164 : pl 2164 = true := rfl
theorem pl_2165 : pl 2165 = true := rfl
theorem pl_2174 : pl 2174 = true := rfl
theorem pl_2175 : pl 2175 = true := rfl
theorem pl_2176 : pl 2176 = true := rfl
theorem pl_2177 : pl 2177 = true := rfl
theorem pl_2178 : pl 2178 = true := rfl
theorem pl_2179 : pl 2179 = true := rfl
theorem pl_2180 : pl 2180 = true := rfl
theorem pl_2181 : pl 2181 = true := rfl
theorem pl_2182 : pl 2182 = true := rfl
theorem pl_2183 : pl 2183 = true := rfl
theorem pl_2184 : pl 2184 = true := rfl
theorem pl_2185 : pl 2185 = true := rfl
theorem pl_2186 : pl 2186 = true := rfl
theorem pl_2187 : pl 2187 = true := rfl
theorem pl_2188 : pl 2188 = true := rfl
theorem pl_2189 : pl 2189 = true := rfl
theorem pl_2190 : pl 2190 = true := rfl
theorem pl_2191 : pl 2191 = true := rfl
theorem pl_2192 : pl 2192 = true := rfl
theorem pl_2193 : pl 2193 = true := rfl
theorem pl_2194 : pl 2194 = true := rfl
theorem pl_2195 : pl 2195 = true := rfl
theorem pl_2196 : pl 2196 = true := rfl
theorem pl_2197 : pl 2197 = true := rfl
theorem pl_2198 : pl 2198 = true := rfl
theorem pl_2199 : pl 2199 = true := rfl
theorem pl_2200 : pl 2200 = true := rfl
theorem pl_2201 : pl 2201 = true := rfl
theorem pl_2202 : pl 2202 = true := rfl
theorem pl_2203 : pl 2203 = true := rfl
theorem pl_2204 : pl 2204 = true := rfl
theorem pl_2205 : pl 2205 = true := rfl
theorem pl_2206 : pl 2206 = true := rfl
theorem pl_2207 : pl 2207 = true := rfl
theorem pl_2208 : pl 2208 = true := rfl
theorem pl_2209 : pl 2209 = true := rfl
theorem pl_2210 : pl 2210 = true := rfl
theorem pl_2211 : pl 2211 = true := rfl
theorem pl_2212 : pl 2212 = true := rfl
theorem pl_2213 : pl 2213 = true := rfl
theorem pl_2214 : pl 2214 = true := rfl
theorem pl_2215 : pl 2215 = true := rfl
theorem pl_2216 : pl 2216 = true := rfl
theorem pl_2217 : pl 2217 = true := rfl
theorem pl_2218 : pl 2218 = true := rfl
theorem pl_2219 : pl 2219 = true := rfl
theorem pl_2220 : pl 2220 = true := rfl
theorem pl_2221 : pl 2221 = true := rfl
theorem pl_2222 : pl 2222 = true := rfl
theorem pl_2223 : pl 2223 = true := rfl
theorem pl_2224 : pl 2224 = true := rfl
theorem pl_2225 : pl 2225 = true := rfl
theorem pl_2226 : pl 2226 = true := rfl
theorem pl_2227 : pl 2227 = true := rfl
theorem pl_2228 : pl 2228 = true := rfl
theorem pl_2229 : pl 2229 = true := rfl
theorem pl_2230 : pl 2230 = true := rfl
theorem pl_2231 : pl 2231 = true := rfl
theorem pl_2232 : pl 2232 = true := rfl
theorem pl_2233 : pl 2233 = true := rfl
theorem pl_2234 : pl 2234 = true := rfl
theorem pl_2235 : pl 2235 = true := rfl
theorem pl_2236 : pl 2236 = true := rfl
theorem pl_2237 : pl 2237 = true := rfl
theorem pl_2238 : pl 2238 = true := rfl
theorem pl_2239 : pl 2239 = true := rfl
theorem pl_2240 : pl 2240 = true := rfl
theorem pl_2241 : pl 2241 = true := rfl
theorem pl_2242 : pl 2242 = true := rfl
theorem pl_2243 : pl 2243 = true := rfl
theorem pl_2244 : pl 2244 = true := rfl
theorem pl_2245 : pl 2245 = true := rfl
theorem pl_2246 : pl 2246 = true := rfl
theorem pl_2247 : pl 2247 = true := rfl
theorem pl_2248 : pl 2248 = true := rfl
theorem pl_2249 : pl 2249 = true := rfl
theorem pl_2250 : pl 2250 = true := rfl
theorem pl_2251 : pl 2251 = true := rfl
theorem pl_2252 : pl 2252 = true := rfl
theorem pl_2253 : pl 2253 = true := rfl
theorem pl_2254 : pl 2254 = true := rfl
theorem pl_2255 : pl 2255 = true := rfl
theorem pl_2256 : pl 2256 = true := rfl
theorem pl_2257 : pl 2257 = true := rfl
theorem pl_2258 : pl 2258 = true := rfl
theorem pl_2259 : pl 2259 = true := rfl
theorem pl_2260 : pl 2260 = true := rfl
theorem pl_2261 : pl 2261 = true := rfl
theorem pl_2262 : pl 2262 = true := rfl
theorem pl_2263 : pl 2263 = true := rfl
theorem pl_2264 : pl 2264 = true := rfl
theorem pl_2265 : pl 2265 = true := rfl
theorem pl_2266 : pl 2266 = true := rfl
theorem pl_2267 : pl 2267 = true := rfl
theorem pl_2268 : pl 2268 = true := rfl
theorem pl_2269 : pl 2269 = true := rfl
theorem pl_2270 : pl 2270 = true := rfl
theorem pl_2271 : pl 2271 = true := rfl
theorem pl_2272 : pl 2272 = true := rfl
theorem pl_2273 : pl 2273 = true := rfl
theorem pl_2274 : pl 2274 = true := rfl
theorem pl_2275 : pl 2275 = true := rfl
theorem pl_2276 : pl 2276 = true := rfl
theorem pl_2277 : pl 2277 = true := rfl
theorem pl_2278 : pl 2278 = true := rfl
theorem pl_2279 : pl 2279 = true := rfl
theorem pl_2280 : pl 2280 = true := rfl
theorem pl_2281 : pl 2281 = true := rfl
theorem pl_2282 : pl 2282 = true := rfl
theorem pl_2283 : pl 2283 = true := rfl
theorem pl_2284 : pl 2284 = true := rfl
theorem pl_2285 : pl 2285 = true := rfl
theorem pl_2286 : pl 2286 = true := rfl
theorem pl_2287 : pl 2287 = true := rfl
theorem pl_2288 : pl 2288 = true := rfl
theorem pl_2289 : pl 2289 = true := rfl
theorem pl_2290 : pl 2290 = true := rfl
theorem pl_2291 : pl 2291 = true := rfl
theorem pl_2292 : pl 2292 = true := rfl
theorem pl_2293 : pl 2293 = true := rfl
theorem pl_2294 : pl 2294 = true := rfl
theorem pl_2295 : pl 2295 = true := rfl
theorem pl_2296 : pl 2296 = true := rfl
theorem pl_2297 : pl 2297 = true := rfl
theorem pl_2298 : pl 2298 = true := rfl
theorem pl_2299 : pl 2299 = true := rfl
theorem pl_2300 : pl 2300 = true := rfl
theorem pl_2301 : pl 2301 = true := rfl
theorem pl_2302 : pl 2302 = true := rfl
theorem pl_2303 : pl 2303 = true := rfl
theorem pl_2304 : pl 2304 = true := rfl
theorem pl_2305 : pl 2305 = true := rfl
theorem pl_2306 : pl 2306 = true := rfl
theorem pl_2307 : pl 2307 = true := rfl
theorem pl_2308 : pl 2308 = true := rfl
theorem pl_2309 : pl 2309 = true := rfl
theorem pl_2310 : pl 2310 = true := rfl
theorem pl_2311 : pl 2311 = true := rfl
theorem pl_2312 : pl 2312 = true := rfl
theorem pl_2313 : pl 2313 = true := rfl
theorem pl_2314 : pl 2314 = true := rfl
theorem pl_2315 : pl 2315 = true := rfl
theorem pl_2316 : pl 2316 = true := rfl
theorem pl_2317 : pl 2317 = true := rfl
theorem pl_2318 : pl 2318 = true := rfl
theorem pl_2319 : pl 2319 = true := rfl
theorem pl_2320 : pl 2320 = true := rfl
theorem pl_2321 : pl 2321 = true := rfl
theorem pl_2322 : pl 2322 = true := rfl
theorem pl_2323 : pl 2323 = true := rfl
theorem pl_2324 : pl 2324 = true := rfl
theorem pl_2325 : pl 2325 = true := rfl
theorem pl_2326 : pl 2326 = true := rfl
theorem pl_2327 : pl 2327 = true := rfl
theorem pl_2328 : pl 2328 = true := rfl
theorem pl_2329 : pl 2329 = true := rfl
theorem pl_2330 : pl 2330 = true := rfl
theorem pl_2331 : pl 2331 = true := rfl
theorem pl_2332 : pl 2332 = true := rfl
set_option maxRecDepth 100000 in
theorem sf_56 : sc (QF0 56) = .inr (0, 576, .inl 0) := rfl
set_option maxRecDepth 100000 in
theorem sf_57 : sc (QF0 57) = .inr (0, 576, .inl 0) := rfl
set_option maxRecDepth 100000 in
theorem sf_58 : sc (QF0 58) = .inr (0, 100, .inl 0) := rfl
set_option maxRecDepth 100000 in
theorem sf_59 : sc (QF0 59) = .inr (0, 100, .inl 0) := rfl
set_option maxRecDepth 100000 in
theorem sf_2166 : sc (QF0 2166) = .inr (0, 40, .inl 0) := rfl
set_option maxRecDepth 100000 in
theorem sf_2167 : sc (QF0 2167) = .inr (0, 40, .inl 0) := rfl
set_option maxRecDepth 100000 in
theorem sf_2168 : sc (QF0 2168) = .inr (0, 1764, .inl 0) := rfl
set_option maxRecDepth 100000 in
theorem sf_2169 : sc (QF0 2169) = .inr (0, 40, .inl 0) := rfl
set_option maxRecDepth 100000 in
theorem sf_2170 : sc (QF0 2170) = .inr (0, 40, .inl 0) := rfl
set_option maxRecDepth 100000 in
theorem sf_2171 : sc (QF0 2171) = .inr (0, 1764, .inl 0) := rfl
set_option maxRecDepth 100000 in
theorem sf_2172 : sc (QF0 2172) = .inr (0, 400, .inl 0) := rfl
set_option maxRecDepth 100000 in
theorem sf_2173 : sc (QF0 2173) = .inr (0, 400, .inl 0) := rfl
theorem k_m1 : (-1 : Int32).toInt = -1 := by decide
theorem kl_m1 : (-1 : Int64).toInt = -1 := by decide
theorem k_m1000000000 : (-1000000000 : Int32).toInt = -1000000000 := by decide
theorem k_m2 : (-2 : Int32).toInt = -2 := by decide
theorem k_m24 : (-24 : Int32).toInt = -24 := by decide
theorem k_m3 : (-3 : Int32).toInt = -3 := by decide
theorem k_m8 : (-8 : Int32).toInt = -8 := by decide
theorem kl_m9223372036854775808 : (-9223372036854775808 : Int64).toInt = -9223372036854775808 := by decide
theorem k_0 : (0 : Int32).toInt = 0 := by decide
theorem kl_0 : (0 : Int64).toInt = 0 := by decide
theorem k_1 : (1 : Int32).toInt = 1 := by decide
theorem kl_1 : (1 : Int64).toInt = 1 := by decide
theorem k_10 : (10 : Int32).toInt = 10 := by decide
theorem kl_10 : (10 : Int64).toInt = 10 := by decide
theorem k_100 : (100 : Int32).toInt = 100 := by decide
theorem k_1000 : (1000 : Int32).toInt = 1000 := by decide
theorem k_10000 : (10000 : Int32).toInt = 10000 := by decide
theorem k_100000 : (100000 : Int32).toInt = 100000 := by decide
theorem k_1000000 : (1000000 : Int32).toInt = 1000000 := by decide
theorem k_1000000000 : (1000000000 : Int32).toInt = 1000000000 := by decide
theorem kl_1000000000000 : (1000000000000 : Int64).toInt = 1000000000000 := by decide
theorem k_101 : (101 : Int32).toInt = 101 := by decide
theorem k_103 : (103 : Int32).toInt = 103 := by decide
theorem k_108 : (108 : Int32).toInt = 108 := by decide
theorem k_11 : (11 : Int32).toInt = 11 := by decide
theorem kl_1152921504606846976 : (1152921504606846976 : Int64).toInt = 1152921504606846976 := by decide
theorem k_12 : (12 : Int32).toInt = 12 := by decide
theorem k_120 : (120 : Int32).toInt = 120 := by decide
theorem k_122 : (122 : Int32).toInt = 122 := by decide
theorem kl_122 : (122 : Int64).toInt = 122 := by decide
theorem k_123 : (123 : Int32).toInt = 123 := by decide
theorem k_126 : (126 : Int32).toInt = 126 := by decide
theorem kl_126 : (126 : Int64).toInt = 126 := by decide
theorem k_127 : (127 : Int32).toInt = 127 := by decide
theorem k_128 : (128 : Int32).toInt = 128 := by decide
theorem k_13 : (13 : Int32).toInt = 13 := by decide
theorem k_14 : (14 : Int32).toInt = 14 := by decide
theorem k_1431655765 : (1431655765 : Int32).toInt = 1431655765 := by decide
theorem k_143848 : (143848 : Int32).toInt = 143848 := by decide
theorem k_1439 : (1439 : Int32).toInt = 1439 := by decide
theorem k_144 : (144 : Int32).toInt = 144 := by decide
theorem k_1440 : (1440 : Int32).toInt = 1440 := by decide
theorem k_145707 : (145707 : Int32).toInt = 145707 := by decide
theorem k_15 : (15 : Int32).toInt = 15 := by decide
theorem k_16 : (16 : Int32).toInt = 16 := by decide
theorem kl_1685022067 : (1685022067 : Int64).toInt = 1685022067 := by decide
theorem kl_1752132708 : (1752132708 : Int64).toInt = 1752132708 := by decide
theorem k_176 : (176 : Int32).toInt = 176 := by decide
theorem k_1764 : (1764 : Int32).toInt = 1764 := by decide
theorem k_178682 : (178682 : Int32).toInt = 178682 := by decide
theorem k_18 : (18 : Int32).toInt = 18 := by decide
theorem kl_1802071652 : (1802071652 : Int64).toInt = 1802071652 := by decide
theorem k_19 : (19 : Int32).toInt = 19 := by decide
theorem kl_1918987883 : (1918987883 : Int64).toInt = 1918987883 := by decide
theorem k_192 : (192 : Int32).toInt = 192 := by decide
theorem k_2 : (2 : Int32).toInt = 2 := by decide
theorem k_20 : (20 : Int32).toInt = 20 := by decide
theorem k_2000 : (2000 : Int32).toInt = 2000 := by decide
theorem k_20000 : (20000 : Int32).toInt = 20000 := by decide
theorem kl_2003330414 : (2003330414 : Int64).toInt = 2003330414 := by decide
theorem k_20059310 : (20059310 : Int32).toInt = 20059310 := by decide
theorem k_204 : (204 : Int32).toInt = 204 := by decide
theorem kl_2054123109 : (2054123109 : Int64).toInt = 2054123109 := by decide
theorem k_20577 : (20577 : Int32).toInt = 20577 := by decide
theorem k_207 : (207 : Int32).toInt = 207 := by decide
theorem k_21 : (21 : Int32).toInt = 21 := by decide
theorem k_2147483647 : (2147483647 : Int32).toInt = 2147483647 := by decide
theorem k_22 : (22 : Int32).toInt = 22 := by decide
theorem k_220 : (220 : Int32).toInt = 220 := by decide
theorem k_23 : (23 : Int32).toInt = 23 := by decide
theorem k_24 : (24 : Int32).toInt = 24 := by decide
theorem kl_24 : (24 : Int64).toInt = 24 := by decide
theorem k_240 : (240 : Int32).toInt = 240 := by decide
theorem k_25 : (25 : Int32).toInt = 25 := by decide
theorem k_252645135 : (252645135 : Int32).toInt = 252645135 := by decide
theorem k_255 : (255 : Int32).toInt = 255 := by decide
theorem kl_255 : (255 : Int64).toInt = 255 := by decide
theorem k_256 : (256 : Int32).toInt = 256 := by decide
theorem k_26 : (26 : Int32).toInt = 26 := by decide
theorem k_26259620 : (26259620 : Int32).toInt = 26259620 := by decide
theorem k_28 : (28 : Int32).toInt = 28 := by decide
theorem kl_28518 : (28518 : Int64).toInt = 28518 := by decide
theorem k_3 : (3 : Int32).toInt = 3 := by decide
theorem kl_3 : (3 : Int64).toInt = 3 := by decide
theorem k_30 : (30 : Int32).toInt = 30 := by decide
theorem k_316 : (316 : Int32).toInt = 316 := by decide
theorem k_318 : (318 : Int32).toInt = 318 := by decide
theorem k_32 : (32 : Int32).toInt = 32 := by decide
theorem kl_32 : (32 : Int64).toInt = 32 := by decide
theorem k_33 : (33 : Int32).toInt = 33 := by decide
theorem k_374834 : (374834 : Int32).toInt = 374834 := by decide
theorem k_38 : (38 : Int32).toInt = 38 := by decide
theorem kl_38 : (38 : Int64).toInt = 38 := by decide
theorem k_4 : (4 : Int32).toInt = 4 := by decide
theorem kl_4 : (4 : Int64).toInt = 4 := by decide
theorem k_40 : (40 : Int32).toInt = 40 := by decide
theorem k_400 : (400 : Int32).toInt = 400 := by decide
theorem k_41 : (41 : Int32).toInt = 41 := by decide
theorem k_42 : (42 : Int32).toInt = 42 := by decide
theorem k_43 : (43 : Int32).toInt = 43 := by decide
theorem kl_431198331257 : (431198331257 : Int64).toInt = 431198331257 := by decide
theorem k_440 : (440 : Int32).toInt = 440 := by decide
theorem k_45 : (45 : Int32).toInt = 45 := by decide
theorem k_464151 : (464151 : Int32).toInt = 464151 := by decide
theorem k_47 : (47 : Int32).toInt = 47 := by decide
theorem kl_474147546227 : (474147546227 : Int64).toInt = 474147546227 := by decide
theorem k_48 : (48 : Int32).toInt = 48 := by decide
theorem kl_48 : (48 : Int64).toInt = 48 := by decide
theorem k_5 : (5 : Int32).toInt = 5 := by decide
theorem k_50 : (50 : Int32).toInt = 50 := by decide
theorem k_512 : (512 : Int32).toInt = 512 := by decide
theorem k_53 : (53 : Int32).toInt = 53 := by decide
theorem k_56 : (56 : Int32).toInt = 56 := by decide
theorem k_57 : (57 : Int32).toInt = 57 := by decide
theorem k_576 : (576 : Int32).toInt = 576 := by decide
theorem k_58 : (58 : Int32).toInt = 58 := by decide
theorem k_59 : (59 : Int32).toInt = 59 := by decide
theorem k_6 : (6 : Int32).toInt = 6 := by decide
theorem k_60 : (60 : Int32).toInt = 60 := by decide
theorem k_600 : (600 : Int32).toInt = 600 := by decide
theorem k_6000 : (6000 : Int32).toInt = 6000 := by decide
theorem k_61 : (61 : Int32).toInt = 61 := by decide
theorem k_62 : (62 : Int32).toInt = 62 := by decide
theorem k_625 : (625 : Int32).toInt = 625 := by decide
theorem k_628196 : (628196 : Int32).toInt = 628196 := by decide
theorem k_63 : (63 : Int32).toInt = 63 := by decide
theorem kl_6382452 : (6382452 : Int64).toInt = 6382452 := by decide
theorem k_64 : (64 : Int32).toInt = 64 := by decide
theorem k_65535 : (65535 : Int32).toInt = 65535 := by decide
theorem k_65536 : (65536 : Int32).toInt = 65536 := by decide
theorem k_7 : (7 : Int32).toInt = 7 := by decide
theorem k_8 : (8 : Int32).toInt = 8 := by decide
theorem k_800 : (800 : Int32).toInt = 800 := by decide
theorem k_858993459 : (858993459 : Int32).toInt = 858993459 := by decide
theorem k_9 : (9 : Int32).toInt = 9 := by decide
theorem kl_9223372036854775807 : (9223372036854775807 : Int64).toInt = 9223372036854775807 := by decide
theorem k_96 : (96 : Int32).toInt = 96 := by decide
theorem k_97 : (97 : Int32).toInt = 97 := by decide
theorem kl_97 : (97 : Int64).toInt = 97 := by decide
theorem k_99 : (99 : Int32).toInt = 99 := by decide
theorem k_999 : (999 : Int32).toInt = 999 := by decide
theorem k_9999 : (9999 : Int32).toInt = 9999 := by decide
section CST
variable {L : Nat} {xs : Nat → Int32} {P : Nat → Nat} {S : zm_S} {i : Int} {β δ : Type} {T : Option β → δ → Prop} {y : Option δ}
set_option maxRecDepth 100000 in
theorem QF0_1 : QF0 1 = .inr (3, 13, .inl (fun j => ([43, 45, 42, 47, 40, 41, 60, 61, 62, 58, 59, 33, 64] : List Int32).getD j 0)) := rfl
theorem cv_1 : ∀ k, k < 13 → (([43, 45, 42, 47, 40, 41, 60, 61, 62, 58, 59, 33, 64] : List Int32).getD k 0).toInt = ([43, 45, 42, 47, 40, 41, 60, 61, 62, 58, 59, 33, 64] : List Int).getD k 0 := by decide
theorem qs_c1 (hS : Sh L xs P S) {q : Int32} (hq : q.toInt = i) (hg : 0 ≤ i ∧ i < 13) {f : Int32 → Option β} (h : ∀ v : Int32, v.toInt = qT1 i → qs (f v) y T) : qs ((za_x S 3 1 q).bind f) y T := qs_cst hS (by decide) (by decide) QF0_1 hq hg (h _ (cv_1 _ (by omega)))
theorem qs_cn1 (hS : Sh L xs P S) {f : Int32 → Option β} (h : ∀ v : Int32, v.toInt = 13 → qs (f v) y T) : qs ((za_n S 1).bind f) y T := qs_cln hS (by decide) (by decide) QF0_1 (by decide) (h _ (by decide))
set_option maxRecDepth 100000 in
theorem QF0_2 : QF0 2 = .inr (0, 4, .inl (fun j => ([1, 0, -1, 0] : List Int32).getD j 0)) := rfl
theorem cv_2 : ∀ k, k < 4 → (([1, 0, -1, 0] : List Int32).getD k 0).toInt = ([1, 0, -1, 0] : List Int).getD k 0 := by decide
theorem qs_c2 (hS : Sh L xs P S) {q : Int32} (hq : q.toInt = i) (hg : 0 ≤ i ∧ i < 4) {f : Int32 → Option β} (h : ∀ v : Int32, v.toInt = qT2 i → qs (f v) y T) : qs ((za_x S 0 2 q).bind f) y T := qs_cst hS (by decide) (by decide) QF0_2 hq hg (h _ (cv_2 _ (by omega)))
theorem qs_cn2 (hS : Sh L xs P S) {f : Int32 → Option β} (h : ∀ v : Int32, v.toInt = 4 → qs (f v) y T) : qs ((za_n S 2).bind f) y T := qs_cln hS (by decide) (by decide) QF0_2 (by decide) (h _ (by decide))
set_option maxRecDepth 100000 in
theorem QF0_3 : QF0 3 = .inr (0, 4, .inl (fun j => ([0, 1, 0, -1] : List Int32).getD j 0)) := rfl
theorem cv_3 : ∀ k, k < 4 → (([0, 1, 0, -1] : List Int32).getD k 0).toInt = ([0, 1, 0, -1] : List Int).getD k 0 := by decide
theorem qs_c3 (hS : Sh L xs P S) {q : Int32} (hq : q.toInt = i) (hg : 0 ≤ i ∧ i < 4) {f : Int32 → Option β} (h : ∀ v : Int32, v.toInt = qT3 i → qs (f v) y T) : qs ((za_x S 0 3 q).bind f) y T := qs_cst hS (by decide) (by decide) QF0_3 hq hg (h _ (cv_3 _ (by omega)))
theorem qs_cn3 (hS : Sh L xs P S) {f : Int32 → Option β} (h : ∀ v : Int32, v.toInt = 4 → qs (f v) y T) : qs ((za_n S 3).bind f) y T := qs_cln hS (by decide) (by decide) QF0_3 (by decide) (h _ (by decide))
set_option maxRecDepth 100000 in
theorem QF0_4 : QF0 4 = .inr (0, 4, .inl (fun j => ([1, 0, 3, 2] : List Int32).getD j 0)) := rfl
theorem cv_4 : ∀ k, k < 4 → (([1, 0, 3, 2] : List Int32).getD k 0).toInt = ([1, 0, 3, 2] : List Int).getD k 0 := by decide
theorem qs_c4 (hS : Sh L xs P S) {q : Int32} (hq : q.toInt = i) (hg : 0 ≤ i ∧ i < 4) {f : Int32 → Option β} (h : ∀ v : Int32, v.toInt = qT4 i → qs (f v) y T) : qs ((za_x S 0 4 q).bind f) y T := qs_cst hS (by decide) (by decide) QF0_4 hq hg (h _ (cv_4 _ (by omega)))
theorem qs_cn4 (hS : Sh L xs P S) {f : Int32 → Option β} (h : ∀ v : Int32, v.toInt = 4 → qs (f v) y T) : qs ((za_n S 4).bind f) y T := qs_cln hS (by decide) (by decide) QF0_4 (by decide) (h _ (by decide))
set_option maxRecDepth 100000 in
theorem QF0_5 : QF0 5 = .inr (0, 26, .inl (fun j => ([0, 0, 2, 2, 2, 2, 2, 2, 2, 2, 2, 2, 2, 1, 3, 1, 1, 1, 2, 2, 0, 1, 1, 2, 2, 1] : List Int32).getD j 0)) := rfl
theorem cv_5 : ∀ k, k < 26 → (([0, 0, 2, 2, 2, 2, 2, 2, 2, 2, 2, 2, 2, 1, 3, 1, 1, 1, 2, 2, 0, 1, 1, 2, 2, 1] : List Int32).getD k 0).toInt = ([0, 0, 2, 2, 2, 2, 2, 2, 2, 2, 2, 2, 2, 1, 3, 1, 1, 1, 2, 2, 0, 1, 1, 2, 2, 1] : List Int).getD k 0 := by decide
theorem qs_c5 (hS : Sh L xs P S) {q : Int32} (hq : q.toInt = i) (hg : 0 ≤ i ∧ i < 26) {f : Int32 → Option β} (h : ∀ v : Int32, v.toInt = qT5 i → qs (f v) y T) : qs ((za_x S 0 5 q).bind f) y T := qs_cst hS (by decide) (by decide) QF0_5 hq hg (h _ (cv_5 _ (by omega)))
theorem qs_cn5 (hS : Sh L xs P S) {f : Int32 → Option β} (h : ∀ v : Int32, v.toInt = 26 → qs (f v) y T) : qs ((za_n S 5).bind f) y T := qs_cln hS (by decide) (by decide) QF0_5 (by decide) (h _ (by decide))
theorem qs_eqr {X : Type} {T : X → δ → Prop} {z : X} {y' : Option δ} (e : y = y') (h : qs z y' T) : qs z y T := by
  rw [e]
  exact h
theorem qs_bnd {X : Type} {T : X → δ → Prop} {z : X} {M : qm} {Y : qm → Option δ} (h : qs z (Y M) T) : qs z (qbnd M Y) T := h
theorem cN_eq {a b : Int32} {x y : Nat} (ha : a.toInt = (x : Int)) (hb : b.toInt = (y : Int)) : a = b ↔ x = y := by
  rw [c_eq ha hb]
  exact Int.ofNat_inj
end CST
