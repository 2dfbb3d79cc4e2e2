/-! ===== what class and reference hold alike, in pieces (wip/tools/q/rels.py) ===== -/
def R_built (M K : qm) : Prop := ((M 6 11 0) = 0 ∨ (M 6 11 0) = 1) ∧ (K 2156 1 0) = (M 6 11 0)
def R_time (M K : qm) : Prop := 0 ≤ (M 6 12 0) ∧ (M 6 12 0) ≤ 6000 ∧ (K 2156 2 0) = (M 6 12 0)
def R_lines (M K : qm) : Prop := 0 ≤ (M 7 0 0) ∧ (M 7 0 0) ≤ 20 ∧ (K 2157 0 0) = (M 7 0 0)
def R_ends (M K : qm) : Prop := ∀ l, 0 ≤ l → l < (M 7 0 0) → ((K 2160 l 0) = 0 ∨ (K 2160 l 0) = 1) ∧ 1 ≤ (K 2161 l 0) ∧ (M 8 l 0) = (K 2158 l 0) ∧ (M 8 l 1) = (K 2159 l 0) ∧ (M 8 l 2) = (K 2158 l 0) + (if (K 2160 l 0) = 0 then 0 else (K 2161 l 0)) ∧ (M 8 l 3) = (K 2159 l 0) + (if (K 2160 l 0) = 0 then (K 2161 l 0) else 0) ∧ 0 ≤ (K 2158 l 0) ∧ 0 ≤ (K 2159 l 0) ∧ (M 8 l 2) ≤ 24 ∧ (M 8 l 3) ≤ 24
def R_doorn (M K : qm) : Prop := ∀ l, 0 ≤ l → l < 20 → (K 2162 l 0) = (M 29 l 0) ∧ 0 ≤ (M 29 l 0) ∧ (M 29 l 0) ≤ 6 ∧ ((M 7 0 0) ≤ l → (M 29 l 0) = 0)
def R_doors (M K : qm) : Prop := ∀ l d, 0 ≤ l → l < 20 → 0 ≤ d → d < (M 29 l 0) → (K 2163 (6 * l + d) 0) = (M 30 l (3 * d)) ∧ (K 2164 (6 * l + d) 0) = (M 30 l (3 * d + 1)) ∧ (K 2165 (6 * l + d) 0) = (M 30 l (3 * d + 2)) ∧ 0 ≤ (M 30 l (3 * d)) ∧ (M 30 l (3 * d)) < (M 30 l (3 * d + 1)) ∧ (M 30 l (3 * d + 1)) ≤ (K 2161 l 0) ∧ 1 ≤ (M 30 l (3 * d + 2)) ∧ (M 30 l (3 * d + 2)) ≤ 5
def R_find0 (M K : qm) : Prop := 0 ≤ (M 51 1 0) ∧ (M 51 1 0) ≤ 60 ∧ (K 2157 11 0) = (M 51 1 0) ∧ ((M 51 2 0) = 0 ∨ (M 51 2 0) = 1) ∧ (K 2157 10 0) = (M 51 2 0) ∧ (K 2157 9 0) = (if (M 51 1 0) = 0 then 0 else 1)
def R_spaces (M K : qm) : Prop := 0 ≤ (M 51 3 0) ∧ (M 51 3 0) ≤ 100 ∧ (K 2157 17 0) = (M 51 3 0) ∧ ((M 51 1 0) = 0 → (M 51 3 0) = 0)
def R_names (M K : qm) : Prop := ∀ s, 0 ≤ s → s < (M 51 3 0) → (K 2172 s 0) = (M 58 s 0) ∧ 0 ≤ (M 58 s 0) ∧ (M 58 s 0) ≤ 1000
def R_rooms (M K : qm) : Prop := (M 6 11 0) ≠ 0 → (K 2156 9 0) = (M 51 3 0) ∧ 1 ≤ (M 51 3 0) ∧ (M 51 3 0) ≤ 40
def R_textn (M K : qm) : Prop := 0 ≤ (M 727 1 0) ∧ (M 727 1 0) ≤ 800 ∧ (K 2184 1 0) = (M 727 1 0)
def R_textc (M K : qm) : Prop := ∀ i, 0 ≤ i → i < (M 727 1 0) → (K 2185 i 0) = (M 728 i 0) ∧ 32 ≤ (M 728 i 0) ∧ (M 728 i 0) ≤ 126
def R_factn (M K : qm) : Prop := 0 ≤ (M 735 8 0) ∧ (M 735 8 0) ≤ 40 ∧ (K 2184 2 0) = (M 735 8 0)
def R_facts (M K : qm) : Prop := ∀ k, 0 ≤ k → k < (M 735 8 0) → (K 2186 k 0) = (M 754 k 0) ∧ (K 2187 k 0) = (M 755 k 0) ∧ -1000000000 ≤ (M 755 k 0) ∧ (M 755 k 0) ≤ 1000000000
def R_factd (M K : qm) : Prop := ∀ j k, 0 ≤ j → j < k → k < (M 735 8 0) → (M 754 j 0) ≠ (M 754 k 0)
def R_rulen (M K : qm) : Prop := 0 ≤ (M 735 0 0) ∧ (M 735 0 0) ≤ 12 ∧ (K 2184 5 0) = (M 735 0 0) ∧ (((M 735 1 0) = 0 ∧ (K 2184 18 0) = -1) ∨ ((M 735 1 0) = 1 ∧ 0 ≤ (K 2184 18 0)))
def R_answers (M K : qm) : Prop := (M 735 1 0) = 1 → ∀ r, 0 ≤ r → r < (M 735 0 0) → (K 2198 r 0) = (M 740 r 0) ∧ (K 2199 r 0) = (M 740 r 1) ∧ (K 2200 r 0) = (M 740 r 2) ∧ (K 2201 r 0) = (M 740 r 3) ∧ (K 2202 r 0) = (M 740 r 4) ∧ (K 2203 r 0) = (M 740 r 5) ∧ (K 2204 r 0) = (M 740 r 6)
def R_portn (M K : qm) : Prop := 0 ≤ (M 824 3 0) ∧ (M 824 3 0) ≤ 1320 ∧ (K 2156 10 0) = (M 824 3 0) ∧ M 825 (-1) 0 = 13 * (M 824 3 0) ∧ M 826 (-1) 0 = 60 * (M 824 3 0) ∧ (M 824 7 0) = ((M 824 3 0) + 63) / 64 ∧ M 827 (-1) 0 = (M 824 3 0) * (M 824 7 0) ∧ ((M 6 11 0) = 0 → (M 824 3 0) = 0)
def R_portw (M K : qm) : Prop := ∀ p, 0 ≤ p → p < (M 824 3 0) → (K 2289 p 0) = (M 825 (13 * p) 0) ∧ (K 2290 p 0) = (M 825 (13 * p + 1) 0) ∧ (K 2291 p 0) = (M 825 (13 * p + 2) 0) ∧ (K 2292 p 0) = (M 825 (13 * p + 3) 0) ∧ (M 825 (13 * p) 0) ≠ (M 825 (13 * p + 1) 0) ∧ 0 ≤ (K 2289 p 0) ∧ (K 2289 p 0) ≤ (K 2156 9 0) ∧ 0 ≤ (K 2290 p 0) ∧ (K 2290 p 0) ≤ (K 2156 9 0) ∧ 0 ≤ (K 2291 p 0) ∧ (K 2291 p 0) < (M 7 0 0)
def R_portc (M K : qm) : Prop := ∀ p, 0 ≤ p → p < (M 824 3 0) → 0 ≤ (K 2293 p 0) ∧ (K 2293 p 0) < (K 2161 (K 2291 p 0) 0) ∧ (if (K 2160 (K 2291 p 0) 0) = 0 then (M 825 (13 * p + 4) 0) = (K 2158 (K 2291 p 0) 0) - 1 ∧ (M 825 (13 * p + 5) 0) = (K 2159 (K 2291 p 0) 0) + (K 2293 p 0) ∧ (M 825 (13 * p + 6) 0) = (K 2158 (K 2291 p 0) 0) ∧ (M 825 (13 * p + 7) 0) = (K 2159 (K 2291 p 0) 0) + (K 2293 p 0) else (M 825 (13 * p + 4) 0) = (K 2158 (K 2291 p 0) 0) + (K 2293 p 0) ∧ (M 825 (13 * p + 5) 0) = (K 2159 (K 2291 p 0) 0) ∧ (M 825 (13 * p + 6) 0) = (K 2158 (K 2291 p 0) 0) + (K 2293 p 0) ∧ (M 825 (13 * p + 7) 0) = (K 2159 (K 2291 p 0) 0) - 1)
def R_porto (M K : qm) : Prop := ∀ p, 0 ≤ p → p < (M 824 3 0) → (K 2295 p 0) = (M 825 (13 * p + 8) 0) ∧ ((K 2295 p 0) = 0 ∨ (K 2295 p 0) = 1) ∧ (K 2296 p 0) = (M 825 (13 * p + 9) 0) ∧ 0 ≤ (K 2296 p 0) ∧ (K 2296 p 0) ≤ (M 6 12 0) ∧ (K 2294 p 0) = (M 825 (13 * p + 10) 0) ∧ ((K 2294 p 0) = 0 ∨ (K 2294 p 0) = 1)
def R_portk (M K : qm) : Prop := ∀ p, 0 ≤ p → p < (M 824 3 0) → (((K 2297 p 0) = 2147483647 ∧ (M 825 (13 * p + 11) 0) = -1 ∧ (K 2298 p 0) = 0) ∨ ((K 2297 p 0) = (M 825 (13 * p + 11) 0) ∧ 0 ≤ (K 2297 p 0) ∧ (K 2297 p 0) ≤ (M 824 12 0))) ∧ (K 2298 p 0) = (M 825 (13 * p + 12) 0) ∧ 0 ≤ (K 2298 p 0) ∧ (K 2298 p 0) ≤ 20
def R_portr (M K : qm) : Prop := ∀ p k, 0 ≤ p → p < (M 824 3 0) → 0 ≤ k → k < (K 2298 p 0) → (K 2299 (20 * p + k) 0) = (M 826 (3 * (20 * p + k)) 0) ∧ (K 2300 (20 * p + k) 0) = (M 826 (3 * (20 * p + k) + 1) 0) ∧ (K 2301 (20 * p + k) 0) = (M 826 (3 * (20 * p + k) + 2) 0) ∧ 0 ≤ (K 2299 (20 * p + k) 0) ∧ (K 2299 (20 * p + k) 0) < (M 824 8 0) ∧ ((K 2300 (20 * p + k) 0) = (K 2289 p 0) ∨ (K 2300 (20 * p + k) 0) = (K 2290 p 0)) ∧ 0 ≤ (K 2301 (20 * p + k) 0) ∧ (K 2301 (20 * p + k) 0) ≤ 100
def R_cardn (M K : qm) : Prop := 0 ≤ (M 824 8 0) ∧ (M 824 8 0) ≤ 60 ∧ (K 2156 36 0) = (M 824 8 0)
def R_cards (M K : qm) : Prop := ∀ c, 0 ≤ c → c < (M 824 8 0) → (K 2312 c 0) = (M 828 c 0) ∧ (K 2313 c 0) = (M 828 c 1) ∧ 0 ≤ (K 2312 c 0) ∧ (K 2312 c 0) < (M 756 7 0) ∧ 0 ≤ (K 2313 c 0) ∧ (K 2313 c 0) ≤ 1000000
def R_rightn (M K : qm) : Prop := 0 ≤ (M 824 10 0) ∧ (M 824 10 0) ≤ 16 ∧ (K 2156 39 0) = (M 824 10 0)
def R_rights (M K : qm) : Prop := ∀ r, 0 ≤ r → r < (M 824 10 0) → (K 2314 r 0) = (M 889 r 0) ∧ (K 2315 r 0) = (M 889 r 1) ∧ (K 2316 r 0) = (M 889 r 2) ∧ (K 2317 r 0) = (M 889 r 3) ∧ (K 2318 r 0) = (M 889 r 4) ∧ 0 ≤ (K 2318 r 0) ∧ (K 2318 r 0) ≤ 1000000
def R_telln (M K : qm) : Prop := 0 ≤ (M 824 12 0) ∧ (K 2156 45 0) = (M 824 12 0) ∧ 0 ≤ (M 824 13 0) ∧ (M 824 13 0) ≤ (M 824 12 0)
def R_againstn (M K : qm) : Prop := 0 ≤ (M 824 15 0) ∧ (K 2156 49 0) = (M 824 15 0)
def R_against (M K : qm) : Prop := ∀ k, 0 ≤ k → k < 100 → k < (M 824 15 0) → (K 2322 k 0) = (M 907 (4 * k) 0) ∧ (K 2323 k 0) = (M 907 (4 * k + 1) 0) ∧ (K 2324 k 0) = (M 907 (4 * k + 2) 0) ∧ (K 2325 k 0) = (M 907 (4 * k + 3) 0)
def R_personn (M K : qm) : Prop := 0 ≤ (M 756 7 0) ∧ (M 756 7 0) ≤ 40 ∧ (K 2156 27 0) = (M 756 7 0)
def R_persons (M K : qm) : Prop := ∀ p, 0 ≤ p → p < (M 756 7 0) → (K 2306 p 0) = (M 761 p 0) ∧ (K 2307 p 0) = (M 761 p 1) ∧ (K 2308 p 0) = (M 761 p 2) ∧ (K 2309 p 0) = (M 761 p 3) ∧ (K 2310 p 0) = (M 761 p 4) ∧ (K 2311 p 0) = (M 761 p 5) ∧ (K 2304 p 0) = (M 761 p 6) ∧ (K 2305 p 0) = (M 761 p 7)
def R_personb (M K : qm) : Prop := ∀ p, 0 ≤ p → p < (M 756 7 0) → 0 ≤ (K 2306 p 0) ∧ (K 2306 p 0) ≤ (K 2156 9 0) ∧ -1 ≤ (K 2309 p 0) ∧ 0 ≤ (K 2311 p 0) ∧ (K 2311 p 0) ≤ (M 6 12 0) ∧ (if (K 2306 p 0) = (K 2156 9 0) then (K 2307 p 0) = -1 ∧ (K 2308 p 0) = -1 else 0 ≤ (K 2307 p 0) ∧ (K 2307 p 0) < 24 ∧ 0 ≤ (K 2308 p 0) ∧ (K 2308 p 0) < 24 ∧ (M 56 (24 * (K 2307 p 0) + (K 2308 p 0)) 0) = (K 2306 p 0))
def R_personz (M K : qm) : Prop := ∀ p, (M 756 7 0) ≤ p → p < 40 → (K 2310 p 0) = 0 ∧ (K 2311 p 0) = 0 ∧ (M 761 p 4) = 0 ∧ (M 761 p 5) = 0
def R_smoke (M K : qm) : Prop := ∀ x y, 0 ≤ x → x < 24 → 0 ≤ y → y < 24 → (K 2326 (24 * y + x) 0) = (M 757 (24 * x + y) 0) ∧ ((K 2326 (24 * y + x) 0) = 0 ∨ (K 2326 (24 * y + x) 0) = 1)
def R_walk (M K : qm) : Prop := ∀ x y, 0 ≤ x → x < 24 → 0 ≤ y → y < 24 → (M 6 11 0) ≠ 0 → (((K 2328 (24 * y + x) 0) = 0 ∧ (M 759 (24 * x + y) 0) = -1) ∨ (0 < (K 2328 (24 * y + x) 0) ∧ (M 759 (24 * x + y) 0) = (K 2328 (24 * y + x) 0)))
def R_mtextn (M K : qm) : Prop := 0 ≤ (M 908 1 0) ∧ (M 908 1 0) ≤ 2000 ∧ (K 2208 6 0) = (M 908 1 0) ∧ ((M 6 11 0) = 0 → (M 908 1 0) = 0)
def R_mtext (M K : qm) : Prop := ∀ i, 0 ≤ i → i < (M 908 1 0) → (K 2212 i 0) = (M 909 i 0) ∧ 0 ≤ (M 909 i 0) ∧ (M 909 i 0) ≤ 127
def R_mpoints (M K : qm) : Prop := 0 ≤ (M 1172 2 0) ∧ (M 1172 2 0) ≤ 50 ∧ (K 2208 0 0) = (M 1172 2 0) ∧ ((M 6 11 0) ≠ 0 → (M 1172 2 0) = (K 2156 9 0) + 10)
def R_mvalue (M K : qm) : Prop := ∀ p, 0 ≤ p → p < 50 → (K 2209 p 0) = (M 1173 p 0)
def R_mfault (M K : qm) : Prop := ∀ p, 0 ≤ p → p < 50 → (K 2210 p 0) = (M 1174 p 0) ∧ ((M 1174 p 0) = 0 ∨ (M 1174 p 0) = 1)
def R_muntil (M K : qm) : Prop := ∀ p, 0 ≤ p → p < 50 → (K 2211 p 0) = (M 1175 p 0)
def R_mnow (M K : qm) : Prop := (K 2208 1 0) = (M 6 12 0)
def R_mzones (M K : qm) : Prop := ∀ z, 0 ≤ z → z < 20 → ((K 2215 z 0) = 0 ∧ (M 1176 z 0) = 0 ∧ (M 1176 z 1) = 0) ∨ ((K 2215 z 0) = 1 ∧ 1 ≤ (M 1176 z 0) ∧ (K 2216 z 0) = (M 1176 z 0) ∧ 1 ≤ (M 1176 z 1) ∧ (M 1176 z 1) ≤ 12 ∧ (K 2217 z 0) = (M 1176 z 1))
def R_mzonep (M K : qm) : Prop := ∀ z k, 0 ≤ z → z < 20 → (K 2215 z 0) = 1 → 0 ≤ k → k < (M 1176 z 1) → (K 2218 (12 * z + k) 0) = (M 1176 z (2 + k)) ∧ 0 ≤ (M 1176 z (2 + k)) ∧ (M 1176 z (2 + k)) < (M 1172 2 0)
def R_macts (M K : qm) : Prop := ∀ a, 0 ≤ a → a < 20 → ((K 2219 a 0) = 0 ∧ (M 1197 a 0) = 0 ∧ (M 1270 a 0) = 0 ∧ (K 2227 a 0) = 0) ∨ ((K 2219 a 0) = 1 ∧ (M 1197 a 0) = 1 ∧ (K 2220 a 0) = (M 1197 a 1) ∧ 0 ≤ (K 2220 a 0) ∧ (K 2220 a 0) ≤ 5 ∧ (K 2221 a 0) = (M 1197 a 2) ∧ (K 2222 a 0) = (M 1197 a 3) ∧ 0 ≤ (K 2222 a 0) ∧ (K 2222 a 0) ≤ 600 ∧ (K 2223 a 0) = (M 1197 a 4) ∧ ((K 2223 a 0) = 0 ∨ (K 2223 a 0) = 1))
def R_mstate (M K : qm) : Prop := ∀ a, 0 ≤ a → a < 20 → (K 2227 a 0) = (M 1270 a 0) ∧ 0 ≤ (M 1270 a 0) ∧ (M 1270 a 0) ≤ 2 ∧ (if (M 1270 a 0) = 1 then (K 2228 a 0) = (M 1271 a 0) ∧ 0 ≤ (M 1271 a 0) ∧ (M 1271 a 0) ≤ (M 6 12 0) ∧ (K 2229 a 0) = (M 1272 a 0) ∧ (K 2230 a 0) = (M 1273 a 0) else True) ∧ ((K 2229 a 0) = 0 ∨ (K 2229 a 0) = 1) ∧ ((K 2230 a 0) = 0 ∨ (K 2230 a 0) = 1)
def R_mrows (M K : qm) : Prop := 0 ≤ (M 1172 9 0) ∧ (M 1172 9 0) ≤ 50 ∧ (K 2208 21 0) = (M 1172 9 0)
def R_mrow (M K : qm) : Prop := ∀ r, 0 ≤ r → r < (M 1172 9 0) → (K 2224 r 0) = (M 1218 r 0) ∧ (K 2225 r 0) = (M 1218 r 1) ∧ (K 2226 r 0) = (M 1218 r 2) ∧ 0 ≤ (K 2224 r 0) ∧ (K 2224 r 0) < 20 ∧ (K 2215 (K 2224 r 0) 0) = 1 ∧ -1 ≤ (K 2225 r 0) ∧ (K 2225 r 0) < 20 ∧ (0 ≤ (K 2225 r 0) → (K 2215 (K 2225 r 0) 0) = 1) ∧ 0 ≤ (K 2226 r 0) ∧ (K 2226 r 0) < 20 ∧ (K 2219 (K 2226 r 0) 0) = 1
def R_meventn (M K : qm) : Prop := 0 ≤ (M 1172 17 0) ∧ (M 1172 17 0) ≤ 20 * (M 6 12 0) + 200000 ∧ (K 2208 30 0) = (if (M 1172 17 0) ≤ 60 then (M 1172 17 0) else 60)
def R_mevent (M K : qm) : Prop := ∀ k, 0 ≤ k → k < 60 → k < (M 1172 17 0) → (K 2231 ((K 2208 30 0) - 1 - k) 0) = (M 1276 (((M 1172 17 0) - 1 - k) % 60) 0) ∧ (K 2232 ((K 2208 30 0) - 1 - k) 0) = (M 1276 (((M 1172 17 0) - 1 - k) % 60) 1) ∧ (K 2233 ((K 2208 30 0) - 1 - k) 0) = (M 1276 (((M 1172 17 0) - 1 - k) % 60) 2)
def R_blocks (M K : qm) : Prop := 0 ≤ (M 1003 0 0) ∧ (M 1003 0 0) ≤ 40 ∧ (K 2235 0 0) = (M 1003 0 0)
def R_kinds (M K : qm) : Prop := ∀ b, 0 ≤ b → b < 40 → 0 ≤ (M 1004 b 0) ∧ (M 1004 b 0) < 26 ∧ (K 2236 b 0) = (M 1004 b 0)
def R_pq (M K : qm) : Prop := ∀ b, 0 ≤ b → b < 40 → (K 2237 b 0) = (M 1005 b 0) ∧ (K 2238 b 0) = (M 1006 b 0) ∧ -2147483648 ≤ (M 1005 b 0) ∧ (M 1005 b 0) ≤ 2147483647 ∧ -2147483648 ≤ (M 1006 b 0) ∧ (M 1006 b 0) ≤ 2147483647
def R_safe (M K : qm) : Prop := ∀ b, 0 ≤ b → b < 40 → (K 2239 b 0) = (M 1007 b 0) ∧ -2147483648 ≤ (M 1007 b 0) ∧ (M 1007 b 0) ≤ 2147483647
def R_outs (M K : qm) : Prop := ∀ b, 0 ≤ b → b < 40 → (K 2242 b 0) = (M 1049 b 0) ∧ (K 2243 b 0) = (M 1050 b 0) ∧ (K 2244 b 0) = (M 1050 b 1) ∧ -2147483648 ≤ (M 1049 b 0) ∧ (M 1049 b 0) ≤ 2147483647 ∧ -2147483648 ≤ (M 1050 b 0) ∧ (M 1050 b 0) ≤ 2147483647 ∧ -2147483648 ≤ (M 1050 b 1) ∧ (M 1050 b 1) ≤ 2147483647
def R_hand (M K : qm) : Prop := ∀ b, 0 ≤ b → b < 40 → (K 2245 b 0) = (M 1132 b 0) ∧ ((M 1132 b 0) = 0 ∨ (M 1132 b 0) = 1) ∧ (K 2246 b 0) = (M 1133 b 0) ∧ -2147483648 ≤ (M 1133 b 0) ∧ (M 1133 b 0) ≤ 2147483647
def R_wire (M K : qm) : Prop := ∀ b i, 0 ≤ b → b < (M 1003 0 0) → 0 ≤ i → i < 3 → (K 2240 (3 * b + i) 0) = (M 1008 b i) ∧ -1 ≤ (M 1008 b i) ∧ (M 1008 b i) < (M 1003 0 0)
def R_row (M K : qm) : Prop := ∀ b i, 0 ≤ b → b < 40 → 0 ≤ i → i < 8 → (K 2241 (8 * b + i) 0) = (M 1091 b i) ∧ -2147483648 ≤ (M 1091 b i) ∧ (M 1091 b i) ≤ 2147483647
def R_bound (M K : qm) : Prop := ∀ b, 0 ≤ b → b < (M 1003 0 0) → (K 2248 b 0) = (M 1134 b 0) + 1 ∧ -1 ≤ (M 1134 b 0) ∧ (M 1134 b 0) < 10
def R_points (M K : qm) : Prop := ∀ i, 0 ≤ i → i < 10 → (K 2247 i 0) = (M 1135 i 0) ∧ -2147483648 ≤ (M 1135 i 0) ∧ (M 1135 i 0) ≤ 2147483647
def R_failed (M K : qm) : Prop := ∀ i, 0 ≤ i → i < 4 → (K 2251 i 0) = (M 1138 i 0)
def R_rests (M K : qm) : Prop := (K 2235 18 0) = (M 1003 18 0) ∧ ((M 1003 18 0) = 0 ∨ (M 1003 18 0) = 1)
def R_bnow (M K : qm) : Prop := 0 ≤ (M 1139 5 0) ∧ (M 1139 5 0) = 30 * (M 6 12 0) ∧ (K 2252 0 0) = (M 1139 5 0)
def R_bspn (M K : qm) : Prop := (K 2252 3 0) = (M 1139 8 0) ∧ (M 1139 8 0) ≤ 50 ∧ -180000 ≤ (M 1139 8 0)
def R_bspoilt (M K : qm) : Prop := (∀ t, (M 1139 5 0) < t → t ≤ (M 1139 5 0) + 2000 → (K 2254 t 0) = (M 1168 (t % 2001) 0) ∧ ((K 2254 t 0) = 0 ∨ (K 2254 t 0) = 1)) ∧ (∀ t, (M 1139 5 0) + 2000 < t → (K 2254 t 0) = 0) ∧ (M 1168 ((M 1139 5 0) % 2001) 0) = 0
def R_baddr (M K : qm) : Prop := ∀ s, 0 ≤ s → s < 8 → (K 2255 s 0) = (M 1140 s 6) ∧ 0 ≤ (M 1140 s 6) ∧ (M 1140 s 6) < 65536
def R_bbusy (M K : qm) : Prop := ∀ s, 0 ≤ s → s < 8 → (K 2257 s 0) = (M 1140 s 7) ∧ ((M 1140 s 7) = 0 ∨ (M 1140 s 7) = 1)
def R_bqueued (M K : qm) : Prop := ∀ s, 0 ≤ s → s < 8 → (K 2258 s 0) = (M 1140 s 0) ∧ 0 ≤ (M 1140 s 0) ∧ (M 1140 s 0) ≤ 6
def R_bsaying (M K : qm) : Prop := ∀ s, 0 ≤ s → s < 8 → (K 2260 s 0) = (M 1140 s 1) ∧ -1 ≤ (M 1140 s 1) ∧ (K 2261 s 0) = (M 1140 s 2) ∧ -1 ≤ (M 1140 s 2)
def R_bcounts (M K : qm) : Prop := ∀ s, 0 ≤ s → s < 8 → (K 2264 s 0) = (M 1140 s 3) ∧ (K 2265 s 0) = (M 1140 s 4) ∧ (K 2266 s 0) = (M 1140 s 5)
def R_blisten (M K : qm) : Prop := ∀ i, 0 ≤ i → i < 2048 → (K 2256 i 0) = (M 1167 i 0) ∧ ((M 1167 i 0) = 0 ∨ (M 1167 i 0) = 1)
def R_bheard (M K : qm) : Prop := ∀ i, 0 ≤ i → i < 5 → (K 2269 i 0) = (M 1171 i 0)
def R_blatest (M K : qm) : Prop := 0 ≤ (M 1139 15 0) ∧ (M 1139 15 0) ≤ 600 ∧ (K 2252 21 0) = (M 1139 15 0) ∧ (K 2252 26 0) = (M 1139 18 0) ∧ (∀ i, 0 ≤ i → i < (M 1139 15 0) → (K 2268 i 0) = (M 1170 i 0))
def R_carn (M K : qm) : Prop := 0 ≤ (M 1337 0 0) ∧ (M 1337 0 0) ≤ 4 ∧ (K 2270 0 0) = (M 1337 0 0)
def R_cars (M K : qm) : Prop := ∀ c, 0 ≤ c → c < (M 1337 0 0) → (K 2271 c 0) = (M 1338 c 1) ∧ 1 ≤ (K 2271 c 0) ∧ (K 2271 c 0) ≤ 5 ∧ (K 2272 c 0) = (M 1338 c 0) ∧ 0 ≤ (K 2272 c 0) ∧ (K 2272 c 0) < 60 ∧ (K 2273 c 0) = (M 1338 c 2) ∧ 0 ≤ (K 2273 c 0) ∧ (K 2273 c 0) ≤ 100000 ∧ (K 2274 c 0) = (M 1338 c 3) ∧ (K 2275 c 0) = (M 1338 c 4)
def R_carz (M K : qm) : Prop := ∀ c, (M 1337 0 0) ≤ c → c < 4 → (M 1338 c 2) = 0 ∧ (M 1338 c 3) = 0
def R_calln (M K : qm) : Prop := 0 ≤ (M 1337 2 0) ∧ (M 1337 2 0) ≤ 400 ∧ (K 2270 6 0) = (M 1337 2 0)
def R_given (M K : qm) : Prop := ∀ c, 0 ≤ c → c < (M 1337 2 0) → ((K 2285 c 0) = -1 ∧ (M 1745 c 0) = -1 ∧ (M 1745 c 1) = -1 ∧ (M 1745 c 2) = -1 ∧ (M 1745 c 3) = -1) ∨ (0 ≤ (K 2285 c 0) ∧ (K 2285 c 0) = (M 1745 c 0) ∧ (K 2286 c 0) = (M 1745 c 1) ∧ (K 2287 c 0) = (M 1745 c 2) ∧ (K 2288 c 0) = (M 1745 c 3))
def R_calls (M K : qm) : Prop := ∀ c, 0 ≤ c → c < (M 1337 2 0) → (K 2276 c 0) = (M 1343 c 0) ∧ (K 2277 c 0) = (M 1343 c 1) ∧ (K 2278 c 0) = (M 1343 c 2) ∧ 0 ≤ (K 2276 c 0) ∧ (K 2276 c 0) < 60 ∧ 0 ≤ (K 2277 c 0) ∧ (K 2277 c 0) < 60 ∧ 0 ≤ (K 2278 c 0) ∧ (K 2278 c 0) ≤ (M 6 12 0) ∧ ((K 2279 c 0) = 0 ∨ (K 2279 c 0) = 1)
def R_opens (M K : qm) : Prop := (M 1337 4 0) = sI (fun c => (K 2279 c 0)) (M 1337 2 0) ∧ 0 ≤ (M 1337 4 0) ∧ (M 1337 4 0) ≤ 6
def R_openl (M K : qm) : Prop := ∀ k, 0 ≤ k → k < (M 1337 4 0) → 0 ≤ (M 1744 k 0) ∧ (M 1744 k 0) < (M 1337 2 0) ∧ (K 2279 (M 1744 k 0) 0) = 1
def R_openi (M K : qm) : Prop := ∀ j k, 0 ≤ j → j < k → k < (M 1337 4 0) → (M 1744 j 0) < (M 1744 k 0)
def R_opena (M K : qm) : Prop := ∀ c, 0 ≤ c → c < (M 1337 2 0) → (K 2279 c 0) = 1 → ∃ k, 0 ≤ k ∧ k < (M 1337 4 0) ∧ (M 1744 k 0) = c
def R_begun (M K : qm) : Prop := ∀ a c, 0 ≤ a → a < (M 1337 0 0) → 0 ≤ c → c < (M 1337 2 0) → (K 2279 c 0) = 1 → ((K 2280 c 0) = a ↔ (M 1338 a 5) = c)
def R_begunz (M K : qm) : Prop := ∀ a, 0 ≤ a → a < (M 1337 0 0) → (M 1338 a 5) = -1 ∨ (0 ≤ (M 1338 a 5) ∧ (M 1338 a 5) < (M 1337 2 0) ∧ (K 2279 (M 1338 a 5) 0) = 1)
def R_begunr (M K : qm) : Prop := ∀ c, 0 ≤ c → c < (M 1337 2 0) → -1 ≤ (K 2280 c 0) ∧ (K 2280 c 0) < (M 1337 0 0)
def R_givenz (M K : qm) : Prop := ∀ c, (M 1337 2 0) ≤ c → c < 400 → (K 2285 c 0) = -1
theorem R_built_x {M M' K K' : qm} (e0 : M' 6 11 0 = M 6 11 0) (e1 : K' 2156 1 0 = K 2156 1 0) (h : R_built M K) : R_built M' K' := by
  unfold R_built at *
  simp only [e0, e1]
  exact h
theorem R_time_x {M M' K K' : qm} (e0 : M' 6 12 0 = M 6 12 0) (e1 : K' 2156 2 0 = K 2156 2 0) (h : R_time M K) : R_time M' K' := by
  unfold R_time at *
  simp only [e0, e1]
  exact h
theorem R_lines_x {M M' K K' : qm} (e0 : M' 7 0 0 = M 7 0 0) (e1 : K' 2157 0 0 = K 2157 0 0) (h : R_lines M K) : R_lines M' K' := by
  unfold R_lines at *
  simp only [e0, e1]
  exact h
theorem R_ends_x {M M' K K' : qm} (e0 : M' 7 0 0 = M 7 0 0) (e1 : ∀ i j, M' 8 i j = M 8 i j) (e2 : ∀ i j, K' 2158 i j = K 2158 i j) (e3 : ∀ i j, K' 2159 i j = K 2159 i j) (e4 : ∀ i j, K' 2160 i j = K 2160 i j) (e5 : ∀ i j, K' 2161 i j = K 2161 i j) (h : R_ends M K) : R_ends M' K' := by
  unfold R_ends at *
  simp only [e0, e1, e2, e3, e4, e5]
  exact h
theorem R_doorn_x {M M' K K' : qm} (e0 : M' 7 0 0 = M 7 0 0) (e1 : ∀ i j, M' 29 i j = M 29 i j) (e2 : ∀ i j, K' 2162 i j = K 2162 i j) (h : R_doorn M K) : R_doorn M' K' := by
  unfold R_doorn at *
  simp only [e0, e1, e2]
  exact h
theorem R_doors_x {M M' K K' : qm} (e0 : ∀ i j, M' 29 i j = M 29 i j) (e1 : ∀ i j, M' 30 i j = M 30 i j) (e2 : ∀ i j, K' 2161 i j = K 2161 i j) (e3 : ∀ i j, K' 2163 i j = K 2163 i j) (e4 : ∀ i j, K' 2164 i j = K 2164 i j) (e5 : ∀ i j, K' 2165 i j = K 2165 i j) (h : R_doors M K) : R_doors M' K' := by
  unfold R_doors at *
  simp only [e0, e1, e2, e3, e4, e5]
  exact h
theorem R_find0_x {M M' K K' : qm} (e0 : M' 51 1 0 = M 51 1 0) (e1 : M' 51 2 0 = M 51 2 0) (e2 : K' 2157 9 0 = K 2157 9 0) (e3 : K' 2157 10 0 = K 2157 10 0) (e4 : K' 2157 11 0 = K 2157 11 0) (h : R_find0 M K) : R_find0 M' K' := by
  unfold R_find0 at *
  simp only [e0, e1, e2, e3, e4]
  exact h
theorem R_spaces_x {M M' K K' : qm} (e0 : M' 51 1 0 = M 51 1 0) (e1 : M' 51 3 0 = M 51 3 0) (e2 : K' 2157 17 0 = K 2157 17 0) (h : R_spaces M K) : R_spaces M' K' := by
  unfold R_spaces at *
  simp only [e0, e1, e2]
  exact h
theorem R_names_x {M M' K K' : qm} (e0 : M' 51 3 0 = M 51 3 0) (e1 : ∀ i j, M' 58 i j = M 58 i j) (e2 : ∀ i j, K' 2172 i j = K 2172 i j) (h : R_names M K) : R_names M' K' := by
  unfold R_names at *
  simp only [e0, e1, e2]
  exact h
theorem R_rooms_x {M M' K K' : qm} (e0 : M' 6 11 0 = M 6 11 0) (e1 : M' 51 3 0 = M 51 3 0) (e2 : K' 2156 9 0 = K 2156 9 0) (h : R_rooms M K) : R_rooms M' K' := by
  unfold R_rooms at *
  simp only [e0, e1, e2]
  exact h
theorem R_textn_x {M M' K K' : qm} (e0 : M' 727 1 0 = M 727 1 0) (e1 : K' 2184 1 0 = K 2184 1 0) (h : R_textn M K) : R_textn M' K' := by
  unfold R_textn at *
  simp only [e0, e1]
  exact h
theorem R_textc_x {M M' K K' : qm} (e0 : M' 727 1 0 = M 727 1 0) (e1 : ∀ i j, M' 728 i j = M 728 i j) (e2 : ∀ i j, K' 2185 i j = K 2185 i j) (h : R_textc M K) : R_textc M' K' := by
  unfold R_textc at *
  simp only [e0, e1, e2]
  exact h
theorem R_factn_x {M M' K K' : qm} (e0 : M' 735 8 0 = M 735 8 0) (e1 : K' 2184 2 0 = K 2184 2 0) (h : R_factn M K) : R_factn M' K' := by
  unfold R_factn at *
  simp only [e0, e1]
  exact h
theorem R_facts_x {M M' K K' : qm} (e0 : M' 735 8 0 = M 735 8 0) (e1 : ∀ i j, M' 754 i j = M 754 i j) (e2 : ∀ i j, M' 755 i j = M 755 i j) (e3 : ∀ i j, K' 2186 i j = K 2186 i j) (e4 : ∀ i j, K' 2187 i j = K 2187 i j) (h : R_facts M K) : R_facts M' K' := by
  unfold R_facts at *
  simp only [e0, e1, e2, e3, e4]
  exact h
theorem R_factd_x {M M' K K' : qm} (e0 : M' 735 8 0 = M 735 8 0) (e1 : ∀ i j, M' 754 i j = M 754 i j) (h : R_factd M K) : R_factd M' K' := by
  unfold R_factd at *
  simp only [e0, e1]
  exact h
theorem R_rulen_x {M M' K K' : qm} (e0 : M' 735 0 0 = M 735 0 0) (e1 : M' 735 1 0 = M 735 1 0) (e2 : K' 2184 5 0 = K 2184 5 0) (e3 : K' 2184 18 0 = K 2184 18 0) (h : R_rulen M K) : R_rulen M' K' := by
  unfold R_rulen at *
  simp only [e0, e1, e2, e3]
  exact h
theorem R_answers_x {M M' K K' : qm} (e0 : M' 735 0 0 = M 735 0 0) (e1 : M' 735 1 0 = M 735 1 0) (e2 : ∀ i j, M' 740 i j = M 740 i j) (e3 : ∀ i j, K' 2198 i j = K 2198 i j) (e4 : ∀ i j, K' 2199 i j = K 2199 i j) (e5 : ∀ i j, K' 2200 i j = K 2200 i j) (e6 : ∀ i j, K' 2201 i j = K 2201 i j) (e7 : ∀ i j, K' 2202 i j = K 2202 i j) (e8 : ∀ i j, K' 2203 i j = K 2203 i j) (e9 : ∀ i j, K' 2204 i j = K 2204 i j) (h : R_answers M K) : R_answers M' K' := by
  unfold R_answers at *
  simp only [e0, e1, e2, e3, e4, e5, e6, e7, e8, e9]
  exact h
theorem R_portn_x {M M' K K' : qm} (e0 : M' 6 11 0 = M 6 11 0) (e1 : M' 824 3 0 = M 824 3 0) (e2 : M' 824 7 0 = M 824 7 0) (e3 : ∀ i j, M' 825 i j = M 825 i j) (e4 : ∀ i j, M' 826 i j = M 826 i j) (e5 : ∀ i j, M' 827 i j = M 827 i j) (e6 : K' 2156 10 0 = K 2156 10 0) (h : R_portn M K) : R_portn M' K' := by
  unfold R_portn at *
  simp only [e0, e1, e2, e3, e4, e5, e6]
  exact h
theorem R_portw_x {M M' K K' : qm} (e0 : M' 7 0 0 = M 7 0 0) (e1 : M' 824 3 0 = M 824 3 0) (e2 : ∀ i j, M' 825 i j = M 825 i j) (e3 : K' 2156 9 0 = K 2156 9 0) (e4 : ∀ i j, K' 2289 i j = K 2289 i j) (e5 : ∀ i j, K' 2290 i j = K 2290 i j) (e6 : ∀ i j, K' 2291 i j = K 2291 i j) (e7 : ∀ i j, K' 2292 i j = K 2292 i j) (h : R_portw M K) : R_portw M' K' := by
  unfold R_portw at *
  simp only [e0, e1, e2, e3, e4, e5, e6, e7]
  exact h
theorem R_portc_x {M M' K K' : qm} (e0 : M' 824 3 0 = M 824 3 0) (e1 : ∀ i j, M' 825 i j = M 825 i j) (e2 : ∀ i j, K' 2158 i j = K 2158 i j) (e3 : ∀ i j, K' 2159 i j = K 2159 i j) (e4 : ∀ i j, K' 2160 i j = K 2160 i j) (e5 : ∀ i j, K' 2161 i j = K 2161 i j) (e6 : ∀ i j, K' 2291 i j = K 2291 i j) (e7 : ∀ i j, K' 2293 i j = K 2293 i j) (h : R_portc M K) : R_portc M' K' := by
  unfold R_portc at *
  simp only [e0, e1, e2, e3, e4, e5, e6, e7]
  exact h
theorem R_porto_x {M M' K K' : qm} (e0 : M' 6 12 0 = M 6 12 0) (e1 : M' 824 3 0 = M 824 3 0) (e2 : ∀ i j, M' 825 i j = M 825 i j) (e3 : ∀ i j, K' 2294 i j = K 2294 i j) (e4 : ∀ i j, K' 2295 i j = K 2295 i j) (e5 : ∀ i j, K' 2296 i j = K 2296 i j) (h : R_porto M K) : R_porto M' K' := by
  unfold R_porto at *
  simp only [e0, e1, e2, e3, e4, e5]
  exact h
theorem R_portk_x {M M' K K' : qm} (e0 : M' 824 3 0 = M 824 3 0) (e1 : M' 824 12 0 = M 824 12 0) (e2 : ∀ i j, M' 825 i j = M 825 i j) (e3 : ∀ i j, K' 2297 i j = K 2297 i j) (e4 : ∀ i j, K' 2298 i j = K 2298 i j) (h : R_portk M K) : R_portk M' K' := by
  unfold R_portk at *
  simp only [e0, e1, e2, e3, e4]
  exact h
theorem R_portr_x {M M' K K' : qm} (e0 : M' 824 3 0 = M 824 3 0) (e1 : M' 824 8 0 = M 824 8 0) (e2 : ∀ i j, M' 826 i j = M 826 i j) (e3 : ∀ i j, K' 2289 i j = K 2289 i j) (e4 : ∀ i j, K' 2290 i j = K 2290 i j) (e5 : ∀ i j, K' 2298 i j = K 2298 i j) (e6 : ∀ i j, K' 2299 i j = K 2299 i j) (e7 : ∀ i j, K' 2300 i j = K 2300 i j) (e8 : ∀ i j, K' 2301 i j = K 2301 i j) (h : R_portr M K) : R_portr M' K' := by
  unfold R_portr at *
  simp only [e0, e1, e2, e3, e4, e5, e6, e7, e8]
  exact h
theorem R_cardn_x {M M' K K' : qm} (e0 : M' 824 8 0 = M 824 8 0) (e1 : K' 2156 36 0 = K 2156 36 0) (h : R_cardn M K) : R_cardn M' K' := by
  unfold R_cardn at *
  simp only [e0, e1]
  exact h
theorem R_cards_x {M M' K K' : qm} (e0 : M' 756 7 0 = M 756 7 0) (e1 : M' 824 8 0 = M 824 8 0) (e2 : ∀ i j, M' 828 i j = M 828 i j) (e3 : ∀ i j, K' 2312 i j = K 2312 i j) (e4 : ∀ i j, K' 2313 i j = K 2313 i j) (h : R_cards M K) : R_cards M' K' := by
  unfold R_cards at *
  simp only [e0, e1, e2, e3, e4]
  exact h
theorem R_rightn_x {M M' K K' : qm} (e0 : M' 824 10 0 = M 824 10 0) (e1 : K' 2156 39 0 = K 2156 39 0) (h : R_rightn M K) : R_rightn M' K' := by
  unfold R_rightn at *
  simp only [e0, e1]
  exact h
theorem R_rights_x {M M' K K' : qm} (e0 : M' 824 10 0 = M 824 10 0) (e1 : ∀ i j, M' 889 i j = M 889 i j) (e2 : ∀ i j, K' 2314 i j = K 2314 i j) (e3 : ∀ i j, K' 2315 i j = K 2315 i j) (e4 : ∀ i j, K' 2316 i j = K 2316 i j) (e5 : ∀ i j, K' 2317 i j = K 2317 i j) (e6 : ∀ i j, K' 2318 i j = K 2318 i j) (h : R_rights M K) : R_rights M' K' := by
  unfold R_rights at *
  simp only [e0, e1, e2, e3, e4, e5, e6]
  exact h
theorem R_telln_x {M M' K K' : qm} (e0 : M' 824 12 0 = M 824 12 0) (e1 : M' 824 13 0 = M 824 13 0) (e2 : K' 2156 45 0 = K 2156 45 0) (h : R_telln M K) : R_telln M' K' := by
  unfold R_telln at *
  simp only [e0, e1, e2]
  exact h
theorem R_againstn_x {M M' K K' : qm} (e0 : M' 824 15 0 = M 824 15 0) (e1 : K' 2156 49 0 = K 2156 49 0) (h : R_againstn M K) : R_againstn M' K' := by
  unfold R_againstn at *
  simp only [e0, e1]
  exact h
theorem R_against_x {M M' K K' : qm} (e0 : M' 824 15 0 = M 824 15 0) (e1 : ∀ i j, M' 907 i j = M 907 i j) (e2 : ∀ i j, K' 2322 i j = K 2322 i j) (e3 : ∀ i j, K' 2323 i j = K 2323 i j) (e4 : ∀ i j, K' 2324 i j = K 2324 i j) (e5 : ∀ i j, K' 2325 i j = K 2325 i j) (h : R_against M K) : R_against M' K' := by
  unfold R_against at *
  simp only [e0, e1, e2, e3, e4, e5]
  exact h
theorem R_personn_x {M M' K K' : qm} (e0 : M' 756 7 0 = M 756 7 0) (e1 : K' 2156 27 0 = K 2156 27 0) (h : R_personn M K) : R_personn M' K' := by
  unfold R_personn at *
  simp only [e0, e1]
  exact h
theorem R_persons_x {M M' K K' : qm} (e0 : M' 756 7 0 = M 756 7 0) (e1 : ∀ i j, M' 761 i j = M 761 i j) (e2 : ∀ i j, K' 2304 i j = K 2304 i j) (e3 : ∀ i j, K' 2305 i j = K 2305 i j) (e4 : ∀ i j, K' 2306 i j = K 2306 i j) (e5 : ∀ i j, K' 2307 i j = K 2307 i j) (e6 : ∀ i j, K' 2308 i j = K 2308 i j) (e7 : ∀ i j, K' 2309 i j = K 2309 i j) (e8 : ∀ i j, K' 2310 i j = K 2310 i j) (e9 : ∀ i j, K' 2311 i j = K 2311 i j) (h : R_persons M K) : R_persons M' K' := by
  unfold R_persons at *
  simp only [e0, e1, e2, e3, e4, e5, e6, e7, e8, e9]
  exact h
theorem R_personb_x {M M' K K' : qm} (e0 : M' 6 12 0 = M 6 12 0) (e1 : ∀ i j, M' 56 i j = M 56 i j) (e2 : M' 756 7 0 = M 756 7 0) (e3 : K' 2156 9 0 = K 2156 9 0) (e4 : ∀ i j, K' 2306 i j = K 2306 i j) (e5 : ∀ i j, K' 2307 i j = K 2307 i j) (e6 : ∀ i j, K' 2308 i j = K 2308 i j) (e7 : ∀ i j, K' 2309 i j = K 2309 i j) (e8 : ∀ i j, K' 2311 i j = K 2311 i j) (h : R_personb M K) : R_personb M' K' := by
  unfold R_personb at *
  simp only [e0, e1, e2, e3, e4, e5, e6, e7, e8]
  exact h
theorem R_personz_x {M M' K K' : qm} (e0 : M' 756 7 0 = M 756 7 0) (e1 : ∀ i j, M' 761 i j = M 761 i j) (e2 : ∀ i j, K' 2310 i j = K 2310 i j) (e3 : ∀ i j, K' 2311 i j = K 2311 i j) (h : R_personz M K) : R_personz M' K' := by
  unfold R_personz at *
  simp only [e0, e1, e2, e3]
  exact h
theorem R_smoke_x {M M' K K' : qm} (e0 : ∀ i j, M' 757 i j = M 757 i j) (e1 : ∀ i j, K' 2326 i j = K 2326 i j) (h : R_smoke M K) : R_smoke M' K' := by
  unfold R_smoke at *
  simp only [e0, e1]
  exact h
theorem R_walk_x {M M' K K' : qm} (e0 : M' 6 11 0 = M 6 11 0) (e1 : ∀ i j, M' 759 i j = M 759 i j) (e2 : ∀ i j, K' 2328 i j = K 2328 i j) (h : R_walk M K) : R_walk M' K' := by
  unfold R_walk at *
  simp only [e0, e1, e2]
  exact h
theorem R_mtextn_x {M M' K K' : qm} (e0 : M' 6 11 0 = M 6 11 0) (e1 : M' 908 1 0 = M 908 1 0) (e2 : K' 2208 6 0 = K 2208 6 0) (h : R_mtextn M K) : R_mtextn M' K' := by
  unfold R_mtextn at *
  simp only [e0, e1, e2]
  exact h
theorem R_mtext_x {M M' K K' : qm} (e0 : M' 908 1 0 = M 908 1 0) (e1 : ∀ i j, M' 909 i j = M 909 i j) (e2 : ∀ i j, K' 2212 i j = K 2212 i j) (h : R_mtext M K) : R_mtext M' K' := by
  unfold R_mtext at *
  simp only [e0, e1, e2]
  exact h
theorem R_mpoints_x {M M' K K' : qm} (e0 : M' 6 11 0 = M 6 11 0) (e1 : M' 1172 2 0 = M 1172 2 0) (e2 : K' 2156 9 0 = K 2156 9 0) (e3 : K' 2208 0 0 = K 2208 0 0) (h : R_mpoints M K) : R_mpoints M' K' := by
  unfold R_mpoints at *
  simp only [e0, e1, e2, e3]
  exact h
theorem R_mvalue_x {M M' K K' : qm} (e0 : ∀ i j, M' 1173 i j = M 1173 i j) (e1 : ∀ i j, K' 2209 i j = K 2209 i j) (h : R_mvalue M K) : R_mvalue M' K' := by
  unfold R_mvalue at *
  simp only [e0, e1]
  exact h
theorem R_mfault_x {M M' K K' : qm} (e0 : ∀ i j, M' 1174 i j = M 1174 i j) (e1 : ∀ i j, K' 2210 i j = K 2210 i j) (h : R_mfault M K) : R_mfault M' K' := by
  unfold R_mfault at *
  simp only [e0, e1]
  exact h
theorem R_muntil_x {M M' K K' : qm} (e0 : ∀ i j, M' 1175 i j = M 1175 i j) (e1 : ∀ i j, K' 2211 i j = K 2211 i j) (h : R_muntil M K) : R_muntil M' K' := by
  unfold R_muntil at *
  simp only [e0, e1]
  exact h
theorem R_mnow_x {M M' K K' : qm} (e0 : M' 6 12 0 = M 6 12 0) (e1 : K' 2208 1 0 = K 2208 1 0) (h : R_mnow M K) : R_mnow M' K' := by
  unfold R_mnow at *
  simp only [e0, e1]
  exact h
theorem R_mzones_x {M M' K K' : qm} (e0 : ∀ i j, M' 1176 i j = M 1176 i j) (e1 : ∀ i j, K' 2215 i j = K 2215 i j) (e2 : ∀ i j, K' 2216 i j = K 2216 i j) (e3 : ∀ i j, K' 2217 i j = K 2217 i j) (h : R_mzones M K) : R_mzones M' K' := by
  unfold R_mzones at *
  simp only [e0, e1, e2, e3]
  exact h
theorem R_mzonep_x {M M' K K' : qm} (e0 : M' 1172 2 0 = M 1172 2 0) (e1 : ∀ i j, M' 1176 i j = M 1176 i j) (e2 : ∀ i j, K' 2215 i j = K 2215 i j) (e3 : ∀ i j, K' 2218 i j = K 2218 i j) (h : R_mzonep M K) : R_mzonep M' K' := by
  unfold R_mzonep at *
  simp only [e0, e1, e2, e3]
  exact h
theorem R_macts_x {M M' K K' : qm} (e0 : ∀ i j, M' 1197 i j = M 1197 i j) (e1 : ∀ i j, M' 1270 i j = M 1270 i j) (e2 : ∀ i j, K' 2219 i j = K 2219 i j) (e3 : ∀ i j, K' 2220 i j = K 2220 i j) (e4 : ∀ i j, K' 2221 i j = K 2221 i j) (e5 : ∀ i j, K' 2222 i j = K 2222 i j) (e6 : ∀ i j, K' 2223 i j = K 2223 i j) (e7 : ∀ i j, K' 2227 i j = K 2227 i j) (h : R_macts M K) : R_macts M' K' := by
  unfold R_macts at *
  simp only [e0, e1, e2, e3, e4, e5, e6, e7]
  exact h
theorem R_mstate_x {M M' K K' : qm} (e0 : M' 6 12 0 = M 6 12 0) (e1 : ∀ i j, M' 1270 i j = M 1270 i j) (e2 : ∀ i j, M' 1271 i j = M 1271 i j) (e3 : ∀ i j, M' 1272 i j = M 1272 i j) (e4 : ∀ i j, M' 1273 i j = M 1273 i j) (e5 : ∀ i j, K' 2227 i j = K 2227 i j) (e6 : ∀ i j, K' 2228 i j = K 2228 i j) (e7 : ∀ i j, K' 2229 i j = K 2229 i j) (e8 : ∀ i j, K' 2230 i j = K 2230 i j) (h : R_mstate M K) : R_mstate M' K' := by
  unfold R_mstate at *
  simp only [e0, e1, e2, e3, e4, e5, e6, e7, e8]
  exact h
theorem R_mrows_x {M M' K K' : qm} (e0 : M' 1172 9 0 = M 1172 9 0) (e1 : K' 2208 21 0 = K 2208 21 0) (h : R_mrows M K) : R_mrows M' K' := by
  unfold R_mrows at *
  simp only [e0, e1]
  exact h
theorem R_mrow_x {M M' K K' : qm} (e0 : M' 1172 9 0 = M 1172 9 0) (e1 : ∀ i j, M' 1218 i j = M 1218 i j) (e2 : ∀ i j, K' 2215 i j = K 2215 i j) (e3 : ∀ i j, K' 2219 i j = K 2219 i j) (e4 : ∀ i j, K' 2224 i j = K 2224 i j) (e5 : ∀ i j, K' 2225 i j = K 2225 i j) (e6 : ∀ i j, K' 2226 i j = K 2226 i j) (h : R_mrow M K) : R_mrow M' K' := by
  unfold R_mrow at *
  simp only [e0, e1, e2, e3, e4, e5, e6]
  exact h
theorem R_meventn_x {M M' K K' : qm} (e0 : M' 6 12 0 = M 6 12 0) (e1 : M' 1172 17 0 = M 1172 17 0) (e2 : K' 2208 30 0 = K 2208 30 0) (h : R_meventn M K) : R_meventn M' K' := by
  unfold R_meventn at *
  simp only [e0, e1, e2]
  exact h
theorem R_mevent_x {M M' K K' : qm} (e0 : M' 1172 17 0 = M 1172 17 0) (e1 : ∀ i j, M' 1276 i j = M 1276 i j) (e2 : K' 2208 30 0 = K 2208 30 0) (e3 : ∀ i j, K' 2231 i j = K 2231 i j) (e4 : ∀ i j, K' 2232 i j = K 2232 i j) (e5 : ∀ i j, K' 2233 i j = K 2233 i j) (h : R_mevent M K) : R_mevent M' K' := by
  unfold R_mevent at *
  simp only [e0, e1, e2, e3, e4, e5]
  exact h
theorem R_blocks_x {M M' K K' : qm} (e0 : M' 1003 0 0 = M 1003 0 0) (e1 : K' 2235 0 0 = K 2235 0 0) (h : R_blocks M K) : R_blocks M' K' := by
  unfold R_blocks at *
  simp only [e0, e1]
  exact h
theorem R_kinds_x {M M' K K' : qm} (e0 : ∀ i j, M' 1004 i j = M 1004 i j) (e1 : ∀ i j, K' 2236 i j = K 2236 i j) (h : R_kinds M K) : R_kinds M' K' := by
  unfold R_kinds at *
  simp only [e0, e1]
  exact h
theorem R_pq_x {M M' K K' : qm} (e0 : ∀ i j, M' 1005 i j = M 1005 i j) (e1 : ∀ i j, M' 1006 i j = M 1006 i j) (e2 : ∀ i j, K' 2237 i j = K 2237 i j) (e3 : ∀ i j, K' 2238 i j = K 2238 i j) (h : R_pq M K) : R_pq M' K' := by
  unfold R_pq at *
  simp only [e0, e1, e2, e3]
  exact h
theorem R_safe_x {M M' K K' : qm} (e0 : ∀ i j, M' 1007 i j = M 1007 i j) (e1 : ∀ i j, K' 2239 i j = K 2239 i j) (h : R_safe M K) : R_safe M' K' := by
  unfold R_safe at *
  simp only [e0, e1]
  exact h
theorem R_outs_x {M M' K K' : qm} (e0 : ∀ i j, M' 1049 i j = M 1049 i j) (e1 : ∀ i j, M' 1050 i j = M 1050 i j) (e2 : ∀ i j, K' 2242 i j = K 2242 i j) (e3 : ∀ i j, K' 2243 i j = K 2243 i j) (e4 : ∀ i j, K' 2244 i j = K 2244 i j) (h : R_outs M K) : R_outs M' K' := by
  unfold R_outs at *
  simp only [e0, e1, e2, e3, e4]
  exact h
theorem R_hand_x {M M' K K' : qm} (e0 : ∀ i j, M' 1132 i j = M 1132 i j) (e1 : ∀ i j, M' 1133 i j = M 1133 i j) (e2 : ∀ i j, K' 2245 i j = K 2245 i j) (e3 : ∀ i j, K' 2246 i j = K 2246 i j) (h : R_hand M K) : R_hand M' K' := by
  unfold R_hand at *
  simp only [e0, e1, e2, e3]
  exact h
theorem R_wire_x {M M' K K' : qm} (e0 : M' 1003 0 0 = M 1003 0 0) (e1 : ∀ i j, M' 1008 i j = M 1008 i j) (e2 : ∀ i j, K' 2240 i j = K 2240 i j) (h : R_wire M K) : R_wire M' K' := by
  unfold R_wire at *
  simp only [e0, e1, e2]
  exact h
theorem R_row_x {M M' K K' : qm} (e0 : ∀ i j, M' 1091 i j = M 1091 i j) (e1 : ∀ i j, K' 2241 i j = K 2241 i j) (h : R_row M K) : R_row M' K' := by
  unfold R_row at *
  simp only [e0, e1]
  exact h
theorem R_bound_x {M M' K K' : qm} (e0 : M' 1003 0 0 = M 1003 0 0) (e1 : ∀ i j, M' 1134 i j = M 1134 i j) (e2 : ∀ i j, K' 2248 i j = K 2248 i j) (h : R_bound M K) : R_bound M' K' := by
  unfold R_bound at *
  simp only [e0, e1, e2]
  exact h
theorem R_points_x {M M' K K' : qm} (e0 : ∀ i j, M' 1135 i j = M 1135 i j) (e1 : ∀ i j, K' 2247 i j = K 2247 i j) (h : R_points M K) : R_points M' K' := by
  unfold R_points at *
  simp only [e0, e1]
  exact h
theorem R_failed_x {M M' K K' : qm} (e0 : ∀ i j, M' 1138 i j = M 1138 i j) (e1 : ∀ i j, K' 2251 i j = K 2251 i j) (h : R_failed M K) : R_failed M' K' := by
  unfold R_failed at *
  simp only [e0, e1]
  exact h
theorem R_rests_x {M M' K K' : qm} (e0 : M' 1003 18 0 = M 1003 18 0) (e1 : K' 2235 18 0 = K 2235 18 0) (h : R_rests M K) : R_rests M' K' := by
  unfold R_rests at *
  simp only [e0, e1]
  exact h
theorem R_bnow_x {M M' K K' : qm} (e0 : M' 6 12 0 = M 6 12 0) (e1 : M' 1139 5 0 = M 1139 5 0) (e2 : K' 2252 0 0 = K 2252 0 0) (h : R_bnow M K) : R_bnow M' K' := by
  unfold R_bnow at *
  simp only [e0, e1, e2]
  exact h
theorem R_bspn_x {M M' K K' : qm} (e0 : M' 1139 8 0 = M 1139 8 0) (e1 : K' 2252 3 0 = K 2252 3 0) (h : R_bspn M K) : R_bspn M' K' := by
  unfold R_bspn at *
  simp only [e0, e1]
  exact h
theorem R_bspoilt_x {M M' K K' : qm} (e0 : M' 1139 5 0 = M 1139 5 0) (e1 : ∀ i j, M' 1168 i j = M 1168 i j) (e2 : ∀ i j, K' 2254 i j = K 2254 i j) (h : R_bspoilt M K) : R_bspoilt M' K' := by
  unfold R_bspoilt at *
  simp only [e0, e1, e2]
  exact h
theorem R_baddr_x {M M' K K' : qm} (e0 : ∀ i j, M' 1140 i j = M 1140 i j) (e1 : ∀ i j, K' 2255 i j = K 2255 i j) (h : R_baddr M K) : R_baddr M' K' := by
  unfold R_baddr at *
  simp only [e0, e1]
  exact h
theorem R_bbusy_x {M M' K K' : qm} (e0 : ∀ i j, M' 1140 i j = M 1140 i j) (e1 : ∀ i j, K' 2257 i j = K 2257 i j) (h : R_bbusy M K) : R_bbusy M' K' := by
  unfold R_bbusy at *
  simp only [e0, e1]
  exact h
theorem R_bqueued_x {M M' K K' : qm} (e0 : ∀ i j, M' 1140 i j = M 1140 i j) (e1 : ∀ i j, K' 2258 i j = K 2258 i j) (h : R_bqueued M K) : R_bqueued M' K' := by
  unfold R_bqueued at *
  simp only [e0, e1]
  exact h
theorem R_bsaying_x {M M' K K' : qm} (e0 : ∀ i j, M' 1140 i j = M 1140 i j) (e1 : ∀ i j, K' 2260 i j = K 2260 i j) (e2 : ∀ i j, K' 2261 i j = K 2261 i j) (h : R_bsaying M K) : R_bsaying M' K' := by
  unfold R_bsaying at *
  simp only [e0, e1, e2]
  exact h
theorem R_bcounts_x {M M' K K' : qm} (e0 : ∀ i j, M' 1140 i j = M 1140 i j) (e1 : ∀ i j, K' 2264 i j = K 2264 i j) (e2 : ∀ i j, K' 2265 i j = K 2265 i j) (e3 : ∀ i j, K' 2266 i j = K 2266 i j) (h : R_bcounts M K) : R_bcounts M' K' := by
  unfold R_bcounts at *
  simp only [e0, e1, e2, e3]
  exact h
theorem R_blisten_x {M M' K K' : qm} (e0 : ∀ i j, M' 1167 i j = M 1167 i j) (e1 : ∀ i j, K' 2256 i j = K 2256 i j) (h : R_blisten M K) : R_blisten M' K' := by
  unfold R_blisten at *
  simp only [e0, e1]
  exact h
theorem R_bheard_x {M M' K K' : qm} (e0 : ∀ i j, M' 1171 i j = M 1171 i j) (e1 : ∀ i j, K' 2269 i j = K 2269 i j) (h : R_bheard M K) : R_bheard M' K' := by
  unfold R_bheard at *
  simp only [e0, e1]
  exact h
theorem R_blatest_x {M M' K K' : qm} (e0 : M' 1139 15 0 = M 1139 15 0) (e1 : M' 1139 18 0 = M 1139 18 0) (e2 : ∀ i j, M' 1170 i j = M 1170 i j) (e3 : K' 2252 21 0 = K 2252 21 0) (e4 : K' 2252 26 0 = K 2252 26 0) (e5 : ∀ i j, K' 2268 i j = K 2268 i j) (h : R_blatest M K) : R_blatest M' K' := by
  unfold R_blatest at *
  simp only [e0, e1, e2, e3, e4, e5]
  exact h
theorem R_carn_x {M M' K K' : qm} (e0 : M' 1337 0 0 = M 1337 0 0) (e1 : K' 2270 0 0 = K 2270 0 0) (h : R_carn M K) : R_carn M' K' := by
  unfold R_carn at *
  simp only [e0, e1]
  exact h
theorem R_cars_x {M M' K K' : qm} (e0 : M' 1337 0 0 = M 1337 0 0) (e1 : ∀ i j, M' 1338 i j = M 1338 i j) (e2 : ∀ i j, K' 2271 i j = K 2271 i j) (e3 : ∀ i j, K' 2272 i j = K 2272 i j) (e4 : ∀ i j, K' 2273 i j = K 2273 i j) (e5 : ∀ i j, K' 2274 i j = K 2274 i j) (e6 : ∀ i j, K' 2275 i j = K 2275 i j) (h : R_cars M K) : R_cars M' K' := by
  unfold R_cars at *
  simp only [e0, e1, e2, e3, e4, e5, e6]
  exact h
theorem R_carz_x {M M' K K' : qm} (e0 : M' 1337 0 0 = M 1337 0 0) (e1 : ∀ i j, M' 1338 i j = M 1338 i j) (h : R_carz M K) : R_carz M' K' := by
  unfold R_carz at *
  simp only [e0, e1]
  exact h
theorem R_calln_x {M M' K K' : qm} (e0 : M' 1337 2 0 = M 1337 2 0) (e1 : K' 2270 6 0 = K 2270 6 0) (h : R_calln M K) : R_calln M' K' := by
  unfold R_calln at *
  simp only [e0, e1]
  exact h
theorem R_given_x {M M' K K' : qm} (e0 : M' 1337 2 0 = M 1337 2 0) (e1 : ∀ i j, M' 1745 i j = M 1745 i j) (e2 : ∀ i j, K' 2285 i j = K 2285 i j) (e3 : ∀ i j, K' 2286 i j = K 2286 i j) (e4 : ∀ i j, K' 2287 i j = K 2287 i j) (e5 : ∀ i j, K' 2288 i j = K 2288 i j) (h : R_given M K) : R_given M' K' := by
  unfold R_given at *
  simp only [e0, e1, e2, e3, e4, e5]
  exact h
theorem R_calls_x {M M' K K' : qm} (e0 : M' 6 12 0 = M 6 12 0) (e1 : M' 1337 2 0 = M 1337 2 0) (e2 : ∀ i j, M' 1343 i j = M 1343 i j) (e3 : ∀ i j, K' 2276 i j = K 2276 i j) (e4 : ∀ i j, K' 2277 i j = K 2277 i j) (e5 : ∀ i j, K' 2278 i j = K 2278 i j) (e6 : ∀ i j, K' 2279 i j = K 2279 i j) (h : R_calls M K) : R_calls M' K' := by
  unfold R_calls at *
  simp only [e0, e1, e2, e3, e4, e5, e6]
  exact h
theorem R_opens_x {M M' K K' : qm} (e0 : M' 1337 2 0 = M 1337 2 0) (e1 : M' 1337 4 0 = M 1337 4 0) (e2 : ∀ i j, K' 2279 i j = K 2279 i j) (h : R_opens M K) : R_opens M' K' := by
  unfold R_opens at *
  simp only [e0, e1, e2]
  exact h
theorem R_openl_x {M M' K K' : qm} (e0 : M' 1337 2 0 = M 1337 2 0) (e1 : M' 1337 4 0 = M 1337 4 0) (e2 : ∀ i j, M' 1744 i j = M 1744 i j) (e3 : ∀ i j, K' 2279 i j = K 2279 i j) (h : R_openl M K) : R_openl M' K' := by
  unfold R_openl at *
  simp only [e0, e1, e2, e3]
  exact h
theorem R_openi_x {M M' K K' : qm} (e0 : M' 1337 4 0 = M 1337 4 0) (e1 : ∀ i j, M' 1744 i j = M 1744 i j) (h : R_openi M K) : R_openi M' K' := by
  unfold R_openi at *
  simp only [e0, e1]
  exact h
theorem R_opena_x {M M' K K' : qm} (e0 : M' 1337 2 0 = M 1337 2 0) (e1 : M' 1337 4 0 = M 1337 4 0) (e2 : ∀ i j, M' 1744 i j = M 1744 i j) (e3 : ∀ i j, K' 2279 i j = K 2279 i j) (h : R_opena M K) : R_opena M' K' := by
  unfold R_opena at *
  simp only [e0, e1, e2, e3]
  exact h
theorem R_begun_x {M M' K K' : qm} (e0 : M' 1337 0 0 = M 1337 0 0) (e1 : M' 1337 2 0 = M 1337 2 0) (e2 : ∀ i j, M' 1338 i j = M 1338 i j) (e3 : ∀ i j, K' 2279 i j = K 2279 i j) (e4 : ∀ i j, K' 2280 i j = K 2280 i j) (h : R_begun M K) : R_begun M' K' := by
  unfold R_begun at *
  simp only [e0, e1, e2, e3, e4]
  exact h
theorem R_begunz_x {M M' K K' : qm} (e0 : M' 1337 0 0 = M 1337 0 0) (e1 : M' 1337 2 0 = M 1337 2 0) (e2 : ∀ i j, M' 1338 i j = M 1338 i j) (e3 : ∀ i j, K' 2279 i j = K 2279 i j) (h : R_begunz M K) : R_begunz M' K' := by
  unfold R_begunz at *
  simp only [e0, e1, e2, e3]
  exact h
theorem R_begunr_x {M M' K K' : qm} (e0 : M' 1337 0 0 = M 1337 0 0) (e1 : M' 1337 2 0 = M 1337 2 0) (e2 : ∀ i j, K' 2280 i j = K 2280 i j) (h : R_begunr M K) : R_begunr M' K' := by
  unfold R_begunr at *
  simp only [e0, e1, e2]
  exact h
theorem R_givenz_x {M M' K K' : qm} (e0 : M' 1337 2 0 = M 1337 2 0) (e1 : ∀ i j, K' 2285 i j = K 2285 i j) (h : R_givenz M K) : R_givenz M' K' := by
  unfold R_givenz at *
  simp only [e0, e1]
  exact h
