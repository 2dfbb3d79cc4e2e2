/-! ===== frames: what a function does not write stays as it was (wip/tools/q/genfr.py) ===== -/
def ky (a : Nat) (i : Int) : Nat := (bif Nat.blt a 2190 then (bif Nat.blt a 1137 then (bif Nat.blt a 755 then (bif Nat.blt a 725 then (bif Nat.blt a 56 then (bif Nat.blt a 30 then (bif Nat.blt a 8 then (bif Nat.blt a 7 then (if i = 11 then 0 else 1) else (2)) else (bif Nat.blt a 29 then 3 else 4)) else (bif Nat.blt a 52 then (bif Nat.blt a 51 then 5 else (if i = 1 then 6 else if i = 2 then 7 else if i = 3 then 8 else if i = 12 then 9 else 10)) else (bif Nat.blt a 55 then 11 else 12))) else (bif Nat.blt a 60 then (bif Nat.blt a 58 then (bif Nat.blt a 57 then 13 else 14) else (bif Nat.blt a 59 then 15 else 16)) else (bif Nat.blt a 62 then (bif Nat.blt a 61 then 17 else 18) else (bif Nat.blt a 283 then 19 else (bif Nat.blt a 724 then 20 else 21))))) else (bif Nat.blt a 734 then (bif Nat.blt a 729 then (bif Nat.blt a 727 then (bif Nat.blt a 726 then 22 else 23) else (bif Nat.blt a 728 then (if i = 1 then 24 else if i = 5 then 25 else 26) else 27)) else (bif Nat.blt a 731 then (bif Nat.blt a 730 then 28 else 29) else (bif Nat.blt a 732 then 30 else (bif Nat.blt a 733 then 31 else 32)))) else (bif Nat.blt a 738 then (bif Nat.blt a 736 then (bif Nat.blt a 735 then 33 else (if i = 0 then 34 else if i = 1 then 35 else if i = 8 then 36 else if i = 11 then 37 else if i = 12 then 38 else if i = 13 then 39 else if i = 14 then 40 else 41)) else (bif Nat.blt a 737 then 42 else 43)) else (bif Nat.blt a 740 then (bif Nat.blt a 739 then 44 else 45) else (bif Nat.blt a 753 then 46 else (bif Nat.blt a 754 then 47 else 48)))))) else (bif Nat.blt a 909 then (bif Nat.blt a 824 then (bif Nat.blt a 759 then (bif Nat.blt a 757 then (bif Nat.blt a 756 then 49 else (if i = 4 then 50 else 51)) else (bif Nat.blt a 758 then 52 else 53)) else (bif Nat.blt a 761 then (bif Nat.blt a 760 then 54 else 55) else (bif Nat.blt a 802 then 56 else (bif Nat.blt a 803 then 57 else 58)))) else (bif Nat.blt a 828 then (bif Nat.blt a 826 then (bif Nat.blt a 825 then (if i = 3 then 59 else if i = 7 then 60 else if i = 8 then 61 else if i = 10 then 62 else if i = 12 then 63 else if i = 13 then 64 else if i = 15 then 65 else if i = 17 then 66 else 67) else 68) else (bif Nat.blt a 827 then 69 else 70)) else (bif Nat.blt a 906 then (bif Nat.blt a 889 then 71 else 72) else (bif Nat.blt a 907 then 73 else (bif Nat.blt a 908 then 74 else (if i = 1 then 75 else if i = 2 then 76 else if i = 3 then 77 else if i = 4 then 78 else if i = 5 then 79 else if i = 6 then 80 else if i = 7 then 81 else if i = 8 then 82 else 83)))))) else (bif Nat.blt a 1008 then (bif Nat.blt a 1003 then (bif Nat.blt a 931 then (bif Nat.blt a 910 then 84 else 85) else (bif Nat.blt a 952 then 86 else 87)) else (bif Nat.blt a 1005 then (bif Nat.blt a 1004 then (if i = 0 then 88 else if i = 13 then 89 else if i = 14 then 90 else if i = 18 then 91 else 92) else 93) else (bif Nat.blt a 1006 then 94 else (bif Nat.blt a 1007 then 95 else 96)))) else (bif Nat.blt a 1132 then (bif Nat.blt a 1050 then (bif Nat.blt a 1049 then 97 else 98) else (bif Nat.blt a 1091 then 99 else 100)) else (bif Nat.blt a 1134 then (bif Nat.blt a 1133 then 101 else 102) else (bif Nat.blt a 1135 then 103 else (bif Nat.blt a 1136 then 104 else 105))))))) else (bif Nat.blt a 2154 then (bif Nat.blt a 1218 then (bif Nat.blt a 1169 then (bif Nat.blt a 1149 then (bif Nat.blt a 1139 then (bif Nat.blt a 1138 then 106 else 107) else (bif Nat.blt a 1140 then (if i = 5 then 108 else if i = 6 then 109 else if i = 8 then 110 else if i = 9 then 111 else if i = 10 then 112 else if i = 11 then 113 else if i = 13 then 114 else if i = 15 then 115 else if i = 16 then 116 else if i = 17 then 117 else 118) else 119)) else (bif Nat.blt a 1167 then (bif Nat.blt a 1158 then 120 else 121) else (bif Nat.blt a 1168 then 122 else 123))) else (bif Nat.blt a 1173 then (bif Nat.blt a 1171 then (bif Nat.blt a 1170 then 124 else 125) else (bif Nat.blt a 1172 then 126 else (if i = 2 then 127 else if i = 9 then 128 else 129))) else (bif Nat.blt a 1175 then (bif Nat.blt a 1174 then 130 else 131) else (bif Nat.blt a 1176 then 132 else (bif Nat.blt a 1197 then 133 else 134))))) else (bif Nat.blt a 1337 then (bif Nat.blt a 1272 then (bif Nat.blt a 1270 then (bif Nat.blt a 1269 then 135 else 136) else (bif Nat.blt a 1271 then 137 else 138)) else (bif Nat.blt a 1274 then (bif Nat.blt a 1273 then 139 else 140) else (bif Nat.blt a 1275 then 141 else (bif Nat.blt a 1276 then 142 else 143)))) else (bif Nat.blt a 1745 then (bif Nat.blt a 1343 then (bif Nat.blt a 1338 then (if i = 0 then 144 else if i = 2 then 145 else if i = 4 then 146 else if i = 7 then 147 else if i = 12 then 148 else 149) else 150) else (bif Nat.blt a 1744 then 151 else 152)) else (bif Nat.blt a 2147 then (bif Nat.blt a 2146 then 153 else 154) else (bif Nat.blt a 2152 then 155 else (bif Nat.blt a 2153 then 156 else 157)))))) else (bif Nat.blt a 2172 then (bif Nat.blt a 2163 then (bif Nat.blt a 2158 then (bif Nat.blt a 2156 then (bif Nat.blt a 2155 then 158 else 159) else (bif Nat.blt a 2157 then (if i = 0 then 160 else if i = 1 then 161 else if i = 2 then 162 else if i = 9 then 163 else if i = 10 then 164 else if i = 24 then 165 else if i = 27 then 166 else if i = 36 then 167 else if i = 39 then 168 else if i = 45 then 169 else 170) else (if i = 0 then 171 else if i = 9 then 172 else if i = 10 then 173 else if i = 11 then 174 else if i = 12 then 175 else if i = 13 then 176 else if i = 17 then 177 else if i = 18 then 178 else if i = 19 then 179 else if i = 20 then 180 else if i = 24 then 181 else if i = 27 then 182 else if i = 30 then 183 else 184))) else (bif Nat.blt a 2160 then (bif Nat.blt a 2159 then 185 else 186) else (bif Nat.blt a 2161 then 187 else (bif Nat.blt a 2162 then 188 else 189)))) else (bif Nat.blt a 2167 then (bif Nat.blt a 2165 then (bif Nat.blt a 2164 then 190 else 191) else (bif Nat.blt a 2166 then 192 else 193)) else (bif Nat.blt a 2169 then (bif Nat.blt a 2168 then 194 else 195) else (bif Nat.blt a 2170 then 196 else (bif Nat.blt a 2171 then 197 else 198))))) else (bif Nat.blt a 2181 then (bif Nat.blt a 2176 then (bif Nat.blt a 2174 then (bif Nat.blt a 2173 then 199 else 200) else (bif Nat.blt a 2175 then 201 else 202)) else (bif Nat.blt a 2178 then (bif Nat.blt a 2177 then 203 else 204) else (bif Nat.blt a 2179 then 205 else (bif Nat.blt a 2180 then 206 else 207)))) else (bif Nat.blt a 2185 then (bif Nat.blt a 2183 then (bif Nat.blt a 2182 then 208 else 209) else (bif Nat.blt a 2184 then 210 else (if i = 1 then 211 else if i = 2 then 212 else if i = 5 then 213 else if i = 10 then 214 else if i = 15 then 215 else if i = 18 then 216 else if i = 26 then 217 else if i = 27 then 218 else if i = 28 then 219 else if i = 29 then 220 else if i = 30 then 221 else if i = 31 then 222 else if i = 32 then 223 else if i = 33 then 224 else if i = 34 then 225 else if i = 36 then 226 else if i = 39 then 227 else if i = 40 then 228 else if i = 41 then 229 else if i = 42 then 230 else 231))) else (bif Nat.blt a 2187 then (bif Nat.blt a 2186 then 232 else 233) else (bif Nat.blt a 2188 then 234 else (bif Nat.blt a 2189 then 235 else 236)))))))) else (bif Nat.blt a 2261 then (bif Nat.blt a 2225 then (bif Nat.blt a 2207 then (bif Nat.blt a 2198 then (bif Nat.blt a 2194 then (bif Nat.blt a 2192 then (bif Nat.blt a 2191 then 237 else 238) else (bif Nat.blt a 2193 then 239 else 240)) else (bif Nat.blt a 2196 then (bif Nat.blt a 2195 then 241 else 242) else (bif Nat.blt a 2197 then 243 else 244))) else (bif Nat.blt a 2202 then (bif Nat.blt a 2200 then (bif Nat.blt a 2199 then 245 else 246) else (bif Nat.blt a 2201 then 247 else 248)) else (bif Nat.blt a 2204 then (bif Nat.blt a 2203 then 249 else 250) else (bif Nat.blt a 2205 then 251 else (bif Nat.blt a 2206 then 252 else 253))))) else (bif Nat.blt a 2216 then (bif Nat.blt a 2211 then (bif Nat.blt a 2209 then (bif Nat.blt a 2208 then 254 else (if i = 0 then 255 else if i = 1 then 256 else if i = 6 then 257 else if i = 7 then 258 else if i = 10 then 259 else if i = 11 then 260 else if i = 21 then 261 else if i = 22 then 262 else if i = 30 then 263 else 264)) else (bif Nat.blt a 2210 then 265 else 266)) else (bif Nat.blt a 2213 then (bif Nat.blt a 2212 then 267 else 268) else (bif Nat.blt a 2214 then 269 else (bif Nat.blt a 2215 then 270 else 271)))) else (bif Nat.blt a 2220 then (bif Nat.blt a 2218 then (bif Nat.blt a 2217 then 272 else 273) else (bif Nat.blt a 2219 then 274 else 275)) else (bif Nat.blt a 2222 then (bif Nat.blt a 2221 then 276 else 277) else (bif Nat.blt a 2223 then 278 else (bif Nat.blt a 2224 then 279 else 280)))))) else (bif Nat.blt a 2243 then (bif Nat.blt a 2234 then (bif Nat.blt a 2229 then (bif Nat.blt a 2227 then (bif Nat.blt a 2226 then 281 else 282) else (bif Nat.blt a 2228 then 283 else 284)) else (bif Nat.blt a 2231 then (bif Nat.blt a 2230 then 285 else 286) else (bif Nat.blt a 2232 then 287 else (bif Nat.blt a 2233 then 288 else 289)))) else (bif Nat.blt a 2238 then (bif Nat.blt a 2236 then (bif Nat.blt a 2235 then 290 else (if i = 0 then 291 else if i = 14 then 292 else 293)) else (bif Nat.blt a 2237 then 294 else 295)) else (bif Nat.blt a 2240 then (bif Nat.blt a 2239 then 296 else 297) else (bif Nat.blt a 2241 then 298 else (bif Nat.blt a 2242 then 299 else 300))))) else (bif Nat.blt a 2252 then (bif Nat.blt a 2247 then (bif Nat.blt a 2245 then (bif Nat.blt a 2244 then 301 else 302) else (bif Nat.blt a 2246 then 303 else 304)) else (bif Nat.blt a 2249 then (bif Nat.blt a 2248 then 305 else 306) else (bif Nat.blt a 2250 then 307 else (bif Nat.blt a 2251 then 308 else 309)))) else (bif Nat.blt a 2256 then (bif Nat.blt a 2254 then (bif Nat.blt a 2253 then (if i = 0 then 310 else if i = 3 then 311 else if i = 16 then 312 else if i = 17 then 313 else if i = 19 then 314 else if i = 20 then 315 else if i = 21 then 316 else if i = 23 then 317 else if i = 24 then 318 else if i = 25 then 319 else if i = 26 then 320 else 321) else 322) else (bif Nat.blt a 2255 then 323 else 324)) else (bif Nat.blt a 2258 then (bif Nat.blt a 2257 then 325 else 326) else (bif Nat.blt a 2259 then 327 else (bif Nat.blt a 2260 then 328 else 329))))))) else (bif Nat.blt a 2297 then (bif Nat.blt a 2279 then (bif Nat.blt a 2270 then (bif Nat.blt a 2265 then (bif Nat.blt a 2263 then (bif Nat.blt a 2262 then 330 else 331) else (bif Nat.blt a 2264 then 332 else 333)) else (bif Nat.blt a 2267 then (bif Nat.blt a 2266 then 334 else 335) else (bif Nat.blt a 2268 then 336 else (bif Nat.blt a 2269 then 337 else 338)))) else (bif Nat.blt a 2274 then (bif Nat.blt a 2272 then (bif Nat.blt a 2271 then (if i = 0 then 339 else if i = 6 then 340 else if i = 12 then 341 else if i = 13 then 342 else if i = 14 then 343 else 344) else 345) else (bif Nat.blt a 2273 then 346 else 347)) else (bif Nat.blt a 2276 then (bif Nat.blt a 2275 then 348 else 349) else (bif Nat.blt a 2277 then 350 else (bif Nat.blt a 2278 then 351 else 352))))) else (bif Nat.blt a 2288 then (bif Nat.blt a 2283 then (bif Nat.blt a 2281 then (bif Nat.blt a 2280 then 353 else 354) else (bif Nat.blt a 2282 then 355 else 356)) else (bif Nat.blt a 2285 then (bif Nat.blt a 2284 then 357 else 358) else (bif Nat.blt a 2286 then 359 else (bif Nat.blt a 2287 then 360 else 361)))) else (bif Nat.blt a 2292 then (bif Nat.blt a 2290 then (bif Nat.blt a 2289 then 362 else 363) else (bif Nat.blt a 2291 then 364 else 365)) else (bif Nat.blt a 2294 then (bif Nat.blt a 2293 then 366 else 367) else (bif Nat.blt a 2295 then 368 else (bif Nat.blt a 2296 then 369 else 370)))))) else (bif Nat.blt a 2315 then (bif Nat.blt a 2306 then (bif Nat.blt a 2301 then (bif Nat.blt a 2299 then (bif Nat.blt a 2298 then 371 else 372) else (bif Nat.blt a 2300 then 373 else 374)) else (bif Nat.blt a 2303 then (bif Nat.blt a 2302 then 375 else 376) else (bif Nat.blt a 2304 then 377 else (bif Nat.blt a 2305 then 378 else 379)))) else (bif Nat.blt a 2310 then (bif Nat.blt a 2308 then (bif Nat.blt a 2307 then 380 else 381) else (bif Nat.blt a 2309 then 382 else 383)) else (bif Nat.blt a 2312 then (bif Nat.blt a 2311 then 384 else 385) else (bif Nat.blt a 2313 then 386 else (bif Nat.blt a 2314 then 387 else 388))))) else (bif Nat.blt a 2324 then (bif Nat.blt a 2319 then (bif Nat.blt a 2317 then (bif Nat.blt a 2316 then 389 else 390) else (bif Nat.blt a 2318 then 391 else 392)) else (bif Nat.blt a 2321 then (bif Nat.blt a 2320 then 393 else 394) else (bif Nat.blt a 2322 then 395 else (bif Nat.blt a 2323 then 396 else 397)))) else (bif Nat.blt a 2328 then (bif Nat.blt a 2326 then (bif Nat.blt a 2325 then 398 else 399) else (bif Nat.blt a 2327 then 400 else 401)) else (bif Nat.blt a 2330 then (bif Nat.blt a 2329 then 402 else 403) else (bif Nat.blt a 2331 then 404 else (bif Nat.blt a 2332 then 405 else 406)))))))))
def Fg (G : Nat) (M M' : qm) : Prop := ∀ a i j, G.testBit (ky a i) = false → M' a i j = M a i j
def qP {α : Type} (x : Option α) (Q : α → Prop) : Prop := ∀ r, x = some r → Q r
def pU {α β : Type} (p : α → Prop) (q : β → Prop) : α ⊕ β → Prop
  | .inl a => p a
  | .inr b => q b
section QF
variable {α β σ ρ : Type} {G G' : Nat} {M M' M'' M0 : qm} {a b : Nat} {i j s d n v lo hi : Int}
theorem Fg_refl : Fg G M M := fun _ _ _ _ => rfl
theorem Fg_tr (h : Fg G M M') (h2 : Fg G M' M'') : Fg G M M'' := fun a i j q => (h2 a i j q).trans (h a i j q)
theorem Fg_mono (h : Fg G' M M') (e : G' ||| G = G) : Fg G M M' := by
  intro a i j q
  refine h a i j ?_
  rw [← e, Nat.testBit_or, Bool.or_eq_false_iff] at q
  exact q.1
theorem Fg_w (h : Fg G M0 M) (hg : G.testBit (ky a i) = true) : Fg G M0 (qw M a i j v) := by
  intro b x y q
  refine Eq.trans (if_neg ?_) (h b x y q)
  rintro ⟨rfl, rfl, -⟩
  rw [hg] at q
  cases q
theorem Fg_wa {k : Nat} (h : Fg G M0 M) (e : ky a i = k) (hg : G.testBit k = true) : Fg G M0 (qw M a i j v) := Fg_w h (e ▸ hg)
theorem Fg_up {X : qm} {k : Nat} (h : Fg G M0 M) (e : ∀ i, ky a i = k) (hg : G.testBit k = true) (hx : ∀ b x y, b ≠ a → X b x y = M b x y) : Fg G M0 X := by
  intro b x y q
  refine Eq.trans (hx b x y ?_) (h b x y q)
  rintro rfl
  rw [e, hg] at q
  cases q
theorem Fg_f1 {k : Nat} (h : Fg G M0 M) (e : ∀ i, ky a i = k) (hg : G.testBit k = true) : Fg G M0 (qfl1 M a lo hi v) := Fg_up h e hg (fun _ _ _ q => if_neg (fun p => q p.1))
theorem Fg_f2 {k : Nat} (h : Fg G M0 M) (e : ∀ i, ky a i = k) (hg : G.testBit k = true) : Fg G M0 (qfl2 M a i lo hi v) := Fg_up h e hg (fun _ _ _ q => if_neg (fun p => q p.1))
theorem Fg_c1 {k : Nat} (h : Fg G M0 M) (e : ∀ i, ky b i = k) (hg : G.testBit k = true) : Fg G M0 (qcp1 M a s b d n) := Fg_up h e hg (fun _ _ _ q => if_neg (fun p => q p.1))
theorem Fg_c2 {k : Nat} {l : Int} (h : Fg G M0 M) (e : ∀ i, ky b i = k) (hg : G.testBit k = true) : Fg G M0 (qcp2 M a i s b l d n) := Fg_up h e hg (fun _ _ _ q => if_neg (fun p => q p.1))
theorem Fg_nw {k : Nat} (h : Fg G M0 M) (e : ∀ i, ky a i = k) (hg : G.testBit k = true) : Fg G M0 (qnew M a n) := Fg_up h e hg (fun _ _ _ q => if_neg q)
theorem Fg_sw {k k2 : Nat} (h : Fg G M0 M) (e : ∀ i, ky a i = k) (hg : G.testBit k = true) (e2 : ∀ i, ky b i = k2) (hg2 : G.testBit k2 = true) : Fg G M0 (qsw M a b) := by
  intro c x y q
  refine Eq.trans (if_neg ?_) (Eq.trans (if_neg ?_) (h c x y q))
  · rintro rfl
    rw [e, hg] at q
    cases q
  · rintro rfl
    rw [e2, hg2] at q
    cases q
variable {Q : α → Prop} {T : β → Prop} {x y : Option α}
theorem qP_none : qP (none : Option α) Q := fun _ h => by cases h
theorem qP_some {r : α} (h : Q r) : qP (some r) Q := fun _ e => by
  cases e
  exact h
theorem qP_tt : qP x (fun _ => True) := fun _ _ => trivial
theorem qP_ite {c : Prop} {dc : Decidable c} (h1 : qP x Q) (h2 : qP y Q) : qP (@ite _ c dc x y) Q := by
  by_cases h : c
  · rw [if_pos h]
    exact h1
  · rw [if_neg h]
    exact h2
theorem qP_bnd {m m0 : qm} {Y : qm → Option α} (hm : Fg G m0 m) (h : ∀ M, Fg G m0 M → qP (Y M) Q) : qP (qbnd m Y) Q := h m hm
theorem qP_bind {f : α → Option β} (hx : qP x Q) (h : ∀ r, Q r → qP (f r) T) : qP (x.bind f) T := by
  intro r e
  cases x with
  | none => cases e
  | some a => exact h a (hx a rfl) r e
theorem qP_pure {f : α → Option β} (h : ∀ r, qP (f r) T) : qP (x.bind f) T := by
  intro r e
  cases x with
  | none => cases e
  | some a => exact h a r e
theorem qP_mono {Q' : α → Prop} (hx : qP x Q') (h : ∀ r, Q' r → Q r) : qP x Q := fun r e => h r (hx r e)
theorem qP_loop {R : ρ → Prop} {I : σ → Prop} {f : σ → Option (ρ ⊕ σ)} (h : ∀ s, I s → qP (f s) (pU R I)) : ∀ (n : Nat) (s : σ), I s → qP (qloop f n s) R := by
  intro n
  induction n with
  | zero =>
    intro s _ r e
    cases e
  | succ n ih =>
    intro s hs r e
    have q := h s hs
    unfold qloop at e
    cases hf : f s with
    | none =>
      rw [hf] at e
      cases e
    | some o =>
      rw [hf] at e
      cases o with
      | inl a =>
        cases e
        exact q _ hf
      | inr s' => exact ih s' (q _ hf) r e
end QF
