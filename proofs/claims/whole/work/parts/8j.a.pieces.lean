/-! ===== the law between two calls: pieces by frames (wip/tools/q/genli.py) ===== -/
section LIa
variable {M K N W : qm}
theorem bq_p (h : BQ M K) (o : ∀ (e : Nat) (x y : Int), e = 1140 ∨ e = 1149 ∨ e = 1158 → N e x y = M e x y) (p : ∀ (e : Nat) (x y : Int), (2255 ≤ e ∧ e ≤ 2266 ∧ e ≠ 2256) → W e x y = K e x y) : BQ N W := stn_bq (fun s s0 s1 => stn_o (bq_stn h s0 s1) (fun _ => o _ _ _ (by omega)) (fun _ => o _ _ _ (by omega)) (fun _ => o _ _ _ (by omega)) (fun b b0 b1 b2 _ => p _ _ _ ⟨by omega, by omega, b2⟩) (fun _ _ _ => p _ _ _ (by omega)))
theorem FP_alone (f : Fg 330527984395124299475957654016385519914202341482140609642324397637202895618155672912594605219857642423795606012511679152123 M N) (g : Fg 330527984395124299475957654016385519914202341482140609642324397636467297758540046260582598646825494015658611233863550107647 K W) (h : R_alone M K) : R_alone N W := by
  intro k l k0 k1 l0 l1 ne
  rw [f 7 0 0 rfl] at k1 l1
  have w := h k l k0 k1 l0 l1 ne
  have a2158 : ∀ i, W 2158 i 0 = K 2158 i 0 := fun i => Fg_v g rfl rfl
  have a2159 : ∀ i, W 2159 i 0 = K 2159 i 0 := fun i => Fg_v g rfl rfl
  have a2160 : ∀ i, W 2160 i 0 = K 2160 i 0 := fun i => Fg_v g rfl rfl
  have a2161 : ∀ i, W 2161 i 0 = K 2161 i 0 := fun i => Fg_v g rfl rfl
  unfold crsN at w ⊢
  simp only [a2158, a2159, a2160, a2161]
  exact w
theorem FP_FND (f : Fg 330527984395124299475957654016385519914202341482140609642324397637202895618155672912594605219857642423795606012511677169715 M N) (g : Fg 330527984395124299475957654016385519914202341482140609642323578010681686261869580979242086070753782700705313005815845617663 K W) (h : FND M K) : FND N W := by
  refine FND_o h (fun b i j z => ?_) (fun b i z => ?_)
  · rcases z with ⟨rfl, rfl⟩ | rfl | ⟨rfl, z⟩ | rfl | rfl | rfl | rfl | rfl | rfl | rfl
    · exact f 7 0 j rfl
    · exact Fg_v f rfl rfl
    · rcases z with rfl | rfl | rfl | rfl | rfl <;> exact f _ _ _ rfl
    all_goals exact Fg_v f rfl rfl
  · rcases (show b = 2160 ∨ b = 2166 ∨ b = 2167 ∨ b = 2168 ∨ b = 2174 ∨ b = 2175 ∨ b = 2176 ∨ b = 2177 ∨ b = 2178 ∨ b = 2179 ∨ b = 2180 ∨ b = 2181 ∨ (b = 2157 ∧ (i = 12 ∨ i = 13 ∨ i = 27 ∨ i = 30 ∨ i = 35)) from by omega) with rfl | rfl | rfl | rfl | rfl | rfl | rfl | rfl | rfl | rfl | rfl | rfl | ⟨rfl, w⟩
    all_goals first
      | exact Fg_v g rfl rfl
      | (rcases w with rfl | rfl | rfl | rfl | rfl <;> exact g _ _ _ rfl)
theorem FP_WLX (f : Fg 330527984395124299475957654016385519914202341482140609642324397637202895618155672912594605219857642423795587998113169670142 M N) (h : (M 6 11 0 ≠ 0 → WLB M)) : (N 6 11 0 ≠ 0 → WLB N) := by
  intro z v v0 v1
  rw [f 6 11 0 rfl] at z
  rw [show N 759 v 0 = M 759 v 0 from Fg_v f rfl rfl]
  exact h z v v0 v1
theorem FP_CUX (f : Fg 330527984395124299475957654016385519914202341482140609642324397637202895618155672912594605219857642423795606012511679151934 M N) (h : (M 6 11 0 ≠ 0 → M 51 1 0 ≠ 0 ∧ M 51 2 0 = 1)) : (N 6 11 0 ≠ 0 → N 51 1 0 ≠ 0 ∧ N 51 2 0 = 1) := by
  intro z
  rw [f 6 11 0 rfl] at z
  rw [f 51 1 0 rfl, f 51 2 0 rfl]
  exact h z
theorem FP_LAT (g : Fg 330527984395124299475957654016385519913231007036027745106864666683791136164834469493068535459231736218926153869909074903039 K W) (h : LAT K) : LAT W := by
  intro i i0 i1
  rw [show W 2223 i 0 = K 2223 i 0 from Fg_v g rfl rfl]
  exact h i i0 i1
theorem FP_RLS (f : Fg 330527984395124299475957654016385519914202341482140609642324397637202895618155672912594605219857642423795605946523801616383 M N) (g : Fg 330527984395124299475957654016385519914202341482084125750222263663166529576178797736291745344029399980228155914264105713663 K W) (h0 : R_rulen M K) (h : RLS M K) : RLS N W := by
  refine RLS_o h h0.2.1 (fun b x y z => ?_) (fun b x y z => ?_)
  · rcases (show b = 736 ∨ b = 737 ∨ b = 738 ∨ b = 739 ∨ (b = 735 ∧ x = 0) from by omega) with rfl | rfl | rfl | rfl | ⟨rfl, rfl⟩
    · exact Fg_v f rfl rfl
    · exact Fg_v f rfl rfl
    · exact Fg_v f rfl rfl
    · exact Fg_v f rfl rfl
    · exact f 735 0 y rfl
  · rcases (show b = 2189 ∨ b = 2190 ∨ b = 2191 ∨ b = 2192 ∨ b = 2193 ∨ b = 2194 ∨ b = 2195 ∨ b = 2196 ∨ b = 2197 from by omega) with rfl | rfl | rfl | rfl | rfl | rfl | rfl | rfl | rfl <;> exact Fg_v g rfl rfl
theorem FP_BND {n n2 : Int} (hn : n ≤ n2) (f : Fg 330527984395124299475957654016385519914202341482140609642324397637202895618155672912594605219857642423749489152327405273087 M N) (g : Fg 330527984395124299475957636928489232546921682321966960285907480815566716718165460941672849259581921531750149199825142284287 K W) (h : (0 ≤ n ∧ M 824 12 0 ≤ n ∧ K 2156 24 0 ≤ n ∧ M 824 15 0 ≤ 20 * n ∧ sI (fun u => K 2254 u 0) 182001 ≤ n)) : (0 ≤ n2 ∧ N 824 12 0 ≤ n2 ∧ W 2156 24 0 ≤ n2 ∧ N 824 15 0 ≤ 20 * n2 ∧ sI (fun u => W 2254 u 0) 182001 ≤ n2) := by
  rw [f 824 12 0 rfl, f 824 15 0 rfl, g 2156 24 0 rfl, show (fun u => W 2254 u 0) = (fun u => K 2254 u 0) from funext (fun u => Fg_v g rfl rfl)]
  omega
theorem bus_k3 (x : Int) : Nat.testBit 330527984395124299475957654016385519914202341482140609642324397637202895618155672912424464360915726850490645491951815622653 (ky 1139 x) = false := by
  have e : ky 1139 x = (if x = 5 then 108 else if x = 6 then 109 else if x = 8 then 110 else if x = 9 then 111 else if x = 10 then 112 else if x = 11 then 113 else if x = 13 then 114 else if x = 15 then 115 else if x = 16 then 116 else if x = 17 then 117 else 118) := rfl
  rw [e]
  (repeat' split) <;> rfl
theorem bus_l3 (x : Int) : Nat.testBit 330527984395124299474837781647382542648690134094195275888194778125502274485819597082764117104406448402062824053007674507263 (ky 2252 x) = false := by
  have e : ky 2252 x = (if x = 0 then 310 else if x = 3 then 311 else if x = 16 then 312 else if x = 17 then 313 else if x = 19 then 314 else if x = 20 then 315 else if x = 21 then 316 else if x = 23 then 317 else if x = 24 then 318 else if x = 25 then 319 else if x = 26 then 320 else 321) := rfl
  rw [e]
  (repeat' split) <;> rfl
theorem FP_BUS (f : Fg 330527984395124299475957654016385519914202341482140609642324397637202895618155672912424464360915726850490645491951815622653 M N) (g : Fg 330527984395124299474837781647382542648690134094195275888194778125502274485819597082764117104406448402062824053007674507263 K W) (h : BUS M K (30 * M 6 12 0)) : BUS N W (30 * N 6 12 0) := by
  rw [f 6 12 0 rfl]
  refine bus_o h (fun e x y z => ?_) (fun e x y z1 z2 => ?_)
  · rcases (show e = 1139 ∨ e = 1140 ∨ e = 1149 ∨ e = 1158 ∨ e = 1167 ∨ e = 1168 ∨ e = 1169 ∨ e = 1170 ∨ e = 1171 from by omega) with rfl | rfl | rfl | rfl | rfl | rfl | rfl | rfl | rfl
    · exact f 1139 x y (bus_k3 x)
    all_goals exact Fg_v f rfl rfl
  · rcases (show e = 2252 ∨ e = 2253 ∨ e = 2254 ∨ e = 2255 ∨ e = 2256 ∨ e = 2257 ∨ e = 2258 ∨ e = 2259 ∨ e = 2260 ∨ e = 2261 ∨ e = 2262 ∨ e = 2263 ∨ e = 2264 ∨ e = 2265 ∨ e = 2266 ∨ e = 2267 ∨ e = 2268 ∨ e = 2269 from by omega) with rfl | rfl | rfl | rfl | rfl | rfl | rfl | rfl | rfl | rfl | rfl | rfl | rfl | rfl | rfl | rfl | rfl | rfl
    · exact g 2252 x y (bus_l3 x)
    all_goals exact Fg_v g rfl rfl
theorem mx_le {E E2 : Int} (h : MxI M K E) (hE : E ≤ E2) : MxI M K E2 := by
  obtain ⟨h1, h2, h3, h4, h5, h6, h7, h8, h9, h10, h11, h12, ⟨g1, ⟨g2, g3, g4⟩, g5⟩, h14⟩ := h
  exact ⟨h1, h2, h3, h4, h5, h6, h7, h8, h9, h10, h11, h12, ⟨g1, ⟨g2, by omega, g4⟩, g5⟩, h14⟩
theorem FP_MXI {n n2 : Int} (hn : n ≤ n2) (f : Fg 330527984395124299475957654016385519914202341482140609642324397637202895618155658974794345003410991386496539162343389528061 M N) (g : Fg 330527984395124299475817772497311944214194167740545753757824981335703702900285093357135268324310589238685949109392545677311 K W) (h : MxI M K (1200 * n)) : MxI N W (1200 * n2) := by
  obtain ⟨b1, b2, b3, b4⟩ := mx_bq h
  have bq : BQ N W := by
    refine bq_p b1 (fun e x y z => ?_) (fun e x y z => ?_)
    · rcases z with rfl | rfl | rfl <;> exact Fg_v f rfl rfl
    · rcases (show e = 2255 ∨ e = 2257 ∨ e = 2258 ∨ e = 2259 ∨ e = 2260 ∨ e = 2261 ∨ e = 2262 ∨ e = 2263 ∨ e = 2264 ∨ e = 2265 ∨ e = 2266 from by omega) with rfl | rfl | rfl | rfl | rfl | rfl | rfl | rfl | rfl | rfl | rfl <;> exact Fg_v g rfl rfl
  refine mx_le (mx_keep h (fun e x y z => ?_) (fun e x y z => ?_) (R_mnow_x (M := M) (K := K) (f 6 12 0 rfl) (g 2208 1 0 rfl) b4) (R_mvalue_x (M := M) (K := K) (fun i j => Fg_v (a := 1173) (j := i) f rfl rfl) (fun i j => Fg_v (a := 2209) (j := i) g rfl rfl) b3) (by rw [f 6 12 0 rfl]; exact Int.le_refl _) bq (R_points_x (M := M) (K := K) (fun i j => Fg_v (a := 1135) (j := i) f rfl rfl) (fun i j => Fg_v (a := 2247) (j := i) g rfl rfl) b2)) (by omega)
  · rcases (show (e = 1172 ∧ x = 2) ∨ (e = 1172 ∧ x = 9) ∨ (e = 1172 ∧ x = 17) ∨ e = 1174 ∨ e = 1175 ∨ e = 1176 ∨ e = 1197 ∨ e = 1218 ∨ e = 1269 ∨ e = 1270 ∨ e = 1271 ∨ e = 1272 ∨ e = 1273 ∨ e = 1276 from by omega) with ⟨rfl, rfl⟩ | ⟨rfl, rfl⟩ | ⟨rfl, rfl⟩ | rfl | rfl | rfl | rfl | rfl | rfl | rfl | rfl | rfl | rfl | rfl
    · exact f 1172 2 y rfl
    · exact f 1172 9 y rfl
    · exact f 1172 17 y rfl
    all_goals exact Fg_v f rfl rfl
  · rcases (show (e = 2208 ∧ x = 21) ∨ (e = 2208 ∧ x = 30) ∨ e = 2210 ∨ e = 2211 ∨ e = 2215 ∨ e = 2216 ∨ e = 2217 ∨ e = 2218 ∨ e = 2219 ∨ e = 2220 ∨ e = 2221 ∨ e = 2222 ∨ e = 2223 ∨ e = 2224 ∨ e = 2225 ∨ e = 2226 ∨ e = 2227 ∨ e = 2228 ∨ e = 2229 ∨ e = 2230 ∨ e = 2231 ∨ e = 2232 ∨ e = 2233 from by omega) with ⟨rfl, rfl⟩ | ⟨rfl, rfl⟩ | rfl | rfl | rfl | rfl | rfl | rfl | rfl | rfl | rfl | rfl | rfl | rfl | rfl | rfl | rfl | rfl | rfl | rfl | rfl | rfl | rfl
    · exact g 2208 21 y rfl
    · exact g 2208 30 y rfl
    all_goals exact Fg_v g rfl rfl
end LIa
