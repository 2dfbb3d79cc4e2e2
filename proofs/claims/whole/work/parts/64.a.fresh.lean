/-! ===== the fresh memory: what the constructors have made; its cells (wip/p1/tools/gen14.py) ===== -/
def fS (L : Nat) (xs : Nat → Int32) (w : Nat → Int32) : zm_S := (zm_up (c18_98 (c11_22 (zy_S L xs).1) w) 2332 (.inr (1, 1, .inr (.inl (fun _ => 0)))), 2333)
section FC
variable {L : Nat} {xs w : Nat → Int32}
theorem fn : (fS L xs w).2 = 2333 := rfl
set_option maxRecDepth 100000 in
theorem fc_0 : (fS L xs w).1 0 = .inr (0, L, .inl xs) := rfl
set_option maxRecDepth 100000 in
theorem fc_6 : (fS L xs w).1 6 = .inl (11, (.ref 7 :: .ref 51 :: .ref 727 :: .ref 735 :: .ref 756 :: .ref 824 :: .ref 908 :: .ref 1172 :: .ref 1003 :: .ref 1139 :: .ref 1337 :: .int 0 :: .int 0 :: [])) := rfl
set_option maxRecDepth 100000 in
theorem fc_7 : (fS L xs w).1 7 = .inl (8, (.int 0 :: .ref 8 :: .ref 29 :: .ref 30 :: [])) := rfl
set_option maxRecDepth 100000 in
theorem fc_8 : (fS L xs w).1 8 = .inr (4, 20, .inr (.inr (fun i => if i < 20 then some (9 + i) else none))) := rfl
set_option maxRecDepth 100000 in
theorem fc_29 : (fS L xs w).1 29 = .inr (0, 20, .inl (fun _ => 0)) := rfl
set_option maxRecDepth 100000 in
theorem fc_30 : (fS L xs w).1 30 = .inr (4, 20, .inr (.inr (fun i => if i < 20 then some (31 + i) else none))) := rfl
set_option maxRecDepth 100000 in
theorem fc_51 : (fS L xs w).1 51 = .inl (2, (.ref 7 :: .int 0 :: .int 0 :: .int 0 :: .ref 52 :: .ref 55 :: .ref 56 :: .ref 57 :: .ref 58 :: .ref 59 :: .ref 60 :: .ref 61 :: .int 0 :: .ref 62 :: .int 0 :: .ref 283 :: .ref 724 :: .ref 725 :: .ref 726 :: [])) := rfl
set_option maxRecDepth 100000 in
theorem fc_52 : (fS L xs w).1 52 = .inr (4, 2, .inr (.inr (fun i => if i < 2 then some (53 + i) else none))) := rfl
set_option maxRecDepth 100000 in
theorem fc_55 : (fS L xs w).1 55 = .inr (2, 625, .inl (fun _ => 0)) := rfl
set_option maxRecDepth 100000 in
theorem fc_56 : (fS L xs w).1 56 = .inr (0, 576, .inl (fun _ => 0)) := rfl
set_option maxRecDepth 100000 in
theorem fc_57 : (fS L xs w).1 57 = .inr (0, 576, .inl (fun _ => 0)) := rfl
set_option maxRecDepth 100000 in
theorem fc_58 : (fS L xs w).1 58 = .inr (0, 100, .inl (fun _ => 0)) := rfl
set_option maxRecDepth 100000 in
theorem fc_59 : (fS L xs w).1 59 = .inr (0, 100, .inl (fun _ => 0)) := rfl
set_option maxRecDepth 100000 in
theorem fc_60 : (fS L xs w).1 60 = .inr (0, 100, .inl (fun _ => 0)) := rfl
set_option maxRecDepth 100000 in
theorem fc_61 : (fS L xs w).1 61 = .inr (0, 100, .inl (fun _ => 0)) := rfl
set_option maxRecDepth 100000 in
theorem fc_62 : (fS L xs w).1 62 = .inr (4, 220, .inr (.inr (fun i => if i < 220 then some (63 + i) else none))) := rfl
set_option maxRecDepth 100000 in
theorem fc_283 : (fS L xs w).1 283 = .inr (4, 440, .inr (.inr (fun i => if i < 440 then some (284 + i) else none))) := rfl
set_option maxRecDepth 100000 in
theorem fc_724 : (fS L xs w).1 724 = .inr (2, 2500, .inl (fun _ => 0)) := rfl
set_option maxRecDepth 100000 in
theorem fc_725 : (fS L xs w).1 725 = .inr (0, 576, .inl (fun _ => 0)) := rfl
set_option maxRecDepth 100000 in
theorem fc_726 : (fS L xs w).1 726 = .inr (0, 100, .inl (fun _ => 0)) := rfl
set_option maxRecDepth 100000 in
theorem fc_727 : (fS L xs w).1 727 = .inl (6, (.ref 728 :: .int 0 :: .ref 729 :: .ref 730 :: .ref 731 :: .int 0 :: .int 0 :: .ref 732 :: .ref 733 :: .ref 734 :: [])) := rfl
set_option maxRecDepth 100000 in
theorem fc_728 : (fS L xs w).1 728 = .inr (3, 800, .inl (fun _ => 0)) := rfl
set_option maxRecDepth 100000 in
theorem fc_729 : (fS L xs w).1 729 = .inr (0, 121, .inl (fun _ => 0)) := rfl
set_option maxRecDepth 100000 in
theorem fc_730 : (fS L xs w).1 730 = .inr (1, 121, .inr (.inl (fun _ => 0))) := rfl
set_option maxRecDepth 100000 in
theorem fc_731 : (fS L xs w).1 731 = .inr (0, 121, .inl (fun _ => 0)) := rfl
set_option maxRecDepth 100000 in
theorem fc_732 : (fS L xs w).1 732 = .inr (1, 12, .inr (.inl (fun _ => 0))) := rfl
set_option maxRecDepth 100000 in
theorem fc_733 : (fS L xs w).1 733 = .inr (0, 12, .inl (fun _ => 0)) := rfl
set_option maxRecDepth 100000 in
theorem fc_734 : (fS L xs w).1 734 = .inr (0, 12, .inl (fun _ => 0)) := rfl
set_option maxRecDepth 100000 in
theorem fc_735 : (fS L xs w).1 735 = .inl (7, (.int 0 :: .int 0 :: .ref 736 :: .ref 737 :: .ref 738 :: .ref 739 :: .ref 740 :: .ref 753 :: .int 0 :: .ref 754 :: .ref 755 :: .int 0 :: .int 0 :: .long 0 :: .long 0 :: .long 0 :: [])) := rfl
set_option maxRecDepth 100000 in
theorem fc_736 : (fS L xs w).1 736 = .inr (0, 121, .inl (fun _ => 0)) := rfl
set_option maxRecDepth 100000 in
theorem fc_737 : (fS L xs w).1 737 = .inr (1, 121, .inr (.inl (fun _ => 0))) := rfl
set_option maxRecDepth 100000 in
theorem fc_738 : (fS L xs w).1 738 = .inr (0, 12, .inl (fun _ => 0)) := rfl
set_option maxRecDepth 100000 in
theorem fc_739 : (fS L xs w).1 739 = .inr (0, 12, .inl (fun _ => 0)) := rfl
set_option maxRecDepth 100000 in
theorem fc_740 : (fS L xs w).1 740 = .inr (5, 12, .inr (.inr (fun i => if i < 12 then some (741 + i) else none))) := rfl
set_option maxRecDepth 100000 in
theorem fc_753 : (fS L xs w).1 753 = .inr (1, 7, .inr (.inl (fun _ => 0))) := rfl
set_option maxRecDepth 100000 in
theorem fc_754 : (fS L xs w).1 754 = .inr (1, 40, .inr (.inl (fun _ => 0))) := rfl
set_option maxRecDepth 100000 in
theorem fc_755 : (fS L xs w).1 755 = .inr (0, 40, .inl (fun _ => 0)) := rfl
set_option maxRecDepth 100000 in
theorem fc_756 : (fS L xs w).1 756 = .inl (10, (.ref 7 :: .ref 51 :: .ref 757 :: .ref 758 :: .int 0 :: .ref 759 :: .ref 760 :: .int 0 :: .ref 761 :: .ref 802 :: .ref 803 :: [])) := rfl
set_option maxRecDepth 100000 in
theorem fc_757 : (fS L xs w).1 757 = .inr (2, 576, .inl (fun _ => 0)) := rfl
set_option maxRecDepth 100000 in
theorem fc_758 : (fS L xs w).1 758 = .inr (0, 40, .inl (fun _ => 0)) := rfl
set_option maxRecDepth 100000 in
theorem fc_759 : (fS L xs w).1 759 = .inr (0, 576, .inl (fun _ => 0)) := rfl
set_option maxRecDepth 100000 in
theorem fc_760 : (fS L xs w).1 760 = .inr (0, 576, .inl (fun _ => 0)) := rfl
set_option maxRecDepth 100000 in
theorem fc_761 : (fS L xs w).1 761 = .inr (4, 40, .inr (.inr (fun i => if i < 40 then some (762 + i) else none))) := rfl
set_option maxRecDepth 100000 in
theorem fc_802 : (fS L xs w).1 802 = .inr (0, 40, .inl (fun _ => 0)) := rfl
set_option maxRecDepth 100000 in
theorem fc_803 : (fS L xs w).1 803 = .inr (4, 20, .inr (.inr (fun i => if i < 20 then some (804 + i) else none))) := rfl
set_option maxRecDepth 100000 in
theorem fc_824 : (fS L xs w).1 824 = .inl (0, (.ref 7 :: .ref 51 :: .ref 756 :: .int 0 :: .ref 825 :: .ref 826 :: .ref 827 :: .int 0 :: .int 0 :: .ref 828 :: .int 0 :: .ref 889 :: .int 0 :: .int 0 :: .ref 906 :: .int 0 :: .ref 907 :: .int 0 :: .int 0 :: [])) := rfl
set_option maxRecDepth 100000 in
theorem fc_825 : (fS L xs w).1 825 = .inr (0, 0, .inl (fun _ => 0)) := rfl
set_option maxRecDepth 100000 in
theorem fc_826 : (fS L xs w).1 826 = .inr (0, 0, .inl (fun _ => 0)) := rfl
set_option maxRecDepth 100000 in
theorem fc_827 : (fS L xs w).1 827 = .inr (1, 0, .inr (.inl (fun _ => 0))) := rfl
set_option maxRecDepth 100000 in
theorem fc_828 : (fS L xs w).1 828 = .inr (4, 60, .inr (.inr (fun i => if i < 60 then some (829 + i) else none))) := rfl
set_option maxRecDepth 100000 in
theorem fc_889 : (fS L xs w).1 889 = .inr (4, 16, .inr (.inr (fun i => if i < 16 then some (890 + i) else none))) := rfl
set_option maxRecDepth 100000 in
theorem fc_906 : (fS L xs w).1 906 = .inr (0, 1536, .inl (fun _ => 0)) := rfl
set_option maxRecDepth 100000 in
theorem fc_907 : (fS L xs w).1 907 = .inr (0, 400, .inl (fun _ => 0)) := rfl
set_option maxRecDepth 100000 in
theorem fc_908 : (fS L xs w).1 908 = .inl (5, (.ref 909 :: .int 0 :: .int 0 :: .int 0 :: .int 0 :: .int 0 :: .int 0 :: .int 0 :: .long 0 :: .ref 910 :: .ref 931 :: .ref 952 :: .int 0 :: [])) := rfl
set_option maxRecDepth 100000 in
theorem fc_909 : (fS L xs w).1 909 = .inr (3, 2200, .inl (fun _ => 0)) := rfl
set_option maxRecDepth 100000 in
theorem fc_910 : (fS L xs w).1 910 = .inr (4, 20, .inr (.inr (fun i => if i < 20 then some (911 + i) else none))) := rfl
set_option maxRecDepth 100000 in
theorem fc_931 : (fS L xs w).1 931 = .inr (4, 20, .inr (.inr (fun i => if i < 20 then some (932 + i) else none))) := rfl
set_option maxRecDepth 100000 in
theorem fc_952 : (fS L xs w).1 952 = .inr (4, 50, .inr (.inr (fun i => if i < 50 then some (953 + i) else none))) := rfl
set_option maxRecDepth 100000 in
theorem fc_1003 : (fS L xs w).1 1003 = .inl (9, (.int 0 :: .ref 1004 :: .ref 1005 :: .ref 1006 :: .ref 1007 :: .ref 1008 :: .ref 1049 :: .ref 1050 :: .ref 1091 :: .ref 1132 :: .ref 1133 :: .ref 1134 :: .ref 1135 :: .int 0 :: .int 0 :: .ref 1136 :: .ref 1137 :: .ref 1138 :: .int 0 :: .int 0 :: [])) := rfl
set_option maxRecDepth 100000 in
theorem fc_1004 : (fS L xs w).1 1004 = .inr (0, 40, .inl (fun _ => 0)) := rfl
set_option maxRecDepth 100000 in
theorem fc_1005 : (fS L xs w).1 1005 = .inr (0, 40, .inl (fun _ => 0)) := rfl
set_option maxRecDepth 100000 in
theorem fc_1006 : (fS L xs w).1 1006 = .inr (0, 40, .inl (fun _ => 0)) := rfl
set_option maxRecDepth 100000 in
theorem fc_1007 : (fS L xs w).1 1007 = .inr (0, 40, .inl (fun _ => 0)) := rfl
set_option maxRecDepth 100000 in
theorem fc_1008 : (fS L xs w).1 1008 = .inr (4, 40, .inr (.inr (fun i => if i < 40 then some (1009 + i) else none))) := rfl
set_option maxRecDepth 100000 in
theorem fc_1049 : (fS L xs w).1 1049 = .inr (0, 40, .inl (fun _ => 0)) := rfl
set_option maxRecDepth 100000 in
theorem fc_1050 : (fS L xs w).1 1050 = .inr (4, 40, .inr (.inr (fun i => if i < 40 then some (1051 + i) else none))) := rfl
set_option maxRecDepth 100000 in
theorem fc_1091 : (fS L xs w).1 1091 = .inr (4, 40, .inr (.inr (fun i => if i < 40 then some (1092 + i) else none))) := rfl
set_option maxRecDepth 100000 in
theorem fc_1132 : (fS L xs w).1 1132 = .inr (2, 40, .inl (fun _ => 0)) := rfl
set_option maxRecDepth 100000 in
theorem fc_1133 : (fS L xs w).1 1133 = .inr (0, 40, .inl (fun _ => 0)) := rfl
set_option maxRecDepth 100000 in
theorem fc_1134 : (fS L xs w).1 1134 = .inr (0, 40, .inl (fun _ => 0)) := rfl
set_option maxRecDepth 100000 in
theorem fc_1135 : (fS L xs w).1 1135 = .inr (0, 10, .inl (fun _ => 0)) := rfl
set_option maxRecDepth 100000 in
theorem fc_1136 : (fS L xs w).1 1136 = .inr (0, 40, .inl (fun _ => 0)) := rfl
set_option maxRecDepth 100000 in
theorem fc_1137 : (fS L xs w).1 1137 = .inr (0, 40, .inl (fun _ => 0)) := rfl
set_option maxRecDepth 100000 in
theorem fc_1138 : (fS L xs w).1 1138 = .inr (0, 4, .inl (fun _ => 0)) := rfl
set_option maxRecDepth 100000 in
theorem fc_1139 : (fS L xs w).1 1139 = .inl (1, (.ref 1003 :: .ref 1140 :: .ref 1149 :: .ref 1158 :: .ref 1167 :: .int 0 :: .int (1000 : Int32) :: .ref 1168 :: .int 0 :: .int (-1 : Int32) :: .int 0 :: .int 0 :: .ref 1169 :: .int 0 :: .ref 1170 :: .int 0 :: .int (-1000 : Int32) :: .int 0 :: .int (-1 : Int32) :: .ref 1171 :: [])) := rfl
set_option maxRecDepth 100000 in
theorem fc_1140 : (fS L xs w).1 1140 = .inr (4, 8, .inr (.inr (fun i => if i < 8 then some (1141 + i) else none))) := rfl
set_option maxRecDepth 100000 in
theorem fc_1149 : (fS L xs w).1 1149 = .inr (4, 8, .inr (.inr (fun i => if i < 8 then some (1150 + i) else none))) := rfl
set_option maxRecDepth 100000 in
theorem fc_1158 : (fS L xs w).1 1158 = .inr (4, 8, .inr (.inr (fun i => if i < 8 then some (1159 + i) else none))) := rfl
set_option maxRecDepth 100000 in
theorem fc_1167 : (fS L xs w).1 1167 = .inr (2, 2048, .inl (fun _ => 0)) := rfl
set_option maxRecDepth 100000 in
theorem fc_1168 : (fS L xs w).1 1168 = .inr (2, 2001, .inl (fun _ => 0)) := rfl
set_option maxRecDepth 100000 in
theorem fc_1169 : (fS L xs w).1 1169 = .inr (0, 600, .inl (fun _ => 0)) := rfl
set_option maxRecDepth 100000 in
theorem fc_1170 : (fS L xs w).1 1170 = .inr (0, 600, .inl (fun _ => 0)) := rfl
set_option maxRecDepth 100000 in
theorem fc_1171 : (fS L xs w).1 1171 = .inr (0, 5, .inl (fun _ => 0)) := rfl
set_option maxRecDepth 100000 in
theorem fc_1172 : (fS L xs w).1 1172 = .inl (4, (.ref 1003 :: .ref 1139 :: .int 0 :: .ref 1173 :: .ref 1174 :: .ref 1175 :: .ref 1176 :: .ref 1197 :: .ref 1218 :: .int 0 :: .ref 1269 :: .ref 1270 :: .ref 1271 :: .ref 1272 :: .ref 1273 :: .ref 1274 :: .ref 1275 :: .int 0 :: .ref 1276 :: [])) := rfl
set_option maxRecDepth 100000 in
theorem fc_1173 : (fS L xs w).1 1173 = .inr (0, 50, .inl (fun _ => 0)) := rfl
set_option maxRecDepth 100000 in
theorem fc_1174 : (fS L xs w).1 1174 = .inr (2, 50, .inl (fun _ => 0)) := rfl
set_option maxRecDepth 100000 in
theorem fc_1175 : (fS L xs w).1 1175 = .inr (0, 50, .inl (fun _ => 0)) := rfl
set_option maxRecDepth 100000 in
theorem fc_1176 : (fS L xs w).1 1176 = .inr (4, 20, .inr (.inr (fun i => if i < 20 then some (1177 + i) else none))) := rfl
set_option maxRecDepth 100000 in
theorem fc_1197 : (fS L xs w).1 1197 = .inr (4, 20, .inr (.inr (fun i => if i < 20 then some (1198 + i) else none))) := rfl
set_option maxRecDepth 100000 in
theorem fc_1218 : (fS L xs w).1 1218 = .inr (4, 50, .inr (.inr (fun i => if i < 50 then some (1219 + i) else none))) := rfl
set_option maxRecDepth 100000 in
theorem fc_1269 : (fS L xs w).1 1269 = .inr (0, 20, .inl (fun _ => 0)) := rfl
set_option maxRecDepth 100000 in
theorem fc_1270 : (fS L xs w).1 1270 = .inr (0, 20, .inl (fun _ => 0)) := rfl
set_option maxRecDepth 100000 in
theorem fc_1271 : (fS L xs w).1 1271 = .inr (0, 20, .inl (fun _ => 0)) := rfl
set_option maxRecDepth 100000 in
theorem fc_1272 : (fS L xs w).1 1272 = .inr (2, 20, .inl (fun _ => 0)) := rfl
set_option maxRecDepth 100000 in
theorem fc_1273 : (fS L xs w).1 1273 = .inr (2, 20, .inl (fun _ => 0)) := rfl
set_option maxRecDepth 100000 in
theorem fc_1274 : (fS L xs w).1 1274 = .inr (2, 20, .inl (fun _ => 0)) := rfl
set_option maxRecDepth 100000 in
theorem fc_1275 : (fS L xs w).1 1275 = .inr (2, 20, .inl (fun _ => 0)) := rfl
set_option maxRecDepth 100000 in
theorem fc_1276 : (fS L xs w).1 1276 = .inr (4, 60, .inr (.inr (fun i => if i < 60 then some (1277 + i) else none))) := rfl
set_option maxRecDepth 100000 in
theorem fc_1337 : (fS L xs w).1 1337 = .inl (3, (.int 0 :: .ref 1338 :: .int 0 :: .ref 1343 :: .int 0 :: .ref 1744 :: .ref 1745 :: .int 0 :: .ref 2146 :: .ref 2147 :: .ref 2152 :: .ref 2153 :: .long 0 :: .ref 2154 :: .ref 2155 :: .long 0 :: [])) := rfl
set_option maxRecDepth 100000 in
theorem fc_1338 : (fS L xs w).1 1338 = .inr (4, 4, .inr (.inr (fun i => if i < 4 then some (1339 + i) else none))) := rfl
set_option maxRecDepth 100000 in
theorem fc_1343 : (fS L xs w).1 1343 = .inr (4, 400, .inr (.inr (fun i => if i < 400 then some (1344 + i) else none))) := rfl
set_option maxRecDepth 100000 in
theorem fc_1744 : (fS L xs w).1 1744 = .inr (0, 6, .inl (fun _ => 0)) := rfl
set_option maxRecDepth 100000 in
theorem fc_1745 : (fS L xs w).1 1745 = .inr (4, 400, .inr (.inr (fun i => if i < 400 then some (1746 + i) else none))) := rfl
set_option maxRecDepth 100000 in
theorem fc_2146 : (fS L xs w).1 2146 = .inr (0, 6, .inl (fun _ => 0)) := rfl
set_option maxRecDepth 100000 in
theorem fc_2147 : (fS L xs w).1 2147 = .inr (5, 4, .inr (.inr (fun i => if i < 4 then some (2148 + i) else none))) := rfl
set_option maxRecDepth 100000 in
theorem fc_2152 : (fS L xs w).1 2152 = .inr (0, 6, .inl (fun _ => 0)) := rfl
set_option maxRecDepth 100000 in
theorem fc_2153 : (fS L xs w).1 2153 = .inr (0, 6, .inl (fun _ => 0)) := rfl
set_option maxRecDepth 100000 in
theorem fc_2154 : (fS L xs w).1 2154 = .inr (0, 4, .inl (fun _ => 0)) := rfl
set_option maxRecDepth 100000 in
theorem fc_2155 : (fS L xs w).1 2155 = .inr (0, 4, .inl (fun _ => 0)) := rfl
set_option maxRecDepth 100000 in
theorem fc_2156 : (fS L xs w).1 2156 = .inl (18, (.int 0 :: .int 0 :: .int 0 :: .ref 2157 :: .ref 2184 :: .ref 2208 :: .ref 2235 :: .ref 2252 :: .ref 2270 :: .int 0 :: .int 0 :: .ref 2289 :: .ref 2290 :: .ref 2291 :: .ref 2292 :: .ref 2293 :: .ref 2294 :: .ref 2295 :: .ref 2296 :: .ref 2297 :: .ref 2298 :: .ref 2299 :: .ref 2300 :: .ref 2301 :: .int 0 :: .ref 2302 :: .ref 2303 :: .int 0 :: .ref 2304 :: .ref 2305 :: .ref 2306 :: .ref 2307 :: .ref 2308 :: .ref 2309 :: .ref 2310 :: .ref 2311 :: .int 0 :: .ref 2312 :: .ref 2313 :: .int 0 :: .ref 2314 :: .ref 2315 :: .ref 2316 :: .ref 2317 :: .ref 2318 :: .int 0 :: .ref 2319 :: .ref 2320 :: .ref 2321 :: .int 0 :: .ref 2322 :: .ref 2323 :: .ref 2324 :: .ref 2325 :: .ref 2326 :: .ref 2327 :: .ref 2328 :: .ref 2329 :: .ref 2330 :: .ref 2331 :: [])) := rfl
set_option maxRecDepth 100000 in
theorem fc_2157 : (fS L xs w).1 2157 = .inl (16, (.int 0 :: .ref 2158 :: .ref 2159 :: .ref 2160 :: .ref 2161 :: .ref 2162 :: .ref 2163 :: .ref 2164 :: .ref 2165 :: .int 0 :: .int 0 :: .int 0 :: .int 0 :: .int 0 :: .ref 2166 :: .ref 2167 :: .ref 2168 :: .int 0 :: .int 0 :: .int 0 :: .int 0 :: .ref 2169 :: .ref 2170 :: .ref 2171 :: .int 0 :: .ref 2172 :: .ref 2173 :: .int 0 :: .ref 2174 :: .ref 2175 :: .int 0 :: .ref 2176 :: .ref 2177 :: .ref 2178 :: .ref 2179 :: .int 0 :: .ref 2180 :: .ref 2181 :: .ref 2182 :: .ref 2183 :: [])) := rfl
set_option maxRecDepth 100000 in
theorem fc_2158 : (fS L xs w).1 2158 = .inr (0, 20, .inl (fun _ => 0)) := rfl
set_option maxRecDepth 100000 in
theorem fc_2159 : (fS L xs w).1 2159 = .inr (0, 20, .inl (fun _ => 0)) := rfl
set_option maxRecDepth 100000 in
theorem fc_2160 : (fS L xs w).1 2160 = .inr (2, 20, .inl (fun _ => 0)) := rfl
set_option maxRecDepth 100000 in
theorem fc_2161 : (fS L xs w).1 2161 = .inr (0, 20, .inl (fun _ => 0)) := rfl
set_option maxRecDepth 100000 in
theorem fc_2162 : (fS L xs w).1 2162 = .inr (0, 20, .inl (fun _ => 0)) := rfl
set_option maxRecDepth 100000 in
theorem fc_2163 : (fS L xs w).1 2163 = .inr (0, 120, .inl (fun _ => 0)) := rfl
set_option maxRecDepth 100000 in
theorem fc_2164 : (fS L xs w).1 2164 = .inr (0, 120, .inl (fun _ => 0)) := rfl
set_option maxRecDepth 100000 in
theorem fc_2165 : (fS L xs w).1 2165 = .inr (0, 120, .inl (fun _ => 0)) := rfl
set_option maxRecDepth 100000 in
theorem fc_2166 : (fS L xs w).1 2166 = .inr (0, 40, .inl (fun _ => 0)) := rfl
set_option maxRecDepth 100000 in
theorem fc_2167 : (fS L xs w).1 2167 = .inr (0, 40, .inl (fun _ => 0)) := rfl
set_option maxRecDepth 100000 in
theorem fc_2168 : (fS L xs w).1 2168 = .inr (0, 1764, .inl (fun _ => 0)) := rfl
set_option maxRecDepth 100000 in
theorem fc_2169 : (fS L xs w).1 2169 = .inr (0, 40, .inl (fun _ => 0)) := rfl
set_option maxRecDepth 100000 in
theorem fc_2170 : (fS L xs w).1 2170 = .inr (0, 40, .inl (fun _ => 0)) := rfl
set_option maxRecDepth 100000 in
theorem fc_2171 : (fS L xs w).1 2171 = .inr (0, 1764, .inl (fun _ => 0)) := rfl
set_option maxRecDepth 100000 in
theorem fc_2172 : (fS L xs w).1 2172 = .inr (0, 400, .inl (fun _ => 0)) := rfl
set_option maxRecDepth 100000 in
theorem fc_2173 : (fS L xs w).1 2173 = .inr (0, 400, .inl (fun _ => 0)) := rfl
set_option maxRecDepth 100000 in
theorem fc_2174 : (fS L xs w).1 2174 = .inr (0, 460, .inl (fun _ => 0)) := rfl
set_option maxRecDepth 100000 in
theorem fc_2175 : (fS L xs w).1 2175 = .inr (0, 460, .inl (fun _ => 0)) := rfl
set_option maxRecDepth 100000 in
theorem fc_2176 : (fS L xs w).1 2176 = .inr (0, 460, .inl (fun _ => 0)) := rfl
set_option maxRecDepth 100000 in
theorem fc_2177 : (fS L xs w).1 2177 = .inr (0, 460, .inl (fun _ => 0)) := rfl
set_option maxRecDepth 100000 in
theorem fc_2178 : (fS L xs w).1 2178 = .inr (0, 460, .inl (fun _ => 0)) := rfl
set_option maxRecDepth 100000 in
theorem fc_2179 : (fS L xs w).1 2179 = .inr (2, 920, .inl (fun _ => 0)) := rfl
set_option maxRecDepth 100000 in
theorem fc_2180 : (fS L xs w).1 2180 = .inr (0, 460, .inl (fun _ => 0)) := rfl
set_option maxRecDepth 100000 in
theorem fc_2181 : (fS L xs w).1 2181 = .inr (0, 460, .inl (fun _ => 0)) := rfl
set_option maxRecDepth 100000 in
theorem fc_2182 : (fS L xs w).1 2182 = .inr (0, 1764, .inl (fun _ => 0)) := rfl
set_option maxRecDepth 100000 in
theorem fc_2183 : (fS L xs w).1 2183 = .inr (0, 401, .inl (fun _ => 0)) := rfl
set_option maxRecDepth 100000 in
theorem fc_2184 : (fS L xs w).1 2184 = .inl (15, (.ref 2185 :: .int 0 :: .int 0 :: .ref 2186 :: .ref 2187 :: .int 0 :: .ref 2188 :: .ref 2189 :: .ref 2190 :: .ref 2191 :: .int 0 :: .ref 2192 :: .ref 2193 :: .ref 2194 :: .ref 2195 :: .int 0 :: .ref 2196 :: .ref 2197 :: .int (-1 : Int32) :: .ref 2198 :: .ref 2199 :: .ref 2200 :: .ref 2201 :: .ref 2202 :: .ref 2203 :: .ref 2204 :: .int 0 :: .int 0 :: .int 0 :: .long 0 :: .int 0 :: .int 0 :: .int 0 :: .int 0 :: .int 0 :: .ref 2205 :: .int 0 :: .ref 2206 :: .ref 2207 :: .int 0 :: .int 0 :: .long 0 :: .long 0 :: .long 0 :: [])) := rfl
set_option maxRecDepth 100000 in
theorem fc_2185 : (fS L xs w).1 2185 = .inr (0, 800, .inl (fun _ => 0)) := rfl
set_option maxRecDepth 100000 in
theorem fc_2186 : (fS L xs w).1 2186 = .inr (1, 40, .inr (.inl (fun _ => 0))) := rfl
set_option maxRecDepth 100000 in
theorem fc_2187 : (fS L xs w).1 2187 = .inr (0, 40, .inl (fun _ => 0)) := rfl
set_option maxRecDepth 100000 in
theorem fc_2188 : (fS L xs w).1 2188 = .inr (1, 24, .inr (.inl (fun _ => 0))) := rfl
set_option maxRecDepth 100000 in
theorem fc_2189 : (fS L xs w).1 2189 = .inr (0, 24, .inl (fun _ => 0)) := rfl
set_option maxRecDepth 100000 in
theorem fc_2190 : (fS L xs w).1 2190 = .inr (0, 24, .inl (fun _ => 0)) := rfl
set_option maxRecDepth 100000 in
theorem fc_2191 : (fS L xs w).1 2191 = .inr (0, 24, .inl (fun _ => 0)) := rfl
set_option maxRecDepth 100000 in
theorem fc_2192 : (fS L xs w).1 2192 = .inr (0, 120, .inl (fun _ => 0)) := rfl
set_option maxRecDepth 100000 in
theorem fc_2193 : (fS L xs w).1 2193 = .inr (0, 120, .inl (fun _ => 0)) := rfl
set_option maxRecDepth 100000 in
theorem fc_2194 : (fS L xs w).1 2194 = .inr (0, 120, .inl (fun _ => 0)) := rfl
set_option maxRecDepth 100000 in
theorem fc_2195 : (fS L xs w).1 2195 = .inr (0, 120, .inl (fun _ => 0)) := rfl
set_option maxRecDepth 100000 in
theorem fc_2196 : (fS L xs w).1 2196 = .inr (0, 800, .inl (fun _ => 0)) := rfl
set_option maxRecDepth 100000 in
theorem fc_2197 : (fS L xs w).1 2197 = .inr (1, 800, .inr (.inl (fun _ => 0))) := rfl
set_option maxRecDepth 100000 in
theorem fc_2198 : (fS L xs w).1 2198 = .inr (0, 12, .inl (fun _ => 0)) := rfl
set_option maxRecDepth 100000 in
theorem fc_2199 : (fS L xs w).1 2199 = .inr (1, 12, .inr (.inl (fun _ => 0))) := rfl
set_option maxRecDepth 100000 in
theorem fc_2200 : (fS L xs w).1 2200 = .inr (1, 12, .inr (.inl (fun _ => 0))) := rfl
set_option maxRecDepth 100000 in
theorem fc_2201 : (fS L xs w).1 2201 = .inr (1, 12, .inr (.inl (fun _ => 0))) := rfl
set_option maxRecDepth 100000 in
theorem fc_2202 : (fS L xs w).1 2202 = .inr (1, 12, .inr (.inl (fun _ => 0))) := rfl
set_option maxRecDepth 100000 in
theorem fc_2203 : (fS L xs w).1 2203 = .inr (0, 12, .inl (fun _ => 0)) := rfl
set_option maxRecDepth 100000 in
theorem fc_2204 : (fS L xs w).1 2204 = .inr (1, 12, .inr (.inl (fun _ => 0))) := rfl
set_option maxRecDepth 100000 in
theorem fc_2205 : (fS L xs w).1 2205 = .inr (0, 200, .inl (fun _ => 0)) := rfl
set_option maxRecDepth 100000 in
theorem fc_2206 : (fS L xs w).1 2206 = .inr (1, 130, .inr (.inl (fun _ => 0))) := rfl
set_option maxRecDepth 100000 in
theorem fc_2207 : (fS L xs w).1 2207 = .inr (1, 130, .inr (.inl (fun _ => 0))) := rfl
set_option maxRecDepth 100000 in
theorem fc_2208 : (fS L xs w).1 2208 = .inl (14, (.int 0 :: .int 0 :: .ref 2209 :: .ref 2210 :: .ref 2211 :: .ref 2212 :: .int 0 :: .int 0 :: .ref 2213 :: .ref 2214 :: .int 0 :: .int 0 :: .ref 2215 :: .ref 2216 :: .ref 2217 :: .ref 2218 :: .ref 2219 :: .ref 2220 :: .ref 2221 :: .ref 2222 :: .ref 2223 :: .int 0 :: .int 0 :: .ref 2224 :: .ref 2225 :: .ref 2226 :: .ref 2227 :: .ref 2228 :: .ref 2229 :: .ref 2230 :: .int 0 :: .ref 2231 :: .ref 2232 :: .ref 2233 :: .ref 2234 :: .int 0 :: [])) := rfl
set_option maxRecDepth 100000 in
theorem fc_2209 : (fS L xs w).1 2209 = .inr (0, 50, .inl (fun _ => 0)) := rfl
set_option maxRecDepth 100000 in
theorem fc_2210 : (fS L xs w).1 2210 = .inr (2, 50, .inl (fun _ => 0)) := rfl
set_option maxRecDepth 100000 in
theorem fc_2211 : (fS L xs w).1 2211 = .inr (0, 50, .inl (fun _ => 0)) := rfl
set_option maxRecDepth 100000 in
theorem fc_2212 : (fS L xs w).1 2212 = .inr (0, 2000, .inl (fun _ => 0)) := rfl
set_option maxRecDepth 100000 in
theorem fc_2213 : (fS L xs w).1 2213 = .inr (0, 2000, .inl (fun _ => 0)) := rfl
set_option maxRecDepth 100000 in
theorem fc_2214 : (fS L xs w).1 2214 = .inr (0, 2000, .inl (fun _ => 0)) := rfl
set_option maxRecDepth 100000 in
theorem fc_2215 : (fS L xs w).1 2215 = .inr (2, 40, .inl (fun _ => 0)) := rfl
set_option maxRecDepth 100000 in
theorem fc_2216 : (fS L xs w).1 2216 = .inr (0, 40, .inl (fun _ => 0)) := rfl
set_option maxRecDepth 100000 in
theorem fc_2217 : (fS L xs w).1 2217 = .inr (0, 40, .inl (fun _ => 0)) := rfl
set_option maxRecDepth 100000 in
theorem fc_2218 : (fS L xs w).1 2218 = .inr (0, 480, .inl (fun _ => 0)) := rfl
set_option maxRecDepth 100000 in
theorem fc_2219 : (fS L xs w).1 2219 = .inr (2, 40, .inl (fun _ => 0)) := rfl
set_option maxRecDepth 100000 in
theorem fc_2220 : (fS L xs w).1 2220 = .inr (0, 40, .inl (fun _ => 0)) := rfl
set_option maxRecDepth 100000 in
theorem fc_2221 : (fS L xs w).1 2221 = .inr (0, 40, .inl (fun _ => 0)) := rfl
set_option maxRecDepth 100000 in
theorem fc_2222 : (fS L xs w).1 2222 = .inr (0, 40, .inl (fun _ => 0)) := rfl
set_option maxRecDepth 100000 in
theorem fc_2223 : (fS L xs w).1 2223 = .inr (2, 40, .inl (fun _ => 0)) := rfl
set_option maxRecDepth 100000 in
theorem fc_2224 : (fS L xs w).1 2224 = .inr (0, 100, .inl (fun _ => 0)) := rfl
set_option maxRecDepth 100000 in
theorem fc_2225 : (fS L xs w).1 2225 = .inr (0, 100, .inl (fun _ => 0)) := rfl
set_option maxRecDepth 100000 in
theorem fc_2226 : (fS L xs w).1 2226 = .inr (0, 100, .inl (fun _ => 0)) := rfl
set_option maxRecDepth 100000 in
theorem fc_2227 : (fS L xs w).1 2227 = .inr (0, 20, .inl (fun _ => 0)) := rfl
set_option maxRecDepth 100000 in
theorem fc_2228 : (fS L xs w).1 2228 = .inr (0, 20, .inl (fun _ => 0)) := rfl
set_option maxRecDepth 100000 in
theorem fc_2229 : (fS L xs w).1 2229 = .inr (2, 20, .inl (fun _ => 0)) := rfl
set_option maxRecDepth 100000 in
theorem fc_2230 : (fS L xs w).1 2230 = .inr (2, 20, .inl (fun _ => 0)) := rfl
set_option maxRecDepth 100000 in
theorem fc_2231 : (fS L xs w).1 2231 = .inr (0, 60, .inl (fun _ => 0)) := rfl
set_option maxRecDepth 100000 in
theorem fc_2232 : (fS L xs w).1 2232 = .inr (0, 60, .inl (fun _ => 0)) := rfl
set_option maxRecDepth 100000 in
theorem fc_2233 : (fS L xs w).1 2233 = .inr (0, 60, .inl (fun _ => 0)) := rfl
set_option maxRecDepth 100000 in
theorem fc_2234 : (fS L xs w).1 2234 = .inr (0, 200, .inl (fun _ => 0)) := rfl
set_option maxRecDepth 100000 in
theorem fc_2235 : (fS L xs w).1 2235 = .inl (17, (.int 0 :: .ref 2236 :: .ref 2237 :: .ref 2238 :: .ref 2239 :: .ref 2240 :: .ref 2241 :: .ref 2242 :: .ref 2243 :: .ref 2244 :: .ref 2245 :: .ref 2246 :: .ref 2247 :: .ref 2248 :: .int 0 :: .ref 2249 :: .ref 2250 :: .ref 2251 :: .int 0 :: [])) := rfl
set_option maxRecDepth 100000 in
theorem fc_2236 : (fS L xs w).1 2236 = .inr (0, 40, .inl (fun _ => 0)) := rfl
set_option maxRecDepth 100000 in
theorem fc_2237 : (fS L xs w).1 2237 = .inr (0, 40, .inl (fun _ => 0)) := rfl
set_option maxRecDepth 100000 in
theorem fc_2238 : (fS L xs w).1 2238 = .inr (0, 40, .inl (fun _ => 0)) := rfl
set_option maxRecDepth 100000 in
theorem fc_2239 : (fS L xs w).1 2239 = .inr (0, 40, .inl (fun _ => 0)) := rfl
set_option maxRecDepth 100000 in
theorem fc_2240 : (fS L xs w).1 2240 = .inr (0, 120, .inl (fun _ => 0)) := rfl
set_option maxRecDepth 100000 in
theorem fc_2241 : (fS L xs w).1 2241 = .inr (0, 320, .inl (fun _ => 0)) := rfl
set_option maxRecDepth 100000 in
theorem fc_2242 : (fS L xs w).1 2242 = .inr (0, 40, .inl (fun _ => 0)) := rfl
set_option maxRecDepth 100000 in
theorem fc_2243 : (fS L xs w).1 2243 = .inr (0, 40, .inl (fun _ => 0)) := rfl
set_option maxRecDepth 100000 in
theorem fc_2244 : (fS L xs w).1 2244 = .inr (0, 40, .inl (fun _ => 0)) := rfl
set_option maxRecDepth 100000 in
theorem fc_2245 : (fS L xs w).1 2245 = .inr (2, 40, .inl (fun _ => 0)) := rfl
set_option maxRecDepth 100000 in
theorem fc_2246 : (fS L xs w).1 2246 = .inr (0, 40, .inl (fun _ => 0)) := rfl
set_option maxRecDepth 100000 in
theorem fc_2247 : (fS L xs w).1 2247 = .inr (0, 10, .inl (fun _ => 0)) := rfl
set_option maxRecDepth 100000 in
theorem fc_2248 : (fS L xs w).1 2248 = .inr (0, 40, .inl (fun _ => 0)) := rfl
set_option maxRecDepth 100000 in
theorem fc_2249 : (fS L xs w).1 2249 = .inr (0, 40, .inl (fun _ => 0)) := rfl
set_option maxRecDepth 100000 in
theorem fc_2250 : (fS L xs w).1 2250 = .inr (2, 40, .inl (fun _ => 0)) := rfl
set_option maxRecDepth 100000 in
theorem fc_2251 : (fS L xs w).1 2251 = .inr (0, 4, .inl (fun _ => 0)) := rfl
set_option maxRecDepth 100000 in
theorem fc_2252 : (fS L xs w).1 2252 = .inl (12, (.int 0 :: .ref 2253 :: .ref 2254 :: .int 0 :: .ref 2255 :: .ref 2256 :: .ref 2257 :: .ref 2258 :: .ref 2259 :: .ref 2260 :: .ref 2261 :: .ref 2262 :: .ref 2263 :: .ref 2264 :: .ref 2265 :: .ref 2266 :: .int 0 :: .int 0 :: .ref 2267 :: .int 0 :: .int 0 :: .int 0 :: .ref 2268 :: .int 0 :: .int 0 :: .int 0 :: .int (-1 : Int32) :: .ref 2269 :: .int 0 :: [])) := rfl
set_option maxRecDepth 100000 in
theorem fc_2253 : (fS L xs w).1 2253 = .inr (2, 180001, .inl (fun _ => 0)) := rfl
set_option maxRecDepth 100000 in
theorem fc_2254 : (fS L xs w).1 2254 = .inr (2, 182001, .inl (fun _ => 0)) := rfl
set_option maxRecDepth 100000 in
theorem fc_2255 : (fS L xs w).1 2255 = .inr (0, 8, .inl (upd (upd (upd (upd (upd (upd (upd (upd (fun _ => 0) 0 (0 : Int32)) 1 ((0 : Int32) + (1 : Int32))) 2 (((0 : Int32) + (1 : Int32)) + (1 : Int32))) 3 ((((0 : Int32) + (1 : Int32)) + (1 : Int32)) + (1 : Int32))) 4 (((((0 : Int32) + (1 : Int32)) + (1 : Int32)) + (1 : Int32)) + (1 : Int32))) 5 ((((((0 : Int32) + (1 : Int32)) + (1 : Int32)) + (1 : Int32)) + (1 : Int32)) + (1 : Int32))) 6 (((((((0 : Int32) + (1 : Int32)) + (1 : Int32)) + (1 : Int32)) + (1 : Int32)) + (1 : Int32)) + (1 : Int32))) 7 ((((((((0 : Int32) + (1 : Int32)) + (1 : Int32)) + (1 : Int32)) + (1 : Int32)) + (1 : Int32)) + (1 : Int32)) + (1 : Int32)))) := rfl
set_option maxRecDepth 100000 in
theorem fc_2256 : (fS L xs w).1 2256 = .inr (2, 2048, .inl (fun _ => 0)) := rfl
set_option maxRecDepth 100000 in
theorem fc_2257 : (fS L xs w).1 2257 = .inr (2, 8, .inl (fun _ => 0)) := rfl
set_option maxRecDepth 100000 in
theorem fc_2258 : (fS L xs w).1 2258 = .inr (0, 8, .inl (fun _ => 0)) := rfl
set_option maxRecDepth 100000 in
theorem fc_2259 : (fS L xs w).1 2259 = .inr (0, 1152, .inl (fun _ => 0)) := rfl
set_option maxRecDepth 100000 in
theorem fc_2260 : (fS L xs w).1 2260 = .inr (0, 8, .inl (upd (upd (upd (upd (upd (upd (upd (upd (fun _ => 0) 0 (-1 : Int32)) 1 (-1 : Int32)) 2 (-1 : Int32)) 3 (-1 : Int32)) 4 (-1 : Int32)) 5 (-1 : Int32)) 6 (-1 : Int32)) 7 (-1 : Int32))) := rfl
set_option maxRecDepth 100000 in
theorem fc_2261 : (fS L xs w).1 2261 = .inr (0, 8, .inl (upd (upd (upd (upd (upd (upd (upd (upd (fun _ => 0) 0 (-1 : Int32)) 1 (-1 : Int32)) 2 (-1 : Int32)) 3 (-1 : Int32)) 4 (-1 : Int32)) 5 (-1 : Int32)) 6 (-1 : Int32)) 7 (-1 : Int32))) := rfl
set_option maxRecDepth 100000 in
theorem fc_2262 : (fS L xs w).1 2262 = .inr (0, 8, .inl (upd (upd (upd (upd (upd (upd (upd (upd (fun _ => 0) 0 (-1 : Int32)) 1 (-1 : Int32)) 2 (-1 : Int32)) 3 (-1 : Int32)) 4 (-1 : Int32)) 5 (-1 : Int32)) 6 (-1 : Int32)) 7 (-1 : Int32))) := rfl
set_option maxRecDepth 100000 in
theorem fc_2263 : (fS L xs w).1 2263 = .inr (0, 8, .inl (fun _ => 0)) := rfl
set_option maxRecDepth 100000 in
theorem fc_2264 : (fS L xs w).1 2264 = .inr (0, 8, .inl (fun _ => 0)) := rfl
set_option maxRecDepth 100000 in
theorem fc_2265 : (fS L xs w).1 2265 = .inr (0, 8, .inl (fun _ => 0)) := rfl
set_option maxRecDepth 100000 in
theorem fc_2266 : (fS L xs w).1 2266 = .inr (0, 8, .inl (fun _ => 0)) := rfl
set_option maxRecDepth 100000 in
theorem fc_2267 : (fS L xs w).1 2267 = .inr (0, 14000, .inl (fun _ => 0)) := rfl
set_option maxRecDepth 100000 in
theorem fc_2268 : (fS L xs w).1 2268 = .inr (0, 14000, .inl (fun _ => 0)) := rfl
set_option maxRecDepth 100000 in
theorem fc_2269 : (fS L xs w).1 2269 = .inr (0, 5, .inl (fun _ => 0)) := rfl
set_option maxRecDepth 100000 in
theorem fc_2270 : (fS L xs w).1 2270 = .inl (13, (.int 0 :: .ref 2271 :: .ref 2272 :: .ref 2273 :: .ref 2274 :: .ref 2275 :: .int 0 :: .ref 2276 :: .ref 2277 :: .ref 2278 :: .ref 2279 :: .ref 2280 :: .int 0 :: .int 0 :: .int 0 :: .ref 2281 :: .int 0 :: .ref 2282 :: .ref 2283 :: .ref 2284 :: .ref 2285 :: .ref 2286 :: .ref 2287 :: .ref 2288 :: [])) := rfl
set_option maxRecDepth 100000 in
theorem fc_2271 : (fS L xs w).1 2271 = .inr (0, 4, .inl (fun _ => 0)) := rfl
set_option maxRecDepth 100000 in
theorem fc_2272 : (fS L xs w).1 2272 = .inr (0, 4, .inl (fun _ => 0)) := rfl
set_option maxRecDepth 100000 in
theorem fc_2273 : (fS L xs w).1 2273 = .inr (0, 4, .inl (fun _ => 0)) := rfl
set_option maxRecDepth 100000 in
theorem fc_2274 : (fS L xs w).1 2274 = .inr (0, 4, .inl (fun _ => 0)) := rfl
set_option maxRecDepth 100000 in
theorem fc_2275 : (fS L xs w).1 2275 = .inr (0, 4, .inl (fun _ => 0)) := rfl
set_option maxRecDepth 100000 in
theorem fc_2276 : (fS L xs w).1 2276 = .inr (0, 400, .inl (fun _ => 0)) := rfl
set_option maxRecDepth 100000 in
theorem fc_2277 : (fS L xs w).1 2277 = .inr (0, 400, .inl (fun _ => 0)) := rfl
set_option maxRecDepth 100000 in
theorem fc_2278 : (fS L xs w).1 2278 = .inr (0, 400, .inl (fun _ => 0)) := rfl
set_option maxRecDepth 100000 in
theorem fc_2279 : (fS L xs w).1 2279 = .inr (2, 400, .inl (fun _ => 0)) := rfl
set_option maxRecDepth 100000 in
theorem fc_2280 : (fS L xs w).1 2280 = .inr (0, 400, .inl (fun _ => 0)) := rfl
set_option maxRecDepth 100000 in
theorem fc_2281 : (fS L xs w).1 2281 = .inr (0, 6, .inl (fun _ => 0)) := rfl
set_option maxRecDepth 100000 in
theorem fc_2282 : (fS L xs w).1 2282 = .inr (0, 6, .inl (fun _ => 0)) := rfl
set_option maxRecDepth 100000 in
theorem fc_2283 : (fS L xs w).1 2283 = .inr (1, 256, .inr (.inl (fun _ => 0))) := rfl
set_option maxRecDepth 100000 in
theorem fc_2284 : (fS L xs w).1 2284 = .inr (0, 1536, .inl (fun _ => 0)) := rfl
set_option maxRecDepth 100000 in
theorem fc_2285 : (fS L xs w).1 2285 = .inr (0, 400, .inl w) := rfl
set_option maxRecDepth 100000 in
theorem fc_2286 : (fS L xs w).1 2286 = .inr (0, 400, .inl (fun _ => 0)) := rfl
set_option maxRecDepth 100000 in
theorem fc_2287 : (fS L xs w).1 2287 = .inr (0, 400, .inl (fun _ => 0)) := rfl
set_option maxRecDepth 100000 in
theorem fc_2288 : (fS L xs w).1 2288 = .inr (0, 400, .inl (fun _ => 0)) := rfl
set_option maxRecDepth 100000 in
theorem fc_2289 : (fS L xs w).1 2289 = .inr (0, 1400, .inl (fun _ => 0)) := rfl
set_option maxRecDepth 100000 in
theorem fc_2290 : (fS L xs w).1 2290 = .inr (0, 1400, .inl (fun _ => 0)) := rfl
set_option maxRecDepth 100000 in
theorem fc_2291 : (fS L xs w).1 2291 = .inr (0, 1400, .inl (fun _ => 0)) := rfl
set_option maxRecDepth 100000 in
theorem fc_2292 : (fS L xs w).1 2292 = .inr (0, 1400, .inl (fun _ => 0)) := rfl
set_option maxRecDepth 100000 in
theorem fc_2293 : (fS L xs w).1 2293 = .inr (0, 1400, .inl (fun _ => 0)) := rfl
set_option maxRecDepth 100000 in
theorem fc_2294 : (fS L xs w).1 2294 = .inr (2, 1400, .inl (fun _ => 0)) := rfl
set_option maxRecDepth 100000 in
theorem fc_2295 : (fS L xs w).1 2295 = .inr (2, 1400, .inl (fun _ => 0)) := rfl
set_option maxRecDepth 100000 in
theorem fc_2296 : (fS L xs w).1 2296 = .inr (0, 1400, .inl (fun _ => 0)) := rfl
set_option maxRecDepth 100000 in
theorem fc_2297 : (fS L xs w).1 2297 = .inr (0, 1400, .inl (fun _ => 0)) := rfl
set_option maxRecDepth 100000 in
theorem fc_2298 : (fS L xs w).1 2298 = .inr (0, 1400, .inl (fun _ => 0)) := rfl
set_option maxRecDepth 100000 in
theorem fc_2299 : (fS L xs w).1 2299 = .inr (0, 28000, .inl (fun _ => 0)) := rfl
set_option maxRecDepth 100000 in
theorem fc_2300 : (fS L xs w).1 2300 = .inr (0, 28000, .inl (fun _ => 0)) := rfl
set_option maxRecDepth 100000 in
theorem fc_2301 : (fS L xs w).1 2301 = .inr (0, 28000, .inl (fun _ => 0)) := rfl
set_option maxRecDepth 100000 in
theorem fc_2302 : (fS L xs w).1 2302 = .inr (0, 4100, .inl (fun _ => 0)) := rfl
set_option maxRecDepth 100000 in
theorem fc_2303 : (fS L xs w).1 2303 = .inr (0, 4100, .inl (fun _ => 0)) := rfl
set_option maxRecDepth 100000 in
theorem fc_2304 : (fS L xs w).1 2304 = .inr (0, 40, .inl (fun _ => 0)) := rfl
set_option maxRecDepth 100000 in
theorem fc_2305 : (fS L xs w).1 2305 = .inr (0, 40, .inl (fun _ => 0)) := rfl
set_option maxRecDepth 100000 in
theorem fc_2306 : (fS L xs w).1 2306 = .inr (0, 40, .inl (fun _ => 0)) := rfl
set_option maxRecDepth 100000 in
theorem fc_2307 : (fS L xs w).1 2307 = .inr (0, 40, .inl (fun _ => 0)) := rfl
set_option maxRecDepth 100000 in
theorem fc_2308 : (fS L xs w).1 2308 = .inr (0, 40, .inl (fun _ => 0)) := rfl
set_option maxRecDepth 100000 in
theorem fc_2309 : (fS L xs w).1 2309 = .inr (0, 40, .inl (fun _ => 0)) := rfl
set_option maxRecDepth 100000 in
theorem fc_2310 : (fS L xs w).1 2310 = .inr (0, 40, .inl (fun _ => 0)) := rfl
set_option maxRecDepth 100000 in
theorem fc_2311 : (fS L xs w).1 2311 = .inr (0, 40, .inl (fun _ => 0)) := rfl
set_option maxRecDepth 100000 in
theorem fc_2312 : (fS L xs w).1 2312 = .inr (0, 60, .inl (fun _ => 0)) := rfl
set_option maxRecDepth 100000 in
theorem fc_2313 : (fS L xs w).1 2313 = .inr (0, 60, .inl (fun _ => 0)) := rfl
set_option maxRecDepth 100000 in
theorem fc_2314 : (fS L xs w).1 2314 = .inr (0, 16, .inl (fun _ => 0)) := rfl
set_option maxRecDepth 100000 in
theorem fc_2315 : (fS L xs w).1 2315 = .inr (0, 16, .inl (fun _ => 0)) := rfl
set_option maxRecDepth 100000 in
theorem fc_2316 : (fS L xs w).1 2316 = .inr (0, 16, .inl (fun _ => 0)) := rfl
set_option maxRecDepth 100000 in
theorem fc_2317 : (fS L xs w).1 2317 = .inr (0, 16, .inl (fun _ => 0)) := rfl
set_option maxRecDepth 100000 in
theorem fc_2318 : (fS L xs w).1 2318 = .inr (0, 16, .inl (fun _ => 0)) := rfl
set_option maxRecDepth 100000 in
theorem fc_2319 : (fS L xs w).1 2319 = .inr (0, 4100, .inl (fun _ => 0)) := rfl
set_option maxRecDepth 100000 in
theorem fc_2320 : (fS L xs w).1 2320 = .inr (0, 4100, .inl (fun _ => 0)) := rfl
set_option maxRecDepth 100000 in
theorem fc_2321 : (fS L xs w).1 2321 = .inr (0, 4100, .inl (fun _ => 0)) := rfl
set_option maxRecDepth 100000 in
theorem fc_2322 : (fS L xs w).1 2322 = .inr (0, 100, .inl (fun _ => 0)) := rfl
set_option maxRecDepth 100000 in
theorem fc_2323 : (fS L xs w).1 2323 = .inr (0, 100, .inl (fun _ => 0)) := rfl
set_option maxRecDepth 100000 in
theorem fc_2324 : (fS L xs w).1 2324 = .inr (0, 100, .inl (fun _ => 0)) := rfl
set_option maxRecDepth 100000 in
theorem fc_2325 : (fS L xs w).1 2325 = .inr (0, 100, .inl (fun _ => 0)) := rfl
set_option maxRecDepth 100000 in
theorem fc_2326 : (fS L xs w).1 2326 = .inr (2, 576, .inl (fun _ => 0)) := rfl
set_option maxRecDepth 100000 in
theorem fc_2327 : (fS L xs w).1 2327 = .inr (2, 576, .inl (fun _ => 0)) := rfl
set_option maxRecDepth 100000 in
theorem fc_2328 : (fS L xs w).1 2328 = .inr (0, 576, .inl (fun _ => 0)) := rfl
set_option maxRecDepth 100000 in
theorem fc_2329 : (fS L xs w).1 2329 = .inr (0, 576, .inl (fun _ => 0)) := rfl
set_option maxRecDepth 100000 in
theorem fc_2330 : (fS L xs w).1 2330 = .inr (0, 120, .inl (fun _ => 0)) := rfl
set_option maxRecDepth 100000 in
theorem fc_2331 : (fS L xs w).1 2331 = .inr (2, 40, .inl (fun _ => 0)) := rfl
set_option maxRecDepth 100000 in
theorem fc_2332 : (fS L xs w).1 2332 = .inr (1, 1, .inr (.inl (fun _ => 0))) := rfl
end FC
