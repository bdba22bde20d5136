/-! EVERY METHOD IS AS THE TABLES SAY; CHECKS OF CALLS AND ANSWERS -/
theorem mt_0 : (List.range 40).all (fun i => mtOk (0 + i)) = true := by decide +kernel
theorem mt_1 : (List.range 40).all (fun i => mtOk (40 + i)) = true := by decide +kernel
theorem mt_2 : (List.range 40).all (fun i => mtOk (80 + i)) = true := by decide +kernel
theorem mt_3 : (List.range 40).all (fun i => mtOk (120 + i)) = true := by decide +kernel
theorem mt_4 : (List.range 40).all (fun i => mtOk (160 + i)) = true := by decide +kernel
theorem mt_5 : (List.range 40).all (fun i => mtOk (200 + i)) = true := by decide +kernel
theorem mt_6 : (List.range 40).all (fun i => mtOk (240 + i)) = true := by decide +kernel
theorem mt_7 : (List.range 40).all (fun i => mtOk (280 + i)) = true := by decide +kernel
theorem mt_8 : (List.range 7).all (fun i => mtOk (320 + i)) = true := by decide +kernel
theorem mt_ok {k : Nat} (h : k < 327) : mtOk k = true := by
  by_cases h0 : k < 40
  · have := List.all_eq_true.mp mt_0 (k - 0) (List.mem_range.mpr (by omega))
    rwa [show 0 + (k - 0) = k by omega] at this
  by_cases h1 : k < 80
  · have := List.all_eq_true.mp mt_1 (k - 40) (List.mem_range.mpr (by omega))
    rwa [show 40 + (k - 40) = k by omega] at this
  by_cases h2 : k < 120
  · have := List.all_eq_true.mp mt_2 (k - 80) (List.mem_range.mpr (by omega))
    rwa [show 80 + (k - 80) = k by omega] at this
  by_cases h3 : k < 160
  · have := List.all_eq_true.mp mt_3 (k - 120) (List.mem_range.mpr (by omega))
    rwa [show 120 + (k - 120) = k by omega] at this
  by_cases h4 : k < 200
  · have := List.all_eq_true.mp mt_4 (k - 160) (List.mem_range.mpr (by omega))
    rwa [show 160 + (k - 160) = k by omega] at this
  by_cases h5 : k < 240
  · have := List.all_eq_true.mp mt_5 (k - 200) (List.mem_range.mpr (by omega))
    rwa [show 200 + (k - 200) = k by omega] at this
  by_cases h6 : k < 280
  · have := List.all_eq_true.mp mt_6 (k - 240) (List.mem_range.mpr (by omega))
    rwa [show 240 + (k - 240) = k by omega] at this
  by_cases h7 : k < 320
  · have := List.all_eq_true.mp mt_7 (k - 280) (List.mem_range.mpr (by omega))
    rwa [show 280 + (k - 280) = k by omega] at this
  by_cases h8 : k < 327
  · have := List.all_eq_true.mp mt_8 (k - 320) (List.mem_range.mpr (by omega))
    rwa [show 320 + (k - 320) = k by omega] at this
  exact absurd h h8
set_option maxRecDepth 100000 in
theorem mc_0 : (List.range 20).flatMap (fun i => wsM (MT (0 + i))) = [131, 798, 1212, 1233, 1208, 397, 1148, 1295, 1299, 254, 967, 1190, 1216, 1229, 1256, 1283, 1269, 1252, 1333, 1337].filterMap (fun i => lw_tbl[i]?) := by rfl
theorem ms_0 : ((List.range 20).flatMap (fun i => wsM (MT (0 + i)))).all stw = true := by decide +kernel
set_option maxRecDepth 100000 in
theorem mc_1 : (List.range 20).flatMap (fun i => wsM (MT (20 + i))) = [1365, 1369, 1384, 1395, 1346, 1413, 1417, 1510, 1522, 404, 606, 610, 1013, 1029, 1025, 1162, 1153, 541, 1115, 1119].filterMap (fun i => lw_tbl[i]?) := by rfl
theorem ms_1 : ((List.range 20).flatMap (fun i => wsM (MT (20 + i)))).all stw = true := by decide +kernel
set_option maxRecDepth 100000 in
theorem mc_2 : (List.range 20).flatMap (fun i => wsM (MT (40 + i))) = [1133, 1158, 1122, 1128, 1172, 1176, 1186, 1238, 1273, 1287, 454, 1168, 1304, 1430, 1308, 1312, 1450, 483, 862, 620].filterMap (fun i => lw_tbl[i]?) := by rfl
theorem ms_2 : ((List.range 20).flatMap (fun i => wsM (MT (40 + i)))).all stw = true := by decide +kernel
set_option maxRecDepth 100000 in
theorem mc_3 : (List.range 20).flatMap (fun i => wsM (MT (60 + i))) = [943, 889, 883, 917, 930, 893, 904, 975, 1225, 1198, 1139, 1143, 1277, 602, 614, 623, 629, 635, 294, 1220].filterMap (fun i => lw_tbl[i]?) := by rfl
theorem ms_3 : ((List.range 20).flatMap (fun i => wsM (MT (60 + i)))).all stw = true := by decide +kernel
set_option maxRecDepth 100000 in
theorem mc_4 : (List.range 20).flatMap (fun i => wsM (MT (80 + i))) = [1194, 1242, 1246, 1342, 1479, 1484, 260, 1260, 1373, 1265, 1291, 1406, 1409, 1514, 1517, 517, 1040, 1059, 1055, 1048].filterMap (fun i => lw_tbl[i]?) := by rfl
theorem ms_4 : ((List.range 20).flatMap (fun i => wsM (MT (80 + i)))).all stw = true := by decide +kernel
set_option maxRecDepth 100000 in
theorem mc_5 : (List.range 20).flatMap (fun i => wsM (MT (100 + i))) = [1068, 1064, 1044, 1075, 1078, 1085, 1090, 1103, 1096, 1099, 124, 749, 760, 776, 780, 794, 831, 843, 827, 814].filterMap (fun i => lw_tbl[i]?) := by rfl
theorem ms_5 : ((List.range 20).flatMap (fun i => wsM (MT (100 + i)))).all stw = true := by decide +kernel
set_option maxRecDepth 100000 in
theorem mc_6 : (List.range 20).flatMap (fun i => wsM (MT (120 + i))) = [1203, 823, 1180, 116, 658, 756, 767, 788, 805, 838, 850, 857, 869, 900, 912, 924, 938, 598, 950, 959].filterMap (fun i => lw_tbl[i]?) := by rfl
theorem ms_6 : ((List.range 20).flatMap (fun i => wsM (MT (120 + i)))).all stw = true := by decide +kernel
set_option maxRecDepth 100000 in
theorem mc_7 : (List.range 20).flatMap (fun i => wsM (MT (140 + i))) = [982, 989, 1000, 1009, 1021, 1036, 1110, 642, 1320, 1327, 1354, 1361, 1380, 1391, 1402, 1425, 1437, 1446, 646, 1457].filterMap (fun i => lw_tbl[i]?) := by rfl
theorem ms_7 : ((List.range 20).flatMap (fun i => wsM (MT (140 + i)))).all stw = true := by decide +kernel
set_option maxRecDepth 100000 in
theorem mc_8 : (List.range 20).flatMap (fun i => wsM (MT (160 + i))) = [1465, 1475, 1491, 1499, 1506, 665, 730, 993, 963, 971, 662, 872, 638, 877, 771, 819, 810, 1051, 1527, 1794].filterMap (fun i => lw_tbl[i]?) := by rfl
theorem ms_8 : ((List.range 20).flatMap (fun i => wsM (MT (160 + i)))).all stw = true := by decide +kernel
set_option maxRecDepth 100000 in
theorem mc_9 : (List.range 20).flatMap (fun i => wsM (MT (180 + i))) = [1531, 1802, 1943, 1813, 1925, 1830, 1798, 1806, 1810, 1821, 1818, 1837, 1833, 1844, 1841, 1827, 1851, 1848, 1855, 1871].filterMap (fun i => lw_tbl[i]?) := by rfl
theorem ms_9 : ((List.range 20).flatMap (fun i => wsM (MT (180 + i)))).all stw = true := by decide +kernel
set_option maxRecDepth 100000 in
theorem mc_10 : (List.range 20).flatMap (fun i => wsM (MT (200 + i))) = [1863, 1859, 1875, 1867, 1879, 1888, 1884, 1898, 1892, 1902, 1914, 1910, 1918, 1906, 1983, 1979, 1998, 1986, 1990, 1994].filterMap (fun i => lw_tbl[i]?) := by rfl
theorem ms_10 : ((List.range 20).flatMap (fun i => wsM (MT (200 + i)))).all stw = true := by decide +kernel
set_option maxRecDepth 100000 in
theorem mc_11 : (List.range 20).flatMap (fun i => wsM (MT (220 + i))) = [1975, 2041, 1939, 1929, 1922, 1947, 1935, 1951, 1955, 1959, 1963, 1967, 1971, 2009, 2013, 2006, 2025, 2021, 2033, 2029].filterMap (fun i => lw_tbl[i]?) := by rfl
theorem ms_11 : ((List.range 20).flatMap (fun i => wsM (MT (220 + i)))).all stw = true := by decide +kernel
set_option maxRecDepth 100000 in
theorem mc_12 : (List.range 20).flatMap (fun i => wsM (MT (240 + i))) = [2037, 2017, 2045, 2049, 2122, 2126, 2057, 2002, 2053, 2061, 2081, 2085, 2077, 2073, 2069, 2101, 2089, 2065, 2093, 2110].filterMap (fun i => lw_tbl[i]?) := by rfl
theorem ms_12 : ((List.range 20).flatMap (fun i => wsM (MT (240 + i)))).all stw = true := by decide +kernel
set_option maxRecDepth 100000 in
theorem mc_13 : (List.range 20).flatMap (fun i => wsM (MT (260 + i))) = [2105, 2097, 2114, 2118, 2130, 2134, 2143, 2147, 2138, 2155, 2163, 2151, 2159, 2167, 2171, 2179, 2183, 2175, 2187, 2191].filterMap (fun i => lw_tbl[i]?) := by rfl
theorem ms_13 : ((List.range 20).flatMap (fun i => wsM (MT (260 + i)))).all stw = true := by decide +kernel
set_option maxRecDepth 100000 in
theorem mc_14 : (List.range 20).flatMap (fun i => wsM (MT (280 + i))) = [2195, 2199, 2203, 2207, 2211, 2215, 2219, 2223, 649, 652, 752, 763, 784, 801, 834, 846, 853, 865, 896, 908].filterMap (fun i => lw_tbl[i]?) := by rfl
theorem ms_14 : ((List.range 20).flatMap (fun i => wsM (MT (280 + i)))).all stw = true := by decide +kernel
set_option maxRecDepth 100000 in
theorem mc_15 : (List.range 20).flatMap (fun i => wsM (MT (300 + i))) = [920, 934, 946, 955, 978, 985, 996, 1005, 1017, 1032, 1106, 1316, 1323, 1350, 1357, 1376, 1387, 1398, 1421, 1433].filterMap (fun i => lw_tbl[i]?) := by rfl
theorem ms_15 : ((List.range 20).flatMap (fun i => wsM (MT (300 + i)))).all stw = true := by decide +kernel
set_option maxRecDepth 100000 in
theorem mc_16 : (List.range 7).flatMap (fun i => wsM (MT (320 + i))) = [1442, 1453, 1461, 1471, 1487, 1495, 1502].filterMap (fun i => lw_tbl[i]?) := by rfl
theorem ms_16 : ((List.range 7).flatMap (fun i => wsM (MT (320 + i)))).all stw = true := by decide +kernel
theorem mc_ok {k : Nat} (h : k < 327) : ∀ w ∈ wsM (MT k), w ∈ lw_tbl ∧ stw w = true := by
  intro w hw
  by_cases h0 : k < 20
  · exact ws_in _ mc_0 ms_0 w (List.mem_flatMap.mpr ⟨k - 0, List.mem_range.mpr (by omega), by rw [show 0 + (k - 0) = k by omega]; exact hw⟩)
  by_cases h1 : k < 40
  · exact ws_in _ mc_1 ms_1 w (List.mem_flatMap.mpr ⟨k - 20, List.mem_range.mpr (by omega), by rw [show 20 + (k - 20) = k by omega]; exact hw⟩)
  by_cases h2 : k < 60
  · exact ws_in _ mc_2 ms_2 w (List.mem_flatMap.mpr ⟨k - 40, List.mem_range.mpr (by omega), by rw [show 40 + (k - 40) = k by omega]; exact hw⟩)
  by_cases h3 : k < 80
  · exact ws_in _ mc_3 ms_3 w (List.mem_flatMap.mpr ⟨k - 60, List.mem_range.mpr (by omega), by rw [show 60 + (k - 60) = k by omega]; exact hw⟩)
  by_cases h4 : k < 100
  · exact ws_in _ mc_4 ms_4 w (List.mem_flatMap.mpr ⟨k - 80, List.mem_range.mpr (by omega), by rw [show 80 + (k - 80) = k by omega]; exact hw⟩)
  by_cases h5 : k < 120
  · exact ws_in _ mc_5 ms_5 w (List.mem_flatMap.mpr ⟨k - 100, List.mem_range.mpr (by omega), by rw [show 100 + (k - 100) = k by omega]; exact hw⟩)
  by_cases h6 : k < 140
  · exact ws_in _ mc_6 ms_6 w (List.mem_flatMap.mpr ⟨k - 120, List.mem_range.mpr (by omega), by rw [show 120 + (k - 120) = k by omega]; exact hw⟩)
  by_cases h7 : k < 160
  · exact ws_in _ mc_7 ms_7 w (List.mem_flatMap.mpr ⟨k - 140, List.mem_range.mpr (by omega), by rw [show 140 + (k - 140) = k by omega]; exact hw⟩)
  by_cases h8 : k < 180
  · exact ws_in _ mc_8 ms_8 w (List.mem_flatMap.mpr ⟨k - 160, List.mem_range.mpr (by omega), by rw [show 160 + (k - 160) = k by omega]; exact hw⟩)
  by_cases h9 : k < 200
  · exact ws_in _ mc_9 ms_9 w (List.mem_flatMap.mpr ⟨k - 180, List.mem_range.mpr (by omega), by rw [show 180 + (k - 180) = k by omega]; exact hw⟩)
  by_cases h10 : k < 220
  · exact ws_in _ mc_10 ms_10 w (List.mem_flatMap.mpr ⟨k - 200, List.mem_range.mpr (by omega), by rw [show 200 + (k - 200) = k by omega]; exact hw⟩)
  by_cases h11 : k < 240
  · exact ws_in _ mc_11 ms_11 w (List.mem_flatMap.mpr ⟨k - 220, List.mem_range.mpr (by omega), by rw [show 220 + (k - 220) = k by omega]; exact hw⟩)
  by_cases h12 : k < 260
  · exact ws_in _ mc_12 ms_12 w (List.mem_flatMap.mpr ⟨k - 240, List.mem_range.mpr (by omega), by rw [show 240 + (k - 240) = k by omega]; exact hw⟩)
  by_cases h13 : k < 280
  · exact ws_in _ mc_13 ms_13 w (List.mem_flatMap.mpr ⟨k - 260, List.mem_range.mpr (by omega), by rw [show 260 + (k - 260) = k by omega]; exact hw⟩)
  by_cases h14 : k < 300
  · exact ws_in _ mc_14 ms_14 w (List.mem_flatMap.mpr ⟨k - 280, List.mem_range.mpr (by omega), by rw [show 280 + (k - 280) = k by omega]; exact hw⟩)
  by_cases h15 : k < 320
  · exact ws_in _ mc_15 ms_15 w (List.mem_flatMap.mpr ⟨k - 300, List.mem_range.mpr (by omega), by rw [show 300 + (k - 300) = k by omega]; exact hw⟩)
  by_cases h16 : k < 327
  · exact ws_in _ mc_16 ms_16 w (List.mem_flatMap.mpr ⟨k - 320, List.mem_range.mpr (by omega), by rw [show 320 + (k - 320) = k by omega]; exact hw⟩)
  exact absurd h h16
theorem clk_at {mi : Mi} {k n mc ms : Nat} (h : clk mi k n mc ms = true) : callOk mi (MT k) n ∧ (mc = (iR (MT k)).cells ∧ ms = (iR (MT k)).slots) ∧ mtOk k = true := by
  unfold clk at h
  have hm := mt_ok (of_decide_eq_true (and_l h))
  have hm' := hm
  unfold mtOk at hm
  have h1 := of_decide_eq_true (and_l (and_r h))
  refine ⟨⟨h1.1, h1.2, mc_ok (of_decide_eq_true (and_l h)), inT_at (and_l hm), of_decide_eq_true (and_l (and_r (and_r hm))), of_decide_eq_true (and_l (and_r (and_r h)))⟩, of_decide_eq_true (and_r (and_r (and_r h))), hm'⟩
def cvOk (mi : Mi) (n k a c9 mc ms w : Nat) : Bool := clk mi k a mc ms && (inT w (.methodLink (iY mi).cls n (iY (MT k))) && (decide ((MW k).getD 2 0 = 0) && (decide ((iY (MT k)).name ≠ "<init>") && (decide ((vwCl[c9]?).map (fun q => q.1) = some (iY (MT k)).cls) && (decide (iH (MT k) = []) && decide (iH mi = []))))))
theorem cvOk_at {mi : Mi} {n k a c9 mc ms w : Nat} (h : cvOk mi n k a c9 mc ms w = true) : ∃ q : vw_C, callOk mi (MT k) a ∧ (Cond.methodLink (iY mi).cls n (iY (MT k)) ∈ lw_tbl ∧ stw (Cond.methodLink (iY mi).cls n (iY (MT k))) = true) ∧ (Cond.instanceMethod (iY (MT k)) ∈ lw_tbl ∧ stw (Cond.instanceMethod (iY (MT k))) = true) ∧ (Cond.selects q.1 (iY (MT k)) (iY (MT k)) ∈ lw_tbl ∧ stw (Cond.selects q.1 (iY (MT k)) (iY (MT k))) = true) ∧ vwCl[c9]? = some q ∧ (iH (MT k) = [] ∧ iH mi = []) ∧ (mc = (iR (MT k)).cells ∧ ms = (iR (MT k)).slots) := by
  unfold cvOk at h
  obtain ⟨g1, g2, g3⟩ := clk_at (and_l h)
  unfold mtOk at g3
  have h2 := and_r h
  have h3 := and_r h2
  have h4 := and_r h3
  have h5 := and_r h4
  have h6 := and_r h5
  have g4 := and_r (and_r (and_r (and_r g3)))
  have e0 : (MW k).getD 2 0 = 0 := of_decide_eq_true (and_l h3)
  rw [e0] at g4
  have g4 : (inT ((MW k).getD 3 0) (.instanceMethod (iY (MT k))) && ((iY (MT k)).name == "<init>" || inT ((MW k).getD 4 0) (.selects (iY (MT k)).cls (iY (MT k)) (iY (MT k))))) = true := g4
  have e1 : (vwCl[c9]?).map (fun q => q.1) = some (iY (MT k)).cls := of_decide_eq_true (and_l h5)
  obtain ⟨q, hq, e2⟩ := Option.map_eq_some_iff.mp e1
  refine ⟨q, g1, inT_at (and_l h2), inT_at (and_l g4), ?_, hq, ⟨of_decide_eq_true (and_l h6), of_decide_eq_true (and_r h6)⟩, g2⟩
  rw [e2]
  rcases (Bool.or_eq_true _ _).mp (and_r g4) with q1 | q1
  · exact absurd (eq_of_beq q1) (of_decide_eq_true (and_l h4))
  · exact inT_at q1
def csOk (mi : Mi) (n k a mc ms f w : Nat) : Bool := clk mi k a mc ms && (decide ((MW k).getD 2 0 ≠ 0) && (decide (iH (MT k) = []) && (bif f == 0 then (inT w (.methodLink (iY mi).cls n (iY (MT k))) && decide (iH mi = [])) else inT w (.methodLinkNest (iY mi).cls n (iY (MT k)) "PaymentSwitch"))))
theorem csOk_at {mi : Mi} {n k a mc ms f w : Nat} (h : csOk mi n k a mc ms f w = true) : callOk mi (MT k) a ∧ ((f == 0) = true → (Cond.methodLink (iY mi).cls n (iY (MT k)) ∈ lw_tbl ∧ stw (Cond.methodLink (iY mi).cls n (iY (MT k))) = true) ∧ iH mi = []) ∧ ((f == 0) = false → Cond.methodLinkNest (iY mi).cls n (iY (MT k)) "PaymentSwitch" ∈ lw_tbl) ∧ (Cond.static (iY (MT k)) ∈ lw_tbl ∧ stw (Cond.static (iY (MT k))) = true) ∧ iH (MT k) = [] ∧ (mc = (iR (MT k)).cells ∧ ms = (iR (MT k)).slots) := by
  unfold csOk at h
  obtain ⟨g1, g2, g3⟩ := clk_at (and_l h)
  unfold mtOk at g3
  have h2 := and_r h
  have h3 := and_r h2
  have h4 := and_r h3
  have g4 := and_r (and_r (and_r (and_r g3)))
  have e0 : ((MW k).getD 2 0 == 0) = false := by
    have := of_decide_eq_true (and_l h2)
    simpa using this
  rw [e0] at g4
  refine ⟨g1, fun hz => ?_, fun hz => ?_, inT_at g4, of_decide_eq_true (and_l h3), g2⟩
  · rw [hz] at h4
    exact ⟨inT_at (and_l h4), of_decide_eq_true (and_r h4)⟩
  · rw [hz] at h4
    exact (inT_at h4).1
def ciOk (mi : Mi) (n k a mc ms f w : Nat) : Bool := clk mi k a mc ms && ((bif f == 0 then inT w (.methodLink (iY mi).cls n (iY (MT k))) else inT w (.methodLinkNest (iY mi).cls n (iY (MT k)) "PaymentSwitch")) && (decide ((MW k).getD 2 0 = 0) && (decide ((iY (MT k)).name = "<init>" ∧ iT (MT k) = none) && decide (iH (MT k) = []))))
theorem ciOk_at {mi : Mi} {n k a mc ms f w : Nat} (h : ciOk mi n k a mc ms f w = true) : callOk mi (MT k) a ∧ ((f == 0) = true → (Cond.methodLink (iY mi).cls n (iY (MT k)) ∈ lw_tbl ∧ stw (Cond.methodLink (iY mi).cls n (iY (MT k))) = true)) ∧ ((f == 0) = false → Cond.methodLinkNest (iY mi).cls n (iY (MT k)) "PaymentSwitch" ∈ lw_tbl) ∧ (Cond.instanceMethod (iY (MT k)) ∈ lw_tbl ∧ stw (Cond.instanceMethod (iY (MT k))) = true) ∧ ((iY (MT k)).name = "<init>" ∧ iT (MT k) = none) ∧ iH (MT k) = [] ∧ (mc = (iR (MT k)).cells ∧ ms = (iR (MT k)).slots) := by
  unfold ciOk at h
  obtain ⟨g1, g2, g3⟩ := clk_at (and_l h)
  unfold mtOk at g3
  have h2 := and_r h
  have h3 := and_r h2
  have h4 := and_r h3
  have g4 := and_r (and_r (and_r (and_r g3)))
  have e0 : (MW k).getD 2 0 = 0 := of_decide_eq_true (and_l h3)
  rw [e0] at g4
  have g4 : (inT ((MW k).getD 3 0) (.instanceMethod (iY (MT k))) && ((iY (MT k)).name == "<init>" || inT ((MW k).getD 4 0) (.selects (iY (MT k)).cls (iY (MT k)) (iY (MT k))))) = true := g4
  refine ⟨g1, fun hz => ?_, fun hz => ?_, inT_at (and_l g4), of_decide_eq_true (and_l h4), of_decide_eq_true (and_r h4), g2⟩
  · have h2 := and_l h2
    rw [hz] at h2
    exact inT_at h2
  · have h2 := and_l h2
    rw [hz] at h2
    exact (inT_at h2).1
def oiOk (mi : Mi) (n : Nat) (wx : List Nat) : Bool := inT (wx.getD 0 0) (.methodLink (iY mi).cls n Lib.objectInit) && (inT (wx.getD 1 0) (.instanceMethod Lib.objectInit) && (inT (wx.getD 2 0) (.code Lib.objectInit ⟨#[0xb1]⟩ 1 none) && decide (1 ≤ (iR mi).frames ∧ 12 ≤ (iR mi).locals)))
theorem oiOk_at {mi : Mi} {n : Nat} {wx : List Nat} (h : oiOk mi n wx = true) : (Cond.methodLink (iY mi).cls n Lib.objectInit ∈ lw_tbl ∧ stw (Cond.methodLink (iY mi).cls n Lib.objectInit) = true) ∧ (Cond.instanceMethod Lib.objectInit ∈ lw_tbl ∧ stw (Cond.instanceMethod Lib.objectInit) = true) ∧ (Cond.code Lib.objectInit ⟨#[0xb1]⟩ 1 none ∈ lw_tbl ∧ stw (Cond.code Lib.objectInit ⟨#[0xb1]⟩ 1 none) = true) ∧ (1 ≤ (iR mi).frames ∧ 12 ≤ (iR mi).locals) := by
  unfold oiOk at h
  exact ⟨inT_at (and_l h), inT_at (and_l (and_r h)), inT_at (and_l (and_r (and_r h))), of_decide_eq_true (and_r (and_r (and_r h)))⟩
def mxOk (mi : Mi) (n z : Nat) (wx : List Nat) : Bool := (bif z == 9001 then (inT (wx.getD 0 0) (.methodLink (iY mi).cls n Lib.Math.max.name) && (inT (wx.getD 1 0) (.static Lib.Math.max.name) && inT (wx.getD 3 0) (.code Lib.Math.max.name Lib.Math.max.code 2 (some .int)))) else (inT (wx.getD 0 0) (.methodLink (iY mi).cls n Lib.Math.min.name) && (inT (wx.getD 1 0) (.static Lib.Math.min.name) && inT (wx.getD 3 0) (.code Lib.Math.min.name Lib.Math.min.code 2 (some .int))))) && (inT (wx.getD 2 0) (.initialized "java/lang/Math") && decide (1 ≤ (iR mi).frames ∧ 21 ≤ (iR mi).locals))
theorem mxOk_at {mi : Mi} {n z : Nat} {wx : List Nat} (h : mxOk mi n z wx = true) : ((z == 9001) = true → (∀ w ∈ ([Cond.methodLink (iY mi).cls n Lib.Math.max.name, Cond.static Lib.Math.max.name, Cond.initialized "java/lang/Math", Cond.code Lib.Math.max.name Lib.Math.max.code 2 (some .int)] : List Cond), w ∈ lw_tbl ∧ stw w = true) ∧ (1 ≤ (iR mi).frames ∧ 21 ≤ (iR mi).locals)) ∧ ((z == 9001) = false → (∀ w ∈ ([Cond.methodLink (iY mi).cls n Lib.Math.min.name, Cond.static Lib.Math.min.name, Cond.initialized "java/lang/Math", Cond.code Lib.Math.min.name Lib.Math.min.code 2 (some .int)] : List Cond), w ∈ lw_tbl ∧ stw w = true) ∧ (1 ≤ (iR mi).frames ∧ 21 ≤ (iR mi).locals)) := by
  unfold mxOk at h
  have h1 := and_l h
  have h2 := and_r h
  refine ⟨fun hz => ⟨?_, of_decide_eq_true (and_r h2)⟩, fun hz => ⟨?_, of_decide_eq_true (and_r h2)⟩⟩
  · rw [hz] at h1
    intro w hw
    simp only [List.mem_cons, List.not_mem_nil, or_false] at hw
    rcases hw with rfl | rfl | rfl | rfl
    · exact inT_at (and_l h1)
    · exact inT_at (and_l (and_r h1))
    · exact inT_at (and_l h2)
    · exact inT_at (and_r (and_r h1))
  · rw [hz] at h1
    intro w hw
    simp only [List.mem_cons, List.not_mem_nil, or_false] at hw
    rcases hw with rfl | rfl | rfl | rfl
    · exact inT_at (and_l h1)
    · exact inT_at (and_l (and_r h1))
    · exact inT_at (and_l h2)
    · exact inT_at (and_r (and_r h1))
def rtOk (mi : Mi) (b : Nat) : Bool := decide ((b = 0 ∧ iT mi = some .int) ∨ (b = 1 ∧ iT mi = some .boolean))
theorem rtOk_at {mi : Mi} {b : Nat} (h : rtOk mi b = true) : (b = 0 ∧ iT mi = some .int) ∨ (b = 1 ∧ iT mi = some .boolean) := of_decide_eq_true h
def raOk (mi : Mi) : Bool := match iT mi with
  | some (.object _) => true
  | _ => false
theorem raOk_at {mi : Mi} (h : raOk mi = true) : ∃ C, iT mi = some (.object C) := by
  unfold raOk at h
  split at h
  · rename_i C hq
    exact ⟨C, hq⟩
  · cases h
