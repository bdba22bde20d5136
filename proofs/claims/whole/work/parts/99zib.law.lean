/-! THE LAW'S CALLS OF ITS OWN METHODS -/
theorem hs_236 {G : En} {Q : Option Value → Mem → Prop} {X : String → Mem → Prop} {L : List (Option Value)} {st : List Value} {M : Mem} {kc ks : Nat} (h : w_SH G (MT 327) (MT 289) 3 1 2 12 Q X 236 L st M kc ks) : Go G (MT 327) Q X 236 L st M kc ks := by
  have g := clk_at (mi := MT 327) (k := 289) (n := 3) (mc := 2) (ms := 12) (by decide +kernel)
  exact s_staticH (idx := 156) (q := (0, 9, 12, 13)) (hq := [(0, 9, 15, 15)]) (by decide +kernel) g.1 (inT_at (i := 650) (by decide +kernel)) (inT_at (i := 651) (by decide +kernel)) (by decide +kernel) g.2.1 h
theorem hs_292 {G : En} {Q : Option Value → Mem → Prop} {X : String → Mem → Prop} {L : List (Option Value)} {st : List Value} {M : Mem} {kc ks : Nat} (h : w_SH G (MT 327) (MT 290) 3 1 2 12 Q X 292 L st M kc ks) : Go G (MT 327) Q X 292 L st M kc ks := by
  have g := clk_at (mi := MT 327) (k := 290) (n := 3) (mc := 2) (ms := 12) (by decide +kernel)
  exact s_staticH (idx := 163) (q := (0, 9, 12, 13)) (hq := [(0, 9, 15, 15)]) (by decide +kernel) g.1 (inT_at (i := 750) (by decide +kernel)) (inT_at (i := 751) (by decide +kernel)) (by decide +kernel) g.2.1 h
theorem hs_360 {G : En} {Q : Option Value → Mem → Prop} {X : String → Mem → Prop} {L : List (Option Value)} {st : List Value} {M : Mem} {kc ks : Nat} (h : w_SH G (MT 327) (MT 291) 5 1 3 18 Q X 360 L st M kc ks) : Go G (MT 327) Q X 360 L st M kc ks := by
  have g := clk_at (mi := MT 327) (k := 291) (n := 5) (mc := 3) (ms := 18) (by decide +kernel)
  exact s_staticH (idx := 166) (q := (0, 12, 15, 13)) (hq := [(0, 12, 19, 15)]) (by decide +kernel) g.1 (inT_at (i := 761) (by decide +kernel)) (inT_at (i := 762) (by decide +kernel)) (by decide +kernel) g.2.1 h
theorem hs_472 {G : En} {Q : Option Value → Mem → Prop} {X : String → Mem → Prop} {L : List (Option Value)} {st : List Value} {M : Mem} {kc ks : Nat} (h : w_SH G (MT 327) (MT 292) 5 1 3 18 Q X 472 L st M kc ks) : Go G (MT 327) Q X 472 L st M kc ks := by
  have g := clk_at (mi := MT 327) (k := 292) (n := 5) (mc := 3) (ms := 18) (by decide +kernel)
  exact s_staticH (idx := 172) (q := (0, 13, 16, 13)) (hq := [(0, 13, 20, 15)]) (by decide +kernel) g.1 (inT_at (i := 782) (by decide +kernel)) (inT_at (i := 783) (by decide +kernel)) (by decide +kernel) g.2.1 h
theorem hs_594 {G : En} {Q : Option Value → Mem → Prop} {X : String → Mem → Prop} {L : List (Option Value)} {st : List Value} {M : Mem} {kc ks : Nat} (h : w_SH G (MT 327) (MT 293) 4 1 3 18 Q X 594 L st M kc ks) : Go G (MT 327) Q X 594 L st M kc ks := by
  have g := clk_at (mi := MT 327) (k := 293) (n := 4) (mc := 3) (ms := 18) (by decide +kernel)
  exact s_staticH (idx := 176) (q := (0, 11, 14, 13)) (hq := [(0, 11, 18, 15)]) (by decide +kernel) g.1 (inT_at (i := 799) (by decide +kernel)) (inT_at (i := 800) (by decide +kernel)) (by decide +kernel) g.2.1 h
theorem hs_689 {G : En} {Q : Option Value → Mem → Prop} {X : String → Mem → Prop} {L : List (Option Value)} {st : List Value} {M : Mem} {kc ks : Nat} (h : w_SH G (MT 327) (MT 294) 5 1 3 18 Q X 689 L st M kc ks) : Go G (MT 327) Q X 689 L st M kc ks := by
  have g := clk_at (mi := MT 327) (k := 294) (n := 5) (mc := 3) (ms := 18) (by decide +kernel)
  exact s_staticH (idx := 180) (q := (0, 9, 12, 13)) (hq := [(0, 9, 16, 15)]) (by decide +kernel) g.1 (inT_at (i := 832) (by decide +kernel)) (inT_at (i := 833) (by decide +kernel)) (by decide +kernel) g.2.1 h
theorem hs_737 {G : En} {Q : Option Value → Mem → Prop} {X : String → Mem → Prop} {L : List (Option Value)} {st : List Value} {M : Mem} {kc ks : Nat} (h : w_SH G (MT 327) (MT 295) 1 1 1 6 Q X 737 L st M kc ks) : Go G (MT 327) Q X 737 L st M kc ks := by
  have g := clk_at (mi := MT 327) (k := 295) (n := 1) (mc := 1) (ms := 6) (by decide +kernel)
  exact s_staticH (idx := 184) (q := (0, 4, 7, 15)) (hq := []) (by decide +kernel) g.1 (inT_at (i := 844) (by decide +kernel)) (inT_at (i := 845) (by decide +kernel)) (by decide +kernel) g.2.1 h
theorem hs_767 {G : En} {Q : Option Value → Mem → Prop} {X : String → Mem → Prop} {L : List (Option Value)} {st : List Value} {M : Mem} {kc ks : Nat} (h : w_SH G (MT 327) (MT 296) 2 1 1 6 Q X 767 L st M kc ks) : Go G (MT 327) Q X 767 L st M kc ks := by
  have g := clk_at (mi := MT 327) (k := 296) (n := 2) (mc := 1) (ms := 6) (by decide +kernel)
  exact s_staticH (idx := 188) (q := (0, 5, 8, 13)) (hq := []) (by decide +kernel) g.1 (inT_at (i := 851) (by decide +kernel)) (inT_at (i := 852) (by decide +kernel)) (by decide +kernel) g.2.1 h
theorem hs_825 {G : En} {Q : Option Value → Mem → Prop} {X : String → Mem → Prop} {L : List (Option Value)} {st : List Value} {M : Mem} {kc ks : Nat} (h : w_SH G (MT 327) (MT 297) 3 1 1 6 Q X 825 L st M kc ks) : Go G (MT 327) Q X 825 L st M kc ks := by
  have g := clk_at (mi := MT 327) (k := 297) (n := 3) (mc := 1) (ms := 6) (by decide +kernel)
  exact s_staticH (idx := 192) (q := (0, 6, 9, 13)) (hq := []) (by decide +kernel) g.1 (inT_at (i := 863) (by decide +kernel)) (inT_at (i := 864) (by decide +kernel)) (by decide +kernel) g.2.1 h
theorem hs_911 {G : En} {Q : Option Value → Mem → Prop} {X : String → Mem → Prop} {L : List (Option Value)} {st : List Value} {M : Mem} {kc ks : Nat} (h : w_SH G (MT 327) (MT 298) 4 1 2 12 Q X 911 L st M kc ks) : Go G (MT 327) Q X 911 L st M kc ks := by
  have g := clk_at (mi := MT 327) (k := 298) (n := 4) (mc := 2) (ms := 12) (by decide +kernel)
  exact s_staticH (idx := 196) (q := (0, 8, 11, 13)) (hq := []) (by decide +kernel) g.1 (inT_at (i := 894) (by decide +kernel)) (inT_at (i := 895) (by decide +kernel)) (by decide +kernel) g.2.1 h
theorem hs_975 {G : En} {Q : Option Value → Mem → Prop} {X : String → Mem → Prop} {L : List (Option Value)} {st : List Value} {M : Mem} {kc ks : Nat} (h : w_SH G (MT 327) (MT 299) 2 1 1 6 Q X 975 L st M kc ks) : Go G (MT 327) Q X 975 L st M kc ks := by
  have g := clk_at (mi := MT 327) (k := 299) (n := 2) (mc := 1) (ms := 6) (by decide +kernel)
  exact s_staticH (idx := 200) (q := (0, 5, 8, 13)) (hq := []) (by decide +kernel) g.1 (inT_at (i := 906) (by decide +kernel)) (inT_at (i := 907) (by decide +kernel)) (by decide +kernel) g.2.1 h
theorem hs_1023 {G : En} {Q : Option Value → Mem → Prop} {X : String → Mem → Prop} {L : List (Option Value)} {st : List Value} {M : Mem} {kc ks : Nat} (h : w_SH G (MT 327) (MT 300) 4 1 1 6 Q X 1023 L st M kc ks) : Go G (MT 327) Q X 1023 L st M kc ks := by
  have g := clk_at (mi := MT 327) (k := 300) (n := 4) (mc := 1) (ms := 6) (by decide +kernel)
  exact s_staticH (idx := 203) (q := (0, 7, 10, 13)) (hq := []) (by decide +kernel) g.1 (inT_at (i := 918) (by decide +kernel)) (inT_at (i := 919) (by decide +kernel)) (by decide +kernel) g.2.1 h
theorem hs_1072 {G : En} {Q : Option Value → Mem → Prop} {X : String → Mem → Prop} {L : List (Option Value)} {st : List Value} {M : Mem} {kc ks : Nat} (h : w_SH G (MT 327) (MT 301) 3 1 1 6 Q X 1072 L st M kc ks) : Go G (MT 327) Q X 1072 L st M kc ks := by
  have g := clk_at (mi := MT 327) (k := 301) (n := 3) (mc := 1) (ms := 6) (by decide +kernel)
  exact s_staticH (idx := 207) (q := (0, 16, 19, 13)) (hq := []) (by decide +kernel) g.1 (inT_at (i := 932) (by decide +kernel)) (inT_at (i := 933) (by decide +kernel)) (by decide +kernel) g.2.1 h
theorem hs_1203 {G : En} {Q : Option Value → Mem → Prop} {X : String → Mem → Prop} {L : List (Option Value)} {st : List Value} {M : Mem} {kc ks : Nat} (h : w_SH G (MT 327) (MT 302) 9 1 2 12 Q X 1203 L st M kc ks) : Go G (MT 327) Q X 1203 L st M kc ks := by
  have g := clk_at (mi := MT 327) (k := 302) (n := 9) (mc := 2) (ms := 12) (by decide +kernel)
  exact s_staticH (idx := 214) (q := (0, 20, 23, 13)) (hq := []) (by decide +kernel) g.1 (inT_at (i := 944) (by decide +kernel)) (inT_at (i := 945) (by decide +kernel)) (by decide +kernel) g.2.1 h
theorem hs_1348 {G : En} {Q : Option Value → Mem → Prop} {X : String → Mem → Prop} {L : List (Option Value)} {st : List Value} {M : Mem} {kc ks : Nat} (h : w_SH G (MT 327) (MT 303) 6 1 3 18 Q X 1348 L st M kc ks) : Go G (MT 327) Q X 1348 L st M kc ks := by
  have g := clk_at (mi := MT 327) (k := 303) (n := 6) (mc := 3) (ms := 18) (by decide +kernel)
  exact s_staticH (idx := 218) (q := (0, 14, 17, 13)) (hq := [(0, 14, 21, 15)]) (by decide +kernel) g.1 (inT_at (i := 953) (by decide +kernel)) (inT_at (i := 954) (by decide +kernel)) (by decide +kernel) g.2.1 h
theorem hs_1480 {G : En} {Q : Option Value → Mem → Prop} {X : String → Mem → Prop} {L : List (Option Value)} {st : List Value} {M : Mem} {kc ks : Nat} (h : w_SH G (MT 327) (MT 304) 6 1 3 18 Q X 1480 L st M kc ks) : Go G (MT 327) Q X 1480 L st M kc ks := by
  have g := clk_at (mi := MT 327) (k := 304) (n := 6) (mc := 3) (ms := 18) (by decide +kernel)
  exact s_staticH (idx := 222) (q := (0, 14, 17, 13)) (hq := [(0, 14, 21, 15)]) (by decide +kernel) g.1 (inT_at (i := 976) (by decide +kernel)) (inT_at (i := 977) (by decide +kernel)) (by decide +kernel) g.2.1 h
theorem hs_1584 {G : En} {Q : Option Value → Mem → Prop} {X : String → Mem → Prop} {L : List (Option Value)} {st : List Value} {M : Mem} {kc ks : Nat} (h : w_SH G (MT 327) (MT 305) 4 1 2 12 Q X 1584 L st M kc ks) : Go G (MT 327) Q X 1584 L st M kc ks := by
  have g := clk_at (mi := MT 327) (k := 305) (n := 4) (mc := 2) (ms := 12) (by decide +kernel)
  exact s_staticH (idx := 226) (q := (0, 10, 13, 13)) (hq := [(0, 10, 17, 15)]) (by decide +kernel) g.1 (inT_at (i := 983) (by decide +kernel)) (inT_at (i := 984) (by decide +kernel)) (by decide +kernel) g.2.1 h
theorem hs_1646 {G : En} {Q : Option Value → Mem → Prop} {X : String → Mem → Prop} {L : List (Option Value)} {st : List Value} {M : Mem} {kc ks : Nat} (h : w_SH G (MT 327) (MT 306) 3 1 2 12 Q X 1646 L st M kc ks) : Go G (MT 327) Q X 1646 L st M kc ks := by
  have g := clk_at (mi := MT 327) (k := 306) (n := 3) (mc := 2) (ms := 12) (by decide +kernel)
  exact s_staticH (idx := 230) (q := (0, 9, 12, 13)) (hq := [(0, 9, 15, 15)]) (by decide +kernel) g.1 (inT_at (i := 994) (by decide +kernel)) (inT_at (i := 995) (by decide +kernel)) (by decide +kernel) g.2.1 h
theorem hs_1702 {G : En} {Q : Option Value → Mem → Prop} {X : String → Mem → Prop} {L : List (Option Value)} {st : List Value} {M : Mem} {kc ks : Nat} (h : w_SH G (MT 327) (MT 307) 3 1 1 6 Q X 1702 L st M kc ks) : Go G (MT 327) Q X 1702 L st M kc ks := by
  have g := clk_at (mi := MT 327) (k := 307) (n := 3) (mc := 1) (ms := 6) (by decide +kernel)
  exact s_staticH (idx := 233) (q := (0, 9, 12, 13)) (hq := []) (by decide +kernel) g.1 (inT_at (i := 1003) (by decide +kernel)) (inT_at (i := 1004) (by decide +kernel)) (by decide +kernel) g.2.1 h
theorem hs_1764 {G : En} {Q : Option Value → Mem → Prop} {X : String → Mem → Prop} {L : List (Option Value)} {st : List Value} {M : Mem} {kc ks : Nat} (h : w_SH G (MT 327) (MT 308) 4 1 1 6 Q X 1764 L st M kc ks) : Go G (MT 327) Q X 1764 L st M kc ks := by
  have g := clk_at (mi := MT 327) (k := 308) (n := 4) (mc := 1) (ms := 6) (by decide +kernel)
  exact s_staticH (idx := 236) (q := (0, 10, 13, 13)) (hq := []) (by decide +kernel) g.1 (inT_at (i := 1015) (by decide +kernel)) (inT_at (i := 1016) (by decide +kernel)) (by decide +kernel) g.2.1 h
theorem hs_1826 {G : En} {Q : Option Value → Mem → Prop} {X : String → Mem → Prop} {L : List (Option Value)} {st : List Value} {M : Mem} {kc ks : Nat} (h : w_SH G (MT 327) (MT 309) 3 1 1 6 Q X 1826 L st M kc ks) : Go G (MT 327) Q X 1826 L st M kc ks := by
  have g := clk_at (mi := MT 327) (k := 309) (n := 3) (mc := 1) (ms := 6) (by decide +kernel)
  exact s_staticH (idx := 239) (q := (0, 9, 12, 13)) (hq := []) (by decide +kernel) g.1 (inT_at (i := 1030) (by decide +kernel)) (inT_at (i := 1031) (by decide +kernel)) (by decide +kernel) g.2.1 h
theorem hs_1876 {G : En} {Q : Option Value → Mem → Prop} {X : String → Mem → Prop} {L : List (Option Value)} {st : List Value} {M : Mem} {kc ks : Nat} (h : w_SH G (MT 327) (MT 310) 2 1 1 6 Q X 1876 L st M kc ks) : Go G (MT 327) Q X 1876 L st M kc ks := by
  have g := clk_at (mi := MT 327) (k := 310) (n := 2) (mc := 1) (ms := 6) (by decide +kernel)
  exact s_staticH (idx := 242) (q := (0, 8, 11, 15)) (hq := []) (by decide +kernel) g.1 (inT_at (i := 1104) (by decide +kernel)) (inT_at (i := 1105) (by decide +kernel)) (by decide +kernel) g.2.1 h
theorem hs_1939 {G : En} {Q : Option Value → Mem → Prop} {X : String → Mem → Prop} {L : List (Option Value)} {st : List Value} {M : Mem} {kc ks : Nat} (h : w_SH G (MT 327) (MT 311) 3 1 1 6 Q X 1939 L st M kc ks) : Go G (MT 327) Q X 1939 L st M kc ks := by
  have g := clk_at (mi := MT 327) (k := 311) (n := 3) (mc := 1) (ms := 6) (by decide +kernel)
  exact s_staticH (idx := 250) (q := (0, 9, 12, 13)) (hq := []) (by decide +kernel) g.1 (inT_at (i := 1314) (by decide +kernel)) (inT_at (i := 1315) (by decide +kernel)) (by decide +kernel) g.2.1 h
theorem hs_1995 {G : En} {Q : Option Value → Mem → Prop} {X : String → Mem → Prop} {L : List (Option Value)} {st : List Value} {M : Mem} {kc ks : Nat} (h : w_SH G (MT 327) (MT 312) 3 1 2 12 Q X 1995 L st M kc ks) : Go G (MT 327) Q X 1995 L st M kc ks := by
  have g := clk_at (mi := MT 327) (k := 312) (n := 3) (mc := 2) (ms := 12) (by decide +kernel)
  exact s_staticH (idx := 253) (q := (0, 9, 12, 13)) (hq := [(0, 9, 15, 15)]) (by decide +kernel) g.1 (inT_at (i := 1321) (by decide +kernel)) (inT_at (i := 1322) (by decide +kernel)) (by decide +kernel) g.2.1 h
theorem hs_2065 {G : En} {Q : Option Value → Mem → Prop} {X : String → Mem → Prop} {L : List (Option Value)} {st : List Value} {M : Mem} {kc ks : Nat} (h : w_SH G (MT 327) (MT 313) 4 1 2 12 Q X 2065 L st M kc ks) : Go G (MT 327) Q X 2065 L st M kc ks := by
  have g := clk_at (mi := MT 327) (k := 313) (n := 4) (mc := 2) (ms := 12) (by decide +kernel)
  exact s_staticH (idx := 256) (q := (0, 10, 13, 13)) (hq := [(0, 10, 17, 15)]) (by decide +kernel) g.1 (inT_at (i := 1348) (by decide +kernel)) (inT_at (i := 1349) (by decide +kernel)) (by decide +kernel) g.2.1 h
theorem hs_2157 {G : En} {Q : Option Value → Mem → Prop} {X : String → Mem → Prop} {L : List (Option Value)} {st : List Value} {M : Mem} {kc ks : Nat} (h : w_SH G (MT 327) (MT 314) 4 1 3 18 Q X 2157 L st M kc ks) : Go G (MT 327) Q X 2157 L st M kc ks := by
  have g := clk_at (mi := MT 327) (k := 314) (n := 4) (mc := 3) (ms := 18) (by decide +kernel)
  exact s_staticH (idx := 260) (q := (0, 11, 14, 13)) (hq := [(0, 11, 18, 15)]) (by decide +kernel) g.1 (inT_at (i := 1355) (by decide +kernel)) (inT_at (i := 1356) (by decide +kernel)) (by decide +kernel) g.2.1 h
theorem hs_2235 {G : En} {Q : Option Value → Mem → Prop} {X : String → Mem → Prop} {L : List (Option Value)} {st : List Value} {M : Mem} {kc ks : Nat} (h : w_SH G (MT 327) (MT 315) 3 1 2 12 Q X 2235 L st M kc ks) : Go G (MT 327) Q X 2235 L st M kc ks := by
  have g := clk_at (mi := MT 327) (k := 315) (n := 3) (mc := 2) (ms := 12) (by decide +kernel)
  exact s_staticH (idx := 264) (q := (0, 9, 12, 13)) (hq := [(0, 9, 15, 15)]) (by decide +kernel) g.1 (inT_at (i := 1374) (by decide +kernel)) (inT_at (i := 1375) (by decide +kernel)) (by decide +kernel) g.2.1 h
theorem hs_2305 {G : En} {Q : Option Value → Mem → Prop} {X : String → Mem → Prop} {L : List (Option Value)} {st : List Value} {M : Mem} {kc ks : Nat} (h : w_SH G (MT 327) (MT 316) 4 1 2 12 Q X 2305 L st M kc ks) : Go G (MT 327) Q X 2305 L st M kc ks := by
  have g := clk_at (mi := MT 327) (k := 316) (n := 4) (mc := 2) (ms := 12) (by decide +kernel)
  exact s_staticH (idx := 267) (q := (0, 10, 13, 13)) (hq := [(0, 10, 17, 15)]) (by decide +kernel) g.1 (inT_at (i := 1385) (by decide +kernel)) (inT_at (i := 1386) (by decide +kernel)) (by decide +kernel) g.2.1 h
theorem hs_2369 {G : En} {Q : Option Value → Mem → Prop} {X : String → Mem → Prop} {L : List (Option Value)} {st : List Value} {M : Mem} {kc ks : Nat} (h : w_SH G (MT 327) (MT 317) 2 1 1 6 Q X 2369 L st M kc ks) : Go G (MT 327) Q X 2369 L st M kc ks := by
  have g := clk_at (mi := MT 327) (k := 317) (n := 2) (mc := 1) (ms := 6) (by decide +kernel)
  exact s_staticH (idx := 270) (q := (0, 8, 11, 15)) (hq := []) (by decide +kernel) g.1 (inT_at (i := 1396) (by decide +kernel)) (inT_at (i := 1397) (by decide +kernel)) (by decide +kernel) g.2.1 h
theorem hs_2413 {G : En} {Q : Option Value → Mem → Prop} {X : String → Mem → Prop} {L : List (Option Value)} {st : List Value} {M : Mem} {kc ks : Nat} (h : w_SH G (MT 327) (MT 318) 2 1 1 6 Q X 2413 L st M kc ks) : Go G (MT 327) Q X 2413 L st M kc ks := by
  have g := clk_at (mi := MT 327) (k := 318) (n := 2) (mc := 1) (ms := 6) (by decide +kernel)
  exact s_staticH (idx := 273) (q := (0, 8, 11, 15)) (hq := []) (by decide +kernel) g.1 (inT_at (i := 1419) (by decide +kernel)) (inT_at (i := 1420) (by decide +kernel)) (by decide +kernel) g.2.1 h
theorem hs_2462 {G : En} {Q : Option Value → Mem → Prop} {X : String → Mem → Prop} {L : List (Option Value)} {st : List Value} {M : Mem} {kc ks : Nat} (h : w_SH G (MT 327) (MT 319) 2 1 2 12 Q X 2462 L st M kc ks) : Go G (MT 327) Q X 2462 L st M kc ks := by
  have g := clk_at (mi := MT 327) (k := 319) (n := 2) (mc := 2) (ms := 12) (by decide +kernel)
  exact s_staticH (idx := 276) (q := (0, 5, 8, 13)) (hq := [(0, 5, 11, 15)]) (by decide +kernel) g.1 (inT_at (i := 1431) (by decide +kernel)) (inT_at (i := 1432) (by decide +kernel)) (by decide +kernel) g.2.1 h
theorem hs_2493 {G : En} {Q : Option Value → Mem → Prop} {X : String → Mem → Prop} {L : List (Option Value)} {st : List Value} {M : Mem} {kc ks : Nat} (h : w_SH G (MT 327) (MT 320) 2 1 1 6 Q X 2493 L st M kc ks) : Go G (MT 327) Q X 2493 L st M kc ks := by
  have g := clk_at (mi := MT 327) (k := 320) (n := 2) (mc := 1) (ms := 6) (by decide +kernel)
  exact s_staticH (idx := 279) (q := (0, 8, 11, 15)) (hq := []) (by decide +kernel) g.1 (inT_at (i := 1440) (by decide +kernel)) (inT_at (i := 1441) (by decide +kernel)) (by decide +kernel) g.2.1 h
theorem hs_2556 {G : En} {Q : Option Value → Mem → Prop} {X : String → Mem → Prop} {L : List (Option Value)} {st : List Value} {M : Mem} {kc ks : Nat} (h : w_SH G (MT 327) (MT 321) 3 1 2 12 Q X 2556 L st M kc ks) : Go G (MT 327) Q X 2556 L st M kc ks := by
  have g := clk_at (mi := MT 327) (k := 321) (n := 3) (mc := 2) (ms := 12) (by decide +kernel)
  exact s_staticH (idx := 287) (q := (0, 9, 12, 13)) (hq := [(0, 9, 15, 15)]) (by decide +kernel) g.1 (inT_at (i := 1451) (by decide +kernel)) (inT_at (i := 1452) (by decide +kernel)) (by decide +kernel) g.2.1 h
theorem hs_2618 {G : En} {Q : Option Value → Mem → Prop} {X : String → Mem → Prop} {L : List (Option Value)} {st : List Value} {M : Mem} {kc ks : Nat} (h : w_SH G (MT 327) (MT 322) 4 1 2 12 Q X 2618 L st M kc ks) : Go G (MT 327) Q X 2618 L st M kc ks := by
  have g := clk_at (mi := MT 327) (k := 322) (n := 4) (mc := 2) (ms := 12) (by decide +kernel)
  exact s_staticH (idx := 290) (q := (0, 9, 12, 13)) (hq := [(0, 9, 16, 15)]) (by decide +kernel) g.1 (inT_at (i := 1459) (by decide +kernel)) (inT_at (i := 1460) (by decide +kernel)) (by decide +kernel) g.2.1 h
theorem hs_2685 {G : En} {Q : Option Value → Mem → Prop} {X : String → Mem → Prop} {L : List (Option Value)} {st : List Value} {M : Mem} {kc ks : Nat} (h : w_SH G (MT 327) (MT 323) 4 1 3 18 Q X 2685 L st M kc ks) : Go G (MT 327) Q X 2685 L st M kc ks := by
  have g := clk_at (mi := MT 327) (k := 323) (n := 4) (mc := 3) (ms := 18) (by decide +kernel)
  exact s_staticH (idx := 293) (q := (0, 9, 12, 13)) (hq := [(0, 9, 16, 15)]) (by decide +kernel) g.1 (inT_at (i := 1469) (by decide +kernel)) (inT_at (i := 1470) (by decide +kernel)) (by decide +kernel) g.2.1 h
theorem hs_2752 {G : En} {Q : Option Value → Mem → Prop} {X : String → Mem → Prop} {L : List (Option Value)} {st : List Value} {M : Mem} {kc ks : Nat} (h : w_SH G (MT 327) (MT 324) 4 1 2 12 Q X 2752 L st M kc ks) : Go G (MT 327) Q X 2752 L st M kc ks := by
  have g := clk_at (mi := MT 327) (k := 324) (n := 4) (mc := 2) (ms := 12) (by decide +kernel)
  exact s_staticH (idx := 296) (q := (0, 9, 12, 13)) (hq := [(0, 9, 16, 15)]) (by decide +kernel) g.1 (inT_at (i := 1485) (by decide +kernel)) (inT_at (i := 1486) (by decide +kernel)) (by decide +kernel) g.2.1 h
theorem hs_2819 {G : En} {Q : Option Value → Mem → Prop} {X : String → Mem → Prop} {L : List (Option Value)} {st : List Value} {M : Mem} {kc ks : Nat} (h : w_SH G (MT 327) (MT 325) 4 1 2 12 Q X 2819 L st M kc ks) : Go G (MT 327) Q X 2819 L st M kc ks := by
  have g := clk_at (mi := MT 327) (k := 325) (n := 4) (mc := 2) (ms := 12) (by decide +kernel)
  exact s_staticH (idx := 299) (q := (0, 9, 12, 13)) (hq := [(0, 9, 16, 15)]) (by decide +kernel) g.1 (inT_at (i := 1493) (by decide +kernel)) (inT_at (i := 1494) (by decide +kernel)) (by decide +kernel) g.2.1 h
theorem hs_2874 {G : En} {Q : Option Value → Mem → Prop} {X : String → Mem → Prop} {L : List (Option Value)} {st : List Value} {M : Mem} {kc ks : Nat} (h : w_SH G (MT 327) (MT 326) 2 1 1 6 Q X 2874 L st M kc ks) : Go G (MT 327) Q X 2874 L st M kc ks := by
  have g := clk_at (mi := MT 327) (k := 326) (n := 2) (mc := 1) (ms := 6) (by decide +kernel)
  exact s_staticH (idx := 302) (q := (0, 8, 11, 15)) (hq := []) (by decide +kernel) g.1 (inT_at (i := 1500) (by decide +kernel)) (inT_at (i := 1501) (by decide +kernel)) (by decide +kernel) g.2.1 h
