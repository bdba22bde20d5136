/-! THE LAW'S CODE, ITS END -/
set_option maxRecDepth 100000 in
theorem ok_L_law_16 : okR (MT 327) 1440 90 cf_L_law = true := by decide +kernel
set_option maxRecDepth 100000 in
theorem ok_L_law_17 : okR (MT 327) 1530 90 cf_L_law = true := by decide +kernel
set_option maxRecDepth 100000 in
theorem ok_L_law_18 : okR (MT 327) 1620 90 cf_L_law = true := by decide +kernel
set_option maxRecDepth 100000 in
theorem ok_L_law_19 : okR (MT 327) 1710 90 cf_L_law = true := by decide +kernel
set_option maxRecDepth 100000 in
theorem ok_L_law_20 : okR (MT 327) 1800 90 cf_L_law = true := by decide +kernel
set_option maxRecDepth 100000 in
theorem ok_L_law_21 : okR (MT 327) 1890 90 cf_L_law = true := by decide +kernel
set_option maxRecDepth 100000 in
theorem ok_L_law_22 : okR (MT 327) 1980 90 cf_L_law = true := by decide +kernel
set_option maxRecDepth 100000 in
theorem ok_L_law_23 : okR (MT 327) 2070 90 cf_L_law = true := by decide +kernel
set_option maxRecDepth 100000 in
theorem ok_L_law_24 : okR (MT 327) 2160 90 cf_L_law = true := by decide +kernel
set_option maxRecDepth 100000 in
theorem ok_L_law_25 : okR (MT 327) 2250 90 cf_L_law = true := by decide +kernel
set_option maxRecDepth 100000 in
theorem ok_L_law_26 : okR (MT 327) 2340 90 cf_L_law = true := by decide +kernel
set_option maxRecDepth 100000 in
theorem ok_L_law_27 : okR (MT 327) 2430 90 cf_L_law = true := by decide +kernel
set_option maxRecDepth 100000 in
theorem ok_L_law_28 : okR (MT 327) 2520 90 cf_L_law = true := by decide +kernel
set_option maxRecDepth 100000 in
theorem ok_L_law_29 : okR (MT 327) 2610 90 cf_L_law = true := by decide +kernel
set_option maxRecDepth 100000 in
theorem ok_L_law_30 : okR (MT 327) 2700 90 cf_L_law = true := by decide +kernel
set_option maxRecDepth 100000 in
theorem ok_L_law_31 : okR (MT 327) 2790 90 cf_L_law = true := by decide +kernel
set_option maxRecDepth 100000 in
theorem ok_L_law_32 : okR (MT 327) 2880 44 cf_L_law = true := by decide +kernel
theorem ok_L_law : codeOk (MT 327) cd_L_law := okP.all (okP.app (okP.app (okP.app (okP.app (okP.app (okP.app (okP.app (okP.app (okP.app (okP.app (okP.app (okP.app (okP.app (okP.app (okP.app (okP.app (okP.app (okP.app (okP.app (okP.app (okP.app (okP.app (okP.app (okP.app (okP.app (okP.app (okP.app (okP.app (okP.app (okP.app (okP.app (okP.app (okR_at ok_L_law_0) (okR_at ok_L_law_1)) (okR_at ok_L_law_2)) (okR_at ok_L_law_3)) (okR_at ok_L_law_4)) (okR_at ok_L_law_5)) (okR_at ok_L_law_6)) (okR_at ok_L_law_7)) (okR_at ok_L_law_8)) (okR_at ok_L_law_9)) (okR_at ok_L_law_10)) (okR_at ok_L_law_11)) (okR_at ok_L_law_12)) (okR_at ok_L_law_13)) (okR_at ok_L_law_14)) (okR_at ok_L_law_15)) (okR_at ok_L_law_16)) (okR_at ok_L_law_17)) (okR_at ok_L_law_18)) (okR_at ok_L_law_19)) (okR_at ok_L_law_20)) (okR_at ok_L_law_21)) (okR_at ok_L_law_22)) (okR_at ok_L_law_23)) (okR_at ok_L_law_24)) (okR_at ok_L_law_25)) (okR_at ok_L_law_26)) (okR_at ok_L_law_27)) (okR_at ok_L_law_28)) (okR_at ok_L_law_29)) (okR_at ok_L_law_30)) (okR_at ok_L_law_31)) (okR_at ok_L_law_32))
theorem r_L_law {G : En} {Q : Option Value → Mem → Prop} {X : String → Mem → Prop} {pc : Nat} {L : List (Option Value)} {st : List Value} {M : Mem} {kc ks : Nat} (cut : Nat → Bool) (n : Nat) (h : wp G (MT 327) cd_L_law cut Q X 600128 7301064 n pc L st M kc ks) : Go G (MT 327) Q X pc L st M kc ks := wp_go ok_L_law ⟨by decide +kernel, by decide +kernel⟩ n _ _ _ _ _ _ h
