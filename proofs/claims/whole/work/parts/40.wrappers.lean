/-! THE LAW'S OWN METHODS -/
theorem cs_IA : Cond.castable xIA xIA ∈ lw_tbl := List.mem_of_getElem? (i := 668) (by decide +kernel)
theorem cs_IS : Cond.castable xIS xIS ∈ lw_tbl := List.mem_of_getElem? (i := 733) (by decide +kernel)
def cf_L_cell : Cd := fun pc =>
  if pc < 7 then (if pc < 2 then (if pc < 1 then (if pc = 0 then some (.iload_n 1, [], []) else none)
    else (if pc = 1 then some (.aload_n 0, [], []) else none))
   else (if pc < 3 then (if pc = 2 then some (.arraylength, [], []) else none)
    else (if pc < 6 then (if pc = 3 then some (.if_icmp .ge 9, [12], []) else none)
     else (if pc = 6 then some (.aload_n 0, [], []) else none))))
  else (if pc < 9 then (if pc < 8 then (if pc = 7 then some (.iload_n 1, [], []) else none)
    else (if pc = 8 then some (.iaload, [], []) else none))
   else (if pc < 12 then (if pc = 9 then some (.goto 4, [13], []) else none)
    else (if pc < 13 then (if pc = 12 then some (.iconst 0, [0], []) else none)
     else (if pc = 13 then some (.ireturn, [0], []) else none))))
def cd_L_cell : Cd := cdF 14 cf_L_cell
set_option maxRecDepth 100000 in
theorem ok_L_cell : codeOk (MT 288) cd_L_cell := okAll_at (by decide +kernel)
theorem r_L_cell {G : En} {Q : Option Value → Mem → Prop} {X : String → Mem → Prop} {pc : Nat} {L : List (Option Value)} {st : List Value} {M : Mem} {kc ks : Nat} (cut : Nat → Bool) (n : Nat) (h : wp G (MT 288) cd_L_cell cut Q X 0 0 n pc L st M kc ks) : Go G (MT 288) Q X pc L st M kc ks := wp_go ok_L_cell ⟨by decide +kernel, by decide +kernel⟩ n _ _ _ _ _ _ h
def cf_L_acquirer : Cd := fun pc =>
  if pc < 9 then (if pc < 3 then (if pc < 1 then (if pc = 0 then some (.aload_n 2, [], []) else none)
    else (if pc < 2 then (if pc = 1 then some (.iconst 0, [0], []) else none)
     else (if pc = 2 then some (.aload_n 0, [], []) else none)))
   else (if pc < 7 then (if pc = 3 then some (.iload_n 1, [], []) else none)
    else (if pc < 8 then (if pc = 7 then some (.i2l, [], []) else none)
     else (if pc = 8 then some (.lastore, [], []) else none))))
  else (if pc < 16 then (if pc < 13 then (if pc = 9 then some (.goto 9, [18], []) else none)
    else (if pc < 14 then (if pc = 13 then some (.iconst 1, [1], []) else none)
     else (if pc = 14 then some (.ireturn, [0], []) else none)))
   else (if pc < 18 then (if pc < 17 then (if pc = 16 then some (.iconst 2, [2], []) else none)
     else (if pc = 17 then some (.ireturn, [0], []) else none))
    else (if pc < 19 then (if pc = 18 then some (.iconst 0, [0], []) else none)
     else (if pc = 19 then some (.ireturn, [0], []) else none))))
def cd_L_acquirer : Cd := cdF 20 cf_L_acquirer
set_option maxRecDepth 100000 in
theorem ok_L_acquirer : codeOk (MT 289) cd_L_acquirer := okAll_at (by decide +kernel)
theorem r_L_acquirer {G : En} {Q : Option Value → Mem → Prop} {X : String → Mem → Prop} {pc : Nat} {L : List (Option Value)} {st : List Value} {M : Mem} {kc ks : Nat} (cut : Nat → Bool) (n : Nat) (h : wp G (MT 289) cd_L_acquirer cut Q X 2 12 n pc L st M kc ks) : Go G (MT 289) Q X pc L st M kc ks := wp_go ok_L_acquirer ⟨by decide +kernel, by decide +kernel⟩ n _ _ _ _ _ _ h
theorem hc_L_acquirer {G : En} {Q : Option Value → Mem → Prop} {X : String → Mem → Prop} {L : List (Option Value)} {st : List Value} {M : Mem} {kc ks : Nat} (h : w_CX G (MT 289) (MT 124) 1 1 11 2 12 Q X 4 L st M kc ks) : Go G (MT 289) Q X 4 L st M kc ks := by
  have g := clk_at (mi := MT 289) (k := 124) (n := 1) (mc := 2) (ms := 12) (by decide +kernel)
  have g3 := g.2.2
  unfold mtOk at g3
  exact s_catch (idx := 7) (q := (RX11, TX11, 9)) (by decide +kernel) g.1 (inT_at (i := 655) (by decide +kernel)) (inT_at (i := 656) (by decide +kernel)) (inT_at (i := 657) (by decide +kernel)) rfl (by decide +kernel) g.2.1 h
theorem ca_L_acquirer_IA : catchOk (MT 289) 4 xIA 12 3 13 := ⟨[], (0, 9, 12, 13), [(0, 9, 15, 15)], by decide +kernel, (fun z hz => nomatch hz), ⟨by decide, by decide⟩, rfl, by decide, inT_at (i := 653) (by decide +kernel), cs_IA, by decide +kernel, Or.inl ⟨3, rfl, by decide +kernel, rfl⟩⟩
theorem ca_L_acquirer_IS : catchOk (MT 289) 4 xIS 15 3 16 := ⟨[(0, 9, 12, 13)], (0, 9, 15, 15), [], by decide +kernel, (fun z hz => by
    simp only [List.mem_singleton] at hz
    subst hz
    exact ⟨by decide, inT_at (i := 653) (by decide +kernel), rfl⟩), ⟨by decide, by decide⟩, rfl, by decide, inT_at (i := 654) (by decide +kernel), cs_IS, by decide +kernel, Or.inl ⟨3, rfl, by decide +kernel, rfl⟩⟩
def cf_L_issuer : Cd := fun pc =>
  if pc < 9 then (if pc < 3 then (if pc < 1 then (if pc = 0 then some (.aload_n 2, [], []) else none)
    else (if pc < 2 then (if pc = 1 then some (.iconst 0, [0], []) else none)
     else (if pc = 2 then some (.aload_n 0, [], []) else none)))
   else (if pc < 7 then (if pc = 3 then some (.iload_n 1, [], []) else none)
    else (if pc < 8 then (if pc = 7 then some (.i2l, [], []) else none)
     else (if pc = 8 then some (.lastore, [], []) else none))))
  else (if pc < 16 then (if pc < 13 then (if pc = 9 then some (.goto 9, [18], []) else none)
    else (if pc < 14 then (if pc = 13 then some (.iconst 1, [1], []) else none)
     else (if pc = 14 then some (.ireturn, [0], []) else none)))
   else (if pc < 18 then (if pc < 17 then (if pc = 16 then some (.iconst 2, [2], []) else none)
     else (if pc = 17 then some (.ireturn, [0], []) else none))
    else (if pc < 19 then (if pc = 18 then some (.iconst 0, [0], []) else none)
     else (if pc = 19 then some (.ireturn, [0], []) else none))))
def cd_L_issuer : Cd := cdF 20 cf_L_issuer
set_option maxRecDepth 100000 in
theorem ok_L_issuer : codeOk (MT 290) cd_L_issuer := okAll_at (by decide +kernel)
theorem r_L_issuer {G : En} {Q : Option Value → Mem → Prop} {X : String → Mem → Prop} {pc : Nat} {L : List (Option Value)} {st : List Value} {M : Mem} {kc ks : Nat} (cut : Nat → Bool) (n : Nat) (h : wp G (MT 290) cd_L_issuer cut Q X 2 12 n pc L st M kc ks) : Go G (MT 290) Q X pc L st M kc ks := wp_go ok_L_issuer ⟨by decide +kernel, by decide +kernel⟩ n _ _ _ _ _ _ h
theorem hc_L_issuer {G : En} {Q : Option Value → Mem → Prop} {X : String → Mem → Prop} {L : List (Option Value)} {st : List Value} {M : Mem} {kc ks : Nat} (h : w_CX G (MT 290) (MT 125) 1 1 11 2 12 Q X 4 L st M kc ks) : Go G (MT 290) Q X 4 L st M kc ks := by
  have g := clk_at (mi := MT 290) (k := 125) (n := 1) (mc := 2) (ms := 12) (by decide +kernel)
  have g3 := g.2.2
  unfold mtOk at g3
  exact s_catch (idx := 17) (q := (RX11, TX11, 9)) (by decide +kernel) g.1 (inT_at (i := 753) (by decide +kernel)) (inT_at (i := 754) (by decide +kernel)) (inT_at (i := 755) (by decide +kernel)) rfl (by decide +kernel) g.2.1 h
theorem ca_L_issuer_IA : catchOk (MT 290) 4 xIA 12 3 13 := ⟨[], (0, 9, 12, 13), [(0, 9, 15, 15)], by decide +kernel, (fun z hz => nomatch hz), ⟨by decide, by decide⟩, rfl, by decide, inT_at (i := 653) (by decide +kernel), cs_IA, by decide +kernel, Or.inl ⟨3, rfl, by decide +kernel, rfl⟩⟩
theorem ca_L_issuer_IS : catchOk (MT 290) 4 xIS 15 3 16 := ⟨[(0, 9, 12, 13)], (0, 9, 15, 15), [], by decide +kernel, (fun z hz => by
    simp only [List.mem_singleton] at hz
    subst hz
    exact ⟨by decide, inT_at (i := 653) (by decide +kernel), rfl⟩), ⟨by decide, by decide⟩, rfl, by decide, inT_at (i := 654) (by decide +kernel), cs_IS, by decide +kernel, Or.inl ⟨3, rfl, by decide +kernel, rfl⟩⟩
def cf_L_route : Cd := fun pc =>
  if pc < 11 then (if pc < 4 then (if pc < 2 then (if pc = 0 then some (.aload 4, [], []) else none)
    else (if pc < 3 then (if pc = 2 then some (.iconst 0, [0], []) else none)
     else (if pc = 3 then some (.aload_n 0, [], []) else none)))
   else (if pc < 6 then (if pc < 5 then (if pc = 4 then some (.iload_n 1, [], []) else none)
     else (if pc = 5 then some (.iload_n 2, [], []) else none))
    else (if pc < 10 then (if pc = 6 then some (.iload_n 3, [], []) else none)
     else (if pc = 10 then some (.i2l, [], []) else none))))
  else (if pc < 21 then (if pc < 17 then (if pc < 12 then (if pc = 11 then some (.lastore, [], []) else none)
     else (if pc = 12 then some (.goto 11, [23], []) else none))
    else (if pc < 18 then (if pc = 17 then some (.iconst 1, [1], []) else none)
     else (if pc = 18 then some (.ireturn, [0], []) else none)))
   else (if pc < 23 then (if pc < 22 then (if pc = 21 then some (.iconst 2, [2], []) else none)
     else (if pc = 22 then some (.ireturn, [0], []) else none))
    else (if pc < 24 then (if pc = 23 then some (.iconst 0, [0], []) else none)
     else (if pc = 24 then some (.ireturn, [0], []) else none))))
def cd_L_route : Cd := cdF 25 cf_L_route
set_option maxRecDepth 100000 in
theorem ok_L_route : codeOk (MT 291) cd_L_route := okAll_at (by decide +kernel)
theorem r_L_route {G : En} {Q : Option Value → Mem → Prop} {X : String → Mem → Prop} {pc : Nat} {L : List (Option Value)} {st : List Value} {M : Mem} {kc ks : Nat} (cut : Nat → Bool) (n : Nat) (h : wp G (MT 291) cd_L_route cut Q X 3 18 n pc L st M kc ks) : Go G (MT 291) Q X pc L st M kc ks := wp_go ok_L_route ⟨by decide +kernel, by decide +kernel⟩ n _ _ _ _ _ _ h
theorem hc_L_route {G : En} {Q : Option Value → Mem → Prop} {X : String → Mem → Prop} {L : List (Option Value)} {st : List Value} {M : Mem} {kc ks : Nat} (h : w_CX G (MT 291) (MT 126) 3 1 11 3 18 Q X 7 L st M kc ks) : Go G (MT 291) Q X 7 L st M kc ks := by
  have g := clk_at (mi := MT 291) (k := 126) (n := 3) (mc := 3) (ms := 18) (by decide +kernel)
  have g3 := g.2.2
  unfold mtOk at g3
  exact s_catch (idx := 20) (q := (RX11, TX11, 9)) (by decide +kernel) g.1 (inT_at (i := 764) (by decide +kernel)) (inT_at (i := 765) (by decide +kernel)) (inT_at (i := 766) (by decide +kernel)) rfl (by decide +kernel) g.2.1 h
theorem ca_L_route_IA : catchOk (MT 291) 7 xIA 15 5 17 := ⟨[], (0, 12, 15, 13), [(0, 12, 19, 15)], by decide +kernel, (fun z hz => nomatch hz), ⟨by decide, by decide⟩, rfl, by decide, inT_at (i := 653) (by decide +kernel), cs_IA, by decide +kernel, Or.inr ⟨by decide +kernel, rfl⟩⟩
theorem ca_L_route_IS : catchOk (MT 291) 7 xIS 19 5 21 := ⟨[(0, 12, 15, 13)], (0, 12, 19, 15), [], by decide +kernel, (fun z hz => by
    simp only [List.mem_singleton] at hz
    subst hz
    exact ⟨by decide, inT_at (i := 653) (by decide +kernel), rfl⟩), ⟨by decide, by decide⟩, rfl, by decide, inT_at (i := 654) (by decide +kernel), cs_IS, by decide +kernel, Or.inr ⟨by decide +kernel, rfl⟩⟩
def cf_L_account : Cd := fun pc =>
  if pc < 12 then (if pc < 4 then (if pc < 2 then (if pc = 0 then some (.aload 6, [], []) else none)
    else (if pc < 3 then (if pc = 2 then some (.iconst 0, [0], []) else none)
     else (if pc = 3 then some (.aload_n 0, [], []) else none)))
   else (if pc < 6 then (if pc < 5 then (if pc = 4 then some (.iload_n 1, [], []) else none)
     else (if pc = 5 then some (.lload_n 2, [], []) else none))
    else (if pc < 11 then (if pc = 6 then some (.lload 4, [], []) else none)
     else (if pc = 11 then some (.i2l, [], []) else none))))
  else (if pc < 22 then (if pc < 18 then (if pc < 13 then (if pc = 12 then some (.lastore, [], []) else none)
     else (if pc = 13 then some (.goto 11, [24], []) else none))
    else (if pc < 19 then (if pc = 18 then some (.iconst 1, [1], []) else none)
     else (if pc = 19 then some (.ireturn, [0], []) else none)))
   else (if pc < 24 then (if pc < 23 then (if pc = 22 then some (.iconst 2, [2], []) else none)
     else (if pc = 23 then some (.ireturn, [0], []) else none))
    else (if pc < 25 then (if pc = 24 then some (.iconst 0, [0], []) else none)
     else (if pc = 25 then some (.ireturn, [0], []) else none))))
def cd_L_account : Cd := cdF 26 cf_L_account
set_option maxRecDepth 100000 in
theorem ok_L_account : codeOk (MT 292) cd_L_account := okAll_at (by decide +kernel)
theorem r_L_account {G : En} {Q : Option Value → Mem → Prop} {X : String → Mem → Prop} {pc : Nat} {L : List (Option Value)} {st : List Value} {M : Mem} {kc ks : Nat} (cut : Nat → Bool) (n : Nat) (h : wp G (MT 292) cd_L_account cut Q X 3 18 n pc L st M kc ks) : Go G (MT 292) Q X pc L st M kc ks := wp_go ok_L_account ⟨by decide +kernel, by decide +kernel⟩ n _ _ _ _ _ _ h
theorem hc_L_account {G : En} {Q : Option Value → Mem → Prop} {X : String → Mem → Prop} {L : List (Option Value)} {st : List Value} {M : Mem} {kc ks : Nat} (h : w_CX G (MT 292) (MT 127) 3 1 11 3 18 Q X 8 L st M kc ks) : Go G (MT 292) Q X 8 L st M kc ks := by
  have g := clk_at (mi := MT 292) (k := 127) (n := 3) (mc := 3) (ms := 18) (by decide +kernel)
  have g3 := g.2.2
  unfold mtOk at g3
  exact s_catch (idx := 24) (q := (RX11, TX11, 9)) (by decide +kernel) g.1 (inT_at (i := 785) (by decide +kernel)) (inT_at (i := 786) (by decide +kernel)) (inT_at (i := 787) (by decide +kernel)) rfl (by decide +kernel) g.2.1 h
theorem ca_L_account_IA : catchOk (MT 292) 8 xIA 16 7 18 := ⟨[], (0, 13, 16, 13), [(0, 13, 20, 15)], by decide +kernel, (fun z hz => nomatch hz), ⟨by decide, by decide⟩, rfl, by decide, inT_at (i := 653) (by decide +kernel), cs_IA, by decide +kernel, Or.inr ⟨by decide +kernel, rfl⟩⟩
theorem ca_L_account_IS : catchOk (MT 292) 8 xIS 20 7 22 := ⟨[(0, 13, 16, 13)], (0, 13, 20, 15), [], by decide +kernel, (fun z hz => by
    simp only [List.mem_singleton] at hz
    subst hz
    exact ⟨by decide, inT_at (i := 653) (by decide +kernel), rfl⟩), ⟨by decide, by decide⟩, rfl, by decide, inT_at (i := 654) (by decide +kernel), cs_IS, by decide +kernel, Or.inr ⟨by decide +kernel, rfl⟩⟩
def cf_L_card : Cd := fun pc =>
  if pc < 11 then (if pc < 4 then (if pc < 2 then (if pc = 0 then some (.aload 4, [], []) else none)
    else (if pc < 3 then (if pc = 2 then some (.iconst 0, [0], []) else none)
     else (if pc = 3 then some (.aload_n 0, [], []) else none)))
   else (if pc < 9 then (if pc < 5 then (if pc = 4 then some (.lload_n 1, [], []) else none)
     else (if pc = 5 then some (.iload_n 3, [], []) else none))
    else (if pc < 10 then (if pc = 9 then some (.i2l, [], []) else none)
     else (if pc = 10 then some (.lastore, [], []) else none))))
  else (if pc < 20 then (if pc < 16 then (if pc = 11 then some (.goto 11, [22], []) else none)
    else (if pc < 17 then (if pc = 16 then some (.iconst 1, [1], []) else none)
     else (if pc = 17 then some (.ireturn, [0], []) else none)))
   else (if pc < 22 then (if pc < 21 then (if pc = 20 then some (.iconst 2, [2], []) else none)
     else (if pc = 21 then some (.ireturn, [0], []) else none))
    else (if pc < 23 then (if pc = 22 then some (.iconst 0, [0], []) else none)
     else (if pc = 23 then some (.ireturn, [0], []) else none))))
def cd_L_card : Cd := cdF 24 cf_L_card
set_option maxRecDepth 100000 in
theorem ok_L_card : codeOk (MT 293) cd_L_card := okAll_at (by decide +kernel)
theorem r_L_card {G : En} {Q : Option Value → Mem → Prop} {X : String → Mem → Prop} {pc : Nat} {L : List (Option Value)} {st : List Value} {M : Mem} {kc ks : Nat} (cut : Nat → Bool) (n : Nat) (h : wp G (MT 293) cd_L_card cut Q X 3 18 n pc L st M kc ks) : Go G (MT 293) Q X pc L st M kc ks := wp_go ok_L_card ⟨by decide +kernel, by decide +kernel⟩ n _ _ _ _ _ _ h
theorem hc_L_card {G : En} {Q : Option Value → Mem → Prop} {X : String → Mem → Prop} {L : List (Option Value)} {st : List Value} {M : Mem} {kc ks : Nat} (h : w_CX G (MT 293) (MT 128) 2 1 11 3 18 Q X 6 L st M kc ks) : Go G (MT 293) Q X 6 L st M kc ks := by
  have g := clk_at (mi := MT 293) (k := 128) (n := 2) (mc := 3) (ms := 18) (by decide +kernel)
  have g3 := g.2.2
  unfold mtOk at g3
  exact s_catch (idx := 28) (q := (RX11, TX11, 9)) (by decide +kernel) g.1 (inT_at (i := 802) (by decide +kernel)) (inT_at (i := 803) (by decide +kernel)) (inT_at (i := 804) (by decide +kernel)) rfl (by decide +kernel) g.2.1 h
theorem ca_L_card_IA : catchOk (MT 293) 6 xIA 14 5 16 := ⟨[], (0, 11, 14, 13), [(0, 11, 18, 15)], by decide +kernel, (fun z hz => nomatch hz), ⟨by decide, by decide⟩, rfl, by decide, inT_at (i := 653) (by decide +kernel), cs_IA, by decide +kernel, Or.inr ⟨by decide +kernel, rfl⟩⟩
theorem ca_L_card_IS : catchOk (MT 293) 6 xIS 18 5 20 := ⟨[(0, 11, 14, 13)], (0, 11, 18, 15), [], by decide +kernel, (fun z hz => by
    simp only [List.mem_singleton] at hz
    subst hz
    exact ⟨by decide, inT_at (i := 653) (by decide +kernel), rfl⟩), ⟨by decide, by decide⟩, rfl, by decide, inT_at (i := 654) (by decide +kernel), cs_IS, by decide +kernel, Or.inr ⟨by decide +kernel, rfl⟩⟩
def cf_L_rules : Cd := fun pc =>
  if pc < 14 then (if pc < 3 then (if pc < 1 then (if pc = 0 then some (.aload_n 0, [], []) else none)
    else (if pc < 2 then (if pc = 1 then some (.iload_n 1, [], []) else none)
     else (if pc = 2 then some (.iload_n 2, [], []) else none)))
   else (if pc < 4 then (if pc = 3 then some (.iload_n 3, [], []) else none)
    else (if pc < 9 then (if pc = 4 then some (.iload 4, [], []) else none)
     else (if pc = 9 then some (.goto 11, [20], []) else none))))
  else (if pc < 19 then (if pc < 15 then (if pc = 14 then some (.iconst 1, [1], []) else none)
    else (if pc < 18 then (if pc = 15 then some (.ireturn, [0], []) else none)
     else (if pc = 18 then some (.iconst 2, [2], []) else none)))
   else (if pc < 20 then (if pc = 19 then some (.ireturn, [0], []) else none)
    else (if pc < 21 then (if pc = 20 then some (.iconst 0, [0], []) else none)
     else (if pc = 21 then some (.ireturn, [0], []) else none))))
def cd_L_rules : Cd := cdF 22 cf_L_rules
set_option maxRecDepth 100000 in
theorem ok_L_rules : codeOk (MT 294) cd_L_rules := okAll_at (by decide +kernel)
theorem r_L_rules {G : En} {Q : Option Value → Mem → Prop} {X : String → Mem → Prop} {pc : Nat} {L : List (Option Value)} {st : List Value} {M : Mem} {kc ks : Nat} (cut : Nat → Bool) (n : Nat) (h : wp G (MT 294) cd_L_rules cut Q X 3 18 n pc L st M kc ks) : Go G (MT 294) Q X pc L st M kc ks := wp_go ok_L_rules ⟨by decide +kernel, by decide +kernel⟩ n _ _ _ _ _ _ h
theorem hc_L_rules {G : En} {Q : Option Value → Mem → Prop} {X : String → Mem → Prop} {L : List (Option Value)} {st : List Value} {M : Mem} {kc ks : Nat} (h : w_CX G (MT 294) (MT 129) 4 0 11 3 18 Q X 6 L st M kc ks) : Go G (MT 294) Q X 6 L st M kc ks := by
  have g := clk_at (mi := MT 294) (k := 129) (n := 4) (mc := 3) (ms := 18) (by decide +kernel)
  have g3 := g.2.2
  unfold mtOk at g3
  exact s_catch (idx := 32) (q := (RX11, TX11, 9)) (by decide +kernel) g.1 (inT_at (i := 835) (by decide +kernel)) (inT_at (i := 836) (by decide +kernel)) (inT_at (i := 837) (by decide +kernel)) rfl (by decide +kernel) g.2.1 h
theorem ca_L_rules_IA : catchOk (MT 294) 6 xIA 12 5 14 := ⟨[], (0, 9, 12, 13), [(0, 9, 16, 15)], by decide +kernel, (fun z hz => nomatch hz), ⟨by decide, by decide⟩, rfl, by decide, inT_at (i := 653) (by decide +kernel), cs_IA, by decide +kernel, Or.inr ⟨by decide +kernel, rfl⟩⟩
theorem ca_L_rules_IS : catchOk (MT 294) 6 xIS 16 5 18 := ⟨[(0, 9, 12, 13)], (0, 9, 16, 15), [], by decide +kernel, (fun z hz => by
    simp only [List.mem_singleton] at hz
    subst hz
    exact ⟨by decide, inT_at (i := 653) (by decide +kernel), rfl⟩), ⟨by decide, by decide⟩, rfl, by decide, inT_at (i := 654) (by decide +kernel), cs_IS, by decide +kernel, Or.inr ⟨by decide +kernel, rfl⟩⟩
def cf_L_open : Cd := fun pc =>
  if pc < 9 then (if pc < 4 then (if pc = 0 then some (.aload_n 0, [], []) else none)
   else (if pc < 8 then (if pc = 4 then some (.goto 6, [10], []) else none)
    else (if pc = 8 then some (.iconst 1, [1], []) else none)))
  else (if pc < 10 then (if pc = 9 then some (.ireturn, [0], []) else none)
   else (if pc < 11 then (if pc = 10 then some (.iconst 0, [0], []) else none)
    else (if pc = 11 then some (.ireturn, [0], []) else none)))
def cd_L_open : Cd := cdF 12 cf_L_open
set_option maxRecDepth 100000 in
theorem ok_L_open : codeOk (MT 295) cd_L_open := okAll_at (by decide +kernel)
theorem r_L_open {G : En} {Q : Option Value → Mem → Prop} {X : String → Mem → Prop} {pc : Nat} {L : List (Option Value)} {st : List Value} {M : Mem} {kc ks : Nat} (cut : Nat → Bool) (n : Nat) (h : wp G (MT 295) cd_L_open cut Q X 1 6 n pc L st M kc ks) : Go G (MT 295) Q X pc L st M kc ks := wp_go ok_L_open ⟨by decide +kernel, by decide +kernel⟩ n _ _ _ _ _ _ h
theorem hc_L_open {G : En} {Q : Option Value → Mem → Prop} {X : String → Mem → Prop} {L : List (Option Value)} {st : List Value} {M : Mem} {kc ks : Nat} (h : w_CX G (MT 295) (MT 130) 0 0 11 1 6 Q X 1 L st M kc ks) : Go G (MT 295) Q X 1 L st M kc ks := by
  have g := clk_at (mi := MT 295) (k := 130) (n := 0) (mc := 1) (ms := 6) (by decide +kernel)
  have g3 := g.2.2
  unfold mtOk at g3
  exact s_catch (idx := 36) (q := (RX11, TX11, 9)) (by decide +kernel) g.1 (inT_at (i := 847) (by decide +kernel)) (inT_at (i := 848) (by decide +kernel)) (inT_at (i := 849) (by decide +kernel)) rfl (by decide +kernel) g.2.1 h
theorem ca_L_open_IS : catchOk (MT 295) 1 xIS 7 1 8 := ⟨[], (0, 4, 7, 15), [], by decide +kernel, (fun z hz => nomatch hz), ⟨by decide, by decide⟩, rfl, by decide, inT_at (i := 654) (by decide +kernel), cs_IS, by decide +kernel, Or.inl ⟨1, rfl, by decide +kernel, rfl⟩⟩
def cf_L_message : Cd := fun pc =>
  if pc < 9 then (if pc < 1 then (if pc = 0 then some (.aload_n 0, [], []) else none)
   else (if pc < 5 then (if pc = 1 then some (.iload_n 1, [], []) else none)
    else (if pc = 5 then some (.goto 6, [11], []) else none)))
  else (if pc < 11 then (if pc < 10 then (if pc = 9 then some (.iconst 1, [1], []) else none)
    else (if pc = 10 then some (.ireturn, [0], []) else none))
   else (if pc < 12 then (if pc = 11 then some (.iconst 0, [0], []) else none)
    else (if pc = 12 then some (.ireturn, [0], []) else none)))
def cd_L_message : Cd := cdF 13 cf_L_message
set_option maxRecDepth 100000 in
theorem ok_L_message : codeOk (MT 296) cd_L_message := okAll_at (by decide +kernel)
theorem r_L_message {G : En} {Q : Option Value → Mem → Prop} {X : String → Mem → Prop} {pc : Nat} {L : List (Option Value)} {st : List Value} {M : Mem} {kc ks : Nat} (cut : Nat → Bool) (n : Nat) (h : wp G (MT 296) cd_L_message cut Q X 1 6 n pc L st M kc ks) : Go G (MT 296) Q X pc L st M kc ks := wp_go ok_L_message ⟨by decide +kernel, by decide +kernel⟩ n _ _ _ _ _ _ h
theorem hc_L_message {G : En} {Q : Option Value → Mem → Prop} {X : String → Mem → Prop} {L : List (Option Value)} {st : List Value} {M : Mem} {kc ks : Nat} (h : w_CX G (MT 296) (MT 131) 1 0 11 1 6 Q X 2 L st M kc ks) : Go G (MT 296) Q X 2 L st M kc ks := by
  have g := clk_at (mi := MT 296) (k := 131) (n := 1) (mc := 1) (ms := 6) (by decide +kernel)
  have g3 := g.2.2
  unfold mtOk at g3
  exact s_catch (idx := 39) (q := (RX11, TX11, 9)) (by decide +kernel) g.1 (inT_at (i := 854) (by decide +kernel)) (inT_at (i := 855) (by decide +kernel)) (inT_at (i := 856) (by decide +kernel)) rfl (by decide +kernel) g.2.1 h
theorem ca_L_message_IA : catchOk (MT 296) 2 xIA 8 2 9 := ⟨[], (0, 5, 8, 13), [], by decide +kernel, (fun z hz => nomatch hz), ⟨by decide, by decide⟩, rfl, by decide, inT_at (i := 653) (by decide +kernel), cs_IA, by decide +kernel, Or.inl ⟨2, rfl, by decide +kernel, rfl⟩⟩
def cf_L_digits : Cd := fun pc =>
  if pc < 11 then (if pc < 2 then (if pc < 1 then (if pc = 0 then some (.aload_n 0, [], []) else none)
    else (if pc = 1 then some (.iload_n 1, [], []) else none))
   else (if pc < 6 then (if pc = 2 then some (.lload_n 2, [], []) else none)
    else (if pc = 6 then some (.goto 7, [13], []) else none)))
  else (if pc < 13 then (if pc < 12 then (if pc = 11 then some (.iconst 1, [1], []) else none)
    else (if pc = 12 then some (.ireturn, [0], []) else none))
   else (if pc < 14 then (if pc = 13 then some (.iconst 0, [0], []) else none)
    else (if pc = 14 then some (.ireturn, [0], []) else none)))
def cd_L_digits : Cd := cdF 15 cf_L_digits
set_option maxRecDepth 100000 in
theorem ok_L_digits : codeOk (MT 297) cd_L_digits := okAll_at (by decide +kernel)
theorem r_L_digits {G : En} {Q : Option Value → Mem → Prop} {X : String → Mem → Prop} {pc : Nat} {L : List (Option Value)} {st : List Value} {M : Mem} {kc ks : Nat} (cut : Nat → Bool) (n : Nat) (h : wp G (MT 297) cd_L_digits cut Q X 1 6 n pc L st M kc ks) : Go G (MT 297) Q X pc L st M kc ks := wp_go ok_L_digits ⟨by decide +kernel, by decide +kernel⟩ n _ _ _ _ _ _ h
theorem hc_L_digits {G : En} {Q : Option Value → Mem → Prop} {X : String → Mem → Prop} {L : List (Option Value)} {st : List Value} {M : Mem} {kc ks : Nat} (h : w_CX G (MT 297) (MT 132) 2 0 11 1 6 Q X 3 L st M kc ks) : Go G (MT 297) Q X 3 L st M kc ks := by
  have g := clk_at (mi := MT 297) (k := 132) (n := 2) (mc := 1) (ms := 6) (by decide +kernel)
  have g3 := g.2.2
  unfold mtOk at g3
  exact s_catch (idx := 43) (q := (RX11, TX11, 9)) (by decide +kernel) g.1 (inT_at (i := 866) (by decide +kernel)) (inT_at (i := 867) (by decide +kernel)) (inT_at (i := 868) (by decide +kernel)) rfl (by decide +kernel) g.2.1 h
theorem ca_L_digits_IA : catchOk (MT 297) 3 xIA 9 4 11 := ⟨[], (0, 6, 9, 13), [], by decide +kernel, (fun z hz => nomatch hz), ⟨by decide, by decide⟩, rfl, by decide, inT_at (i := 653) (by decide +kernel), cs_IA, by decide +kernel, Or.inr ⟨by decide +kernel, rfl⟩⟩
def cf_L_letters : Cd := fun pc =>
  if pc < 8 then (if pc < 2 then (if pc < 1 then (if pc = 0 then some (.aload_n 0, [], []) else none)
    else (if pc = 1 then some (.iload_n 1, [], []) else none))
   else (if pc < 3 then (if pc = 2 then some (.lload_n 2, [], []) else none)
    else (if pc = 3 then some (.iload 4, [], []) else none)))
  else (if pc < 14 then (if pc < 13 then (if pc = 8 then some (.goto 7, [15], []) else none)
    else (if pc = 13 then some (.iconst 1, [1], []) else none))
   else (if pc < 15 then (if pc = 14 then some (.ireturn, [0], []) else none)
    else (if pc < 16 then (if pc = 15 then some (.iconst 0, [0], []) else none)
     else (if pc = 16 then some (.ireturn, [0], []) else none))))
def cd_L_letters : Cd := cdF 17 cf_L_letters
set_option maxRecDepth 100000 in
theorem ok_L_letters : codeOk (MT 298) cd_L_letters := okAll_at (by decide +kernel)
theorem r_L_letters {G : En} {Q : Option Value → Mem → Prop} {X : String → Mem → Prop} {pc : Nat} {L : List (Option Value)} {st : List Value} {M : Mem} {kc ks : Nat} (cut : Nat → Bool) (n : Nat) (h : wp G (MT 298) cd_L_letters cut Q X 2 12 n pc L st M kc ks) : Go G (MT 298) Q X pc L st M kc ks := wp_go ok_L_letters ⟨by decide +kernel, by decide +kernel⟩ n _ _ _ _ _ _ h
theorem hc_L_letters {G : En} {Q : Option Value → Mem → Prop} {X : String → Mem → Prop} {L : List (Option Value)} {st : List Value} {M : Mem} {kc ks : Nat} (h : w_CX G (MT 298) (MT 133) 3 0 11 2 12 Q X 5 L st M kc ks) : Go G (MT 298) Q X 5 L st M kc ks := by
  have g := clk_at (mi := MT 298) (k := 133) (n := 3) (mc := 2) (ms := 12) (by decide +kernel)
  have g3 := g.2.2
  unfold mtOk at g3
  exact s_catch (idx := 47) (q := (RX11, TX11, 9)) (by decide +kernel) g.1 (inT_at (i := 897) (by decide +kernel)) (inT_at (i := 898) (by decide +kernel)) (inT_at (i := 899) (by decide +kernel)) rfl (by decide +kernel) g.2.1 h
theorem ca_L_letters_IA : catchOk (MT 298) 5 xIA 11 5 13 := ⟨[], (0, 8, 11, 13), [], by decide +kernel, (fun z hz => nomatch hz), ⟨by decide, by decide⟩, rfl, by decide, inT_at (i := 653) (by decide +kernel), cs_IA, by decide +kernel, Or.inr ⟨by decide +kernel, rfl⟩⟩
def cf_L_approval : Cd := fun pc =>
  if pc < 9 then (if pc < 1 then (if pc = 0 then some (.aload_n 0, [], []) else none)
   else (if pc < 5 then (if pc = 1 then some (.iload_n 1, [], []) else none)
    else (if pc = 5 then some (.goto 6, [11], []) else none)))
  else (if pc < 11 then (if pc < 10 then (if pc = 9 then some (.iconst 1, [1], []) else none)
    else (if pc = 10 then some (.ireturn, [0], []) else none))
   else (if pc < 12 then (if pc = 11 then some (.iconst 0, [0], []) else none)
    else (if pc = 12 then some (.ireturn, [0], []) else none)))
def cd_L_approval : Cd := cdF 13 cf_L_approval
set_option maxRecDepth 100000 in
theorem ok_L_approval : codeOk (MT 299) cd_L_approval := okAll_at (by decide +kernel)
theorem r_L_approval {G : En} {Q : Option Value → Mem → Prop} {X : String → Mem → Prop} {pc : Nat} {L : List (Option Value)} {st : List Value} {M : Mem} {kc ks : Nat} (cut : Nat → Bool) (n : Nat) (h : wp G (MT 299) cd_L_approval cut Q X 1 6 n pc L st M kc ks) : Go G (MT 299) Q X pc L st M kc ks := wp_go ok_L_approval ⟨by decide +kernel, by decide +kernel⟩ n _ _ _ _ _ _ h
theorem hc_L_approval {G : En} {Q : Option Value → Mem → Prop} {X : String → Mem → Prop} {L : List (Option Value)} {st : List Value} {M : Mem} {kc ks : Nat} (h : w_CX G (MT 299) (MT 134) 1 0 11 1 6 Q X 2 L st M kc ks) : Go G (MT 299) Q X 2 L st M kc ks := by
  have g := clk_at (mi := MT 299) (k := 134) (n := 1) (mc := 1) (ms := 6) (by decide +kernel)
  have g3 := g.2.2
  unfold mtOk at g3
  exact s_catch (idx := 51) (q := (RX11, TX11, 9)) (by decide +kernel) g.1 (inT_at (i := 909) (by decide +kernel)) (inT_at (i := 910) (by decide +kernel)) (inT_at (i := 911) (by decide +kernel)) rfl (by decide +kernel) g.2.1 h
theorem ca_L_approval_IA : catchOk (MT 299) 2 xIA 8 2 9 := ⟨[], (0, 5, 8, 13), [], by decide +kernel, (fun z hz => nomatch hz), ⟨by decide, by decide⟩, rfl, by decide, inT_at (i := 653) (by decide +kernel), cs_IA, by decide +kernel, Or.inl ⟨2, rfl, by decide +kernel, rfl⟩⟩
def cf_L_original : Cd := fun pc =>
  if pc < 7 then (if pc < 2 then (if pc < 1 then (if pc = 0 then some (.aload_n 0, [], []) else none)
    else (if pc = 1 then some (.iload_n 1, [], []) else none))
   else (if pc < 3 then (if pc = 2 then some (.iload_n 2, [], []) else none)
    else (if pc = 3 then some (.iload_n 3, [], []) else none)))
  else (if pc < 13 then (if pc < 12 then (if pc = 7 then some (.goto 7, [14], []) else none)
    else (if pc = 12 then some (.iconst 1, [1], []) else none))
   else (if pc < 14 then (if pc = 13 then some (.ireturn, [0], []) else none)
    else (if pc < 15 then (if pc = 14 then some (.iconst 0, [0], []) else none)
     else (if pc = 15 then some (.ireturn, [0], []) else none))))
def cd_L_original : Cd := cdF 16 cf_L_original
set_option maxRecDepth 100000 in
theorem ok_L_original : codeOk (MT 300) cd_L_original := okAll_at (by decide +kernel)
theorem r_L_original {G : En} {Q : Option Value → Mem → Prop} {X : String → Mem → Prop} {pc : Nat} {L : List (Option Value)} {st : List Value} {M : Mem} {kc ks : Nat} (cut : Nat → Bool) (n : Nat) (h : wp G (MT 300) cd_L_original cut Q X 1 6 n pc L st M kc ks) : Go G (MT 300) Q X pc L st M kc ks := wp_go ok_L_original ⟨by decide +kernel, by decide +kernel⟩ n _ _ _ _ _ _ h
theorem hc_L_original {G : En} {Q : Option Value → Mem → Prop} {X : String → Mem → Prop} {L : List (Option Value)} {st : List Value} {M : Mem} {kc ks : Nat} (h : w_CX G (MT 300) (MT 135) 3 0 11 1 6 Q X 4 L st M kc ks) : Go G (MT 300) Q X 4 L st M kc ks := by
  have g := clk_at (mi := MT 300) (k := 135) (n := 3) (mc := 1) (ms := 6) (by decide +kernel)
  have g3 := g.2.2
  unfold mtOk at g3
  exact s_catch (idx := 54) (q := (RX11, TX11, 9)) (by decide +kernel) g.1 (inT_at (i := 921) (by decide +kernel)) (inT_at (i := 922) (by decide +kernel)) (inT_at (i := 923) (by decide +kernel)) rfl (by decide +kernel) g.2.1 h
theorem ca_L_original_IA : catchOk (MT 300) 4 xIA 10 4 12 := ⟨[], (0, 7, 10, 13), [], by decide +kernel, (fun z hz => nomatch hz), ⟨by decide, by decide⟩, rfl, by decide, inT_at (i := 653) (by decide +kernel), cs_IA, by decide +kernel, Or.inr ⟨by decide +kernel, rfl⟩⟩
def cf_L_omit : Cd := fun pc =>
  if pc < 14 then (if pc < 3 then (if pc < 1 then (if pc = 0 then some (.aload_n 2, [], []) else none)
    else (if pc < 2 then (if pc = 1 then some (.iconst 0, [0], []) else none)
     else (if pc = 2 then some (.aload_n 0, [], []) else none)))
   else (if pc < 10 then (if pc < 7 then (if pc = 3 then some (.iload_n 1, [], []) else none)
     else (if pc = 7 then some (.ifCond .eq 7, [14], []) else none))
    else (if pc < 11 then (if pc = 10 then some (.lconst 1, [1], []) else none)
     else (if pc = 11 then some (.goto 4, [15], []) else none))))
  else (if pc < 20 then (if pc < 15 then (if pc = 14 then some (.lconst 0, [0], []) else none)
    else (if pc < 16 then (if pc = 15 then some (.lastore, [], []) else none)
     else (if pc = 16 then some (.goto 6, [22], []) else none)))
   else (if pc < 22 then (if pc < 21 then (if pc = 20 then some (.iconst 1, [1], []) else none)
     else (if pc = 21 then some (.ireturn, [0], []) else none))
    else (if pc < 23 then (if pc = 22 then some (.iconst 0, [0], []) else none)
     else (if pc = 23 then some (.ireturn, [0], []) else none))))
def cd_L_omit : Cd := cdF 24 cf_L_omit
set_option maxRecDepth 100000 in
theorem ok_L_omit : codeOk (MT 301) cd_L_omit := okAll_at (by decide +kernel)
theorem r_L_omit {G : En} {Q : Option Value → Mem → Prop} {X : String → Mem → Prop} {pc : Nat} {L : List (Option Value)} {st : List Value} {M : Mem} {kc ks : Nat} (cut : Nat → Bool) (n : Nat) (h : wp G (MT 301) cd_L_omit cut Q X 1 6 n pc L st M kc ks) : Go G (MT 301) Q X pc L st M kc ks := wp_go ok_L_omit ⟨by decide +kernel, by decide +kernel⟩ n _ _ _ _ _ _ h
theorem hc_L_omit {G : En} {Q : Option Value → Mem → Prop} {X : String → Mem → Prop} {L : List (Option Value)} {st : List Value} {M : Mem} {kc ks : Nat} (h : w_CX G (MT 301) (MT 136) 1 1 11 1 6 Q X 4 L st M kc ks) : Go G (MT 301) Q X 4 L st M kc ks := by
  have g := clk_at (mi := MT 301) (k := 136) (n := 1) (mc := 1) (ms := 6) (by decide +kernel)
  have g3 := g.2.2
  unfold mtOk at g3
  exact s_catch (idx := 58) (q := (RX11, TX11, 9)) (by decide +kernel) g.1 (inT_at (i := 935) (by decide +kernel)) (inT_at (i := 936) (by decide +kernel)) (inT_at (i := 937) (by decide +kernel)) rfl (by decide +kernel) g.2.1 h
theorem ca_L_omit_IA : catchOk (MT 301) 4 xIA 19 3 20 := ⟨[], (0, 16, 19, 13), [], by decide +kernel, (fun z hz => nomatch hz), ⟨by decide, by decide⟩, rfl, by decide, inT_at (i := 653) (by decide +kernel), cs_IA, by decide +kernel, Or.inl ⟨3, rfl, by decide +kernel, rfl⟩⟩
def cf_L_ask : Cd := fun pc =>
  if pc < 11 then (if pc < 5 then (if pc < 3 then (if pc < 2 then (if pc = 0 then some (.aload 9, [], []) else none)
     else (if pc = 2 then some (.iconst 0, [0], []) else none))
    else (if pc < 4 then (if pc = 3 then some (.aload_n 0, [], []) else none)
     else (if pc = 4 then some (.iload_n 1, [], []) else none)))
   else (if pc < 7 then (if pc < 6 then (if pc = 5 then some (.iload_n 2, [], []) else none)
     else (if pc = 6 then some (.iload_n 3, [], []) else none))
    else (if pc < 9 then (if pc = 7 then some (.iload 4, [], []) else none)
     else (if pc = 9 then some (.lload 5, [], []) else none))))
  else (if pc < 20 then (if pc < 18 then (if pc < 13 then (if pc = 11 then some (.iload 7, [], []) else none)
     else (if pc = 13 then some (.iload 8, [], []) else none))
    else (if pc < 19 then (if pc = 18 then some (.i2l, [], []) else none)
     else (if pc = 19 then some (.lastore, [], []) else none)))
   else (if pc < 26 then (if pc < 25 then (if pc = 20 then some (.goto 7, [27], []) else none)
     else (if pc = 25 then some (.iconst 1, [1], []) else none))
    else (if pc < 27 then (if pc = 26 then some (.ireturn, [0], []) else none)
     else (if pc < 28 then (if pc = 27 then some (.iconst 0, [0], []) else none)
      else (if pc = 28 then some (.ireturn, [0], []) else none)))))
def cd_L_ask : Cd := cdF 29 cf_L_ask
set_option maxRecDepth 100000 in
theorem ok_L_ask : codeOk (MT 302) cd_L_ask := okAll_at (by decide +kernel)
theorem r_L_ask {G : En} {Q : Option Value → Mem → Prop} {X : String → Mem → Prop} {pc : Nat} {L : List (Option Value)} {st : List Value} {M : Mem} {kc ks : Nat} (cut : Nat → Bool) (n : Nat) (h : wp G (MT 302) cd_L_ask cut Q X 2 12 n pc L st M kc ks) : Go G (MT 302) Q X pc L st M kc ks := wp_go ok_L_ask ⟨by decide +kernel, by decide +kernel⟩ n _ _ _ _ _ _ h
theorem hc_L_ask {G : En} {Q : Option Value → Mem → Prop} {X : String → Mem → Prop} {L : List (Option Value)} {st : List Value} {M : Mem} {kc ks : Nat} (h : w_CX G (MT 302) (MT 138) 7 1 11 2 12 Q X 15 L st M kc ks) : Go G (MT 302) Q X 15 L st M kc ks := by
  have g := clk_at (mi := MT 302) (k := 138) (n := 7) (mc := 2) (ms := 12) (by decide +kernel)
  have g3 := g.2.2
  unfold mtOk at g3
  exact s_catch (idx := 62) (q := (RX11, TX11, 9)) (by decide +kernel) g.1 (inT_at (i := 947) (by decide +kernel)) (inT_at (i := 948) (by decide +kernel)) (inT_at (i := 949) (by decide +kernel)) rfl (by decide +kernel) g.2.1 h
theorem ca_L_ask_IA : catchOk (MT 302) 15 xIA 23 10 25 := ⟨[], (0, 20, 23, 13), [], by decide +kernel, (fun z hz => nomatch hz), ⟨by decide, by decide⟩, rfl, by decide, inT_at (i := 653) (by decide +kernel), cs_IA, by decide +kernel, Or.inr ⟨by decide +kernel, rfl⟩⟩
def cf_L_present : Cd := fun pc =>
  if pc < 13 then (if pc < 5 then (if pc < 3 then (if pc < 2 then (if pc = 0 then some (.aload 6, [], []) else none)
     else (if pc = 2 then some (.iconst 0, [0], []) else none))
    else (if pc < 4 then (if pc = 3 then some (.aload_n 0, [], []) else none)
     else (if pc = 4 then some (.iload_n 1, [], []) else none)))
   else (if pc < 7 then (if pc < 6 then (if pc = 5 then some (.iload_n 2, [], []) else none)
     else (if pc = 6 then some (.lload_n 3, [], []) else none))
    else (if pc < 12 then (if pc = 7 then some (.iload 5, [], []) else none)
     else (if pc = 12 then some (.i2l, [], []) else none))))
  else (if pc < 23 then (if pc < 19 then (if pc < 14 then (if pc = 13 then some (.lastore, [], []) else none)
     else (if pc = 14 then some (.goto 11, [25], []) else none))
    else (if pc < 20 then (if pc = 19 then some (.iconst 1, [1], []) else none)
     else (if pc = 20 then some (.ireturn, [0], []) else none)))
   else (if pc < 25 then (if pc < 24 then (if pc = 23 then some (.iconst 2, [2], []) else none)
     else (if pc = 24 then some (.ireturn, [0], []) else none))
    else (if pc < 26 then (if pc = 25 then some (.iconst 0, [0], []) else none)
     else (if pc = 26 then some (.ireturn, [0], []) else none))))
def cd_L_present : Cd := cdF 27 cf_L_present
set_option maxRecDepth 100000 in
theorem ok_L_present : codeOk (MT 303) cd_L_present := okAll_at (by decide +kernel)
theorem r_L_present {G : En} {Q : Option Value → Mem → Prop} {X : String → Mem → Prop} {pc : Nat} {L : List (Option Value)} {st : List Value} {M : Mem} {kc ks : Nat} (cut : Nat → Bool) (n : Nat) (h : wp G (MT 303) cd_L_present cut Q X 3 18 n pc L st M kc ks) : Go G (MT 303) Q X pc L st M kc ks := wp_go ok_L_present ⟨by decide +kernel, by decide +kernel⟩ n _ _ _ _ _ _ h
theorem hc_L_present {G : En} {Q : Option Value → Mem → Prop} {X : String → Mem → Prop} {L : List (Option Value)} {st : List Value} {M : Mem} {kc ks : Nat} (h : w_CX G (MT 303) (MT 139) 4 1 11 3 18 Q X 9 L st M kc ks) : Go G (MT 303) Q X 9 L st M kc ks := by
  have g := clk_at (mi := MT 303) (k := 139) (n := 4) (mc := 3) (ms := 18) (by decide +kernel)
  have g3 := g.2.2
  unfold mtOk at g3
  exact s_catch (idx := 66) (q := (RX11, TX11, 9)) (by decide +kernel) g.1 (inT_at (i := 956) (by decide +kernel)) (inT_at (i := 957) (by decide +kernel)) (inT_at (i := 958) (by decide +kernel)) rfl (by decide +kernel) g.2.1 h
theorem ca_L_present_IA : catchOk (MT 303) 9 xIA 17 7 19 := ⟨[], (0, 14, 17, 13), [(0, 14, 21, 15)], by decide +kernel, (fun z hz => nomatch hz), ⟨by decide, by decide⟩, rfl, by decide, inT_at (i := 653) (by decide +kernel), cs_IA, by decide +kernel, Or.inr ⟨by decide +kernel, rfl⟩⟩
theorem ca_L_present_IS : catchOk (MT 303) 9 xIS 21 7 23 := ⟨[(0, 14, 17, 13)], (0, 14, 21, 15), [], by decide +kernel, (fun z hz => by
    simp only [List.mem_singleton] at hz
    subst hz
    exact ⟨by decide, inT_at (i := 653) (by decide +kernel), rfl⟩), ⟨by decide, by decide⟩, rfl, by decide, inT_at (i := 654) (by decide +kernel), cs_IS, by decide +kernel, Or.inr ⟨by decide +kernel, rfl⟩⟩
def cf_L_undo : Cd := fun pc =>
  if pc < 13 then (if pc < 5 then (if pc < 3 then (if pc < 2 then (if pc = 0 then some (.aload 6, [], []) else none)
     else (if pc = 2 then some (.iconst 0, [0], []) else none))
    else (if pc < 4 then (if pc = 3 then some (.aload_n 0, [], []) else none)
     else (if pc = 4 then some (.iload_n 1, [], []) else none)))
   else (if pc < 7 then (if pc < 6 then (if pc = 5 then some (.iload_n 2, [], []) else none)
     else (if pc = 6 then some (.iload_n 3, [], []) else none))
    else (if pc < 12 then (if pc = 7 then some (.lload 4, [], []) else none)
     else (if pc = 12 then some (.i2l, [], []) else none))))
  else (if pc < 23 then (if pc < 19 then (if pc < 14 then (if pc = 13 then some (.lastore, [], []) else none)
     else (if pc = 14 then some (.goto 11, [25], []) else none))
    else (if pc < 20 then (if pc = 19 then some (.iconst 1, [1], []) else none)
     else (if pc = 20 then some (.ireturn, [0], []) else none)))
   else (if pc < 25 then (if pc < 24 then (if pc = 23 then some (.iconst 2, [2], []) else none)
     else (if pc = 24 then some (.ireturn, [0], []) else none))
    else (if pc < 26 then (if pc = 25 then some (.iconst 0, [0], []) else none)
     else (if pc = 26 then some (.ireturn, [0], []) else none))))
def cd_L_undo : Cd := cdF 27 cf_L_undo
set_option maxRecDepth 100000 in
theorem ok_L_undo : codeOk (MT 304) cd_L_undo := okAll_at (by decide +kernel)
theorem r_L_undo {G : En} {Q : Option Value → Mem → Prop} {X : String → Mem → Prop} {pc : Nat} {L : List (Option Value)} {st : List Value} {M : Mem} {kc ks : Nat} (cut : Nat → Bool) (n : Nat) (h : wp G (MT 304) cd_L_undo cut Q X 3 18 n pc L st M kc ks) : Go G (MT 304) Q X pc L st M kc ks := wp_go ok_L_undo ⟨by decide +kernel, by decide +kernel⟩ n _ _ _ _ _ _ h
theorem hc_L_undo {G : En} {Q : Option Value → Mem → Prop} {X : String → Mem → Prop} {L : List (Option Value)} {st : List Value} {M : Mem} {kc ks : Nat} (h : w_CX G (MT 304) (MT 140) 4 1 11 3 18 Q X 9 L st M kc ks) : Go G (MT 304) Q X 9 L st M kc ks := by
  have g := clk_at (mi := MT 304) (k := 140) (n := 4) (mc := 3) (ms := 18) (by decide +kernel)
  have g3 := g.2.2
  unfold mtOk at g3
  exact s_catch (idx := 70) (q := (RX11, TX11, 9)) (by decide +kernel) g.1 (inT_at (i := 979) (by decide +kernel)) (inT_at (i := 980) (by decide +kernel)) (inT_at (i := 981) (by decide +kernel)) rfl (by decide +kernel) g.2.1 h
theorem ca_L_undo_IA : catchOk (MT 304) 9 xIA 17 7 19 := ⟨[], (0, 14, 17, 13), [(0, 14, 21, 15)], by decide +kernel, (fun z hz => nomatch hz), ⟨by decide, by decide⟩, rfl, by decide, inT_at (i := 653) (by decide +kernel), cs_IA, by decide +kernel, Or.inr ⟨by decide +kernel, rfl⟩⟩
theorem ca_L_undo_IS : catchOk (MT 304) 9 xIS 21 7 23 := ⟨[(0, 14, 17, 13)], (0, 14, 21, 15), [], by decide +kernel, (fun z hz => by
    simp only [List.mem_singleton] at hz
    subst hz
    exact ⟨by decide, inT_at (i := 653) (by decide +kernel), rfl⟩), ⟨by decide, by decide⟩, rfl, by decide, inT_at (i := 654) (by decide +kernel), cs_IS, by decide +kernel, Or.inr ⟨by decide +kernel, rfl⟩⟩
def cf_L_total : Cd := fun pc =>
  if pc < 10 then (if pc < 3 then (if pc < 1 then (if pc = 0 then some (.aload_n 3, [], []) else none)
    else (if pc < 2 then (if pc = 1 then some (.iconst 0, [0], []) else none)
     else (if pc = 2 then some (.aload_n 0, [], []) else none)))
   else (if pc < 8 then (if pc < 4 then (if pc = 3 then some (.iload_n 1, [], []) else none)
     else (if pc = 4 then some (.iload_n 2, [], []) else none))
    else (if pc < 9 then (if pc = 8 then some (.i2l, [], []) else none)
     else (if pc = 9 then some (.lastore, [], []) else none))))
  else (if pc < 19 then (if pc < 15 then (if pc = 10 then some (.goto 11, [21], []) else none)
    else (if pc < 16 then (if pc = 15 then some (.iconst 1, [1], []) else none)
     else (if pc = 16 then some (.ireturn, [0], []) else none)))
   else (if pc < 21 then (if pc < 20 then (if pc = 19 then some (.iconst 2, [2], []) else none)
     else (if pc = 20 then some (.ireturn, [0], []) else none))
    else (if pc < 22 then (if pc = 21 then some (.iconst 0, [0], []) else none)
     else (if pc = 22 then some (.ireturn, [0], []) else none))))
def cd_L_total : Cd := cdF 23 cf_L_total
set_option maxRecDepth 100000 in
theorem ok_L_total : codeOk (MT 305) cd_L_total := okAll_at (by decide +kernel)
theorem r_L_total {G : En} {Q : Option Value → Mem → Prop} {X : String → Mem → Prop} {pc : Nat} {L : List (Option Value)} {st : List Value} {M : Mem} {kc ks : Nat} (cut : Nat → Bool) (n : Nat) (h : wp G (MT 305) cd_L_total cut Q X 2 12 n pc L st M kc ks) : Go G (MT 305) Q X pc L st M kc ks := wp_go ok_L_total ⟨by decide +kernel, by decide +kernel⟩ n _ _ _ _ _ _ h
theorem hc_L_total {G : En} {Q : Option Value → Mem → Prop} {X : String → Mem → Prop} {L : List (Option Value)} {st : List Value} {M : Mem} {kc ks : Nat} (h : w_CX G (MT 305) (MT 141) 2 1 11 2 12 Q X 5 L st M kc ks) : Go G (MT 305) Q X 5 L st M kc ks := by
  have g := clk_at (mi := MT 305) (k := 141) (n := 2) (mc := 2) (ms := 12) (by decide +kernel)
  have g3 := g.2.2
  unfold mtOk at g3
  exact s_catch (idx := 74) (q := (RX11, TX11, 9)) (by decide +kernel) g.1 (inT_at (i := 986) (by decide +kernel)) (inT_at (i := 987) (by decide +kernel)) (inT_at (i := 988) (by decide +kernel)) rfl (by decide +kernel) g.2.1 h
theorem ca_L_total_IA : catchOk (MT 305) 5 xIA 13 4 15 := ⟨[], (0, 10, 13, 13), [(0, 10, 17, 15)], by decide +kernel, (fun z hz => nomatch hz), ⟨by decide, by decide⟩, rfl, by decide, inT_at (i := 653) (by decide +kernel), cs_IA, by decide +kernel, Or.inr ⟨by decide +kernel, rfl⟩⟩
theorem ca_L_total_IS : catchOk (MT 305) 5 xIS 17 4 19 := ⟨[(0, 10, 13, 13)], (0, 10, 17, 15), [], by decide +kernel, (fun z hz => by
    simp only [List.mem_singleton] at hz
    subst hz
    exact ⟨by decide, inT_at (i := 653) (by decide +kernel), rfl⟩), ⟨by decide, by decide⟩, rfl, by decide, inT_at (i := 654) (by decide +kernel), cs_IS, by decide +kernel, Or.inr ⟨by decide +kernel, rfl⟩⟩
def cf_L_feed : Cd := fun pc =>
  if pc < 9 then (if pc < 3 then (if pc < 1 then (if pc = 0 then some (.aload_n 2, [], []) else none)
    else (if pc < 2 then (if pc = 1 then some (.iconst 0, [0], []) else none)
     else (if pc = 2 then some (.aload_n 0, [], []) else none)))
   else (if pc < 7 then (if pc = 3 then some (.iload_n 1, [], []) else none)
    else (if pc < 8 then (if pc = 7 then some (.i2l, [], []) else none)
     else (if pc = 8 then some (.lastore, [], []) else none))))
  else (if pc < 16 then (if pc < 13 then (if pc = 9 then some (.goto 9, [18], []) else none)
    else (if pc < 14 then (if pc = 13 then some (.iconst 1, [1], []) else none)
     else (if pc = 14 then some (.ireturn, [0], []) else none)))
   else (if pc < 18 then (if pc < 17 then (if pc = 16 then some (.iconst 2, [2], []) else none)
     else (if pc = 17 then some (.ireturn, [0], []) else none))
    else (if pc < 19 then (if pc = 18 then some (.iconst 0, [0], []) else none)
     else (if pc = 19 then some (.ireturn, [0], []) else none))))
def cd_L_feed : Cd := cdF 20 cf_L_feed
set_option maxRecDepth 100000 in
theorem ok_L_feed : codeOk (MT 306) cd_L_feed := okAll_at (by decide +kernel)
theorem r_L_feed {G : En} {Q : Option Value → Mem → Prop} {X : String → Mem → Prop} {pc : Nat} {L : List (Option Value)} {st : List Value} {M : Mem} {kc ks : Nat} (cut : Nat → Bool) (n : Nat) (h : wp G (MT 306) cd_L_feed cut Q X 2 12 n pc L st M kc ks) : Go G (MT 306) Q X pc L st M kc ks := wp_go ok_L_feed ⟨by decide +kernel, by decide +kernel⟩ n _ _ _ _ _ _ h
theorem hc_L_feed {G : En} {Q : Option Value → Mem → Prop} {X : String → Mem → Prop} {L : List (Option Value)} {st : List Value} {M : Mem} {kc ks : Nat} (h : w_CX G (MT 306) (MT 142) 1 1 11 2 12 Q X 4 L st M kc ks) : Go G (MT 306) Q X 4 L st M kc ks := by
  have g := clk_at (mi := MT 306) (k := 142) (n := 1) (mc := 2) (ms := 12) (by decide +kernel)
  have g3 := g.2.2
  unfold mtOk at g3
  exact s_catch (idx := 78) (q := (RX11, TX11, 9)) (by decide +kernel) g.1 (inT_at (i := 997) (by decide +kernel)) (inT_at (i := 998) (by decide +kernel)) (inT_at (i := 999) (by decide +kernel)) rfl (by decide +kernel) g.2.1 h
theorem ca_L_feed_IA : catchOk (MT 306) 4 xIA 12 3 13 := ⟨[], (0, 9, 12, 13), [(0, 9, 15, 15)], by decide +kernel, (fun z hz => nomatch hz), ⟨by decide, by decide⟩, rfl, by decide, inT_at (i := 653) (by decide +kernel), cs_IA, by decide +kernel, Or.inl ⟨3, rfl, by decide +kernel, rfl⟩⟩
theorem ca_L_feed_IS : catchOk (MT 306) 4 xIS 15 3 16 := ⟨[(0, 9, 12, 13)], (0, 9, 15, 15), [], by decide +kernel, (fun z hz => by
    simp only [List.mem_singleton] at hz
    subst hz
    exact ⟨by decide, inT_at (i := 653) (by decide +kernel), rfl⟩), ⟨by decide, by decide⟩, rfl, by decide, inT_at (i := 654) (by decide +kernel), cs_IS, by decide +kernel, Or.inl ⟨3, rfl, by decide +kernel, rfl⟩⟩
def cf_L_trim : Cd := fun pc =>
  if pc < 8 then (if pc < 2 then (if pc < 1 then (if pc = 0 then some (.aload_n 2, [], []) else none)
    else (if pc = 1 then some (.iconst 0, [0], []) else none))
   else (if pc < 3 then (if pc = 2 then some (.aload_n 0, [], []) else none)
    else (if pc < 7 then (if pc = 3 then some (.iload_n 1, [], []) else none)
     else (if pc = 7 then some (.i2l, [], []) else none))))
  else (if pc < 14 then (if pc < 9 then (if pc = 8 then some (.lastore, [], []) else none)
    else (if pc < 13 then (if pc = 9 then some (.goto 6, [15], []) else none)
     else (if pc = 13 then some (.iconst 1, [1], []) else none)))
   else (if pc < 15 then (if pc = 14 then some (.ireturn, [0], []) else none)
    else (if pc < 16 then (if pc = 15 then some (.iconst 0, [0], []) else none)
     else (if pc = 16 then some (.ireturn, [0], []) else none))))
def cd_L_trim : Cd := cdF 17 cf_L_trim
set_option maxRecDepth 100000 in
theorem ok_L_trim : codeOk (MT 307) cd_L_trim := okAll_at (by decide +kernel)
theorem r_L_trim {G : En} {Q : Option Value → Mem → Prop} {X : String → Mem → Prop} {pc : Nat} {L : List (Option Value)} {st : List Value} {M : Mem} {kc ks : Nat} (cut : Nat → Bool) (n : Nat) (h : wp G (MT 307) cd_L_trim cut Q X 1 6 n pc L st M kc ks) : Go G (MT 307) Q X pc L st M kc ks := wp_go ok_L_trim ⟨by decide +kernel, by decide +kernel⟩ n _ _ _ _ _ _ h
theorem hc_L_trim {G : En} {Q : Option Value → Mem → Prop} {X : String → Mem → Prop} {L : List (Option Value)} {st : List Value} {M : Mem} {kc ks : Nat} (h : w_CX G (MT 307) (MT 143) 1 1 11 1 6 Q X 4 L st M kc ks) : Go G (MT 307) Q X 4 L st M kc ks := by
  have g := clk_at (mi := MT 307) (k := 143) (n := 1) (mc := 1) (ms := 6) (by decide +kernel)
  have g3 := g.2.2
  unfold mtOk at g3
  exact s_catch (idx := 81) (q := (RX11, TX11, 9)) (by decide +kernel) g.1 (inT_at (i := 1006) (by decide +kernel)) (inT_at (i := 1007) (by decide +kernel)) (inT_at (i := 1008) (by decide +kernel)) rfl (by decide +kernel) g.2.1 h
theorem ca_L_trim_IA : catchOk (MT 307) 4 xIA 12 3 13 := ⟨[], (0, 9, 12, 13), [], by decide +kernel, (fun z hz => nomatch hz), ⟨by decide, by decide⟩, rfl, by decide, inT_at (i := 653) (by decide +kernel), cs_IA, by decide +kernel, Or.inl ⟨3, rfl, by decide +kernel, rfl⟩⟩
def cf_L_spoil : Cd := fun pc =>
  if pc < 9 then (if pc < 3 then (if pc < 1 then (if pc = 0 then some (.aload_n 3, [], []) else none)
    else (if pc < 2 then (if pc = 1 then some (.iconst 0, [0], []) else none)
     else (if pc = 2 then some (.aload_n 0, [], []) else none)))
   else (if pc < 4 then (if pc = 3 then some (.iload_n 1, [], []) else none)
    else (if pc < 8 then (if pc = 4 then some (.iload_n 2, [], []) else none)
     else (if pc = 8 then some (.i2l, [], []) else none))))
  else (if pc < 16 then (if pc < 10 then (if pc = 9 then some (.lastore, [], []) else none)
    else (if pc < 15 then (if pc = 10 then some (.goto 7, [17], []) else none)
     else (if pc = 15 then some (.iconst 1, [1], []) else none)))
   else (if pc < 17 then (if pc = 16 then some (.ireturn, [0], []) else none)
    else (if pc < 18 then (if pc = 17 then some (.iconst 0, [0], []) else none)
     else (if pc = 18 then some (.ireturn, [0], []) else none))))
def cd_L_spoil : Cd := cdF 19 cf_L_spoil
set_option maxRecDepth 100000 in
theorem ok_L_spoil : codeOk (MT 308) cd_L_spoil := okAll_at (by decide +kernel)
theorem r_L_spoil {G : En} {Q : Option Value → Mem → Prop} {X : String → Mem → Prop} {pc : Nat} {L : List (Option Value)} {st : List Value} {M : Mem} {kc ks : Nat} (cut : Nat → Bool) (n : Nat) (h : wp G (MT 308) cd_L_spoil cut Q X 1 6 n pc L st M kc ks) : Go G (MT 308) Q X pc L st M kc ks := wp_go ok_L_spoil ⟨by decide +kernel, by decide +kernel⟩ n _ _ _ _ _ _ h
theorem hc_L_spoil {G : En} {Q : Option Value → Mem → Prop} {X : String → Mem → Prop} {L : List (Option Value)} {st : List Value} {M : Mem} {kc ks : Nat} (h : w_CX G (MT 308) (MT 144) 2 1 11 1 6 Q X 5 L st M kc ks) : Go G (MT 308) Q X 5 L st M kc ks := by
  have g := clk_at (mi := MT 308) (k := 144) (n := 2) (mc := 1) (ms := 6) (by decide +kernel)
  have g3 := g.2.2
  unfold mtOk at g3
  exact s_catch (idx := 84) (q := (RX11, TX11, 9)) (by decide +kernel) g.1 (inT_at (i := 1018) (by decide +kernel)) (inT_at (i := 1019) (by decide +kernel)) (inT_at (i := 1020) (by decide +kernel)) rfl (by decide +kernel) g.2.1 h
theorem ca_L_spoil_IA : catchOk (MT 308) 5 xIA 13 4 15 := ⟨[], (0, 10, 13, 13), [], by decide +kernel, (fun z hz => nomatch hz), ⟨by decide, by decide⟩, rfl, by decide, inT_at (i := 653) (by decide +kernel), cs_IA, by decide +kernel, Or.inr ⟨by decide +kernel, rfl⟩⟩
def cf_L_fault : Cd := fun pc =>
  if pc < 8 then (if pc < 2 then (if pc < 1 then (if pc = 0 then some (.aload_n 2, [], []) else none)
    else (if pc = 1 then some (.iconst 0, [0], []) else none))
   else (if pc < 3 then (if pc = 2 then some (.aload_n 0, [], []) else none)
    else (if pc < 7 then (if pc = 3 then some (.iload_n 1, [], []) else none)
     else (if pc = 7 then some (.i2l, [], []) else none))))
  else (if pc < 14 then (if pc < 9 then (if pc = 8 then some (.lastore, [], []) else none)
    else (if pc < 13 then (if pc = 9 then some (.goto 6, [15], []) else none)
     else (if pc = 13 then some (.iconst 1, [1], []) else none)))
   else (if pc < 15 then (if pc = 14 then some (.ireturn, [0], []) else none)
    else (if pc < 16 then (if pc = 15 then some (.iconst 0, [0], []) else none)
     else (if pc = 16 then some (.ireturn, [0], []) else none))))
def cd_L_fault : Cd := cdF 17 cf_L_fault
set_option maxRecDepth 100000 in
theorem ok_L_fault : codeOk (MT 309) cd_L_fault := okAll_at (by decide +kernel)
theorem r_L_fault {G : En} {Q : Option Value → Mem → Prop} {X : String → Mem → Prop} {pc : Nat} {L : List (Option Value)} {st : List Value} {M : Mem} {kc ks : Nat} (cut : Nat → Bool) (n : Nat) (h : wp G (MT 309) cd_L_fault cut Q X 1 6 n pc L st M kc ks) : Go G (MT 309) Q X pc L st M kc ks := wp_go ok_L_fault ⟨by decide +kernel, by decide +kernel⟩ n _ _ _ _ _ _ h
theorem hc_L_fault {G : En} {Q : Option Value → Mem → Prop} {X : String → Mem → Prop} {L : List (Option Value)} {st : List Value} {M : Mem} {kc ks : Nat} (h : w_CX G (MT 309) (MT 145) 1 1 11 1 6 Q X 4 L st M kc ks) : Go G (MT 309) Q X 4 L st M kc ks := by
  have g := clk_at (mi := MT 309) (k := 145) (n := 1) (mc := 1) (ms := 6) (by decide +kernel)
  have g3 := g.2.2
  unfold mtOk at g3
  exact s_catch (idx := 87) (q := (RX11, TX11, 9)) (by decide +kernel) g.1 (inT_at (i := 1033) (by decide +kernel)) (inT_at (i := 1034) (by decide +kernel)) (inT_at (i := 1035) (by decide +kernel)) rfl (by decide +kernel) g.2.1 h
theorem ca_L_fault_IA : catchOk (MT 309) 4 xIA 12 3 13 := ⟨[], (0, 9, 12, 13), [], by decide +kernel, (fun z hz => nomatch hz), ⟨by decide, by decide⟩, rfl, by decide, inT_at (i := 653) (by decide +kernel), cs_IA, by decide +kernel, Or.inl ⟨3, rfl, by decide +kernel, rfl⟩⟩
def cf_L_send : Cd := fun pc =>
  if pc < 8 then (if pc < 2 then (if pc < 1 then (if pc = 0 then some (.aload_n 1, [], []) else none)
    else (if pc = 1 then some (.iconst 0, [0], []) else none))
   else (if pc < 6 then (if pc = 2 then some (.aload_n 0, [], []) else none)
    else (if pc < 7 then (if pc = 6 then some (.i2l, [], []) else none)
     else (if pc = 7 then some (.lastore, [], []) else none))))
  else (if pc < 13 then (if pc < 12 then (if pc = 8 then some (.goto 6, [14], []) else none)
    else (if pc = 12 then some (.iconst 1, [1], []) else none))
   else (if pc < 14 then (if pc = 13 then some (.ireturn, [0], []) else none)
    else (if pc < 15 then (if pc = 14 then some (.iconst 0, [0], []) else none)
     else (if pc = 15 then some (.ireturn, [0], []) else none))))
def cd_L_send : Cd := cdF 16 cf_L_send
set_option maxRecDepth 100000 in
theorem ok_L_send : codeOk (MT 310) cd_L_send := okAll_at (by decide +kernel)
theorem r_L_send {G : En} {Q : Option Value → Mem → Prop} {X : String → Mem → Prop} {pc : Nat} {L : List (Option Value)} {st : List Value} {M : Mem} {kc ks : Nat} (cut : Nat → Bool) (n : Nat) (h : wp G (MT 310) cd_L_send cut Q X 1 6 n pc L st M kc ks) : Go G (MT 310) Q X pc L st M kc ks := wp_go ok_L_send ⟨by decide +kernel, by decide +kernel⟩ n _ _ _ _ _ _ h
theorem hc_L_send {G : En} {Q : Option Value → Mem → Prop} {X : String → Mem → Prop} {L : List (Option Value)} {st : List Value} {M : Mem} {kc ks : Nat} (h : w_CX G (MT 310) (MT 146) 0 1 11 1 6 Q X 3 L st M kc ks) : Go G (MT 310) Q X 3 L st M kc ks := by
  have g := clk_at (mi := MT 310) (k := 146) (n := 0) (mc := 1) (ms := 6) (by decide +kernel)
  have g3 := g.2.2
  unfold mtOk at g3
  exact s_catch (idx := 90) (q := (RX11, TX11, 9)) (by decide +kernel) g.1 (inT_at (i := 1107) (by decide +kernel)) (inT_at (i := 1108) (by decide +kernel)) (inT_at (i := 1109) (by decide +kernel)) rfl (by decide +kernel) g.2.1 h
theorem ca_L_send_IS : catchOk (MT 310) 3 xIS 11 2 12 := ⟨[], (0, 8, 11, 15), [], by decide +kernel, (fun z hz => nomatch hz), ⟨by decide, by decide⟩, rfl, by decide, inT_at (i := 654) (by decide +kernel), cs_IS, by decide +kernel, Or.inl ⟨2, rfl, by decide +kernel, rfl⟩⟩
def cf_L_byteAt : Cd := fun pc =>
  if pc < 8 then (if pc < 2 then (if pc < 1 then (if pc = 0 then some (.aload_n 2, [], []) else none)
    else (if pc = 1 then some (.iconst 0, [0], []) else none))
   else (if pc < 3 then (if pc = 2 then some (.aload_n 0, [], []) else none)
    else (if pc < 7 then (if pc = 3 then some (.iload_n 1, [], []) else none)
     else (if pc = 7 then some (.i2l, [], []) else none))))
  else (if pc < 14 then (if pc < 9 then (if pc = 8 then some (.lastore, [], []) else none)
    else (if pc < 13 then (if pc = 9 then some (.goto 6, [15], []) else none)
     else (if pc = 13 then some (.iconst 1, [1], []) else none)))
   else (if pc < 15 then (if pc = 14 then some (.ireturn, [0], []) else none)
    else (if pc < 16 then (if pc = 15 then some (.iconst 0, [0], []) else none)
     else (if pc = 16 then some (.ireturn, [0], []) else none))))
def cd_L_byteAt : Cd := cdF 17 cf_L_byteAt
set_option maxRecDepth 100000 in
theorem ok_L_byteAt : codeOk (MT 311) cd_L_byteAt := okAll_at (by decide +kernel)
theorem r_L_byteAt {G : En} {Q : Option Value → Mem → Prop} {X : String → Mem → Prop} {pc : Nat} {L : List (Option Value)} {st : List Value} {M : Mem} {kc ks : Nat} (cut : Nat → Bool) (n : Nat) (h : wp G (MT 311) cd_L_byteAt cut Q X 1 6 n pc L st M kc ks) : Go G (MT 311) Q X pc L st M kc ks := wp_go ok_L_byteAt ⟨by decide +kernel, by decide +kernel⟩ n _ _ _ _ _ _ h
theorem hc_L_byteAt {G : En} {Q : Option Value → Mem → Prop} {X : String → Mem → Prop} {L : List (Option Value)} {st : List Value} {M : Mem} {kc ks : Nat} (h : w_CX G (MT 311) (MT 148) 1 1 11 1 6 Q X 4 L st M kc ks) : Go G (MT 311) Q X 4 L st M kc ks := by
  have g := clk_at (mi := MT 311) (k := 148) (n := 1) (mc := 1) (ms := 6) (by decide +kernel)
  have g3 := g.2.2
  unfold mtOk at g3
  exact s_catch (idx := 94) (q := (RX11, TX11, 9)) (by decide +kernel) g.1 (inT_at (i := 1317) (by decide +kernel)) (inT_at (i := 1318) (by decide +kernel)) (inT_at (i := 1319) (by decide +kernel)) rfl (by decide +kernel) g.2.1 h
theorem ca_L_byteAt_IA : catchOk (MT 311) 4 xIA 12 3 13 := ⟨[], (0, 9, 12, 13), [], by decide +kernel, (fun z hz => nomatch hz), ⟨by decide, by decide⟩, rfl, by decide, inT_at (i := 653) (by decide +kernel), cs_IA, by decide +kernel, Or.inl ⟨3, rfl, by decide +kernel, rfl⟩⟩
def cf_L_ticks : Cd := fun pc =>
  if pc < 9 then (if pc < 3 then (if pc < 1 then (if pc = 0 then some (.aload_n 2, [], []) else none)
    else (if pc < 2 then (if pc = 1 then some (.iconst 0, [0], []) else none)
     else (if pc = 2 then some (.aload_n 0, [], []) else none)))
   else (if pc < 7 then (if pc = 3 then some (.iload_n 1, [], []) else none)
    else (if pc < 8 then (if pc = 7 then some (.i2l, [], []) else none)
     else (if pc = 8 then some (.lastore, [], []) else none))))
  else (if pc < 16 then (if pc < 13 then (if pc = 9 then some (.goto 9, [18], []) else none)
    else (if pc < 14 then (if pc = 13 then some (.iconst 1, [1], []) else none)
     else (if pc = 14 then some (.ireturn, [0], []) else none)))
   else (if pc < 18 then (if pc < 17 then (if pc = 16 then some (.iconst 2, [2], []) else none)
     else (if pc = 17 then some (.ireturn, [0], []) else none))
    else (if pc < 19 then (if pc = 18 then some (.iconst 0, [0], []) else none)
     else (if pc = 19 then some (.ireturn, [0], []) else none))))
def cd_L_ticks : Cd := cdF 20 cf_L_ticks
set_option maxRecDepth 100000 in
theorem ok_L_ticks : codeOk (MT 312) cd_L_ticks := okAll_at (by decide +kernel)
theorem r_L_ticks {G : En} {Q : Option Value → Mem → Prop} {X : String → Mem → Prop} {pc : Nat} {L : List (Option Value)} {st : List Value} {M : Mem} {kc ks : Nat} (cut : Nat → Bool) (n : Nat) (h : wp G (MT 312) cd_L_ticks cut Q X 2 12 n pc L st M kc ks) : Go G (MT 312) Q X pc L st M kc ks := wp_go ok_L_ticks ⟨by decide +kernel, by decide +kernel⟩ n _ _ _ _ _ _ h
theorem hc_L_ticks {G : En} {Q : Option Value → Mem → Prop} {X : String → Mem → Prop} {L : List (Option Value)} {st : List Value} {M : Mem} {kc ks : Nat} (h : w_CX G (MT 312) (MT 149) 1 1 11 2 12 Q X 4 L st M kc ks) : Go G (MT 312) Q X 4 L st M kc ks := by
  have g := clk_at (mi := MT 312) (k := 149) (n := 1) (mc := 2) (ms := 12) (by decide +kernel)
  have g3 := g.2.2
  unfold mtOk at g3
  exact s_catch (idx := 97) (q := (RX11, TX11, 9)) (by decide +kernel) g.1 (inT_at (i := 1324) (by decide +kernel)) (inT_at (i := 1325) (by decide +kernel)) (inT_at (i := 1326) (by decide +kernel)) rfl (by decide +kernel) g.2.1 h
theorem ca_L_ticks_IA : catchOk (MT 312) 4 xIA 12 3 13 := ⟨[], (0, 9, 12, 13), [(0, 9, 15, 15)], by decide +kernel, (fun z hz => nomatch hz), ⟨by decide, by decide⟩, rfl, by decide, inT_at (i := 653) (by decide +kernel), cs_IA, by decide +kernel, Or.inl ⟨3, rfl, by decide +kernel, rfl⟩⟩
theorem ca_L_ticks_IS : catchOk (MT 312) 4 xIS 15 3 16 := ⟨[(0, 9, 12, 13)], (0, 9, 15, 15), [], by decide +kernel, (fun z hz => by
    simp only [List.mem_singleton] at hz
    subst hz
    exact ⟨by decide, inT_at (i := 653) (by decide +kernel), rfl⟩), ⟨by decide, by decide⟩, rfl, by decide, inT_at (i := 654) (by decide +kernel), cs_IS, by decide +kernel, Or.inl ⟨3, rfl, by decide +kernel, rfl⟩⟩
def cf_L_block : Cd := fun pc =>
  if pc < 10 then (if pc < 3 then (if pc < 1 then (if pc = 0 then some (.aload_n 3, [], []) else none)
    else (if pc < 2 then (if pc = 1 then some (.iconst 0, [0], []) else none)
     else (if pc = 2 then some (.aload_n 0, [], []) else none)))
   else (if pc < 8 then (if pc < 4 then (if pc = 3 then some (.iload_n 1, [], []) else none)
     else (if pc = 4 then some (.iload_n 2, [], []) else none))
    else (if pc < 9 then (if pc = 8 then some (.i2l, [], []) else none)
     else (if pc = 9 then some (.lastore, [], []) else none))))
  else (if pc < 19 then (if pc < 15 then (if pc = 10 then some (.goto 11, [21], []) else none)
    else (if pc < 16 then (if pc = 15 then some (.iconst 1, [1], []) else none)
     else (if pc = 16 then some (.ireturn, [0], []) else none)))
   else (if pc < 21 then (if pc < 20 then (if pc = 19 then some (.iconst 2, [2], []) else none)
     else (if pc = 20 then some (.ireturn, [0], []) else none))
    else (if pc < 22 then (if pc = 21 then some (.iconst 0, [0], []) else none)
     else (if pc = 22 then some (.ireturn, [0], []) else none))))
def cd_L_block : Cd := cdF 23 cf_L_block
set_option maxRecDepth 100000 in
theorem ok_L_block : codeOk (MT 313) cd_L_block := okAll_at (by decide +kernel)
theorem r_L_block {G : En} {Q : Option Value → Mem → Prop} {X : String → Mem → Prop} {pc : Nat} {L : List (Option Value)} {st : List Value} {M : Mem} {kc ks : Nat} (cut : Nat → Bool) (n : Nat) (h : wp G (MT 313) cd_L_block cut Q X 2 12 n pc L st M kc ks) : Go G (MT 313) Q X pc L st M kc ks := wp_go ok_L_block ⟨by decide +kernel, by decide +kernel⟩ n _ _ _ _ _ _ h
theorem hc_L_block {G : En} {Q : Option Value → Mem → Prop} {X : String → Mem → Prop} {L : List (Option Value)} {st : List Value} {M : Mem} {kc ks : Nat} (h : w_CX G (MT 313) (MT 150) 2 1 11 2 12 Q X 5 L st M kc ks) : Go G (MT 313) Q X 5 L st M kc ks := by
  have g := clk_at (mi := MT 313) (k := 150) (n := 2) (mc := 2) (ms := 12) (by decide +kernel)
  have g3 := g.2.2
  unfold mtOk at g3
  exact s_catch (idx := 100) (q := (RX11, TX11, 9)) (by decide +kernel) g.1 (inT_at (i := 1351) (by decide +kernel)) (inT_at (i := 1352) (by decide +kernel)) (inT_at (i := 1353) (by decide +kernel)) rfl (by decide +kernel) g.2.1 h
theorem ca_L_block_IA : catchOk (MT 313) 5 xIA 13 4 15 := ⟨[], (0, 10, 13, 13), [(0, 10, 17, 15)], by decide +kernel, (fun z hz => nomatch hz), ⟨by decide, by decide⟩, rfl, by decide, inT_at (i := 653) (by decide +kernel), cs_IA, by decide +kernel, Or.inr ⟨by decide +kernel, rfl⟩⟩
theorem ca_L_block_IS : catchOk (MT 313) 5 xIS 17 4 19 := ⟨[(0, 10, 13, 13)], (0, 10, 17, 15), [], by decide +kernel, (fun z hz => by
    simp only [List.mem_singleton] at hz
    subst hz
    exact ⟨by decide, inT_at (i := 653) (by decide +kernel), rfl⟩), ⟨by decide, by decide⟩, rfl, by decide, inT_at (i := 654) (by decide +kernel), cs_IS, by decide +kernel, Or.inr ⟨by decide +kernel, rfl⟩⟩
def cf_L_charge : Cd := fun pc =>
  if pc < 11 then (if pc < 4 then (if pc < 2 then (if pc = 0 then some (.aload 4, [], []) else none)
    else (if pc < 3 then (if pc = 2 then some (.iconst 0, [0], []) else none)
     else (if pc = 3 then some (.aload_n 0, [], []) else none)))
   else (if pc < 9 then (if pc < 5 then (if pc = 4 then some (.iload_n 1, [], []) else none)
     else (if pc = 5 then some (.lload_n 2, [], []) else none))
    else (if pc < 10 then (if pc = 9 then some (.i2l, [], []) else none)
     else (if pc = 10 then some (.lastore, [], []) else none))))
  else (if pc < 20 then (if pc < 16 then (if pc = 11 then some (.goto 11, [22], []) else none)
    else (if pc < 17 then (if pc = 16 then some (.iconst 1, [1], []) else none)
     else (if pc = 17 then some (.ireturn, [0], []) else none)))
   else (if pc < 22 then (if pc < 21 then (if pc = 20 then some (.iconst 2, [2], []) else none)
     else (if pc = 21 then some (.ireturn, [0], []) else none))
    else (if pc < 23 then (if pc = 22 then some (.iconst 0, [0], []) else none)
     else (if pc = 23 then some (.ireturn, [0], []) else none))))
def cd_L_charge : Cd := cdF 24 cf_L_charge
set_option maxRecDepth 100000 in
theorem ok_L_charge : codeOk (MT 314) cd_L_charge := okAll_at (by decide +kernel)
theorem r_L_charge {G : En} {Q : Option Value → Mem → Prop} {X : String → Mem → Prop} {pc : Nat} {L : List (Option Value)} {st : List Value} {M : Mem} {kc ks : Nat} (cut : Nat → Bool) (n : Nat) (h : wp G (MT 314) cd_L_charge cut Q X 3 18 n pc L st M kc ks) : Go G (MT 314) Q X pc L st M kc ks := wp_go ok_L_charge ⟨by decide +kernel, by decide +kernel⟩ n _ _ _ _ _ _ h
theorem hc_L_charge {G : En} {Q : Option Value → Mem → Prop} {X : String → Mem → Prop} {L : List (Option Value)} {st : List Value} {M : Mem} {kc ks : Nat} (h : w_CX G (MT 314) (MT 151) 2 1 11 3 18 Q X 6 L st M kc ks) : Go G (MT 314) Q X 6 L st M kc ks := by
  have g := clk_at (mi := MT 314) (k := 151) (n := 2) (mc := 3) (ms := 18) (by decide +kernel)
  have g3 := g.2.2
  unfold mtOk at g3
  exact s_catch (idx := 104) (q := (RX11, TX11, 9)) (by decide +kernel) g.1 (inT_at (i := 1358) (by decide +kernel)) (inT_at (i := 1359) (by decide +kernel)) (inT_at (i := 1360) (by decide +kernel)) rfl (by decide +kernel) g.2.1 h
theorem ca_L_charge_IA : catchOk (MT 314) 6 xIA 14 5 16 := ⟨[], (0, 11, 14, 13), [(0, 11, 18, 15)], by decide +kernel, (fun z hz => nomatch hz), ⟨by decide, by decide⟩, rfl, by decide, inT_at (i := 653) (by decide +kernel), cs_IA, by decide +kernel, Or.inr ⟨by decide +kernel, rfl⟩⟩
theorem ca_L_charge_IS : catchOk (MT 314) 6 xIS 18 5 20 := ⟨[(0, 11, 14, 13)], (0, 11, 18, 15), [], by decide +kernel, (fun z hz => by
    simp only [List.mem_singleton] at hz
    subst hz
    exact ⟨by decide, inT_at (i := 653) (by decide +kernel), rfl⟩), ⟨by decide, by decide⟩, rfl, by decide, inT_at (i := 654) (by decide +kernel), cs_IS, by decide +kernel, Or.inr ⟨by decide +kernel, rfl⟩⟩
def cf_L_represent : Cd := fun pc =>
  if pc < 9 then (if pc < 3 then (if pc < 1 then (if pc = 0 then some (.aload_n 2, [], []) else none)
    else (if pc < 2 then (if pc = 1 then some (.iconst 0, [0], []) else none)
     else (if pc = 2 then some (.aload_n 0, [], []) else none)))
   else (if pc < 7 then (if pc = 3 then some (.iload_n 1, [], []) else none)
    else (if pc < 8 then (if pc = 7 then some (.i2l, [], []) else none)
     else (if pc = 8 then some (.lastore, [], []) else none))))
  else (if pc < 16 then (if pc < 13 then (if pc = 9 then some (.goto 9, [18], []) else none)
    else (if pc < 14 then (if pc = 13 then some (.iconst 1, [1], []) else none)
     else (if pc = 14 then some (.ireturn, [0], []) else none)))
   else (if pc < 18 then (if pc < 17 then (if pc = 16 then some (.iconst 2, [2], []) else none)
     else (if pc = 17 then some (.ireturn, [0], []) else none))
    else (if pc < 19 then (if pc = 18 then some (.iconst 0, [0], []) else none)
     else (if pc = 19 then some (.ireturn, [0], []) else none))))
def cd_L_represent : Cd := cdF 20 cf_L_represent
set_option maxRecDepth 100000 in
theorem ok_L_represent : codeOk (MT 315) cd_L_represent := okAll_at (by decide +kernel)
theorem r_L_represent {G : En} {Q : Option Value → Mem → Prop} {X : String → Mem → Prop} {pc : Nat} {L : List (Option Value)} {st : List Value} {M : Mem} {kc ks : Nat} (cut : Nat → Bool) (n : Nat) (h : wp G (MT 315) cd_L_represent cut Q X 2 12 n pc L st M kc ks) : Go G (MT 315) Q X pc L st M kc ks := wp_go ok_L_represent ⟨by decide +kernel, by decide +kernel⟩ n _ _ _ _ _ _ h
theorem hc_L_represent {G : En} {Q : Option Value → Mem → Prop} {X : String → Mem → Prop} {L : List (Option Value)} {st : List Value} {M : Mem} {kc ks : Nat} (h : w_CX G (MT 315) (MT 152) 1 1 11 2 12 Q X 4 L st M kc ks) : Go G (MT 315) Q X 4 L st M kc ks := by
  have g := clk_at (mi := MT 315) (k := 152) (n := 1) (mc := 2) (ms := 12) (by decide +kernel)
  have g3 := g.2.2
  unfold mtOk at g3
  exact s_catch (idx := 108) (q := (RX11, TX11, 9)) (by decide +kernel) g.1 (inT_at (i := 1377) (by decide +kernel)) (inT_at (i := 1378) (by decide +kernel)) (inT_at (i := 1379) (by decide +kernel)) rfl (by decide +kernel) g.2.1 h
theorem ca_L_represent_IA : catchOk (MT 315) 4 xIA 12 3 13 := ⟨[], (0, 9, 12, 13), [(0, 9, 15, 15)], by decide +kernel, (fun z hz => nomatch hz), ⟨by decide, by decide⟩, rfl, by decide, inT_at (i := 653) (by decide +kernel), cs_IA, by decide +kernel, Or.inl ⟨3, rfl, by decide +kernel, rfl⟩⟩
theorem ca_L_represent_IS : catchOk (MT 315) 4 xIS 15 3 16 := ⟨[(0, 9, 12, 13)], (0, 9, 15, 15), [], by decide +kernel, (fun z hz => by
    simp only [List.mem_singleton] at hz
    subst hz
    exact ⟨by decide, inT_at (i := 653) (by decide +kernel), rfl⟩), ⟨by decide, by decide⟩, rfl, by decide, inT_at (i := 654) (by decide +kernel), cs_IS, by decide +kernel, Or.inl ⟨3, rfl, by decide +kernel, rfl⟩⟩
def cf_L_decide : Cd := fun pc =>
  if pc < 10 then (if pc < 3 then (if pc < 1 then (if pc = 0 then some (.aload_n 3, [], []) else none)
    else (if pc < 2 then (if pc = 1 then some (.iconst 0, [0], []) else none)
     else (if pc = 2 then some (.aload_n 0, [], []) else none)))
   else (if pc < 8 then (if pc < 4 then (if pc = 3 then some (.iload_n 1, [], []) else none)
     else (if pc = 4 then some (.iload_n 2, [], []) else none))
    else (if pc < 9 then (if pc = 8 then some (.i2l, [], []) else none)
     else (if pc = 9 then some (.lastore, [], []) else none))))
  else (if pc < 19 then (if pc < 15 then (if pc = 10 then some (.goto 11, [21], []) else none)
    else (if pc < 16 then (if pc = 15 then some (.iconst 1, [1], []) else none)
     else (if pc = 16 then some (.ireturn, [0], []) else none)))
   else (if pc < 21 then (if pc < 20 then (if pc = 19 then some (.iconst 2, [2], []) else none)
     else (if pc = 20 then some (.ireturn, [0], []) else none))
    else (if pc < 22 then (if pc = 21 then some (.iconst 0, [0], []) else none)
     else (if pc = 22 then some (.ireturn, [0], []) else none))))
def cd_L_decide : Cd := cdF 23 cf_L_decide
set_option maxRecDepth 100000 in
theorem ok_L_decide : codeOk (MT 316) cd_L_decide := okAll_at (by decide +kernel)
theorem r_L_decide {G : En} {Q : Option Value → Mem → Prop} {X : String → Mem → Prop} {pc : Nat} {L : List (Option Value)} {st : List Value} {M : Mem} {kc ks : Nat} (cut : Nat → Bool) (n : Nat) (h : wp G (MT 316) cd_L_decide cut Q X 2 12 n pc L st M kc ks) : Go G (MT 316) Q X pc L st M kc ks := wp_go ok_L_decide ⟨by decide +kernel, by decide +kernel⟩ n _ _ _ _ _ _ h
theorem hc_L_decide {G : En} {Q : Option Value → Mem → Prop} {X : String → Mem → Prop} {L : List (Option Value)} {st : List Value} {M : Mem} {kc ks : Nat} (h : w_CX G (MT 316) (MT 153) 2 1 11 2 12 Q X 5 L st M kc ks) : Go G (MT 316) Q X 5 L st M kc ks := by
  have g := clk_at (mi := MT 316) (k := 153) (n := 2) (mc := 2) (ms := 12) (by decide +kernel)
  have g3 := g.2.2
  unfold mtOk at g3
  exact s_catch (idx := 111) (q := (RX11, TX11, 9)) (by decide +kernel) g.1 (inT_at (i := 1388) (by decide +kernel)) (inT_at (i := 1389) (by decide +kernel)) (inT_at (i := 1390) (by decide +kernel)) rfl (by decide +kernel) g.2.1 h
theorem ca_L_decide_IA : catchOk (MT 316) 5 xIA 13 4 15 := ⟨[], (0, 10, 13, 13), [(0, 10, 17, 15)], by decide +kernel, (fun z hz => nomatch hz), ⟨by decide, by decide⟩, rfl, by decide, inT_at (i := 653) (by decide +kernel), cs_IA, by decide +kernel, Or.inr ⟨by decide +kernel, rfl⟩⟩
theorem ca_L_decide_IS : catchOk (MT 316) 5 xIS 17 4 19 := ⟨[(0, 10, 13, 13)], (0, 10, 17, 15), [], by decide +kernel, (fun z hz => by
    simp only [List.mem_singleton] at hz
    subst hz
    exact ⟨by decide, inT_at (i := 653) (by decide +kernel), rfl⟩), ⟨by decide, by decide⟩, rfl, by decide, inT_at (i := 654) (by decide +kernel), cs_IS, by decide +kernel, Or.inr ⟨by decide +kernel, rfl⟩⟩
def cf_L_cutoff : Cd := fun pc =>
  if pc < 8 then (if pc < 2 then (if pc < 1 then (if pc = 0 then some (.aload_n 1, [], []) else none)
    else (if pc = 1 then some (.iconst 0, [0], []) else none))
   else (if pc < 6 then (if pc = 2 then some (.aload_n 0, [], []) else none)
    else (if pc < 7 then (if pc = 6 then some (.i2l, [], []) else none)
     else (if pc = 7 then some (.lastore, [], []) else none))))
  else (if pc < 13 then (if pc < 12 then (if pc = 8 then some (.goto 6, [14], []) else none)
    else (if pc = 12 then some (.iconst 1, [1], []) else none))
   else (if pc < 14 then (if pc = 13 then some (.ireturn, [0], []) else none)
    else (if pc < 15 then (if pc = 14 then some (.iconst 0, [0], []) else none)
     else (if pc = 15 then some (.ireturn, [0], []) else none))))
def cd_L_cutoff : Cd := cdF 16 cf_L_cutoff
set_option maxRecDepth 100000 in
theorem ok_L_cutoff : codeOk (MT 317) cd_L_cutoff := okAll_at (by decide +kernel)
theorem r_L_cutoff {G : En} {Q : Option Value → Mem → Prop} {X : String → Mem → Prop} {pc : Nat} {L : List (Option Value)} {st : List Value} {M : Mem} {kc ks : Nat} (cut : Nat → Bool) (n : Nat) (h : wp G (MT 317) cd_L_cutoff cut Q X 1 6 n pc L st M kc ks) : Go G (MT 317) Q X pc L st M kc ks := wp_go ok_L_cutoff ⟨by decide +kernel, by decide +kernel⟩ n _ _ _ _ _ _ h
theorem hc_L_cutoff {G : En} {Q : Option Value → Mem → Prop} {X : String → Mem → Prop} {L : List (Option Value)} {st : List Value} {M : Mem} {kc ks : Nat} (h : w_CX G (MT 317) (MT 154) 0 1 11 1 6 Q X 3 L st M kc ks) : Go G (MT 317) Q X 3 L st M kc ks := by
  have g := clk_at (mi := MT 317) (k := 154) (n := 0) (mc := 1) (ms := 6) (by decide +kernel)
  have g3 := g.2.2
  unfold mtOk at g3
  exact s_catch (idx := 114) (q := (RX11, TX11, 9)) (by decide +kernel) g.1 (inT_at (i := 1399) (by decide +kernel)) (inT_at (i := 1400) (by decide +kernel)) (inT_at (i := 1401) (by decide +kernel)) rfl (by decide +kernel) g.2.1 h
theorem ca_L_cutoff_IS : catchOk (MT 317) 3 xIS 11 2 12 := ⟨[], (0, 8, 11, 15), [], by decide +kernel, (fun z hz => nomatch hz), ⟨by decide, by decide⟩, rfl, by decide, inT_at (i := 654) (by decide +kernel), cs_IS, by decide +kernel, Or.inl ⟨2, rfl, by decide +kernel, rfl⟩⟩
def cf_L_checkpoint : Cd := fun pc =>
  if pc < 8 then (if pc < 2 then (if pc < 1 then (if pc = 0 then some (.aload_n 1, [], []) else none)
    else (if pc = 1 then some (.iconst 0, [0], []) else none))
   else (if pc < 6 then (if pc = 2 then some (.aload_n 0, [], []) else none)
    else (if pc < 7 then (if pc = 6 then some (.i2l, [], []) else none)
     else (if pc = 7 then some (.lastore, [], []) else none))))
  else (if pc < 13 then (if pc < 12 then (if pc = 8 then some (.goto 6, [14], []) else none)
    else (if pc = 12 then some (.iconst 1, [1], []) else none))
   else (if pc < 14 then (if pc = 13 then some (.ireturn, [0], []) else none)
    else (if pc < 15 then (if pc = 14 then some (.iconst 0, [0], []) else none)
     else (if pc = 15 then some (.ireturn, [0], []) else none))))
def cd_L_checkpoint : Cd := cdF 16 cf_L_checkpoint
set_option maxRecDepth 100000 in
theorem ok_L_checkpoint : codeOk (MT 318) cd_L_checkpoint := okAll_at (by decide +kernel)
theorem r_L_checkpoint {G : En} {Q : Option Value → Mem → Prop} {X : String → Mem → Prop} {pc : Nat} {L : List (Option Value)} {st : List Value} {M : Mem} {kc ks : Nat} (cut : Nat → Bool) (n : Nat) (h : wp G (MT 318) cd_L_checkpoint cut Q X 1 6 n pc L st M kc ks) : Go G (MT 318) Q X pc L st M kc ks := wp_go ok_L_checkpoint ⟨by decide +kernel, by decide +kernel⟩ n _ _ _ _ _ _ h
theorem hc_L_checkpoint {G : En} {Q : Option Value → Mem → Prop} {X : String → Mem → Prop} {L : List (Option Value)} {st : List Value} {M : Mem} {kc ks : Nat} (h : w_CX G (MT 318) (MT 155) 0 1 11 1 6 Q X 3 L st M kc ks) : Go G (MT 318) Q X 3 L st M kc ks := by
  have g := clk_at (mi := MT 318) (k := 155) (n := 0) (mc := 1) (ms := 6) (by decide +kernel)
  have g3 := g.2.2
  unfold mtOk at g3
  exact s_catch (idx := 117) (q := (RX11, TX11, 9)) (by decide +kernel) g.1 (inT_at (i := 1422) (by decide +kernel)) (inT_at (i := 1423) (by decide +kernel)) (inT_at (i := 1424) (by decide +kernel)) rfl (by decide +kernel) g.2.1 h
theorem ca_L_checkpoint_IS : catchOk (MT 318) 3 xIS 11 2 12 := ⟨[], (0, 8, 11, 15), [], by decide +kernel, (fun z hz => nomatch hz), ⟨by decide, by decide⟩, rfl, by decide, inT_at (i := 654) (by decide +kernel), cs_IS, by decide +kernel, Or.inl ⟨2, rfl, by decide +kernel, rfl⟩⟩
def cf_L_crash : Cd := fun pc =>
  if pc < 10 then (if pc < 5 then (if pc < 1 then (if pc = 0 then some (.aload_n 0, [], []) else none)
    else (if pc = 1 then some (.iload_n 1, [], []) else none))
   else (if pc < 9 then (if pc = 5 then some (.goto 9, [14], []) else none)
    else (if pc = 9 then some (.iconst 1, [1], []) else none)))
  else (if pc < 13 then (if pc < 12 then (if pc = 10 then some (.ireturn, [0], []) else none)
    else (if pc = 12 then some (.iconst 2, [2], []) else none))
   else (if pc < 14 then (if pc = 13 then some (.ireturn, [0], []) else none)
    else (if pc < 15 then (if pc = 14 then some (.iconst 0, [0], []) else none)
     else (if pc = 15 then some (.ireturn, [0], []) else none))))
def cd_L_crash : Cd := cdF 16 cf_L_crash
set_option maxRecDepth 100000 in
theorem ok_L_crash : codeOk (MT 319) cd_L_crash := okAll_at (by decide +kernel)
theorem r_L_crash {G : En} {Q : Option Value → Mem → Prop} {X : String → Mem → Prop} {pc : Nat} {L : List (Option Value)} {st : List Value} {M : Mem} {kc ks : Nat} (cut : Nat → Bool) (n : Nat) (h : wp G (MT 319) cd_L_crash cut Q X 2 12 n pc L st M kc ks) : Go G (MT 319) Q X pc L st M kc ks := wp_go ok_L_crash ⟨by decide +kernel, by decide +kernel⟩ n _ _ _ _ _ _ h
theorem hc_L_crash {G : En} {Q : Option Value → Mem → Prop} {X : String → Mem → Prop} {L : List (Option Value)} {st : List Value} {M : Mem} {kc ks : Nat} (h : w_CX G (MT 319) (MT 156) 1 0 11 2 12 Q X 2 L st M kc ks) : Go G (MT 319) Q X 2 L st M kc ks := by
  have g := clk_at (mi := MT 319) (k := 156) (n := 1) (mc := 2) (ms := 12) (by decide +kernel)
  have g3 := g.2.2
  unfold mtOk at g3
  exact s_catch (idx := 120) (q := (RX11, TX11, 9)) (by decide +kernel) g.1 (inT_at (i := 1434) (by decide +kernel)) (inT_at (i := 1435) (by decide +kernel)) (inT_at (i := 1436) (by decide +kernel)) rfl (by decide +kernel) g.2.1 h
theorem ca_L_crash_IA : catchOk (MT 319) 2 xIA 8 2 9 := ⟨[], (0, 5, 8, 13), [(0, 5, 11, 15)], by decide +kernel, (fun z hz => nomatch hz), ⟨by decide, by decide⟩, rfl, by decide, inT_at (i := 653) (by decide +kernel), cs_IA, by decide +kernel, Or.inl ⟨2, rfl, by decide +kernel, rfl⟩⟩
theorem ca_L_crash_IS : catchOk (MT 319) 2 xIS 11 2 12 := ⟨[(0, 5, 8, 13)], (0, 5, 11, 15), [], by decide +kernel, (fun z hz => by
    simp only [List.mem_singleton] at hz
    subst hz
    exact ⟨by decide, inT_at (i := 653) (by decide +kernel), rfl⟩), ⟨by decide, by decide⟩, rfl, by decide, inT_at (i := 654) (by decide +kernel), cs_IS, by decide +kernel, Or.inl ⟨2, rfl, by decide +kernel, rfl⟩⟩
def cf_L_recover : Cd := fun pc =>
  if pc < 8 then (if pc < 2 then (if pc < 1 then (if pc = 0 then some (.aload_n 1, [], []) else none)
    else (if pc = 1 then some (.iconst 0, [0], []) else none))
   else (if pc < 6 then (if pc = 2 then some (.aload_n 0, [], []) else none)
    else (if pc < 7 then (if pc = 6 then some (.i2l, [], []) else none)
     else (if pc = 7 then some (.lastore, [], []) else none))))
  else (if pc < 13 then (if pc < 12 then (if pc = 8 then some (.goto 6, [14], []) else none)
    else (if pc = 12 then some (.iconst 1, [1], []) else none))
   else (if pc < 14 then (if pc = 13 then some (.ireturn, [0], []) else none)
    else (if pc < 15 then (if pc = 14 then some (.iconst 0, [0], []) else none)
     else (if pc = 15 then some (.ireturn, [0], []) else none))))
def cd_L_recover : Cd := cdF 16 cf_L_recover
set_option maxRecDepth 100000 in
theorem ok_L_recover : codeOk (MT 320) cd_L_recover := okAll_at (by decide +kernel)
theorem r_L_recover {G : En} {Q : Option Value → Mem → Prop} {X : String → Mem → Prop} {pc : Nat} {L : List (Option Value)} {st : List Value} {M : Mem} {kc ks : Nat} (cut : Nat → Bool) (n : Nat) (h : wp G (MT 320) cd_L_recover cut Q X 1 6 n pc L st M kc ks) : Go G (MT 320) Q X pc L st M kc ks := wp_go ok_L_recover ⟨by decide +kernel, by decide +kernel⟩ n _ _ _ _ _ _ h
theorem hc_L_recover {G : En} {Q : Option Value → Mem → Prop} {X : String → Mem → Prop} {L : List (Option Value)} {st : List Value} {M : Mem} {kc ks : Nat} (h : w_CX G (MT 320) (MT 157) 0 1 11 1 6 Q X 3 L st M kc ks) : Go G (MT 320) Q X 3 L st M kc ks := by
  have g := clk_at (mi := MT 320) (k := 157) (n := 0) (mc := 1) (ms := 6) (by decide +kernel)
  have g3 := g.2.2
  unfold mtOk at g3
  exact s_catch (idx := 123) (q := (RX11, TX11, 9)) (by decide +kernel) g.1 (inT_at (i := 1443) (by decide +kernel)) (inT_at (i := 1444) (by decide +kernel)) (inT_at (i := 1445) (by decide +kernel)) rfl (by decide +kernel) g.2.1 h
theorem ca_L_recover_IS : catchOk (MT 320) 3 xIS 11 2 12 := ⟨[], (0, 8, 11, 15), [], by decide +kernel, (fun z hz => nomatch hz), ⟨by decide, by decide⟩, rfl, by decide, inT_at (i := 654) (by decide +kernel), cs_IS, by decide +kernel, Or.inl ⟨2, rfl, by decide +kernel, rfl⟩⟩
def cf_L_count : Cd := fun pc =>
  if pc < 9 then (if pc < 3 then (if pc < 1 then (if pc = 0 then some (.aload_n 2, [], []) else none)
    else (if pc < 2 then (if pc = 1 then some (.iconst 0, [0], []) else none)
     else (if pc = 2 then some (.aload_n 0, [], []) else none)))
   else (if pc < 7 then (if pc = 3 then some (.iload_n 1, [], []) else none)
    else (if pc < 8 then (if pc = 7 then some (.i2l, [], []) else none)
     else (if pc = 8 then some (.lastore, [], []) else none))))
  else (if pc < 16 then (if pc < 13 then (if pc = 9 then some (.goto 9, [18], []) else none)
    else (if pc < 14 then (if pc = 13 then some (.iconst 1, [1], []) else none)
     else (if pc = 14 then some (.ireturn, [0], []) else none)))
   else (if pc < 18 then (if pc < 17 then (if pc = 16 then some (.iconst 2, [2], []) else none)
     else (if pc = 17 then some (.ireturn, [0], []) else none))
    else (if pc < 19 then (if pc = 18 then some (.iconst 0, [0], []) else none)
     else (if pc = 19 then some (.ireturn, [0], []) else none))))
def cd_L_count : Cd := cdF 20 cf_L_count
set_option maxRecDepth 100000 in
theorem ok_L_count : codeOk (MT 321) cd_L_count := okAll_at (by decide +kernel)
theorem r_L_count {G : En} {Q : Option Value → Mem → Prop} {X : String → Mem → Prop} {pc : Nat} {L : List (Option Value)} {st : List Value} {M : Mem} {kc ks : Nat} (cut : Nat → Bool) (n : Nat) (h : wp G (MT 321) cd_L_count cut Q X 2 12 n pc L st M kc ks) : Go G (MT 321) Q X pc L st M kc ks := wp_go ok_L_count ⟨by decide +kernel, by decide +kernel⟩ n _ _ _ _ _ _ h
theorem hc_L_count {G : En} {Q : Option Value → Mem → Prop} {X : String → Mem → Prop} {L : List (Option Value)} {st : List Value} {M : Mem} {kc ks : Nat} (h : w_CX G (MT 321) (MT 159) 1 1 11 2 12 Q X 4 L st M kc ks) : Go G (MT 321) Q X 4 L st M kc ks := by
  have g := clk_at (mi := MT 321) (k := 159) (n := 1) (mc := 2) (ms := 12) (by decide +kernel)
  have g3 := g.2.2
  unfold mtOk at g3
  exact s_catch (idx := 126) (q := (RX11, TX11, 9)) (by decide +kernel) g.1 (inT_at (i := 1454) (by decide +kernel)) (inT_at (i := 1455) (by decide +kernel)) (inT_at (i := 1456) (by decide +kernel)) rfl (by decide +kernel) g.2.1 h
theorem ca_L_count_IA : catchOk (MT 321) 4 xIA 12 3 13 := ⟨[], (0, 9, 12, 13), [(0, 9, 15, 15)], by decide +kernel, (fun z hz => nomatch hz), ⟨by decide, by decide⟩, rfl, by decide, inT_at (i := 653) (by decide +kernel), cs_IA, by decide +kernel, Or.inl ⟨3, rfl, by decide +kernel, rfl⟩⟩
theorem ca_L_count_IS : catchOk (MT 321) 4 xIS 15 3 16 := ⟨[(0, 9, 12, 13)], (0, 9, 15, 15), [], by decide +kernel, (fun z hz => by
    simp only [List.mem_singleton] at hz
    subst hz
    exact ⟨by decide, inT_at (i := 653) (by decide +kernel), rfl⟩), ⟨by decide, by decide⟩, rfl, by decide, inT_at (i := 654) (by decide +kernel), cs_IS, by decide +kernel, Or.inl ⟨3, rfl, by decide +kernel, rfl⟩⟩
def cf_L_funds : Cd := fun pc =>
  if pc < 9 then (if pc < 3 then (if pc < 1 then (if pc = 0 then some (.aload_n 3, [], []) else none)
    else (if pc < 2 then (if pc = 1 then some (.iconst 0, [0], []) else none)
     else (if pc = 2 then some (.aload_n 0, [], []) else none)))
   else (if pc < 4 then (if pc = 3 then some (.iload_n 1, [], []) else none)
    else (if pc < 8 then (if pc = 4 then some (.iload_n 2, [], []) else none)
     else (if pc = 8 then some (.lastore, [], []) else none))))
  else (if pc < 18 then (if pc < 14 then (if pc = 9 then some (.goto 11, [20], []) else none)
    else (if pc < 15 then (if pc = 14 then some (.iconst 1, [1], []) else none)
     else (if pc = 15 then some (.ireturn, [0], []) else none)))
   else (if pc < 20 then (if pc < 19 then (if pc = 18 then some (.iconst 2, [2], []) else none)
     else (if pc = 19 then some (.ireturn, [0], []) else none))
    else (if pc < 21 then (if pc = 20 then some (.iconst 0, [0], []) else none)
     else (if pc = 21 then some (.ireturn, [0], []) else none))))
def cd_L_funds : Cd := cdF 22 cf_L_funds
set_option maxRecDepth 100000 in
theorem ok_L_funds : codeOk (MT 322) cd_L_funds := okAll_at (by decide +kernel)
theorem r_L_funds {G : En} {Q : Option Value → Mem → Prop} {X : String → Mem → Prop} {pc : Nat} {L : List (Option Value)} {st : List Value} {M : Mem} {kc ks : Nat} (cut : Nat → Bool) (n : Nat) (h : wp G (MT 322) cd_L_funds cut Q X 2 12 n pc L st M kc ks) : Go G (MT 322) Q X pc L st M kc ks := wp_go ok_L_funds ⟨by decide +kernel, by decide +kernel⟩ n _ _ _ _ _ _ h
theorem hc_L_funds {G : En} {Q : Option Value → Mem → Prop} {X : String → Mem → Prop} {L : List (Option Value)} {st : List Value} {M : Mem} {kc ks : Nat} (h : w_CX G (MT 322) (MT 160) 2 2 11 2 12 Q X 5 L st M kc ks) : Go G (MT 322) Q X 5 L st M kc ks := by
  have g := clk_at (mi := MT 322) (k := 160) (n := 2) (mc := 2) (ms := 12) (by decide +kernel)
  have g3 := g.2.2
  unfold mtOk at g3
  exact s_catch (idx := 129) (q := (RX11, TX11, 9)) (by decide +kernel) g.1 (inT_at (i := 1462) (by decide +kernel)) (inT_at (i := 1463) (by decide +kernel)) (inT_at (i := 1464) (by decide +kernel)) rfl (by decide +kernel) g.2.1 h
theorem ca_L_funds_IA : catchOk (MT 322) 5 xIA 12 4 14 := ⟨[], (0, 9, 12, 13), [(0, 9, 16, 15)], by decide +kernel, (fun z hz => nomatch hz), ⟨by decide, by decide⟩, rfl, by decide, inT_at (i := 653) (by decide +kernel), cs_IA, by decide +kernel, Or.inr ⟨by decide +kernel, rfl⟩⟩
theorem ca_L_funds_IS : catchOk (MT 322) 5 xIS 16 4 18 := ⟨[(0, 9, 12, 13)], (0, 9, 16, 15), [], by decide +kernel, (fun z hz => by
    simp only [List.mem_singleton] at hz
    subst hz
    exact ⟨by decide, inT_at (i := 653) (by decide +kernel), rfl⟩), ⟨by decide, by decide⟩, rfl, by decide, inT_at (i := 654) (by decide +kernel), cs_IS, by decide +kernel, Or.inr ⟨by decide +kernel, rfl⟩⟩
def cf_L_payment : Cd := fun pc =>
  if pc < 9 then (if pc < 3 then (if pc < 1 then (if pc = 0 then some (.aload_n 3, [], []) else none)
    else (if pc < 2 then (if pc = 1 then some (.iconst 0, [0], []) else none)
     else (if pc = 2 then some (.aload_n 0, [], []) else none)))
   else (if pc < 4 then (if pc = 3 then some (.iload_n 1, [], []) else none)
    else (if pc < 8 then (if pc = 4 then some (.iload_n 2, [], []) else none)
     else (if pc = 8 then some (.lastore, [], []) else none))))
  else (if pc < 18 then (if pc < 14 then (if pc = 9 then some (.goto 11, [20], []) else none)
    else (if pc < 15 then (if pc = 14 then some (.iconst 1, [1], []) else none)
     else (if pc = 15 then some (.ireturn, [0], []) else none)))
   else (if pc < 20 then (if pc < 19 then (if pc = 18 then some (.iconst 2, [2], []) else none)
     else (if pc = 19 then some (.ireturn, [0], []) else none))
    else (if pc < 21 then (if pc = 20 then some (.iconst 0, [0], []) else none)
     else (if pc = 21 then some (.ireturn, [0], []) else none))))
def cd_L_payment : Cd := cdF 22 cf_L_payment
set_option maxRecDepth 100000 in
theorem ok_L_payment : codeOk (MT 323) cd_L_payment := okAll_at (by decide +kernel)
theorem r_L_payment {G : En} {Q : Option Value → Mem → Prop} {X : String → Mem → Prop} {pc : Nat} {L : List (Option Value)} {st : List Value} {M : Mem} {kc ks : Nat} (cut : Nat → Bool) (n : Nat) (h : wp G (MT 323) cd_L_payment cut Q X 3 18 n pc L st M kc ks) : Go G (MT 323) Q X pc L st M kc ks := wp_go ok_L_payment ⟨by decide +kernel, by decide +kernel⟩ n _ _ _ _ _ _ h
theorem hc_L_payment {G : En} {Q : Option Value → Mem → Prop} {X : String → Mem → Prop} {L : List (Option Value)} {st : List Value} {M : Mem} {kc ks : Nat} (h : w_CX G (MT 323) (MT 161) 2 2 11 3 18 Q X 5 L st M kc ks) : Go G (MT 323) Q X 5 L st M kc ks := by
  have g := clk_at (mi := MT 323) (k := 161) (n := 2) (mc := 3) (ms := 18) (by decide +kernel)
  have g3 := g.2.2
  unfold mtOk at g3
  exact s_catch (idx := 133) (q := (RX11, TX11, 9)) (by decide +kernel) g.1 (inT_at (i := 1472) (by decide +kernel)) (inT_at (i := 1473) (by decide +kernel)) (inT_at (i := 1474) (by decide +kernel)) rfl (by decide +kernel) g.2.1 h
theorem ca_L_payment_IA : catchOk (MT 323) 5 xIA 12 4 14 := ⟨[], (0, 9, 12, 13), [(0, 9, 16, 15)], by decide +kernel, (fun z hz => nomatch hz), ⟨by decide, by decide⟩, rfl, by decide, inT_at (i := 653) (by decide +kernel), cs_IA, by decide +kernel, Or.inr ⟨by decide +kernel, rfl⟩⟩
theorem ca_L_payment_IS : catchOk (MT 323) 5 xIS 16 4 18 := ⟨[(0, 9, 12, 13)], (0, 9, 16, 15), [], by decide +kernel, (fun z hz => by
    simp only [List.mem_singleton] at hz
    subst hz
    exact ⟨by decide, inT_at (i := 653) (by decide +kernel), rfl⟩), ⟨by decide, by decide⟩, rfl, by decide, inT_at (i := 654) (by decide +kernel), cs_IS, by decide +kernel, Or.inr ⟨by decide +kernel, rfl⟩⟩
def cf_L_acquired : Cd := fun pc =>
  if pc < 9 then (if pc < 3 then (if pc < 1 then (if pc = 0 then some (.aload_n 3, [], []) else none)
    else (if pc < 2 then (if pc = 1 then some (.iconst 0, [0], []) else none)
     else (if pc = 2 then some (.aload_n 0, [], []) else none)))
   else (if pc < 4 then (if pc = 3 then some (.iload_n 1, [], []) else none)
    else (if pc < 8 then (if pc = 4 then some (.iload_n 2, [], []) else none)
     else (if pc = 8 then some (.lastore, [], []) else none))))
  else (if pc < 18 then (if pc < 14 then (if pc = 9 then some (.goto 11, [20], []) else none)
    else (if pc < 15 then (if pc = 14 then some (.iconst 1, [1], []) else none)
     else (if pc = 15 then some (.ireturn, [0], []) else none)))
   else (if pc < 20 then (if pc < 19 then (if pc = 18 then some (.iconst 2, [2], []) else none)
     else (if pc = 19 then some (.ireturn, [0], []) else none))
    else (if pc < 21 then (if pc = 20 then some (.iconst 0, [0], []) else none)
     else (if pc = 21 then some (.ireturn, [0], []) else none))))
def cd_L_acquired : Cd := cdF 22 cf_L_acquired
set_option maxRecDepth 100000 in
theorem ok_L_acquired : codeOk (MT 324) cd_L_acquired := okAll_at (by decide +kernel)
theorem r_L_acquired {G : En} {Q : Option Value → Mem → Prop} {X : String → Mem → Prop} {pc : Nat} {L : List (Option Value)} {st : List Value} {M : Mem} {kc ks : Nat} (cut : Nat → Bool) (n : Nat) (h : wp G (MT 324) cd_L_acquired cut Q X 2 12 n pc L st M kc ks) : Go G (MT 324) Q X pc L st M kc ks := wp_go ok_L_acquired ⟨by decide +kernel, by decide +kernel⟩ n _ _ _ _ _ _ h
theorem hc_L_acquired {G : En} {Q : Option Value → Mem → Prop} {X : String → Mem → Prop} {L : List (Option Value)} {st : List Value} {M : Mem} {kc ks : Nat} (h : w_CX G (MT 324) (MT 162) 2 2 11 2 12 Q X 5 L st M kc ks) : Go G (MT 324) Q X 5 L st M kc ks := by
  have g := clk_at (mi := MT 324) (k := 162) (n := 2) (mc := 2) (ms := 12) (by decide +kernel)
  have g3 := g.2.2
  unfold mtOk at g3
  exact s_catch (idx := 136) (q := (RX11, TX11, 9)) (by decide +kernel) g.1 (inT_at (i := 1488) (by decide +kernel)) (inT_at (i := 1489) (by decide +kernel)) (inT_at (i := 1490) (by decide +kernel)) rfl (by decide +kernel) g.2.1 h
theorem ca_L_acquired_IA : catchOk (MT 324) 5 xIA 12 4 14 := ⟨[], (0, 9, 12, 13), [(0, 9, 16, 15)], by decide +kernel, (fun z hz => nomatch hz), ⟨by decide, by decide⟩, rfl, by decide, inT_at (i := 653) (by decide +kernel), cs_IA, by decide +kernel, Or.inr ⟨by decide +kernel, rfl⟩⟩
theorem ca_L_acquired_IS : catchOk (MT 324) 5 xIS 16 4 18 := ⟨[(0, 9, 12, 13)], (0, 9, 16, 15), [], by decide +kernel, (fun z hz => by
    simp only [List.mem_singleton] at hz
    subst hz
    exact ⟨by decide, inT_at (i := 653) (by decide +kernel), rfl⟩), ⟨by decide, by decide⟩, rfl, by decide, inT_at (i := 654) (by decide +kernel), cs_IS, by decide +kernel, Or.inr ⟨by decide +kernel, rfl⟩⟩
def cf_L_issued : Cd := fun pc =>
  if pc < 9 then (if pc < 3 then (if pc < 1 then (if pc = 0 then some (.aload_n 3, [], []) else none)
    else (if pc < 2 then (if pc = 1 then some (.iconst 0, [0], []) else none)
     else (if pc = 2 then some (.aload_n 0, [], []) else none)))
   else (if pc < 4 then (if pc = 3 then some (.iload_n 1, [], []) else none)
    else (if pc < 8 then (if pc = 4 then some (.iload_n 2, [], []) else none)
     else (if pc = 8 then some (.lastore, [], []) else none))))
  else (if pc < 18 then (if pc < 14 then (if pc = 9 then some (.goto 11, [20], []) else none)
    else (if pc < 15 then (if pc = 14 then some (.iconst 1, [1], []) else none)
     else (if pc = 15 then some (.ireturn, [0], []) else none)))
   else (if pc < 20 then (if pc < 19 then (if pc = 18 then some (.iconst 2, [2], []) else none)
     else (if pc = 19 then some (.ireturn, [0], []) else none))
    else (if pc < 21 then (if pc = 20 then some (.iconst 0, [0], []) else none)
     else (if pc = 21 then some (.ireturn, [0], []) else none))))
def cd_L_issued : Cd := cdF 22 cf_L_issued
set_option maxRecDepth 100000 in
theorem ok_L_issued : codeOk (MT 325) cd_L_issued := okAll_at (by decide +kernel)
theorem r_L_issued {G : En} {Q : Option Value → Mem → Prop} {X : String → Mem → Prop} {pc : Nat} {L : List (Option Value)} {st : List Value} {M : Mem} {kc ks : Nat} (cut : Nat → Bool) (n : Nat) (h : wp G (MT 325) cd_L_issued cut Q X 2 12 n pc L st M kc ks) : Go G (MT 325) Q X pc L st M kc ks := wp_go ok_L_issued ⟨by decide +kernel, by decide +kernel⟩ n _ _ _ _ _ _ h
theorem hc_L_issued {G : En} {Q : Option Value → Mem → Prop} {X : String → Mem → Prop} {L : List (Option Value)} {st : List Value} {M : Mem} {kc ks : Nat} (h : w_CX G (MT 325) (MT 163) 2 2 11 2 12 Q X 5 L st M kc ks) : Go G (MT 325) Q X 5 L st M kc ks := by
  have g := clk_at (mi := MT 325) (k := 163) (n := 2) (mc := 2) (ms := 12) (by decide +kernel)
  have g3 := g.2.2
  unfold mtOk at g3
  exact s_catch (idx := 139) (q := (RX11, TX11, 9)) (by decide +kernel) g.1 (inT_at (i := 1496) (by decide +kernel)) (inT_at (i := 1497) (by decide +kernel)) (inT_at (i := 1498) (by decide +kernel)) rfl (by decide +kernel) g.2.1 h
theorem ca_L_issued_IA : catchOk (MT 325) 5 xIA 12 4 14 := ⟨[], (0, 9, 12, 13), [(0, 9, 16, 15)], by decide +kernel, (fun z hz => nomatch hz), ⟨by decide, by decide⟩, rfl, by decide, inT_at (i := 653) (by decide +kernel), cs_IA, by decide +kernel, Or.inr ⟨by decide +kernel, rfl⟩⟩
theorem ca_L_issued_IS : catchOk (MT 325) 5 xIS 16 4 18 := ⟨[(0, 9, 12, 13)], (0, 9, 16, 15), [], by decide +kernel, (fun z hz => by
    simp only [List.mem_singleton] at hz
    subst hz
    exact ⟨by decide, inT_at (i := 653) (by decide +kernel), rfl⟩), ⟨by decide, by decide⟩, rfl, by decide, inT_at (i := 654) (by decide +kernel), cs_IS, by decide +kernel, Or.inr ⟨by decide +kernel, rfl⟩⟩
def cf_L_audit : Cd := fun pc =>
  if pc < 8 then (if pc < 2 then (if pc < 1 then (if pc = 0 then some (.aload_n 1, [], []) else none)
    else (if pc = 1 then some (.iconst 0, [0], []) else none))
   else (if pc < 6 then (if pc = 2 then some (.aload_n 0, [], []) else none)
    else (if pc < 7 then (if pc = 6 then some (.i2l, [], []) else none)
     else (if pc = 7 then some (.lastore, [], []) else none))))
  else (if pc < 13 then (if pc < 12 then (if pc = 8 then some (.goto 6, [14], []) else none)
    else (if pc = 12 then some (.iconst 1, [1], []) else none))
   else (if pc < 14 then (if pc = 13 then some (.ireturn, [0], []) else none)
    else (if pc < 15 then (if pc = 14 then some (.iconst 0, [0], []) else none)
     else (if pc = 15 then some (.ireturn, [0], []) else none))))
def cd_L_audit : Cd := cdF 16 cf_L_audit
set_option maxRecDepth 100000 in
theorem ok_L_audit : codeOk (MT 326) cd_L_audit := okAll_at (by decide +kernel)
theorem r_L_audit {G : En} {Q : Option Value → Mem → Prop} {X : String → Mem → Prop} {pc : Nat} {L : List (Option Value)} {st : List Value} {M : Mem} {kc ks : Nat} (cut : Nat → Bool) (n : Nat) (h : wp G (MT 326) cd_L_audit cut Q X 1 6 n pc L st M kc ks) : Go G (MT 326) Q X pc L st M kc ks := wp_go ok_L_audit ⟨by decide +kernel, by decide +kernel⟩ n _ _ _ _ _ _ h
theorem hc_L_audit {G : En} {Q : Option Value → Mem → Prop} {X : String → Mem → Prop} {L : List (Option Value)} {st : List Value} {M : Mem} {kc ks : Nat} (h : w_CX G (MT 326) (MT 164) 0 1 11 1 6 Q X 3 L st M kc ks) : Go G (MT 326) Q X 3 L st M kc ks := by
  have g := clk_at (mi := MT 326) (k := 164) (n := 0) (mc := 1) (ms := 6) (by decide +kernel)
  have g3 := g.2.2
  unfold mtOk at g3
  exact s_catch (idx := 142) (q := (RX11, TX11, 9)) (by decide +kernel) g.1 (inT_at (i := 1503) (by decide +kernel)) (inT_at (i := 1504) (by decide +kernel)) (inT_at (i := 1505) (by decide +kernel)) rfl (by decide +kernel) g.2.1 h
theorem ca_L_audit_IS : catchOk (MT 326) 3 xIS 11 2 12 := ⟨[], (0, 8, 11, 15), [], by decide +kernel, (fun z hz => nomatch hz), ⟨by decide, by decide⟩, rfl, by decide, inT_at (i := 654) (by decide +kernel), cs_IS, by decide +kernel, Or.inl ⟨2, rfl, by decide +kernel, rfl⟩⟩
