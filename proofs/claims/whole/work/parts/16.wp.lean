/-! wpI: WHAT MUST HOLD AT AN INSTRUCTION; okI: IT IS AS THE TABLES SAY; wpI_go: THEN Go HOLDS -/
def okI (mi : Mi) (pc : Nat) (i : Instr) (ax wx : List Nat) : Bool := match i with
  | .iadd => dcd mi pc (.iadd) 1
  | .isub => dcd mi pc (.isub) 1
  | .imul => dcd mi pc (.imul) 1
  | .iand => dcd mi pc (.iand) 1
  | .ior => dcd mi pc (.ior) 1
  | .ixor => dcd mi pc (.ixor) 1
  | .ishl => dcd mi pc (.ishl) 1
  | .ishr => dcd mi pc (.ishr) 1
  | .idiv => dcd mi pc (.idiv) 1
  | .irem => dcd mi pc (.irem) 1
  | .ladd => dcd mi pc (.ladd) 1
  | .lsub => dcd mi pc (.lsub) 1
  | .lmul => dcd mi pc (.lmul) 1
  | .land => dcd mi pc (.land) 1
  | .lor => dcd mi pc (.lor) 1
  | .ldiv => dcd mi pc (.ldiv) 1
  | .lrem => dcd mi pc (.lrem) 1
  | .lshl => dcd mi pc (.lshl) 1
  | .lshr => dcd mi pc (.lshr) 1
  | .ineg => dcd mi pc (.ineg) 1
  | .lneg => dcd mi pc (.lneg) 1
  | .i2l => dcd mi pc (.i2l) 1
  | .l2i => dcd mi pc (.l2i) 1
  | .lcmp => dcd mi pc (.lcmp) 1
  | .dup => dcd mi pc (.dup) 1
  | .pop => dcd mi pc (.pop) 1
  | .dup2 => dcd mi pc (.dup2) 1
  | .aconst_null => dcd mi pc (.aconst_null) 1
  | .iaload => dcd mi pc (.iaload) 1
  | .laload => dcd mi pc (.laload) 1
  | .baload => dcd mi pc (.baload) 1
  | .aaload => dcd mi pc (.aaload) 1
  | .iastore => dcd mi pc (.iastore) 1
  | .lastore => dcd mi pc (.lastore) 1
  | .bastore => dcd mi pc (.bastore) 1
  | .aastore => dcd mi pc (.aastore) 1
  | .arraylength => dcd mi pc (.arraylength) 1
  | .iload j => dcd mi pc (.iload j) 2
  | .iload_n j => dcd mi pc (.iload_n j) 1
  | .istore j => dcd mi pc (.istore j) 2 && decide (j < iL mi)
  | .istore_n j => dcd mi pc (.istore_n j) 1 && decide (j.val < iL mi)
  | .lload j => dcd mi pc (.lload j) 2
  | .lload_n j => dcd mi pc (.lload_n j) 1
  | .lstore j => dcd mi pc (.lstore j) 2 && decide (j + 1 < iL mi)
  | .lstore_n j => dcd mi pc (.lstore_n j) 1 && decide (j.val + 1 < iL mi)
  | .aload j => dcd mi pc (.aload j) 2
  | .aload_n j => dcd mi pc (.aload_n j) 1
  | .astore j => dcd mi pc (.astore j) 2 && decide (j < iL mi)
  | .astore_n j => dcd mi pc (.astore_n j) 1 && decide (j.val < iL mi)
  | .iconst n => dcd mi pc (.iconst n) 1 && decide (Int32.ofInt n = Int32.ofNat (ax.headD 0))
  | .bipush n => dcd mi pc (.bipush n) 2 && decide ((Int8.ofInt n).toInt32 = Int32.ofNat (ax.headD 0))
  | .sipush n => dcd mi pc (.sipush n) 3 && decide ((Int16.ofInt n).toInt32 = Int32.ofNat (ax.headD 0))
  | .lconst n => dcd mi pc (.lconst n) 1 && decide (Int64.ofNat (n : Nat) = Int64.ofNat (ax.headD 0))
  | .ldc n => dcd mi pc (.ldc n) 2 && inT (wx.headD 0) (.constant (iY mi).cls n (Int32.ofNat (ax.headD 0)))
  | .ldc_w n => dcd mi pc (.ldc_w n) 3 && inT (wx.headD 0) (.constant (iY mi).cls n (Int32.ofNat (ax.headD 0)))
  | .ldc2_w n => dcd mi pc (.ldc2_w n) 3 && inT (wx.headD 0) (.constantLong (iY mi).cls n (Int64.ofNat (ax.headD 0)))
  | .iinc j n => dcd mi pc (.iinc j n) 3 && (decide (Int32.ofInt n = Int32.ofNat (ax.headD 0)) && decide (j < iL mi))
  | .goto off => dcd mi pc (.goto off) 3 && decide ((pc : Int) + off = ((ax.headD 0 : Nat) : Int))
  | .ifnull off => dcd mi pc (.ifnull off) 3 && decide ((pc : Int) + off = ((ax.headD 0 : Nat) : Int))
  | .ifnonnull off => dcd mi pc (.ifnonnull off) 3 && decide ((pc : Int) + off = ((ax.headD 0 : Nat) : Int))
  | .if_acmp cc off => dcd mi pc (.if_acmp cc off) 3 && decide ((pc : Int) + off = ((ax.headD 0 : Nat) : Int))
  | .ifCond cc off => dcd mi pc (.ifCond cc off) 3 && decide ((pc : Int) + off = ((ax.headD 0 : Nat) : Int))
  | .if_icmp cc off => dcd mi pc (.if_icmp cc off) 3 && decide ((pc : Int) + off = ((ax.headD 0 : Nat) : Int))
  | .tableswitch df lo hi offs => dcd mi pc (.tableswitch df lo hi offs) (wx.headD 0) && (decide (lo = ((ax.getD 1 0 : Nat) : Int)) && (decide ((pc : Int) + df = ((ax.getD 0 0 : Nat) : Int)) && (decide (hi + 1 = ((ax.getD 1 0 : Nat) : Int) + ((ax.drop 2).length : Nat)) && (decide (ax.getD 1 0 + (ax.drop 2).length < 2 ^ 31) && tsOk pc offs.toList (ax.drop 2)))))
  | .lookupswitch df ps => dcd mi pc (.lookupswitch df ps) (wx.headD 0) && (decide ((pc : Int) + df = ((ax.headD 0 : Nat) : Int)) && ((ps.toList.zip (ps.toList.drop 1)).all (fun (a, next) => a.1 < next.1) && lsOk pc ps.toList (prs (ax.drop 1))))
  | .getfield n => dcd mi pc (.getfield n) 3 && gfOk mi n (ax.getD 0 0) (ax.getD 1 0) (ax.getD 2 0) (wx.getD 0 0)
  | .putfield n => dcd mi pc (.putfield n) 3 && pfOk mi n (ax.getD 0 0) (ax.getD 1 0) (ax.getD 2 0) (wx.getD 0 0)
  | .getstatic n => dcd mi pc (.getstatic n) 3 && (decide (ax.headD 0 < 4) && (inT (wx.getD 0 0) (.fieldLink (iY mi).cls n "PaymentSwitch" (stN (ax.headD 0)) "[I") || inT (wx.getD 0 0) (.fieldLinkNest (iY mi).cls n "PaymentSwitch" (stN (ax.headD 0)) "[I" "PaymentSwitch")))
  | .new n => match ax with
    | [e] => dcd mi pc (.new n) 3 && thOk mi pc n (wx.getD 0 0) (xName e) (wx.getD 1 0) (wx.getD 2 0)
    | [ci, N] => dcd mi pc (.new n) 3 && nwOk mi n ci N wx
    | _ => false
  | .newarray at9 => dcd mi pc (.newarray at9) 2 && (decide (at9 = .int ∨ at9 = .long ∨ at9 = .boolean) && inT (wx.getD 0 0) (.arrayClass (newarray.typeOf at9)))
  | .multianewarray n dm => dcd mi pc (.multianewarray n dm) 4 && (inT (wx.getD 0 0) (.classLink (iY mi).cls n "[[I") && (inT (wx.getD 1 0) (.arrayOver (.array .int)) && (inT (wx.getD 2 0) (.arrayClass .int) && decide (dm = 2))))
  | .anewarray n => dcd mi pc (.anewarray n) 3 && (decide (rTy (.object (aName (ax.headD 0))) = some (ax.headD 0)) && (inT (wx.getD 0 0) (.classLink (iY mi).cls n (aName (ax.headD 0))) && inT (wx.getD 1 0) (.arrayOver (.object (aName (ax.headD 0))))))
  | .invokevirtual n => match ax with
    | [k, a, _, c9, mc, ms] => dcd mi pc (.invokevirtual n) 3 && cvOk mi n k a c9 mc ms (wx.getD 0 0)
    | _ => false
  | .invokestatic n => match ax with
    | [z] => dcd mi pc (.invokestatic n) 3 && mxOk mi n z wx
    | [k, a, _, mc, ms, f] => dcd mi pc (.invokestatic n) 3 && csOk mi n k a mc ms f (wx.getD 0 0)
    | _ => false
  | .invokespecial n => match ax with
    | [] => dcd mi pc (.invokespecial n) 3 && oiOk mi n wx
    | [k, a, mc, ms, f] => dcd mi pc (.invokespecial n) 3 && ciOk mi n k a mc ms f (wx.getD 0 0)
    | _ => false
  | .ireturn => dcd mi pc (.ireturn) 1 && rtOk mi (ax.headD 0)
  | .lreturn => dcd mi pc (.lreturn) 1 && decide (iT mi = some .long)
  | .areturn => dcd mi pc (.areturn) 1 && raOk mi
  | .return_ => dcd mi pc (.return_) 1 && decide (iT mi = none)
  | _ => false
def wpI (G : En) (Q : Option Value → Mem → Prop) (X : String → Mem → Prop) (rc rs : Nat) (K : Kt) (i : Instr) (ax : List Nat) : Nat → List (Option Value) → List Value → Mem → Nat → Nat → Prop := match i with
  | .iadd => w_II (fun x y => x + y) K
  | .isub => w_II (fun x y => x - y) K
  | .imul => w_II (fun x y => x * y) K
  | .iand => w_II (fun x y => x &&& y) K
  | .ior => w_II (fun x y => x ||| y) K
  | .ixor => w_II (fun x y => x ^^^ y) K
  | .ishl => w_II (fun x y => x <<< (y &&& 31)) K
  | .ishr => w_II (fun x y => x >>> (y &&& 31)) K
  | .idiv => w_IId (fun x y => x / y) K
  | .irem => w_IId (fun x y => x - x / y * y) K
  | .ladd => w_LLb (fun x y => x + y) K
  | .lsub => w_LLb (fun x y => x - y) K
  | .lmul => w_LLb (fun x y => x * y) K
  | .land => w_LLb (fun x y => x &&& y) K
  | .lor => w_LLb (fun x y => x ||| y) K
  | .ldiv => w_LLd (fun x y => x / y) K
  | .lrem => w_LLd (fun x y => x - x / y * y) K
  | .lshl => w_LS (fun x y => x <<< (y.toInt64 &&& 63)) K
  | .lshr => w_LS (fun x y => x >>> (y.toInt64 &&& 63)) K
  | .ineg => w_I1 (fun x => -x) K
  | .lneg => w_L1 (fun x => -x) K
  | .i2l => w_I2L K
  | .l2i => w_L2I K
  | .lcmp => w_CMP K
  | .dup => w_DUP K
  | .pop => w_POP K
  | .dup2 => w_DUP2 K
  | .aconst_null => w_CN K
  | .iaload => w_IAL G K
  | .laload => w_LAL K
  | .baload => w_ZAL K
  | .aaload => w_AAL K
  | .iastore => w_IAS K
  | .lastore => w_LAS K
  | .bastore => w_ZAS K
  | .aastore => w_AAS K
  | .arraylength => w_LEN G K
  | .iload j => w_LI 2 j K
  | .iload_n j => w_LI 1 j.val K
  | .istore j => w_SI 2 j K
  | .istore_n j => w_SI 1 j.val K
  | .lload j => w_LL 2 j K
  | .lload_n j => w_LL 1 j.val K
  | .lstore j => w_SL 2 j K
  | .lstore_n j => w_SL 1 j.val K
  | .aload j => w_LA 2 j K
  | .aload_n j => w_LA 1 j.val K
  | .astore j => w_SA 2 j K
  | .astore_n j => w_SA 1 j.val K
  | .iconst n => w_CI 1 (ax.headD 0) K
  | .bipush n => w_CI 2 (ax.headD 0) K
  | .sipush n => w_CI 3 (ax.headD 0) K
  | .lconst n => w_CL 1 (ax.headD 0) K
  | .ldc n => w_CI 2 (ax.headD 0) K
  | .ldc_w n => w_CI 3 (ax.headD 0) K
  | .ldc2_w n => w_CL 3 (ax.headD 0) K
  | .iinc j n => w_INC j (ax.headD 0) K
  | .goto off => w_GO (ax.headD 0) K
  | .ifnull off => fun pc => w_NUL (ax.headD 0) (pc + 3) K pc
  | .ifnonnull off => fun pc => w_NUL (pc + 3) (ax.headD 0) K pc
  | .if_acmp cc off => match cc with | .ne => w_ACN (ax.headD 0) K | .eq => fun _ _ _ _ _ _ => False
  | .ifCond cc off => match cc with | .eq => w_IF (fun x => x = 0) (ax.headD 0) K | .ne => w_IF (fun x => ¬ x = 0) (ax.headD 0) K | .lt => w_IF (fun x => x < 0) (ax.headD 0) K | .ge => w_IF (fun x => 0 ≤ x) (ax.headD 0) K | .gt => w_IF (fun x => 0 < x) (ax.headD 0) K | .le => w_IF (fun x => x ≤ 0) (ax.headD 0) K
  | .if_icmp cc off => match cc with | .eq => w_IC (fun x y => x = y) (ax.headD 0) K | .ne => w_IC (fun x y => ¬ x = y) (ax.headD 0) K | .lt => w_IC (fun x y => x < y) (ax.headD 0) K | .ge => w_IC (fun x y => y ≤ x) (ax.headD 0) K | .gt => w_IC (fun x y => y < x) (ax.headD 0) K | .le => w_IC (fun x y => x ≤ y) (ax.headD 0) K
  | .tableswitch df lo hi offs => w_TAB (ax.getD 0 0) (ax.getD 1 0) (ax.drop 2) K
  | .lookupswitch df ps => w_LOOK (ax.headD 0) (prs (ax.drop 1)) K
  | .getfield n => w_GF (ax.getD 0 0) (ax.getD 1 0) (ax.getD 2 0) K
  | .putfield n => w_PF (ax.getD 0 0) (ax.getD 1 0) (ax.getD 2 0) K
  | .getstatic n => w_GS (ax.headD 0) K
  | .new n => match ax with
    | [e] => fun _ _ st M kc ks => w_THR (xName e) rc rs X st M kc ks
    | [ci, N] => w_NEW ci N rc rs K
    | _ => fun _ _ _ _ _ _ => False
  | .newarray at9 => w_NA (newarray.typeOf at9) rc rs K 2
  | .multianewarray n dm => w_MNA rc rs K
  | .anewarray n => w_NA (.object (aName (ax.headD 0))) rc rs K 3
  | .invokevirtual n => match ax with
    | [k, a, rk, c9, mc, ms] => w_CV G (MT k) a rk c9 mc ms rc rs X K
    | _ => fun _ _ _ _ _ _ => False
  | .invokestatic n => match ax with
    | [z] => w_MX (z == 9001) K
    | [k, a, rk, mc, ms, f] => fun pc L st M kc ks => if f = 0 then w_CS G (MT k) a rk mc ms rc rs X K pc L st M kc ks else w_CN9 G (MT k) a rk mc ms rc rs K pc L st M kc ks
    | _ => fun _ _ _ _ _ _ => False
  | .invokespecial n => match ax with
    | [] => w_OI K
    | [k, a, mc, ms, _] => w_CI9 G (MT k) a mc ms rc rs K
    | _ => fun _ _ _ _ _ _ => False
  | .ireturn => fun _ _ st M _ _ => w_RI (ax.headD 0) Q st M
  | .lreturn => fun _ _ st M _ _ => w_RL Q st M
  | .areturn => fun _ _ st M _ _ => w_RA Q st M
  | .return_ => fun _ _ st M _ _ => st = [] ∧ Q none M
  | _ => fun _ _ _ _ _ _ => False
theorem wpI_go {G : En} {mi : Mi} {Q : Option Value → Mem → Prop} {X : String → Mem → Prop} {rc rs : Nat} {K : Kt} {pc : Nat} {i : Instr} {ax wx : List Nat} {L : List (Option Value)} {st : List Value} {M : Mem} {kc ks : Nat} (hok : okI mi pc i ax wx = true) (hr : rc = (iR mi).cells ∧ rs = (iR mi).slots) (hK : Kok G mi Q X K) (h : wpI G Q X rc rs K i ax pc L st M kc ks) : Go G mi Q X pc L st M kc ks := by
  cases i with
  | iadd =>
    exact s_iadd hK (dcd_at hok) h
  | isub =>
    exact s_isub hK (dcd_at hok) h
  | imul =>
    exact s_imul hK (dcd_at hok) h
  | iand =>
    exact s_iand hK (dcd_at hok) h
  | ior =>
    exact s_ior hK (dcd_at hok) h
  | ixor =>
    exact s_ixor hK (dcd_at hok) h
  | ishl =>
    exact s_ishl hK (dcd_at hok) h
  | ishr =>
    exact s_ishr hK (dcd_at hok) h
  | idiv =>
    exact s_idiv hK (dcd_at hok) h
  | irem =>
    exact s_irem hK (dcd_at hok) h
  | ladd =>
    exact s_ladd hK (dcd_at hok) h
  | lsub =>
    exact s_lsub hK (dcd_at hok) h
  | lmul =>
    exact s_lmul hK (dcd_at hok) h
  | land =>
    exact s_land hK (dcd_at hok) h
  | lor =>
    exact s_lor hK (dcd_at hok) h
  | ldiv =>
    exact s_ldiv hK (dcd_at hok) h
  | lrem =>
    exact s_lrem hK (dcd_at hok) h
  | lshl =>
    exact s_lshl hK (dcd_at hok) h
  | lshr =>
    exact s_lshr hK (dcd_at hok) h
  | ineg =>
    exact s_ineg hK (dcd_at hok) h
  | lneg =>
    exact s_lneg hK (dcd_at hok) h
  | i2l =>
    exact s_i2l hK (dcd_at hok) h
  | l2i =>
    exact s_l2i hK (dcd_at hok) h
  | lcmp =>
    exact s_lcmp hK (dcd_at hok) h
  | dup =>
    exact s_dup hK (dcd_at hok) h
  | pop =>
    exact s_pop hK (dcd_at hok) h
  | dup2 =>
    exact s_dup2 hK (dcd_at hok) h
  | aconst_null =>
    exact s_aconst_null hK (dcd_at hok) h
  | iaload =>
    exact s_iaload hK (dcd_at hok) h
  | laload =>
    exact s_laload hK (dcd_at hok) h
  | baload =>
    exact s_baload hK (dcd_at hok) h
  | aaload =>
    exact s_aaload hK (dcd_at hok) h
  | iastore =>
    exact s_iastore hK (dcd_at hok) h
  | lastore =>
    exact s_lastore hK (dcd_at hok) h
  | bastore =>
    exact s_bastore hK (dcd_at hok) h
  | aastore =>
    exact s_aastore hK (dcd_at hok) h
  | arraylength =>
    exact s_arraylength hK (dcd_at hok) h
  | iload j =>
    exact s_iload hK (dcd_at hok) h
  | iload_n j =>
    exact s_iload_n hK (dcd_at hok) h
  | istore j =>
    exact s_istore hK (dcd_at (and_l hok)) (of_decide_eq_true (and_r hok)) h
  | istore_n j =>
    exact s_istore_n hK (dcd_at (and_l hok)) (of_decide_eq_true (and_r hok)) h
  | lload j =>
    exact s_lload hK (dcd_at hok) h
  | lload_n j =>
    exact s_lload_n hK (dcd_at hok) h
  | lstore j =>
    exact s_lstore hK (dcd_at (and_l hok)) (of_decide_eq_true (and_r hok)) h
  | lstore_n j =>
    exact s_lstore_n hK (dcd_at (and_l hok)) (of_decide_eq_true (and_r hok)) h
  | aload j =>
    exact s_aload hK (dcd_at hok) h
  | aload_n j =>
    exact s_aload_n hK (dcd_at hok) h
  | astore j =>
    exact s_astore hK (dcd_at (and_l hok)) (of_decide_eq_true (and_r hok)) h
  | astore_n j =>
    exact s_astore_n hK (dcd_at (and_l hok)) (of_decide_eq_true (and_r hok)) h
  | iconst n =>
    exact s_iconst hK (dcd_at (and_l hok)) (of_decide_eq_true (and_r hok)) h
  | bipush n =>
    exact s_bipush hK (dcd_at (and_l hok)) (of_decide_eq_true (and_r hok)) h
  | sipush n =>
    exact s_sipush hK (dcd_at (and_l hok)) (of_decide_eq_true (and_r hok)) h
  | lconst n =>
    exact s_lconst hK (dcd_at (and_l hok)) (of_decide_eq_true (and_r hok)) h
  | ldc n =>
    exact s_ldc hK (dcd_at (and_l hok)) (inT_at (and_r hok)).1 (inT_at (and_r hok)).2 h
  | ldc_w n =>
    exact s_ldc_w hK (dcd_at (and_l hok)) (inT_at (and_r hok)).1 (inT_at (and_r hok)).2 h
  | ldc2_w n =>
    exact s_ldc2_w hK (dcd_at (and_l hok)) (inT_at (and_r hok)).1 (inT_at (and_r hok)).2 h
  | iinc j n =>
    exact s_iinc hK (dcd_at (and_l hok)) (of_decide_eq_true (and_l (and_r hok))) (of_decide_eq_true (and_r (and_r hok))) h
  | goto off =>
    exact s_goto hK (dcd_at (and_l hok)) (of_decide_eq_true (and_r hok)) h
  | ifnull off =>
    exact s_ifnull hK (dcd_at (and_l hok)) (of_decide_eq_true (and_r hok)) h
  | ifnonnull off =>
    exact s_ifnonnull hK (dcd_at (and_l hok)) (of_decide_eq_true (and_r hok)) h
  | if_acmp cc off =>
    cases cc with | eq => exact h.elim | ne => exact s_acmp_ne hK (dcd_at (and_l hok)) (of_decide_eq_true (and_r hok)) h
  | ifCond cc off =>
    cases cc with | eq => exact s_if_eq hK (dcd_at (and_l hok)) (of_decide_eq_true (and_r hok)) h | ne => exact s_if_ne hK (dcd_at (and_l hok)) (of_decide_eq_true (and_r hok)) h | lt => exact s_if_lt hK (dcd_at (and_l hok)) (of_decide_eq_true (and_r hok)) h | ge => exact s_if_ge hK (dcd_at (and_l hok)) (of_decide_eq_true (and_r hok)) h | gt => exact s_if_gt hK (dcd_at (and_l hok)) (of_decide_eq_true (and_r hok)) h | le => exact s_if_le hK (dcd_at (and_l hok)) (of_decide_eq_true (and_r hok)) h
  | if_icmp cc off =>
    cases cc with | eq => exact s_icmp_eq hK (dcd_at (and_l hok)) (of_decide_eq_true (and_r hok)) h | ne => exact s_icmp_ne hK (dcd_at (and_l hok)) (of_decide_eq_true (and_r hok)) h | lt => exact s_icmp_lt hK (dcd_at (and_l hok)) (of_decide_eq_true (and_r hok)) h | ge => exact s_icmp_ge hK (dcd_at (and_l hok)) (of_decide_eq_true (and_r hok)) h | gt => exact s_icmp_gt hK (dcd_at (and_l hok)) (of_decide_eq_true (and_r hok)) h | le => exact s_icmp_le hK (dcd_at (and_l hok)) (of_decide_eq_true (and_r hok)) h
  | tableswitch df lo hi offs =>
    have e1 : lo = ((ax.getD 1 0 : Nat) : Int) := of_decide_eq_true (and_l (and_r hok))
    subst e1
    exact s_tableswitch hK (dcd_at (and_l hok)) (of_decide_eq_true (and_l (and_r (and_r hok)))) (of_decide_eq_true (and_l (and_r (and_r (and_r hok))))) (of_decide_eq_true (and_l (and_r (and_r (and_r (and_r hok)))))) (tsOk_at (and_r (and_r (and_r (and_r (and_r hok)))))) h
  | lookupswitch df ps =>
    exact s_lookupswitch hK (dcd_at (and_l hok)) (of_decide_eq_true (and_l (and_r hok))) (and_l (and_r (and_r hok))) (lsOk_at (and_r (and_r (and_r hok)))).1 (lsOk_at (and_r (and_r (and_r hok)))).2 h
  | getfield n =>
    obtain ⟨C, T, N, g1, g2, g3, g4⟩ := gfOk_at (and_r hok)
    exact s_getfield hK (dcd_at (and_l hok)) g1 g2 g3 g4 h
  | putfield n =>
    obtain ⟨C, T, N, g1, g2, g3, g4⟩ := pfOk_at (and_r hok)
    exact s_putfield hK (dcd_at (and_l hok)) g1 g2 g3 g4 h
  | getstatic n =>
    refine s_getstatic hK (dcd_at (and_l hok)) (of_decide_eq_true (and_l (and_r hok))) ?_ h
    rcases (Bool.or_eq_true _ _).mp (and_r (and_r hok)) with q | q
    · exact Or.inl (inT_at q)
    · exact Or.inr (inT_at q).1
  | new n =>
    match ax, hok, h with
    | [e], hok, h =>
      obtain ⟨g1, g2, g3, g4, g5, g6, g7, g8, g9, g10⟩ := thOk_at (and_r hok)
      exact s_throw (dcd_at (and_l hok)) g1 g2 g3 g4 g5 g6 g7 g8 g9 hr g10 h
    | [ci, N], hok, h =>
      obtain ⟨C, T, g1, g2, g3, g4, g5⟩ := nwOk_at (and_r hok)
      exact s_new hK (dcd_at (and_l hok)) g1 g2 g3 g4 g5 hr h
  | newarray at9 =>
    refine s_newarray hK (dcd_at (and_l hok)) ?_ (inT_at (and_r (and_r hok))) hr h
    rcases of_decide_eq_true (and_l (and_r hok)) with rfl | rfl | rfl
    · exact Or.inl ⟨rfl, rfl⟩
    · exact Or.inr (Or.inl ⟨rfl, rfl⟩)
    · exact Or.inr (Or.inr ⟨rfl, rfl⟩)
  | multianewarray n dm =>
    have e1 : dm = 2 := of_decide_eq_true (and_r (and_r (and_r (and_r hok))))
    have d := dcd_at (and_l hok)
    have g1 := inT_at (and_l (and_r hok))
    have g2 := inT_at (and_l (and_r (and_r hok)))
    have g3 := inT_at (and_l (and_r (and_r (and_r hok))))
    rw [e1] at d
    exact s_multi hK d g1 g2.1 g3 hr h
  | anewarray n =>
    exact s_anewarray hK (dcd_at (and_l hok)) (of_decide_eq_true (and_l (and_r hok))) (inT_at (and_l (and_r (and_r hok)))) (inT_at (and_r (and_r (and_r hok)))).1 hr h
  | invokevirtual n =>
    match ax, hok, h with
    | [k, a, rk, c9, mc, ms], hok, h =>
      obtain ⟨q, g1, g2, g3, g4, g5, g6, g7⟩ := cvOk_at (and_r hok)
      exact s_virtual hK (dcd_at (and_l hok)) g1 g2 g3 g4 g5 g6 g7 hr h
  | invokestatic n =>
    match ax, hok, h with
    | [z], hok, h =>
      have g := mxOk_at (and_r hok)
      cases hz : z == 9001
      · have h : w_MX (z == 9001) K pc L st M kc ks := h
        rw [hz] at h; exact s_min hK (dcd_at (and_l hok)) (g.2 hz).1 (g.2 hz).2 h
      · have h : w_MX (z == 9001) K pc L st M kc ks := h
        rw [hz] at h; exact s_max hK (dcd_at (and_l hok)) (g.1 hz).1 (g.1 hz).2 h
    | [k, a, rk, mc, ms, f], hok, h =>
      have g := csOk_at (and_r hok)
      have h : (if f = 0 then w_CS G (MT k) a rk mc ms rc rs X K pc L st M kc ks else w_CN9 G (MT k) a rk mc ms rc rs K pc L st M kc ks) := h
      by_cases hz : f = 0
      · rw [if_pos hz] at h
        have hz' : (f == 0) = true := by simpa using hz
        exact s_static hK (dcd_at (and_l hok)) g.1 (g.2.1 hz').1 g.2.2.2.1 ⟨g.2.2.2.2.1, (g.2.1 hz').2⟩ g.2.2.2.2.2 hr h
      · rw [if_neg hz] at h
        have hz' : (f == 0) = false := by simpa using hz
        exact s_nest hK (dcd_at (and_l hok)) g.1 (g.2.2.1 hz') g.2.2.2.1 g.2.2.2.2.1 g.2.2.2.2.2 hr h
  | invokespecial n =>
    match ax, hok, h with
    | [], hok, h =>
      obtain ⟨g1, g2, g3, g4⟩ := oiOk_at (and_r hok)
      exact s_objInit hK (dcd_at (and_l hok)) g1 g2 g3 g4 h
    | [k, a, mc, ms, f], hok, h =>
      obtain ⟨g1, g2, g2', g3, g4, g5, g6⟩ := ciOk_at (and_r hok)
      cases hz : f == 0
      · exact s_specialN hK (dcd_at (and_l hok)) g1 (g2' hz) g3 g4 g5 g6 hr h
      · exact s_special hK (dcd_at (and_l hok)) g1 (g2 hz) g3 g4 g5 g6 hr h
  | ireturn =>
    exact s_ireturn (dcd_at (and_l hok)) (rtOk_at (and_r hok)) h
  | lreturn =>
    exact s_lreturn (dcd_at (and_l hok)) (of_decide_eq_true (and_r hok)) h
  | areturn =>
    obtain ⟨C, g⟩ := raOk_at (and_r hok)
    exact s_areturn (dcd_at (and_l hok)) g h
  | return_ =>
    exact s_return (dcd_at (and_l hok)) (of_decide_eq_true (and_r hok)) h.1 h.2
  | _ => exact h.elim
abbrev Cd : Type := Nat → Option (Instr × List Nat × List Nat)
def codeOk (mi : Mi) (cd : Cd) : Prop := ∀ pc i ax wx, cd pc = some (i, ax, wx) → okI mi pc i ax wx = true
/-- what must hold from a place on, up to the cuts, for n steps at most -/
def wq (G : En) (mi : Mi) (cd : Cd) (cut : Nat → Bool) (Q : Option Value → Mem → Prop) (X : String → Mem → Prop) (rc rs : Nat) : Nat → Nat → List (Option Value) → List Value → Mem → Nat → Nat → Prop
  | 0, pc, L, st, M, kc, ks => Go G mi Q X pc L st M kc ks
  | n + 1, pc, L, st, M, kc, ks => if cut pc = true then Go G mi Q X pc L st M kc ks else (match cd pc with
    | some (i, ax, _) => wpI G Q X rc rs (wq G mi cd cut Q X rc rs n) i ax pc L st M kc ks
    | none => False)
theorem wq_go {G : En} {mi : Mi} {cd : Cd} {cut : Nat → Bool} {Q : Option Value → Mem → Prop} {X : String → Mem → Prop} {rc rs : Nat} (ho : codeOk mi cd) (hr : rc = (iR mi).cells ∧ rs = (iR mi).slots) : ∀ n, Kok G mi Q X (wq G mi cd cut Q X rc rs n)
  | 0 => fun _ _ _ _ _ _ h => h
  | n + 1 => fun pc L st M kc ks h => by
    unfold wq at h
    by_cases hq : cut pc = true
    · rw [if_pos hq] at h
      exact h
    · rw [if_neg hq] at h
      split at h
      · rename_i i ax wx hc
        exact wpI_go (ho pc i ax wx hc) hr (wq_go ho hr n) h
      · exact h.elim
/-- the first step, whatever the cuts -/
def wp (G : En) (mi : Mi) (cd : Cd) (cut : Nat → Bool) (Q : Option Value → Mem → Prop) (X : String → Mem → Prop) (rc rs n pc : Nat) (L : List (Option Value)) (st : List Value) (M : Mem) (kc ks : Nat) : Prop := match cd pc with
  | some (i, ax, _) => wpI G Q X rc rs (wq G mi cd cut Q X rc rs n) i ax pc L st M kc ks
  | none => False
theorem wp_go {G : En} {mi : Mi} {cd : Cd} {cut : Nat → Bool} {Q : Option Value → Mem → Prop} {X : String → Mem → Prop} {rc rs : Nat} (ho : codeOk mi cd) (hr : rc = (iR mi).cells ∧ rs = (iR mi).slots) (n : Nat) : Kok G mi Q X (wp G mi cd cut Q X rc rs n) := fun pc L st M kc ks h => by
  unfold wp at h
  split at h
  · rename_i i ax wx hc
    exact wpI_go (ho pc i ax wx hc) hr (wq_go ho hr n) h
  · exact h.elim
def cdF (len : Nat) (f : Cd) : Cd := fun pc => if pc < len then f pc else none
def okAll (mi : Mi) (len : Nat) (f : Cd) : Bool := (List.range len).all (fun pc => match f pc with | some (i, ax, wx) => okI mi pc i ax wx | none => true)
theorem okAll_at {mi : Mi} {len : Nat} {f : Cd} (h : okAll mi len f = true) : codeOk mi (cdF len f) := by
  intro pc i ax wx hc
  unfold cdF at hc
  split at hc
  · rename_i hl
    have := List.all_eq_true.mp h pc (List.mem_range.mpr hl)
    rw [hc] at this
    exact this
  · cases hc
theorem Ct.go {G : En} {mi : Mi} {avs : List Value} {M : Mem} {Q : Option Value → Mem → Prop} {X : String → Mem → Prop} {L0 : List (Option Value)} (hy : plainName (iY mi).cls = true) (hl : decide ((entL avs).length ≤ iL mi) = true) (hL : entL avs ++ List.replicate (iL mi - (entL avs).length) none = L0) (h : Go G mi Q X 0 L0 [] M 0 0) : Ct G mi avs M Q X :=
  Ct.of hy (of_decide_eq_true hl) (by rw [hL]; exact h)
