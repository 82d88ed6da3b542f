abbrev W_A (cI cC cT : ClassId) (h0 N0 : Nat) (u0 : Nat → Int32) : va_W := [(h0, .inl (cI, N0, .inl u0))]
abbrev W_T (cI cC cT : ClassId) (h0 h1 h2 h3 h4 : Nat) (nr : Int32) (pf : Int32) (ks : Nat → Int32) (vs : Nat → Int32) (wg : Nat → Int32) (ts : Nat → Int32) : va_W := [(h0, .inr (3, [.ref h1, .ref h2, .ref h3, .ref h4, .int nr, .int pf])), (h1, .inl (cI, 20, .inl ks)), (h2, .inl (cI, 20, .inl vs)), (h3, .inl (cI, 20, .inl wg)), (h4, .inl (cI, 20, .inl ts))]
abbrev W_X (cI cC cT : ClassId) (h0 h1 : Nat) (tl : Int32) (tc : Nat → Int32) : va_W := [(h0, .inr (4, [.ref h1, .int tl])), (h1, .inl (cC, 80, .inl tc))]
abbrev W_C (cI cC cT : ClassId) (h0 h1 h2 h3 h4 h5 h6 h7 h8 h9 : Nat) (mn : Int32) (oc : Nat → Int32) (os : Nat → Int32) (sd : Nat → Int32) (tg : Nat → Int32) (nr : Int32) (pf : Int32) (ks : Nat → Int32) (vs : Nat → Int32) (wg : Nat → Int32) (ts : Nat → Int32) : va_W := [(h0, .inr (0, [.ref h5, .ref h1, .ref h2, .ref h3, .ref h4, .int mn])), (h1, .inl (cI, 10, .inl oc)), (h2, .inl (cI, 200, .inl os)), (h3, .inl (cI, 10, .inl sd)), (h4, .inl (cI, 10, .inl tg)), (h5, .inr (3, [.ref h6, .ref h7, .ref h8, .ref h9, .int nr, .int pf])), (h6, .inl (cI, 20, .inl ks)), (h7, .inl (cI, 20, .inl vs)), (h8, .inl (cI, 20, .inl wg)), (h9, .inl (cI, 20, .inl ts))]
abbrev W_H (cI cC cT : ClassId) (h0 h1 h2 h3 h4 h5 h6 h7 h8 h9 h10 h11 h12 h13 h14 h15 h16 h17 h18 h19 h20 h21 : Nat) (nx : Int32) (nz : Int32) (h0nr : Int32) (h0pf : Int32) (h0ks : Nat → Int32) (h0vs : Nat → Int32) (h0wg : Nat → Int32) (h0ts : Nat → Int32) (h1nr : Int32) (h1pf : Int32) (h1ks : Nat → Int32) (h1vs : Nat → Int32) (h1wg : Nat → Int32) (h1ts : Nat → Int32) (h2nr : Int32) (h2pf : Int32) (h2ks : Nat → Int32) (h2vs : Nat → Int32) (h2wg : Nat → Int32) (h2ts : Nat → Int32) (h3nr : Int32) (h3pf : Int32) (h3ks : Nat → Int32) (h3vs : Nat → Int32) (h3wg : Nat → Int32) (h3ts : Nat → Int32) : va_W := [(h0, .inr (1, [.ref h1, .int nx, .int nz])), (h1, .inl (cT, 4, .inr (.inr (.inr (.inr ((va_up (va_up (va_up (va_up (fun _ => none) 0 (some h2)) 1 (some h7)) 2 (some h12)) 3 (some h17)))))))), (h2, .inr (3, [.ref h3, .ref h4, .ref h5, .ref h6, .int h0nr, .int h0pf])), (h3, .inl (cI, 20, .inl h0ks)), (h4, .inl (cI, 20, .inl h0vs)), (h5, .inl (cI, 20, .inl h0wg)), (h6, .inl (cI, 20, .inl h0ts)), (h7, .inr (3, [.ref h8, .ref h9, .ref h10, .ref h11, .int h1nr, .int h1pf])), (h8, .inl (cI, 20, .inl h1ks)), (h9, .inl (cI, 20, .inl h1vs)), (h10, .inl (cI, 20, .inl h1wg)), (h11, .inl (cI, 20, .inl h1ts)), (h12, .inr (3, [.ref h13, .ref h14, .ref h15, .ref h16, .int h2nr, .int h2pf])), (h13, .inl (cI, 20, .inl h2ks)), (h14, .inl (cI, 20, .inl h2vs)), (h15, .inl (cI, 20, .inl h2wg)), (h16, .inl (cI, 20, .inl h2ts)), (h17, .inr (3, [.ref h18, .ref h19, .ref h20, .ref h21, .int h3nr, .int h3pf])), (h18, .inl (cI, 20, .inl h3ks)), (h19, .inl (cI, 20, .inl h3vs)), (h20, .inl (cI, 20, .inl h3wg)), (h21, .inl (cI, 20, .inl h3ts))]
abbrev W_R (cI cC cT : ClassId) (h0 h1 h2 h3 h4 h5 h6 h7 : Nat) (po : Int32) (rnr : Int32) (rpf : Int32) (rks : Nat → Int32) (rvs : Nat → Int32) (rwg : Nat → Int32) (rts : Nat → Int32) (tl : Int32) (tc : Nat → Int32) : va_W := [(h0, .inr (2, [.ref h6, .ref h1, .int po])), (h1, .inr (3, [.ref h2, .ref h3, .ref h4, .ref h5, .int rnr, .int rpf])), (h2, .inl (cI, 20, .inl rks)), (h3, .inl (cI, 20, .inl rvs)), (h4, .inl (cI, 20, .inl rwg)), (h5, .inl (cI, 20, .inl rts)), (h6, .inr (4, [.ref h7, .int tl])), (h7, .inl (cC, 80, .inl tc))]
abbrev W_S (cI cC cT : ClassId) (h0 h1 h2 h3 h4 h5 h6 h7 h8 h9 h10 h11 h12 h13 h14 h15 h16 h17 h18 h19 h20 h21 h22 h23 h24 h25 h26 h27 h28 h29 h30 h31 h32 h33 h34 h35 h36 h37 h38 h39 h40 h41 h42 h43 h44 h45 : Nat) (sk : Int32) (nr : Int32) (pf : Int32) (ks : Nat → Int32) (vs : Nat → Int32) (wg : Nat → Int32) (ts : Nat → Int32) (mn : Int32) (oc : Nat → Int32) (os : Nat → Int32) (sd : Nat → Int32) (tg : Nat → Int32) (nx : Int32) (nz : Int32) (h0nr : Int32) (h0pf : Int32) (h0ks : Nat → Int32) (h0vs : Nat → Int32) (h0wg : Nat → Int32) (h0ts : Nat → Int32) (h1nr : Int32) (h1pf : Int32) (h1ks : Nat → Int32) (h1vs : Nat → Int32) (h1wg : Nat → Int32) (h1ts : Nat → Int32) (h2nr : Int32) (h2pf : Int32) (h2ks : Nat → Int32) (h2vs : Nat → Int32) (h2wg : Nat → Int32) (h2ts : Nat → Int32) (h3nr : Int32) (h3pf : Int32) (h3ks : Nat → Int32) (h3vs : Nat → Int32) (h3wg : Nat → Int32) (h3ts : Nat → Int32) (snr : Int32) (spf : Int32) (sks : Nat → Int32) (svs : Nat → Int32) (swg : Nat → Int32) (sts : Nat → Int32) (tl : Int32) (tc : Nat → Int32) (po : Int32) (rnr : Int32) (rpf : Int32) (rks : Nat → Int32) (rvs : Nat → Int32) (rwg : Nat → Int32) (rts : Nat → Int32) : va_W := [(h0, .inr (5, [.ref h1, .ref h6, .ref h11, .ref h33, .int sk, .ref h38, .ref h40])), (h1, .inr (3, [.ref h2, .ref h3, .ref h4, .ref h5, .int nr, .int pf])), (h2, .inl (cI, 20, .inl ks)), (h3, .inl (cI, 20, .inl vs)), (h4, .inl (cI, 20, .inl wg)), (h5, .inl (cI, 20, .inl ts)), (h6, .inr (0, [.ref h1, .ref h7, .ref h8, .ref h9, .ref h10, .int mn])), (h7, .inl (cI, 10, .inl oc)), (h8, .inl (cI, 200, .inl os)), (h9, .inl (cI, 10, .inl sd)), (h10, .inl (cI, 10, .inl tg)), (h11, .inr (1, [.ref h12, .int nx, .int nz])), (h12, .inl (cT, 4, .inr (.inr (.inr (.inr ((va_up (va_up (va_up (va_up (fun _ => none) 0 (some h13)) 1 (some h18)) 2 (some h23)) 3 (some h28)))))))), (h13, .inr (3, [.ref h14, .ref h15, .ref h16, .ref h17, .int h0nr, .int h0pf])), (h14, .inl (cI, 20, .inl h0ks)), (h15, .inl (cI, 20, .inl h0vs)), (h16, .inl (cI, 20, .inl h0wg)), (h17, .inl (cI, 20, .inl h0ts)), (h18, .inr (3, [.ref h19, .ref h20, .ref h21, .ref h22, .int h1nr, .int h1pf])), (h19, .inl (cI, 20, .inl h1ks)), (h20, .inl (cI, 20, .inl h1vs)), (h21, .inl (cI, 20, .inl h1wg)), (h22, .inl (cI, 20, .inl h1ts)), (h23, .inr (3, [.ref h24, .ref h25, .ref h26, .ref h27, .int h2nr, .int h2pf])), (h24, .inl (cI, 20, .inl h2ks)), (h25, .inl (cI, 20, .inl h2vs)), (h26, .inl (cI, 20, .inl h2wg)), (h27, .inl (cI, 20, .inl h2ts)), (h28, .inr (3, [.ref h29, .ref h30, .ref h31, .ref h32, .int h3nr, .int h3pf])), (h29, .inl (cI, 20, .inl h3ks)), (h30, .inl (cI, 20, .inl h3vs)), (h31, .inl (cI, 20, .inl h3wg)), (h32, .inl (cI, 20, .inl h3ts)), (h33, .inr (3, [.ref h34, .ref h35, .ref h36, .ref h37, .int snr, .int spf])), (h34, .inl (cI, 20, .inl sks)), (h35, .inl (cI, 20, .inl svs)), (h36, .inl (cI, 20, .inl swg)), (h37, .inl (cI, 20, .inl sts)), (h38, .inr (4, [.ref h39, .int tl])), (h39, .inl (cC, 80, .inl tc)), (h40, .inr (2, [.ref h38, .ref h41, .int po])), (h41, .inr (3, [.ref h42, .ref h43, .ref h44, .ref h45, .int rnr, .int rpf])), (h42, .inl (cI, 20, .inl rks)), (h43, .inl (cI, 20, .inl rvs)), (h44, .inl (cI, 20, .inl rwg)), (h45, .inl (cI, 20, .inl rts))]
def f_J6_bitCount_0f7a4 (p0 : Int32) : Option (Int32) := some ((((((((p0 - (((p0.toUInt32 >>> (Int32.toUInt32 1 &&& Int32.toUInt32 31)).toInt32) &&& 1431655765)) &&& 858993459) + ((((p0 - (((p0.toUInt32 >>> (Int32.toUInt32 1 &&& Int32.toUInt32 31)).toInt32) &&& 1431655765)).toUInt32 >>> (Int32.toUInt32 2 &&& Int32.toUInt32 31)).toInt32) &&& 858993459)) + (((((p0 - (((p0.toUInt32 >>> (Int32.toUInt32 1 &&& Int32.toUInt32 31)).toInt32) &&& 1431655765)) &&& 858993459) + ((((p0 - (((p0.toUInt32 >>> (Int32.toUInt32 1 &&& Int32.toUInt32 31)).toInt32) &&& 1431655765)).toUInt32 >>> (Int32.toUInt32 2 &&& Int32.toUInt32 31)).toInt32) &&& 858993459)).toUInt32 >>> (Int32.toUInt32 4 &&& Int32.toUInt32 31)).toInt32)) &&& 252645135) + (((((((p0 - (((p0.toUInt32 >>> (Int32.toUInt32 1 &&& Int32.toUInt32 31)).toInt32) &&& 1431655765)) &&& 858993459) + ((((p0 - (((p0.toUInt32 >>> (Int32.toUInt32 1 &&& Int32.toUInt32 31)).toInt32) &&& 1431655765)).toUInt32 >>> (Int32.toUInt32 2 &&& Int32.toUInt32 31)).toInt32) &&& 858993459)) + (((((p0 - (((p0.toUInt32 >>> (Int32.toUInt32 1 &&& Int32.toUInt32 31)).toInt32) &&& 1431655765)) &&& 858993459) + ((((p0 - (((p0.toUInt32 >>> (Int32.toUInt32 1 &&& Int32.toUInt32 31)).toInt32) &&& 1431655765)).toUInt32 >>> (Int32.toUInt32 2 &&& Int32.toUInt32 31)).toInt32) &&& 858993459)).toUInt32 >>> (Int32.toUInt32 4 &&& Int32.toUInt32 31)).toInt32)) &&& 252645135).toUInt32 >>> (Int32.toUInt32 8 &&& Int32.toUInt32 31)).toInt32)) + ((((((((p0 - (((p0.toUInt32 >>> (Int32.toUInt32 1 &&& Int32.toUInt32 31)).toInt32) &&& 1431655765)) &&& 858993459) + ((((p0 - (((p0.toUInt32 >>> (Int32.toUInt32 1 &&& Int32.toUInt32 31)).toInt32) &&& 1431655765)).toUInt32 >>> (Int32.toUInt32 2 &&& Int32.toUInt32 31)).toInt32) &&& 858993459)) + (((((p0 - (((p0.toUInt32 >>> (Int32.toUInt32 1 &&& Int32.toUInt32 31)).toInt32) &&& 1431655765)) &&& 858993459) + ((((p0 - (((p0.toUInt32 >>> (Int32.toUInt32 1 &&& Int32.toUInt32 31)).toInt32) &&& 1431655765)).toUInt32 >>> (Int32.toUInt32 2 &&& Int32.toUInt32 31)).toInt32) &&& 858993459)).toUInt32 >>> (Int32.toUInt32 4 &&& Int32.toUInt32 31)).toInt32)) &&& 252645135) + (((((((p0 - (((p0.toUInt32 >>> (Int32.toUInt32 1 &&& Int32.toUInt32 31)).toInt32) &&& 1431655765)) &&& 858993459) + ((((p0 - (((p0.toUInt32 >>> (Int32.toUInt32 1 &&& Int32.toUInt32 31)).toInt32) &&& 1431655765)).toUInt32 >>> (Int32.toUInt32 2 &&& Int32.toUInt32 31)).toInt32) &&& 858993459)) + (((((p0 - (((p0.toUInt32 >>> (Int32.toUInt32 1 &&& Int32.toUInt32 31)).toInt32) &&& 1431655765)) &&& 858993459) + ((((p0 - (((p0.toUInt32 >>> (Int32.toUInt32 1 &&& Int32.toUInt32 31)).toInt32) &&& 1431655765)).toUInt32 >>> (Int32.toUInt32 2 &&& Int32.toUInt32 31)).toInt32) &&& 858993459)).toUInt32 >>> (Int32.toUInt32 4 &&& Int32.toUInt32 31)).toInt32)) &&& 252645135).toUInt32 >>> (Int32.toUInt32 8 &&& Int32.toUInt32 31)).toInt32)).toUInt32 >>> (Int32.toUInt32 16 &&& Int32.toUInt32 31)).toInt32)) &&& 63)
abbrev rm_J6_bitCount_0f7a4 : Room := { frames := 0, cells := 0, slots := 0, locals := 0 }
set_option maxHeartbeats 4000000 in
set_option maxRecDepth 100000 in
theorem c_J6_bitCount_0f7a4 (l : Launch) (D : va_G) (cI cC cT : ClassId) (sz : Nat) (p0 : Int32) (out : Int32) (hf : f_J6_bitCount_0f7a4 p0 = some out) : Met l yJ6_bitCount_0f7a4 wsJ6_bitCount_0f7a4 rm_J6_bitCount_0f7a4 (mP D (mTY cI cC cT) [.int p0] ([] : va_W) sz) (mQi D (mTY cI cC cT) out (va_A ([] : va_W) sz) ([] : va_W)) 0 0 (va_A ([] : va_W) sz) := by
  refine mEnt (cc := cJ6_bitCount_0f7a4) (maxL := 1) (ret := (some .int)) (own := RJ6) (Qq := fun A => mQi D (mTY cI cC cT) out A ([] : va_W)) (by decide) rfl rfl (Nat.le_of_ble_eq_true rfl) ?_
  intro p e s m below meth c A ls H locs hx hb hr hml hlocks hown hts hN hA hP hK hD hS hl
  have hl : lv_has ls 1 [(0, .int p0)] := hl
  unfold f_J6_bitCount_0f7a4 at hf
  refine lv_iload_n hx hb dJ6_bitCount_0f7a4_0 rfl (lv_at hl 0 rfl) ?_
  refine lv_iload_n hx hb dJ6_bitCount_0f7a4_1 rfl (lv_at hl 0 rfl) ?_
  refine lv_iconst (v := 1) hx hb dJ6_bitCount_0f7a4_2 (by decide) ?_
  refine lv_iushr hx hb dJ6_bitCount_0f7a4_3 rfl ?_
  refine lv_ldcw (v := 1431655765) hx hb hown (hts (.constant RJ6 265 (1431655765)) (by decide +kernel)) dJ6_bitCount_0f7a4_4 ?_
  refine lv_iand hx hb dJ6_bitCount_0f7a4_7 ?_
  refine lv_isub hx hb dJ6_bitCount_0f7a4_8 ?_
  refine lv_istore_n (lv' := [(0, .int (p0 - (((p0.toUInt32 >>> (Int32.toUInt32 1 &&& Int32.toUInt32 31)).toInt32) &&& 1431655765)))]) hx hb dJ6_bitCount_0f7a4_9 rfl hl (by decide) rfl (fun ls hl => ?_)
  refine lv_iload_n hx hb dJ6_bitCount_0f7a4_10 rfl (lv_at hl 0 rfl) ?_
  refine lv_ldcw (v := 858993459) hx hb hown (hts (.constant RJ6 266 (858993459)) (by decide +kernel)) dJ6_bitCount_0f7a4_11 ?_
  refine lv_iand hx hb dJ6_bitCount_0f7a4_14 ?_
  refine lv_iload_n hx hb dJ6_bitCount_0f7a4_15 rfl (lv_at hl 0 rfl) ?_
  refine lv_iconst (v := 2) hx hb dJ6_bitCount_0f7a4_16 (by decide) ?_
  refine lv_iushr hx hb dJ6_bitCount_0f7a4_17 rfl ?_
  refine lv_ldcw (v := 858993459) hx hb hown (hts (.constant RJ6 266 (858993459)) (by decide +kernel)) dJ6_bitCount_0f7a4_18 ?_
  refine lv_iand hx hb dJ6_bitCount_0f7a4_21 ?_
  refine lv_iadd hx hb dJ6_bitCount_0f7a4_22 ?_
  refine lv_istore_n (lv' := [(0, .int (((p0 - (((p0.toUInt32 >>> (Int32.toUInt32 1 &&& Int32.toUInt32 31)).toInt32) &&& 1431655765)) &&& 858993459) + ((((p0 - (((p0.toUInt32 >>> (Int32.toUInt32 1 &&& Int32.toUInt32 31)).toInt32) &&& 1431655765)).toUInt32 >>> (Int32.toUInt32 2 &&& Int32.toUInt32 31)).toInt32) &&& 858993459)))]) hx hb dJ6_bitCount_0f7a4_23 rfl hl (by decide) rfl (fun ls hl => ?_)
  refine lv_iload_n hx hb dJ6_bitCount_0f7a4_24 rfl (lv_at hl 0 rfl) ?_
  refine lv_iload_n hx hb dJ6_bitCount_0f7a4_25 rfl (lv_at hl 0 rfl) ?_
  refine lv_iconst (v := 4) hx hb dJ6_bitCount_0f7a4_26 (by decide) ?_
  refine lv_iushr hx hb dJ6_bitCount_0f7a4_27 rfl ?_
  refine lv_iadd hx hb dJ6_bitCount_0f7a4_28 ?_
  refine lv_ldcw (v := 252645135) hx hb hown (hts (.constant RJ6 267 (252645135)) (by decide +kernel)) dJ6_bitCount_0f7a4_29 ?_
  refine lv_iand hx hb dJ6_bitCount_0f7a4_32 ?_
  refine lv_istore_n (lv' := [(0, .int (((((p0 - (((p0.toUInt32 >>> (Int32.toUInt32 1 &&& Int32.toUInt32 31)).toInt32) &&& 1431655765)) &&& 858993459) + ((((p0 - (((p0.toUInt32 >>> (Int32.toUInt32 1 &&& Int32.toUInt32 31)).toInt32) &&& 1431655765)).toUInt32 >>> (Int32.toUInt32 2 &&& Int32.toUInt32 31)).toInt32) &&& 858993459)) + (((((p0 - (((p0.toUInt32 >>> (Int32.toUInt32 1 &&& Int32.toUInt32 31)).toInt32) &&& 1431655765)) &&& 858993459) + ((((p0 - (((p0.toUInt32 >>> (Int32.toUInt32 1 &&& Int32.toUInt32 31)).toInt32) &&& 1431655765)).toUInt32 >>> (Int32.toUInt32 2 &&& Int32.toUInt32 31)).toInt32) &&& 858993459)).toUInt32 >>> (Int32.toUInt32 4 &&& Int32.toUInt32 31)).toInt32)) &&& 252645135))]) hx hb dJ6_bitCount_0f7a4_33 rfl hl (by decide) rfl (fun ls hl => ?_)
  refine lv_iload_n hx hb dJ6_bitCount_0f7a4_34 rfl (lv_at hl 0 rfl) ?_
  refine lv_iload_n hx hb dJ6_bitCount_0f7a4_35 rfl (lv_at hl 0 rfl) ?_
  refine lv_bipush (v := 8) hx hb dJ6_bitCount_0f7a4_36 (by decide) ?_
  refine lv_iushr hx hb dJ6_bitCount_0f7a4_38 rfl ?_
  refine lv_iadd hx hb dJ6_bitCount_0f7a4_39 ?_
  refine lv_istore_n (lv' := [(0, .int ((((((p0 - (((p0.toUInt32 >>> (Int32.toUInt32 1 &&& Int32.toUInt32 31)).toInt32) &&& 1431655765)) &&& 858993459) + ((((p0 - (((p0.toUInt32 >>> (Int32.toUInt32 1 &&& Int32.toUInt32 31)).toInt32) &&& 1431655765)).toUInt32 >>> (Int32.toUInt32 2 &&& Int32.toUInt32 31)).toInt32) &&& 858993459)) + (((((p0 - (((p0.toUInt32 >>> (Int32.toUInt32 1 &&& Int32.toUInt32 31)).toInt32) &&& 1431655765)) &&& 858993459) + ((((p0 - (((p0.toUInt32 >>> (Int32.toUInt32 1 &&& Int32.toUInt32 31)).toInt32) &&& 1431655765)).toUInt32 >>> (Int32.toUInt32 2 &&& Int32.toUInt32 31)).toInt32) &&& 858993459)).toUInt32 >>> (Int32.toUInt32 4 &&& Int32.toUInt32 31)).toInt32)) &&& 252645135) + (((((((p0 - (((p0.toUInt32 >>> (Int32.toUInt32 1 &&& Int32.toUInt32 31)).toInt32) &&& 1431655765)) &&& 858993459) + ((((p0 - (((p0.toUInt32 >>> (Int32.toUInt32 1 &&& Int32.toUInt32 31)).toInt32) &&& 1431655765)).toUInt32 >>> (Int32.toUInt32 2 &&& Int32.toUInt32 31)).toInt32) &&& 858993459)) + (((((p0 - (((p0.toUInt32 >>> (Int32.toUInt32 1 &&& Int32.toUInt32 31)).toInt32) &&& 1431655765)) &&& 858993459) + ((((p0 - (((p0.toUInt32 >>> (Int32.toUInt32 1 &&& Int32.toUInt32 31)).toInt32) &&& 1431655765)).toUInt32 >>> (Int32.toUInt32 2 &&& Int32.toUInt32 31)).toInt32) &&& 858993459)).toUInt32 >>> (Int32.toUInt32 4 &&& Int32.toUInt32 31)).toInt32)) &&& 252645135).toUInt32 >>> (Int32.toUInt32 8 &&& Int32.toUInt32 31)).toInt32)))]) hx hb dJ6_bitCount_0f7a4_40 rfl hl (by decide) rfl (fun ls hl => ?_)
  refine lv_iload_n hx hb dJ6_bitCount_0f7a4_41 rfl (lv_at hl 0 rfl) ?_
  refine lv_iload_n hx hb dJ6_bitCount_0f7a4_42 rfl (lv_at hl 0 rfl) ?_
  refine lv_bipush (v := 16) hx hb dJ6_bitCount_0f7a4_43 (by decide) ?_
  refine lv_iushr hx hb dJ6_bitCount_0f7a4_45 rfl ?_
  refine lv_iadd hx hb dJ6_bitCount_0f7a4_46 ?_
  refine lv_istore_n (lv' := [(0, .int (((((((p0 - (((p0.toUInt32 >>> (Int32.toUInt32 1 &&& Int32.toUInt32 31)).toInt32) &&& 1431655765)) &&& 858993459) + ((((p0 - (((p0.toUInt32 >>> (Int32.toUInt32 1 &&& Int32.toUInt32 31)).toInt32) &&& 1431655765)).toUInt32 >>> (Int32.toUInt32 2 &&& Int32.toUInt32 31)).toInt32) &&& 858993459)) + (((((p0 - (((p0.toUInt32 >>> (Int32.toUInt32 1 &&& Int32.toUInt32 31)).toInt32) &&& 1431655765)) &&& 858993459) + ((((p0 - (((p0.toUInt32 >>> (Int32.toUInt32 1 &&& Int32.toUInt32 31)).toInt32) &&& 1431655765)).toUInt32 >>> (Int32.toUInt32 2 &&& Int32.toUInt32 31)).toInt32) &&& 858993459)).toUInt32 >>> (Int32.toUInt32 4 &&& Int32.toUInt32 31)).toInt32)) &&& 252645135) + (((((((p0 - (((p0.toUInt32 >>> (Int32.toUInt32 1 &&& Int32.toUInt32 31)).toInt32) &&& 1431655765)) &&& 858993459) + ((((p0 - (((p0.toUInt32 >>> (Int32.toUInt32 1 &&& Int32.toUInt32 31)).toInt32) &&& 1431655765)).toUInt32 >>> (Int32.toUInt32 2 &&& Int32.toUInt32 31)).toInt32) &&& 858993459)) + (((((p0 - (((p0.toUInt32 >>> (Int32.toUInt32 1 &&& Int32.toUInt32 31)).toInt32) &&& 1431655765)) &&& 858993459) + ((((p0 - (((p0.toUInt32 >>> (Int32.toUInt32 1 &&& Int32.toUInt32 31)).toInt32) &&& 1431655765)).toUInt32 >>> (Int32.toUInt32 2 &&& Int32.toUInt32 31)).toInt32) &&& 858993459)).toUInt32 >>> (Int32.toUInt32 4 &&& Int32.toUInt32 31)).toInt32)) &&& 252645135).toUInt32 >>> (Int32.toUInt32 8 &&& Int32.toUInt32 31)).toInt32)) + ((((((((p0 - (((p0.toUInt32 >>> (Int32.toUInt32 1 &&& Int32.toUInt32 31)).toInt32) &&& 1431655765)) &&& 858993459) + ((((p0 - (((p0.toUInt32 >>> (Int32.toUInt32 1 &&& Int32.toUInt32 31)).toInt32) &&& 1431655765)).toUInt32 >>> (Int32.toUInt32 2 &&& Int32.toUInt32 31)).toInt32) &&& 858993459)) + (((((p0 - (((p0.toUInt32 >>> (Int32.toUInt32 1 &&& Int32.toUInt32 31)).toInt32) &&& 1431655765)) &&& 858993459) + ((((p0 - (((p0.toUInt32 >>> (Int32.toUInt32 1 &&& Int32.toUInt32 31)).toInt32) &&& 1431655765)).toUInt32 >>> (Int32.toUInt32 2 &&& Int32.toUInt32 31)).toInt32) &&& 858993459)).toUInt32 >>> (Int32.toUInt32 4 &&& Int32.toUInt32 31)).toInt32)) &&& 252645135) + (((((((p0 - (((p0.toUInt32 >>> (Int32.toUInt32 1 &&& Int32.toUInt32 31)).toInt32) &&& 1431655765)) &&& 858993459) + ((((p0 - (((p0.toUInt32 >>> (Int32.toUInt32 1 &&& Int32.toUInt32 31)).toInt32) &&& 1431655765)).toUInt32 >>> (Int32.toUInt32 2 &&& Int32.toUInt32 31)).toInt32) &&& 858993459)) + (((((p0 - (((p0.toUInt32 >>> (Int32.toUInt32 1 &&& Int32.toUInt32 31)).toInt32) &&& 1431655765)) &&& 858993459) + ((((p0 - (((p0.toUInt32 >>> (Int32.toUInt32 1 &&& Int32.toUInt32 31)).toInt32) &&& 1431655765)).toUInt32 >>> (Int32.toUInt32 2 &&& Int32.toUInt32 31)).toInt32) &&& 858993459)).toUInt32 >>> (Int32.toUInt32 4 &&& Int32.toUInt32 31)).toInt32)) &&& 252645135).toUInt32 >>> (Int32.toUInt32 8 &&& Int32.toUInt32 31)).toInt32)).toUInt32 >>> (Int32.toUInt32 16 &&& Int32.toUInt32 31)).toInt32)))]) hx hb dJ6_bitCount_0f7a4_47 rfl hl (by decide) rfl (fun ls hl => ?_)
  refine lv_iload_n hx hb dJ6_bitCount_0f7a4_48 rfl (lv_at hl 0 rfl) ?_
  refine lv_bipush (v := 63) hx hb dJ6_bitCount_0f7a4_49 (by decide) ?_
  refine lv_iand hx hb dJ6_bitCount_0f7a4_51 ?_
  cases hf
  exact mIret hx hb hr hlocks hP hD hK hS dJ6_bitCount_0f7a4_52
def b_J7_fill_53178_1 (p1 : Int32) (N0 : Nat) (z : Int32 × (Nat → Int32)) : Option ((Int32 × (Nat → Int32)) ⊕ ((Nat → Int32))) := match z with
  | (v2_1, u0_2) => (if (Int32.ofNat N0) ≤ v2_1 then some (.inr u0_2) else (if ¬ (v2_1 < 0 ∨ N0 ≤ v2_1.toNatClampNeg) then some (.inl ((v2_1 + 1, upd u0_2 v2_1.toNatClampNeg p1))) else none))
def f_J7_fill_53178 (u0 : Nat → Int32) (p1 : Int32) (N0 : Nat) : Option ((Nat → Int32)) := iter fuel (b_J7_fill_53178_1 p1 N0) ((0, u0))
abbrev rm_J7_fill_53178 : Room := { frames := 0, cells := 0, slots := 0, locals := 0 }
set_option maxHeartbeats 4000000 in
set_option maxRecDepth 100000 in
theorem c_J7_fill_53178 (l : Launch) (D : va_G) (cI cC cT : ClassId) (N0 : Nat) (h0 : Nat) (u0 : Nat → Int32) (sz : Nat) (p1 : Int32) (o_u0 : Nat → Int32) (hf : f_J7_fill_53178 u0 p1 N0 = some o_u0) : Met l yJ7_fill_53178 wsJ7_fill_53178 rm_J7_fill_53178 (mP D (mTY cI cC cT) [.ref h0, .int p1] (W_A cI cC cT h0 N0 u0) sz) (mQv D (mTY cI cC cT) (va_A (W_A cI cC cT h0 N0 u0) sz) (W_A cI cC cT h0 N0 o_u0)) 0 0 (va_A (W_A cI cC cT h0 N0 u0) sz) := by
  refine mEnt (cc := cJ7_fill_53178) (maxL := 4) (ret := none) (own := RJ7) (Qq := fun A => mQv D (mTY cI cC cT) A (W_A cI cC cT h0 N0 o_u0)) (by decide) rfl rfl (Nat.le_of_ble_eq_true rfl) ?_
  intro p e s m below meth c A ls H locs hx hb hr hml hlocks hown hts hN hA hP hK hD hS hl
  have hl : lv_has ls 4 [(0, .ref h0), (1, .int p1)] := hl
  unfold f_J7_fill_53178 at hf
  refine lv_iconst (v := 0) hx hb dJ7_fill_53178_0 (by decide) ?_
  refine lv_istore_n (lv' := [(2, .int 0), (0, .ref h0), (1, .int p1)]) hx hb dJ7_fill_53178_1 rfl hl (by decide) rfl (fun ls hl => ?_)
  refine lv_aload_n hx hb dJ7_fill_53178_2 rfl (lv_at hl 1 rfl) ?_
  refine va_alen hx hb hK hP 0 0 rfl rfl (v := Int32.ofNat N0) rfl dJ7_fill_53178_3 ?_
  refine lv_istore_n (lv' := [(3, .int (Int32.ofNat N0)), (2, .int 0), (0, .ref h0), (1, .int p1)]) hx hb dJ7_fill_53178_4 rfl hl (by decide) rfl (fun ls hl => ?_)
  have LP_3 : ∀ (n_3 : Nat) (v2_1 : Int32) (u0_2 : Nat → Int32), iter n_3 (b_J7_fill_53178_1 p1 N0) ((v2_1, u0_2)) = some o_u0 → ∀ (H : Heap) (locs : List Loc), va_P D vwCl (W_A cI cC cT h0 N0 u0_2) H → va_D A (W_A cI cC cT h0 N0 u0_2) → va_S A s.heap H locs → ∀ (ls : Array Slot), lv_has ls 4 [(0, .ref h0), (1, .int p1), (2, .int v2_1), (3, .int (Int32.ofNat N0))] → W p l e rm_J7_fill_53178 s m ([.ref h0, .int p1] : List Value).toArray below meth c H locs 0 0 (MQ below (mQv D (mTY cI cC cT) A (W_A cI cC cT h0 N0 o_u0)) ([.ref h0, .int p1] : List Value).toArray s 0 0 A) (F0 m 5 ls []) := by
    intro n_3
    induction n_3 with
    | zero => intro v2_1 u0_2 hf; exact (iter_zero hf).elim
    | succ n_3 ih_3 =>
      intro v2_1 u0_2 hf H locs hP hD hS ls hl
      obtain ⟨o_3, hf, ho_3⟩ := iter_succ hf
      dsimp only [b_J7_fill_53178_1] at hf
      refine lv_iload_n hx hb dJ7_fill_53178_5 rfl (lv_at hl 2 rfl) ?_
      refine lv_iload_n hx hb dJ7_fill_53178_6 rfl (lv_at hl 3 rfl) ?_
      refine lv_icmp_ge (tgt := 20) hx hb dJ7_fill_53178_7 (by decide) (fun c_4 => ?_) (fun c_4 => ?_)
      · have hf := ite_t hf c_4
        cases hf
        have hf := ho_3.2 _ rfl
        cases hf
        exact mVret hx hb hr hlocks hP hD hK hS dJ7_fill_53178_20
      · have hf := ite_f hf c_4
        refine lv_aload_n hx hb dJ7_fill_53178_10 rfl (lv_at hl 0 rfl) ?_
        refine lv_iload_n hx hb dJ7_fill_53178_11 rfl (lv_at hl 2 rfl) ?_
        refine lv_iload_n hx hb dJ7_fill_53178_12 rfl (lv_at hl 1 rfl) ?_
        obtain ⟨h_5, hf⟩ := grd hf
        refine va_iast hx hb hK hP hD hS 0 0 rfl rfl h_5 dJ7_fill_53178_13 (fun H locs hP hD hS => ?_)
        have hP : va_P D vwCl (W_A cI cC cT h0 N0 (upd u0_2 v2_1.toNatClampNeg p1)) H := hP
        have hD : va_D A (W_A cI cC cT h0 N0 (upd u0_2 v2_1.toNatClampNeg p1)) := hD
        refine lv_iinc (v := v2_1 + 1) (lv' := [(2, .int (v2_1 + 1)), (0, .ref h0), (1, .int p1), (3, .int (Int32.ofNat N0))]) hx hb dJ7_fill_53178_14 hl (k := 2) rfl rfl (by decide) rfl (fun ls hl => ?_)
        refine lv_goto (tgt := 5) hx hb dJ7_fill_53178_17 (by decide) ?_
        cases hf
        have hf := ho_3.1 _ rfl
        exact ih_3 _ _ hf _ _ hP hD hS _ (lv_sub hl [1, 2, 0, 3] rfl)
  exact LP_3 _ _ _ hf _ _ hP hD hS _ (lv_sub hl [2, 3, 1, 0] rfl)
def f_X5_at (u0 : Nat → Int32) (p1 : Int32) (N0 : Nat) : Option (Int32) := (if p1 < 0 then some (-5) else (if (Int32.ofNat N0) ≤ p1 then some (-5) else (if ¬ (p1 < 0 ∨ N0 ≤ p1.toNatClampNeg) then some (u0 p1.toNatClampNeg) else none)))
abbrev rm_X5_at : Room := { frames := 0, cells := 0, slots := 0, locals := 0 }
set_option maxHeartbeats 4000000 in
set_option maxRecDepth 100000 in
theorem c_X5_at (l : Launch) (D : va_G) (cI cC cT : ClassId) (N0 : Nat) (h0 : Nat) (u0 : Nat → Int32) (sz : Nat) (p1 : Int32) (out : Int32) (hf : f_X5_at u0 p1 N0 = some out) : Met l yX5_at wsX5_at rm_X5_at (mP D (mTY cI cC cT) [.ref h0, .int p1] (W_A cI cC cT h0 N0 u0) sz) (mQi D (mTY cI cC cT) out (va_A (W_A cI cC cT h0 N0 u0) sz) (W_A cI cC cT h0 N0 u0)) 0 0 (va_A (W_A cI cC cT h0 N0 u0) sz) := by
  refine mEnt (cc := cX5_at) (maxL := 2) (ret := (some .int)) (own := RX5) (Qq := fun A => mQi D (mTY cI cC cT) out A (W_A cI cC cT h0 N0 u0)) (by decide) rfl rfl (Nat.le_of_ble_eq_true rfl) ?_
  intro p e s m below meth c A ls H locs hx hb hr hml hlocks hown hts hN hA hP hK hD hS hl
  have hl : lv_has ls 2 [(0, .ref h0), (1, .int p1)] := hl
  unfold f_X5_at at hf
  refine lv_iload_n hx hb dX5_at_0 rfl (lv_at hl 1 rfl) ?_
  refine lv_if_lt (tgt := 16) hx hb dX5_at_1 (by decide) (fun c_1 => ?_) (fun c_1 => ?_)
  · have hf := ite_t hf c_1
    refine lv_bipush (v := -5) hx hb dX5_at_16 (by decide) ?_
    cases hf
    exact mIret hx hb hr hlocks hP hD hK hS dX5_at_18
  · have hf := ite_f hf c_1
    refine lv_iload_n hx hb dX5_at_4 rfl (lv_at hl 1 rfl) ?_
    refine lv_aload_n hx hb dX5_at_5 rfl (lv_at hl 0 rfl) ?_
    refine va_alen hx hb hK hP 0 0 rfl rfl (v := Int32.ofNat N0) rfl dX5_at_6 ?_
    refine lv_icmp_ge (tgt := 16) hx hb dX5_at_7 (by decide) (fun c_2 => ?_) (fun c_2 => ?_)
    · have hf := ite_t hf c_2
      refine lv_bipush (v := -5) hx hb dX5_at_16 (by decide) ?_
      cases hf
      exact mIret hx hb hr hlocks hP hD hK hS dX5_at_18
    · have hf := ite_f hf c_2
      refine lv_aload_n hx hb dX5_at_10 rfl (lv_at hl 0 rfl) ?_
      refine lv_iload_n hx hb dX5_at_11 rfl (lv_at hl 1 rfl) ?_
      obtain ⟨h_3, hf⟩ := grd hf
      refine va_iald hx hb hK hP 0 0 rfl rfl h_3 dX5_at_12 ?_
      refine lv_goto (tgt := 18) hx hb dX5_at_13 (by decide) ?_
      cases hf
      exact mIret hx hb hr hlocks hP hD hK hS dX5_at_18
def f_X5_put (u0 : Nat → Int32) (p1 : Int32) (p2 : Int32) (N0 : Nat) : Option ((Nat → Int32)) := (if p1 < 0 then some u0 else (if (Int32.ofNat N0) ≤ p1 then some u0 else (if ¬ (p1 < 0 ∨ N0 ≤ p1.toNatClampNeg) then some (upd u0 p1.toNatClampNeg p2) else none)))
abbrev rm_X5_put : Room := { frames := 0, cells := 0, slots := 0, locals := 0 }
set_option maxHeartbeats 4000000 in
set_option maxRecDepth 100000 in
theorem c_X5_put (l : Launch) (D : va_G) (cI cC cT : ClassId) (N0 : Nat) (h0 : Nat) (u0 : Nat → Int32) (sz : Nat) (p1 : Int32) (p2 : Int32) (o_u0 : Nat → Int32) (hf : f_X5_put u0 p1 p2 N0 = some o_u0) : Met l yX5_put wsX5_put rm_X5_put (mP D (mTY cI cC cT) [.ref h0, .int p1, .int p2] (W_A cI cC cT h0 N0 u0) sz) (mQv D (mTY cI cC cT) (va_A (W_A cI cC cT h0 N0 u0) sz) (W_A cI cC cT h0 N0 o_u0)) 0 0 (va_A (W_A cI cC cT h0 N0 u0) sz) := by
  refine mEnt (cc := cX5_put) (maxL := 3) (ret := none) (own := RX5) (Qq := fun A => mQv D (mTY cI cC cT) A (W_A cI cC cT h0 N0 o_u0)) (by decide) rfl rfl (Nat.le_of_ble_eq_true rfl) ?_
  intro p e s m below meth c A ls H locs hx hb hr hml hlocks hown hts hN hA hP hK hD hS hl
  have hl : lv_has ls 3 [(0, .ref h0), (1, .int p1), (2, .int p2)] := hl
  unfold f_X5_put at hf
  refine lv_iload_n hx hb dX5_put_0 rfl (lv_at hl 1 rfl) ?_
  refine lv_if_lt (tgt := 14) hx hb dX5_put_1 (by decide) (fun c_1 => ?_) (fun c_1 => ?_)
  · have hf := ite_t hf c_1
    cases hf
    exact mVret hx hb hr hlocks hP hD hK hS dX5_put_14
  · have hf := ite_f hf c_1
    refine lv_iload_n hx hb dX5_put_4 rfl (lv_at hl 1 rfl) ?_
    refine lv_aload_n hx hb dX5_put_5 rfl (lv_at hl 0 rfl) ?_
    refine va_alen hx hb hK hP 0 0 rfl rfl (v := Int32.ofNat N0) rfl dX5_put_6 ?_
    refine lv_icmp_ge (tgt := 14) hx hb dX5_put_7 (by decide) (fun c_2 => ?_) (fun c_2 => ?_)
    · have hf := ite_t hf c_2
      cases hf
      exact mVret hx hb hr hlocks hP hD hK hS dX5_put_14
    · have hf := ite_f hf c_2
      refine lv_aload_n hx hb dX5_put_10 rfl (lv_at hl 0 rfl) ?_
      refine lv_iload_n hx hb dX5_put_11 rfl (lv_at hl 1 rfl) ?_
      refine lv_iload_n hx hb dX5_put_12 rfl (lv_at hl 2 rfl) ?_
      obtain ⟨h_3, hf⟩ := grd hf
      refine va_iast hx hb hK hP hD hS 0 0 rfl rfl h_3 dX5_put_13 (fun H locs hP hD hS => ?_)
      have hP : va_P D vwCl (W_A cI cC cT h0 N0 (upd u0 p1.toNatClampNeg p2)) H := hP
      have hD : va_D A (W_A cI cC cT h0 N0 (upd u0 p1.toNatClampNeg p2)) := hD
      cases hf
      exact mVret hx hb hr hlocks hP hD hK hS dX5_put_14
def f_X3_targetAt (ts : Nat → Int32) (p0 : Int32) : Option (Int32) := (Option.bind (f_X5_at ts p0 20) (fun r_1 => some r_1))
abbrev rm_X3_targetAt : Room := { frames := 1, cells := 0, slots := 0, locals := 21 }
set_option maxHeartbeats 4000000 in
set_option maxRecDepth 100000 in
theorem c_X3_targetAt (l : Launch) (D : va_G) (cI cC cT : ClassId) (h0 h1 h2 h3 h4 : Nat) (nr : Int32) (pf : Int32) (ks : Nat → Int32) (vs : Nat → Int32) (wg : Nat → Int32) (ts : Nat → Int32) (sz : Nat) (p0 : Int32) (out : Int32) (hf : f_X3_targetAt ts p0 = some out) : Met l yX3_targetAt wsX3_targetAt rm_X3_targetAt (mP D (mTY cI cC cT) [.ref h0, .int p0] (W_T cI cC cT h0 h1 h2 h3 h4 nr pf ks vs wg ts) sz) (mQi D (mTY cI cC cT) out (va_A (W_T cI cC cT h0 h1 h2 h3 h4 nr pf ks vs wg ts) sz) (W_T cI cC cT h0 h1 h2 h3 h4 nr pf ks vs wg ts)) 0 0 (va_A (W_T cI cC cT h0 h1 h2 h3 h4 nr pf ks vs wg ts) sz) := by
  refine mEnt (cc := cX3_targetAt) (maxL := 2) (ret := (some .int)) (own := RX3) (Qq := fun A => mQi D (mTY cI cC cT) out A (W_T cI cC cT h0 h1 h2 h3 h4 nr pf ks vs wg ts)) (by decide) rfl rfl (Nat.le_of_ble_eq_true rfl) ?_
  intro p e s m below meth c A ls H locs hx hb hr hml hlocks hown hts hN hA hP hK hD hS hl
  have hin_X3 : ∀ w ∈ u_ws RX3 TX3 6, w ∈ wsX3_targetAt := by decide +kernel
  have fl_21 := hts (.fieldLink RX3 21 "SureMendings$Table" "targets" "[I") (by decide +kernel)
  have hl : lv_has ls 2 [(0, .ref h0), (1, .int p0)] := hl
  unfold f_X3_targetAt at hf
  refine lv_aload_n hx hb dX3_targetAt_0 rfl (lv_at hl 0 rfl) ?_
  refine va_get (D := D) (ci := 3) (v := .ref h4) (C := RX3) (T := TX3) (N := 6) hx hb hts hin_X3 hown hK hP 0 rfl rfl 3 (by decide) fl_21 (fun _ h9 => h9) rfl dX3_targetAt_1 ?_
  refine lv_iload_n hx hb dX3_targetAt_4 rfl (lv_at hl 1 rfl) ?_
  obtain ⟨r_1, q_2, hf⟩ := bnd hf
  refine mGoi (w2 := (W_T cI cC cT h0 h1 h2 h3 h4 nr pf ks vs wg ts)) (va_runSN (As := [.ref h4, .int p0]) (rest := []) ⟨hx, hb, hml, hown, hts⟩ (c_X5_at l D cI cC cT 20 h4 ts H.size p0 r_1 q_2) ⟨va_cnB 2 hts gX3_targetAt_X5_at_n28 rfl rfl rfl (nW_at hN 6 rfl) (hts (.initialized RX5) (by decide +kernel)) (by decide +kernel) ⟨Nat.le_of_ble_eq_true rfl, Nat.le_of_ble_eq_true rfl⟩, hts (.static yX5_at) (by decide +kernel), trivial⟩ (mPreS hP hD hK hN [4] rfl (by decide)) rfl rfl hl.1 rfl (lv_room (Nat.le_of_ble_eq_true rfl)) dX3_targetAt_5 ⟨Nat.zero_le _, Nat.zero_le _⟩) hP hD hS hA [4] rfl rfl rfl rfl (fun H locs hP hD hS => ?_)
  cases hf
  exact mIret hx hb hr hlocks hP hD hK hS dX3_targetAt_8
def f_X5_isKey (p0 : Int32) : Option (Int32) := (if p0 < 0 then some 0 else (if 10 ≤ p0 then some 0 else some 1))
abbrev rm_X5_isKey : Room := { frames := 0, cells := 0, slots := 0, locals := 0 }
set_option maxHeartbeats 4000000 in
set_option maxRecDepth 100000 in
theorem c_X5_isKey (l : Launch) (D : va_G) (cI cC cT : ClassId) (sz : Nat) (p0 : Int32) (out : Int32) (hf : f_X5_isKey p0 = some out) : Met l yX5_isKey wsX5_isKey rm_X5_isKey (mP D (mTY cI cC cT) [.int p0] ([] : va_W) sz) (mQi D (mTY cI cC cT) out (va_A ([] : va_W) sz) ([] : va_W)) 0 0 (va_A ([] : va_W) sz) := by
  refine mEnt (cc := cX5_isKey) (maxL := 1) (ret := (some .boolean)) (own := RX5) (Qq := fun A => mQi D (mTY cI cC cT) out A ([] : va_W)) (by decide) rfl rfl (Nat.le_of_ble_eq_true rfl) ?_
  intro p e s m below meth c A ls H locs hx hb hr hml hlocks hown hts hN hA hP hK hD hS hl
  have hl : lv_has ls 1 [(0, .int p0)] := hl
  unfold f_X5_isKey at hf
  refine lv_iload_n hx hb dX5_isKey_0 rfl (lv_at hl 0 rfl) ?_
  refine lv_if_lt (tgt := 14) hx hb dX5_isKey_1 (by decide) (fun c_1 => ?_) (fun c_1 => ?_)
  · have hf := ite_t hf c_1
    refine lv_iconst (v := 0) hx hb dX5_isKey_14 (by decide) ?_
    cases hf
    exact mZret hx hb hr rfl hlocks hP hD hK hS dX5_isKey_15
  · have hf := ite_f hf c_1
    refine lv_iload_n hx hb dX5_isKey_4 rfl (lv_at hl 0 rfl) ?_
    refine lv_bipush (v := 10) hx hb dX5_isKey_5 (by decide) ?_
    refine lv_icmp_ge (tgt := 14) hx hb dX5_isKey_7 (by decide) (fun c_2 => ?_) (fun c_2 => ?_)
    · have hf := ite_t hf c_2
      refine lv_iconst (v := 0) hx hb dX5_isKey_14 (by decide) ?_
      cases hf
      exact mZret hx hb hr rfl hlocks hP hD hK hS dX5_isKey_15
    · have hf := ite_f hf c_2
      refine lv_iconst (v := 1) hx hb dX5_isKey_10 (by decide) ?_
      refine lv_goto (tgt := 15) hx hb dX5_isKey_11 (by decide) ?_
      cases hf
      exact mZret hx hb hr rfl hlocks hP hD hK hS dX5_isKey_15
def f_X3_valueAt (vs : Nat → Int32) (p0 : Int32) : Option (Int32) := (Option.bind (f_X5_at vs p0 20) (fun r_1 => some r_1))
abbrev rm_X3_valueAt : Room := { frames := 1, cells := 0, slots := 0, locals := 21 }
set_option maxHeartbeats 4000000 in
set_option maxRecDepth 100000 in
theorem c_X3_valueAt (l : Launch) (D : va_G) (cI cC cT : ClassId) (h0 h1 h2 h3 h4 : Nat) (nr : Int32) (pf : Int32) (ks : Nat → Int32) (vs : Nat → Int32) (wg : Nat → Int32) (ts : Nat → Int32) (sz : Nat) (p0 : Int32) (out : Int32) (hf : f_X3_valueAt vs p0 = some out) : Met l yX3_valueAt wsX3_valueAt rm_X3_valueAt (mP D (mTY cI cC cT) [.ref h0, .int p0] (W_T cI cC cT h0 h1 h2 h3 h4 nr pf ks vs wg ts) sz) (mQi D (mTY cI cC cT) out (va_A (W_T cI cC cT h0 h1 h2 h3 h4 nr pf ks vs wg ts) sz) (W_T cI cC cT h0 h1 h2 h3 h4 nr pf ks vs wg ts)) 0 0 (va_A (W_T cI cC cT h0 h1 h2 h3 h4 nr pf ks vs wg ts) sz) := by
  refine mEnt (cc := cX3_valueAt) (maxL := 2) (ret := (some .int)) (own := RX3) (Qq := fun A => mQi D (mTY cI cC cT) out A (W_T cI cC cT h0 h1 h2 h3 h4 nr pf ks vs wg ts)) (by decide) rfl rfl (Nat.le_of_ble_eq_true rfl) ?_
  intro p e s m below meth c A ls H locs hx hb hr hml hlocks hown hts hN hA hP hK hD hS hl
  have hin_X3 : ∀ w ∈ u_ws RX3 TX3 6, w ∈ wsX3_valueAt := by decide +kernel
  have fl_15 := hts (.fieldLink RX3 15 "SureMendings$Table" "values" "[I") (by decide +kernel)
  have hl : lv_has ls 2 [(0, .ref h0), (1, .int p0)] := hl
  unfold f_X3_valueAt at hf
  refine lv_aload_n hx hb dX3_valueAt_0 rfl (lv_at hl 0 rfl) ?_
  refine va_get (D := D) (ci := 3) (v := .ref h2) (C := RX3) (T := TX3) (N := 6) hx hb hts hin_X3 hown hK hP 0 rfl rfl 1 (by decide) fl_15 (fun _ h9 => h9) rfl dX3_valueAt_1 ?_
  refine lv_iload_n hx hb dX3_valueAt_4 rfl (lv_at hl 1 rfl) ?_
  obtain ⟨r_1, q_2, hf⟩ := bnd hf
  refine mGoi (w2 := (W_T cI cC cT h0 h1 h2 h3 h4 nr pf ks vs wg ts)) (va_runSN (As := [.ref h2, .int p0]) (rest := []) ⟨hx, hb, hml, hown, hts⟩ (c_X5_at l D cI cC cT 20 h2 vs H.size p0 r_1 q_2) ⟨va_cnB 2 hts gX3_valueAt_X5_at_n28 rfl rfl rfl (nW_at hN 6 rfl) (hts (.initialized RX5) (by decide +kernel)) (by decide +kernel) ⟨Nat.le_of_ble_eq_true rfl, Nat.le_of_ble_eq_true rfl⟩, hts (.static yX5_at) (by decide +kernel), trivial⟩ (mPreS hP hD hK hN [2] rfl (by decide)) rfl rfl hl.1 rfl (lv_room (Nat.le_of_ble_eq_true rfl)) dX3_valueAt_5 ⟨Nat.zero_le _, Nat.zero_le _⟩) hP hD hS hA [2] rfl rfl rfl rfl (fun H locs hP hD hS => ?_)
  cases hf
  exact mIret hx hb hr hlocks hP hD hK hS dX3_valueAt_8
def f_X3_weightAt (wg : Nat → Int32) (p0 : Int32) : Option (Int32) := (Option.bind (f_X5_at wg p0 20) (fun r_1 => some r_1))
abbrev rm_X3_weightAt : Room := { frames := 1, cells := 0, slots := 0, locals := 21 }
set_option maxHeartbeats 4000000 in
set_option maxRecDepth 100000 in
theorem c_X3_weightAt (l : Launch) (D : va_G) (cI cC cT : ClassId) (h0 h1 h2 h3 h4 : Nat) (nr : Int32) (pf : Int32) (ks : Nat → Int32) (vs : Nat → Int32) (wg : Nat → Int32) (ts : Nat → Int32) (sz : Nat) (p0 : Int32) (out : Int32) (hf : f_X3_weightAt wg p0 = some out) : Met l yX3_weightAt wsX3_weightAt rm_X3_weightAt (mP D (mTY cI cC cT) [.ref h0, .int p0] (W_T cI cC cT h0 h1 h2 h3 h4 nr pf ks vs wg ts) sz) (mQi D (mTY cI cC cT) out (va_A (W_T cI cC cT h0 h1 h2 h3 h4 nr pf ks vs wg ts) sz) (W_T cI cC cT h0 h1 h2 h3 h4 nr pf ks vs wg ts)) 0 0 (va_A (W_T cI cC cT h0 h1 h2 h3 h4 nr pf ks vs wg ts) sz) := by
  refine mEnt (cc := cX3_weightAt) (maxL := 2) (ret := (some .int)) (own := RX3) (Qq := fun A => mQi D (mTY cI cC cT) out A (W_T cI cC cT h0 h1 h2 h3 h4 nr pf ks vs wg ts)) (by decide) rfl rfl (Nat.le_of_ble_eq_true rfl) ?_
  intro p e s m below meth c A ls H locs hx hb hr hml hlocks hown hts hN hA hP hK hD hS hl
  have hin_X3 : ∀ w ∈ u_ws RX3 TX3 6, w ∈ wsX3_weightAt := by decide +kernel
  have fl_18 := hts (.fieldLink RX3 18 "SureMendings$Table" "weights" "[I") (by decide +kernel)
  have hl : lv_has ls 2 [(0, .ref h0), (1, .int p0)] := hl
  unfold f_X3_weightAt at hf
  refine lv_aload_n hx hb dX3_weightAt_0 rfl (lv_at hl 0 rfl) ?_
  refine va_get (D := D) (ci := 3) (v := .ref h3) (C := RX3) (T := TX3) (N := 6) hx hb hts hin_X3 hown hK hP 0 rfl rfl 2 (by decide) fl_18 (fun _ h9 => h9) rfl dX3_weightAt_1 ?_
  refine lv_iload_n hx hb dX3_weightAt_4 rfl (lv_at hl 1 rfl) ?_
  obtain ⟨r_1, q_2, hf⟩ := bnd hf
  refine mGoi (w2 := (W_T cI cC cT h0 h1 h2 h3 h4 nr pf ks vs wg ts)) (va_runSN (As := [.ref h3, .int p0]) (rest := []) ⟨hx, hb, hml, hown, hts⟩ (c_X5_at l D cI cC cT 20 h3 wg H.size p0 r_1 q_2) ⟨va_cnB 2 hts gX3_weightAt_X5_at_n28 rfl rfl rfl (nW_at hN 6 rfl) (hts (.initialized RX5) (by decide +kernel)) (by decide +kernel) ⟨Nat.le_of_ble_eq_true rfl, Nat.le_of_ble_eq_true rfl⟩, hts (.static yX5_at) (by decide +kernel), trivial⟩ (mPreS hP hD hK hN [3] rfl (by decide)) rfl rfl hl.1 rfl (lv_room (Nat.le_of_ble_eq_true rfl)) dX3_weightAt_5 ⟨Nat.zero_le _, Nat.zero_le _⟩) hP hD hS hA [3] rfl rfl rfl rfl (fun H locs hP hD hS => ?_)
  cases hf
  exact mIret hx hb hr hlocks hP hD hK hS dX3_weightAt_8
def f_X3_keyAt (ks : Nat → Int32) (p0 : Int32) : Option (Int32) := (Option.bind (f_X5_at ks p0 20) (fun r_1 => some r_1))
abbrev rm_X3_keyAt : Room := { frames := 1, cells := 0, slots := 0, locals := 21 }
set_option maxHeartbeats 4000000 in
set_option maxRecDepth 100000 in
theorem c_X3_keyAt (l : Launch) (D : va_G) (cI cC cT : ClassId) (h0 h1 h2 h3 h4 : Nat) (nr : Int32) (pf : Int32) (ks : Nat → Int32) (vs : Nat → Int32) (wg : Nat → Int32) (ts : Nat → Int32) (sz : Nat) (p0 : Int32) (out : Int32) (hf : f_X3_keyAt ks p0 = some out) : Met l yX3_keyAt wsX3_keyAt rm_X3_keyAt (mP D (mTY cI cC cT) [.ref h0, .int p0] (W_T cI cC cT h0 h1 h2 h3 h4 nr pf ks vs wg ts) sz) (mQi D (mTY cI cC cT) out (va_A (W_T cI cC cT h0 h1 h2 h3 h4 nr pf ks vs wg ts) sz) (W_T cI cC cT h0 h1 h2 h3 h4 nr pf ks vs wg ts)) 0 0 (va_A (W_T cI cC cT h0 h1 h2 h3 h4 nr pf ks vs wg ts) sz) := by
  refine mEnt (cc := cX3_keyAt) (maxL := 2) (ret := (some .int)) (own := RX3) (Qq := fun A => mQi D (mTY cI cC cT) out A (W_T cI cC cT h0 h1 h2 h3 h4 nr pf ks vs wg ts)) (by decide) rfl rfl (Nat.le_of_ble_eq_true rfl) ?_
  intro p e s m below meth c A ls H locs hx hb hr hml hlocks hown hts hN hA hP hK hD hS hl
  have hin_X3 : ∀ w ∈ u_ws RX3 TX3 6, w ∈ wsX3_keyAt := by decide +kernel
  have fl_9 := hts (.fieldLink RX3 9 "SureMendings$Table" "keys" "[I") (by decide +kernel)
  have hl : lv_has ls 2 [(0, .ref h0), (1, .int p0)] := hl
  unfold f_X3_keyAt at hf
  refine lv_aload_n hx hb dX3_keyAt_0 rfl (lv_at hl 0 rfl) ?_
  refine va_get (D := D) (ci := 3) (v := .ref h1) (C := RX3) (T := TX3) (N := 6) hx hb hts hin_X3 hown hK hP 0 rfl rfl 0 (by decide) fl_9 (fun _ h9 => h9) rfl dX3_keyAt_1 ?_
  refine lv_iload_n hx hb dX3_keyAt_4 rfl (lv_at hl 1 rfl) ?_
  obtain ⟨r_1, q_2, hf⟩ := bnd hf
  refine mGoi (w2 := (W_T cI cC cT h0 h1 h2 h3 h4 nr pf ks vs wg ts)) (va_runSN (As := [.ref h1, .int p0]) (rest := []) ⟨hx, hb, hml, hown, hts⟩ (c_X5_at l D cI cC cT 20 h1 ks H.size p0 r_1 q_2) ⟨va_cnB 2 hts gX3_keyAt_X5_at_n28 rfl rfl rfl (nW_at hN 6 rfl) (hts (.initialized RX5) (by decide +kernel)) (by decide +kernel) ⟨Nat.le_of_ble_eq_true rfl, Nat.le_of_ble_eq_true rfl⟩, hts (.static yX5_at) (by decide +kernel), trivial⟩ (mPreS hP hD hK hN [1] rfl (by decide)) rfl rfl hl.1 rfl (lv_room (Nat.le_of_ble_eq_true rfl)) dX3_keyAt_5 ⟨Nat.zero_le _, Nat.zero_le _⟩) hP hD hS hA [1] rfl rfl rfl rfl (fun H locs hP hD hS => ?_)
  cases hf
  exact mIret hx hb hr hlocks hP hD hK hS dX3_keyAt_8
def b_X3_heaviestWith_1 (nr : Int32) (ks : Nat → Int32) (wg : Nat → Int32) (p0 : Int32) (z : Int32 × Int32) : Option ((Int32 × Int32) ⊕ (Int32)) := match z with
  | (v2_1, v3_2) => (if nr ≤ v3_2 then some (.inr v2_1) else (Option.bind (f_X3_keyAt ks v3_2) (fun r_5 => (Option.bind (α := Int32) ((if r_5 = p0 then (if v2_1 = (-5) then some v3_2 else (Option.bind (f_X3_weightAt wg v3_2) (fun r_12 => (Option.bind (f_X3_weightAt wg v2_1) (fun r_14 => (if r_12 ≤ r_14 then some v2_1 else some v3_2)))))) else some v2_1)) (fun x_7 => some (.inl ((x_7, v3_2 + 1))))))))
def f_X3_heaviestWith (nr : Int32) (ks : Nat → Int32) (wg : Nat → Int32) (p0 : Int32) : Option (Int32) := iter fuel (b_X3_heaviestWith_1 nr ks wg p0) ((-5, 0))
abbrev rm_X3_heaviestWith : Room := { frames := 2, cells := 0, slots := 0, locals := 42 }
set_option maxHeartbeats 4000000 in
set_option maxRecDepth 100000 in
theorem c_X3_heaviestWith (l : Launch) (D : va_G) (cI cC cT : ClassId) (h0 h1 h2 h3 h4 : Nat) (nr : Int32) (pf : Int32) (ks : Nat → Int32) (vs : Nat → Int32) (wg : Nat → Int32) (ts : Nat → Int32) (sz : Nat) (p0 : Int32) (out : Int32) (hf : f_X3_heaviestWith nr ks wg p0 = some out) : Met l yX3_heaviestWith wsX3_heaviestWith rm_X3_heaviestWith (mP D (mTY cI cC cT) [.ref h0, .int p0] (W_T cI cC cT h0 h1 h2 h3 h4 nr pf ks vs wg ts) sz) (mQi D (mTY cI cC cT) out (va_A (W_T cI cC cT h0 h1 h2 h3 h4 nr pf ks vs wg ts) sz) (W_T cI cC cT h0 h1 h2 h3 h4 nr pf ks vs wg ts)) 0 0 (va_A (W_T cI cC cT h0 h1 h2 h3 h4 nr pf ks vs wg ts) sz) := by
  refine mEnt (cc := cX3_heaviestWith) (maxL := 4) (ret := (some .int)) (own := RX3) (Qq := fun A => mQi D (mTY cI cC cT) out A (W_T cI cC cT h0 h1 h2 h3 h4 nr pf ks vs wg ts)) (by decide) rfl rfl (Nat.le_of_ble_eq_true rfl) ?_
  intro p e s m below meth c A ls H locs hx hb hr hml hlocks hown hts hN hA hP hK hD hS hl
  have hin_X3 : ∀ w ∈ u_ws RX3 TX3 6, w ∈ wsX3_heaviestWith := by decide +kernel
  have fl_24 := hts (.fieldLink RX3 24 "SureMendings$Table" "size" "I") (by decide +kernel)
  have hl : lv_has ls 4 [(0, .ref h0), (1, .int p0)] := hl
  unfold f_X3_heaviestWith at hf
  refine lv_bipush (v := -5) hx hb dX3_heaviestWith_0 (by decide) ?_
  refine lv_istore_n (lv' := [(2, .int (-5)), (0, .ref h0), (1, .int p0)]) hx hb dX3_heaviestWith_2 rfl hl (by decide) rfl (fun ls hl => ?_)
  refine lv_iconst (v := 0) hx hb dX3_heaviestWith_3 (by decide) ?_
  refine lv_istore_n (lv' := [(3, .int 0), (2, .int (-5)), (0, .ref h0), (1, .int p0)]) hx hb dX3_heaviestWith_4 rfl hl (by decide) rfl (fun ls hl => ?_)
  have LP_3 : ∀ (n_3 : Nat) (v2_1 : Int32) (v3_2 : Int32), iter n_3 (b_X3_heaviestWith_1 nr ks wg p0) ((v2_1, v3_2)) = some out → ∀ (H : Heap) (locs : List Loc), va_P D vwCl (W_T cI cC cT h0 h1 h2 h3 h4 nr pf ks vs wg ts) H → va_D A (W_T cI cC cT h0 h1 h2 h3 h4 nr pf ks vs wg ts) → va_S A s.heap H locs → ∀ (ls : Array Slot), lv_has ls 4 [(0, .ref h0), (1, .int p0), (2, .int v2_1), (3, .int v3_2)] → W p l e rm_X3_heaviestWith s m ([.ref h0, .int p0] : List Value).toArray below meth c H locs 0 0 (MQ below (mQi D (mTY cI cC cT) out A (W_T cI cC cT h0 h1 h2 h3 h4 nr pf ks vs wg ts)) ([.ref h0, .int p0] : List Value).toArray s 0 0 A) (F0 m 5 ls []) := by
    intro n_3
    induction n_3 with
    | zero => intro v2_1 v3_2 hf; exact (iter_zero hf).elim
    | succ n_3 ih_3 =>
      intro v2_1 v3_2 hf H locs hP hD hS ls hl
      obtain ⟨o_3, hf, ho_3⟩ := iter_succ hf
      dsimp only [b_X3_heaviestWith_1] at hf
      refine lv_iload_n hx hb dX3_heaviestWith_5 rfl (lv_at hl 3 rfl) ?_
      refine lv_aload_n hx hb dX3_heaviestWith_6 rfl (lv_at hl 0 rfl) ?_
      refine va_get (D := D) (ci := 3) (v := .int nr) (C := RX3) (T := TX3) (N := 6) hx hb hts hin_X3 hown hK hP 0 rfl rfl 4 (by decide) fl_24 (fun _ h9 => h9) rfl dX3_heaviestWith_7 ?_
      refine lv_icmp_ge (tgt := 49) hx hb dX3_heaviestWith_10 (by decide) (fun c_4 => ?_) (fun c_4 => ?_)
      · have hf := ite_t hf c_4
        refine lv_iload_n hx hb dX3_heaviestWith_49 rfl (lv_at hl 2 rfl) ?_
        cases hf
        have hf := ho_3.2 _ rfl
        cases hf
        exact mIret hx hb hr hlocks hP hD hK hS dX3_heaviestWith_50
      · have hf := ite_f hf c_4
        refine lv_aload_n hx hb dX3_heaviestWith_13 rfl (lv_at hl 0 rfl) ?_
        refine lv_iload_n hx hb dX3_heaviestWith_14 rfl (lv_at hl 3 rfl) ?_
        obtain ⟨r_5, q_6, hf⟩ := bnd hf
        refine mGoi (w2 := (W_T cI cC cT h0 h1 h2 h3 h4 nr pf ks vs wg ts)) (va_runV (As := [.int v3_2]) (rest := []) ⟨hx, hb, hml, hown, hts⟩ (c_X3_keyAt l D cI cC cT h0 h1 h2 h3 h4 nr pf ks vs wg ts H.size v3_2 r_5 q_6) (cwV 1 hts gX3_heaviestWith_X3_keyAt rfl rfl rfl (by decide +kernel) ⟨Nat.le_of_ble_eq_true rfl, Nat.le_of_ble_eq_true rfl⟩) (mPreV hP hD hK hN [0, 1, 2, 3, 4] rfl (by decide) (va_recv hK hP (ci := 3) (q0 := 0) rfl rfl)) rfl rfl hl.1 rfl (lv_room (Nat.le_of_ble_eq_true rfl)) dX3_heaviestWith_15 ⟨Nat.zero_le _, Nat.zero_le _⟩) hP hD hS hA [0, 1, 2, 3, 4] rfl rfl rfl rfl (fun H locs hP hD hS => ?_)
        refine lv_iload_n hx hb dX3_heaviestWith_18 rfl (lv_at hl 1 rfl) ?_
        obtain ⟨x_7, q_9, hf⟩ := bnd hf
        have K_8 : ∀ (H : Heap) (locs : List Loc), va_P D vwCl (W_T cI cC cT h0 h1 h2 h3 h4 nr pf ks vs wg ts) H → va_D A (W_T cI cC cT h0 h1 h2 h3 h4 nr pf ks vs wg ts) → va_S A s.heap H locs → ∀ (ls : Array Slot), lv_has ls 4 [(0, .ref h0), (1, .int p0), (2, .int x_7), (3, .int v3_2)] → W p l e rm_X3_heaviestWith s m ([.ref h0, .int p0] : List Value).toArray below meth c H locs 0 0 (MQ below (mQi D (mTY cI cC cT) out A (W_T cI cC cT h0 h1 h2 h3 h4 nr pf ks vs wg ts)) ([.ref h0, .int p0] : List Value).toArray s 0 0 A) (F0 m 43 ls []) := by
          intro H locs hP hD hS ls hl
          refine lv_iinc (v := v3_2 + 1) (lv' := [(3, .int (v3_2 + 1)), (0, .ref h0), (1, .int p0), (2, .int x_7)]) hx hb dX3_heaviestWith_43 hl (k := 3) rfl rfl (by decide) rfl (fun ls hl => ?_)
          refine lv_goto (tgt := 5) hx hb dX3_heaviestWith_46 (by decide) ?_
          cases hf
          have hf := ho_3.1 _ rfl
          exact ih_3 _ _ hf _ _ hP hD hS _ (lv_sub hl [1, 2, 3, 0] rfl)
        have hf := q_9
        refine lv_icmp_ne (tgt := 43) hx hb dX3_heaviestWith_19 (by decide) (fun c_10 => ?_) (fun c_10 => ?_)
        · have hf := ite_f hf c_10
          cases hf
          exact K_8 _ _ hP hD hS _ (lv_sub hl [0, 1, 2, 3] rfl)
        · have hf := ite_t hf c_10
          refine lv_iload_n hx hb dX3_heaviestWith_22 rfl (lv_at hl 2 rfl) ?_
          refine lv_bipush (v := -5) hx hb dX3_heaviestWith_23 (by decide) ?_
          refine lv_icmp_eq (tgt := 41) hx hb dX3_heaviestWith_25 (by decide) (fun c_11 => ?_) (fun c_11 => ?_)
          · have hf := ite_t hf c_11
            refine lv_iload_n hx hb dX3_heaviestWith_41 rfl (lv_at hl 3 rfl) ?_
            refine lv_istore_n (lv' := [(2, .int v3_2), (0, .ref h0), (1, .int p0), (3, .int v3_2)]) hx hb dX3_heaviestWith_42 rfl hl (by decide) rfl (fun ls hl => ?_)
            cases hf
            exact K_8 _ _ hP hD hS _ (lv_sub hl [1, 2, 0, 3] rfl)
          · have hf := ite_f hf c_11
            refine lv_aload_n hx hb dX3_heaviestWith_28 rfl (lv_at hl 0 rfl) ?_
            refine lv_iload_n hx hb dX3_heaviestWith_29 rfl (lv_at hl 3 rfl) ?_
            obtain ⟨r_12, q_13, hf⟩ := bnd hf
            refine mGoi (w2 := (W_T cI cC cT h0 h1 h2 h3 h4 nr pf ks vs wg ts)) (va_runV (As := [.int v3_2]) (rest := []) ⟨hx, hb, hml, hown, hts⟩ (c_X3_weightAt l D cI cC cT h0 h1 h2 h3 h4 nr pf ks vs wg ts H.size v3_2 r_12 q_13) (cwV 1 hts gX3_heaviestWith_X3_weightAt rfl rfl rfl (by decide +kernel) ⟨Nat.le_of_ble_eq_true rfl, Nat.le_of_ble_eq_true rfl⟩) (mPreV hP hD hK hN [0, 1, 2, 3, 4] rfl (by decide) (va_recv hK hP (ci := 3) (q0 := 0) rfl rfl)) rfl rfl hl.1 rfl (lv_room (Nat.le_of_ble_eq_true rfl)) dX3_heaviestWith_30 ⟨Nat.zero_le _, Nat.zero_le _⟩) hP hD hS hA [0, 1, 2, 3, 4] rfl rfl rfl rfl (fun H locs hP hD hS => ?_)
            refine lv_aload_n hx hb dX3_heaviestWith_33 rfl (lv_at hl 0 rfl) ?_
            refine lv_iload_n hx hb dX3_heaviestWith_34 rfl (lv_at hl 2 rfl) ?_
            obtain ⟨r_14, q_15, hf⟩ := bnd hf
            refine mGoi (w2 := (W_T cI cC cT h0 h1 h2 h3 h4 nr pf ks vs wg ts)) (va_runV (As := [.int v2_1]) (rest := [.int r_12]) ⟨hx, hb, hml, hown, hts⟩ (c_X3_weightAt l D cI cC cT h0 h1 h2 h3 h4 nr pf ks vs wg ts H.size v2_1 r_14 q_15) (cwV 1 hts gX3_heaviestWith_X3_weightAt rfl rfl rfl (by decide +kernel) ⟨Nat.le_of_ble_eq_true rfl, Nat.le_of_ble_eq_true rfl⟩) (mPreV hP hD hK hN [0, 1, 2, 3, 4] rfl (by decide) (va_recv hK hP (ci := 3) (q0 := 0) rfl rfl)) rfl rfl hl.1 rfl (lv_room (Nat.le_of_ble_eq_true rfl)) dX3_heaviestWith_35 ⟨Nat.zero_le _, Nat.zero_le _⟩) hP hD hS hA [0, 1, 2, 3, 4] rfl rfl rfl rfl (fun H locs hP hD hS => ?_)
            refine lv_icmp_le (tgt := 43) hx hb dX3_heaviestWith_38 (by decide) (fun c_16 => ?_) (fun c_16 => ?_)
            · have hf := ite_t hf c_16
              cases hf
              exact K_8 _ _ hP hD hS _ (lv_sub hl [0, 1, 2, 3] rfl)
            · have hf := ite_f hf c_16
              refine lv_iload_n hx hb dX3_heaviestWith_41 rfl (lv_at hl 3 rfl) ?_
              refine lv_istore_n (lv' := [(2, .int v3_2), (0, .ref h0), (1, .int p0), (3, .int v3_2)]) hx hb dX3_heaviestWith_42 rfl hl (by decide) rfl (fun ls hl => ?_)
              cases hf
              exact K_8 _ _ hP hD hS _ (lv_sub hl [1, 2, 0, 3] rfl)
  exact LP_3 _ _ _ hf _ _ hP hD hS _ (lv_sub hl [2, 3, 1, 0] rfl)
def f_X3_canBeKept (nr : Int32) (pf : Int32) (ks : Nat → Int32) (wg : Nat → Int32) (p0 : Int32) : Option (Int32) := (if pf = 0 then some 1 else (Option.bind (f_X3_weightAt wg p0) (fun r_2 => (Option.bind (f_X3_keyAt ks p0) (fun r_4 => (Option.bind (f_X3_heaviestWith nr ks wg r_4) (fun r_6 => (Option.bind (f_X3_weightAt wg r_6) (fun r_8 => (if r_2 = r_8 then some 1 else some 0))))))))))
abbrev rm_X3_canBeKept : Room := { frames := 3, cells := 0, slots := 0, locals := 65 }
set_option maxHeartbeats 4000000 in
set_option maxRecDepth 100000 in
theorem c_X3_canBeKept (l : Launch) (D : va_G) (cI cC cT : ClassId) (h0 h1 h2 h3 h4 : Nat) (nr : Int32) (pf : Int32) (ks : Nat → Int32) (vs : Nat → Int32) (wg : Nat → Int32) (ts : Nat → Int32) (sz : Nat) (p0 : Int32) (out : Int32) (hf : f_X3_canBeKept nr pf ks wg p0 = some out) : Met l yX3_canBeKept wsX3_canBeKept rm_X3_canBeKept (mP D (mTY cI cC cT) [.ref h0, .int p0] (W_T cI cC cT h0 h1 h2 h3 h4 nr pf ks vs wg ts) sz) (mQi D (mTY cI cC cT) out (va_A (W_T cI cC cT h0 h1 h2 h3 h4 nr pf ks vs wg ts) sz) (W_T cI cC cT h0 h1 h2 h3 h4 nr pf ks vs wg ts)) 0 0 (va_A (W_T cI cC cT h0 h1 h2 h3 h4 nr pf ks vs wg ts) sz) := by
  refine mEnt (cc := cX3_canBeKept) (maxL := 2) (ret := (some .boolean)) (own := RX3) (Qq := fun A => mQi D (mTY cI cC cT) out A (W_T cI cC cT h0 h1 h2 h3 h4 nr pf ks vs wg ts)) (by decide) rfl rfl (Nat.le_of_ble_eq_true rfl) ?_
  intro p e s m below meth c A ls H locs hx hb hr hml hlocks hown hts hN hA hP hK hD hS hl
  have hin_X3 : ∀ w ∈ u_ws RX3 TX3 6, w ∈ wsX3_canBeKept := by decide +kernel
  have fl_32 := hts (.fieldLink RX3 32 "SureMendings$Table" "preferring" "Z") (by decide +kernel)
  have hl : lv_has ls 2 [(0, .ref h0), (1, .int p0)] := hl
  unfold f_X3_canBeKept at hf
  refine lv_aload_n hx hb dX3_canBeKept_0 rfl (lv_at hl 0 rfl) ?_
  refine va_get (D := D) (ci := 3) (v := .int pf) (C := RX3) (T := TX3) (N := 6) hx hb hts hin_X3 hown hK hP 0 rfl rfl 5 (by decide) fl_32 (fun _ h9 => h9) rfl dX3_canBeKept_1 ?_
  refine lv_if_eq (tgt := 28) hx hb dX3_canBeKept_4 (by decide) (fun c_1 => ?_) (fun c_1 => ?_)
  · have hf := ite_t hf c_1
    refine lv_iconst (v := 1) hx hb dX3_canBeKept_28 (by decide) ?_
    refine lv_goto (tgt := 33) hx hb dX3_canBeKept_29 (by decide) ?_
    cases hf
    exact mZret hx hb hr rfl hlocks hP hD hK hS dX3_canBeKept_33
  · have hf := ite_f hf c_1
    refine lv_aload_n hx hb dX3_canBeKept_7 rfl (lv_at hl 0 rfl) ?_
    refine lv_iload_n hx hb dX3_canBeKept_8 rfl (lv_at hl 1 rfl) ?_
    obtain ⟨r_2, q_3, hf⟩ := bnd hf
    refine mGoi (w2 := (W_T cI cC cT h0 h1 h2 h3 h4 nr pf ks vs wg ts)) (va_runV (As := [.int p0]) (rest := []) ⟨hx, hb, hml, hown, hts⟩ (c_X3_weightAt l D cI cC cT h0 h1 h2 h3 h4 nr pf ks vs wg ts H.size p0 r_2 q_3) (cwV 1 hts gX3_canBeKept_X3_weightAt rfl rfl rfl (by decide +kernel) ⟨Nat.le_of_ble_eq_true rfl, Nat.le_of_ble_eq_true rfl⟩) (mPreV hP hD hK hN [0, 1, 2, 3, 4] rfl (by decide) (va_recv hK hP (ci := 3) (q0 := 0) rfl rfl)) rfl rfl hl.1 rfl (lv_room (Nat.le_of_ble_eq_true rfl)) dX3_canBeKept_9 ⟨Nat.zero_le _, Nat.zero_le _⟩) hP hD hS hA [0, 1, 2, 3, 4] rfl rfl rfl rfl (fun H locs hP hD hS => ?_)
    refine lv_aload_n hx hb dX3_canBeKept_12 rfl (lv_at hl 0 rfl) ?_
    refine lv_aload_n hx hb dX3_canBeKept_13 rfl (lv_at hl 0 rfl) ?_
    refine lv_aload_n hx hb dX3_canBeKept_14 rfl (lv_at hl 0 rfl) ?_
    refine lv_iload_n hx hb dX3_canBeKept_15 rfl (lv_at hl 1 rfl) ?_
    obtain ⟨r_4, q_5, hf⟩ := bnd hf
    refine mGoi (w2 := (W_T cI cC cT h0 h1 h2 h3 h4 nr pf ks vs wg ts)) (va_runV (As := [.int p0]) (rest := [.ref h0, .ref h0, .int r_2]) ⟨hx, hb, hml, hown, hts⟩ (c_X3_keyAt l D cI cC cT h0 h1 h2 h3 h4 nr pf ks vs wg ts H.size p0 r_4 q_5) (cwV 1 hts gX3_canBeKept_X3_keyAt rfl rfl rfl (by decide +kernel) ⟨Nat.le_of_ble_eq_true rfl, Nat.le_of_ble_eq_true rfl⟩) (mPreV hP hD hK hN [0, 1, 2, 3, 4] rfl (by decide) (va_recv hK hP (ci := 3) (q0 := 0) rfl rfl)) rfl rfl hl.1 rfl (lv_room (Nat.le_of_ble_eq_true rfl)) dX3_canBeKept_16 ⟨Nat.zero_le _, Nat.zero_le _⟩) hP hD hS hA [0, 1, 2, 3, 4] rfl rfl rfl rfl (fun H locs hP hD hS => ?_)
    obtain ⟨r_6, q_7, hf⟩ := bnd hf
    refine mGoi (w2 := (W_T cI cC cT h0 h1 h2 h3 h4 nr pf ks vs wg ts)) (va_runV (As := [.int r_4]) (rest := [.ref h0, .int r_2]) ⟨hx, hb, hml, hown, hts⟩ (c_X3_heaviestWith l D cI cC cT h0 h1 h2 h3 h4 nr pf ks vs wg ts H.size r_4 r_6 q_7) (cwV 1 hts gX3_canBeKept_X3_heaviestWith rfl rfl rfl (by decide +kernel) ⟨Nat.le_of_ble_eq_true rfl, Nat.le_of_ble_eq_true rfl⟩) (mPreV hP hD hK hN [0, 1, 2, 3, 4] rfl (by decide) (va_recv hK hP (ci := 3) (q0 := 0) rfl rfl)) rfl rfl hl.1 rfl (lv_room (Nat.le_of_ble_eq_true rfl)) dX3_canBeKept_19 ⟨Nat.zero_le _, Nat.zero_le _⟩) hP hD hS hA [0, 1, 2, 3, 4] rfl rfl rfl rfl (fun H locs hP hD hS => ?_)
    obtain ⟨r_8, q_9, hf⟩ := bnd hf
    refine mGoi (w2 := (W_T cI cC cT h0 h1 h2 h3 h4 nr pf ks vs wg ts)) (va_runV (As := [.int r_6]) (rest := [.int r_2]) ⟨hx, hb, hml, hown, hts⟩ (c_X3_weightAt l D cI cC cT h0 h1 h2 h3 h4 nr pf ks vs wg ts H.size r_6 r_8 q_9) (cwV 1 hts gX3_canBeKept_X3_weightAt rfl rfl rfl (by decide +kernel) ⟨Nat.le_of_ble_eq_true rfl, Nat.le_of_ble_eq_true rfl⟩) (mPreV hP hD hK hN [0, 1, 2, 3, 4] rfl (by decide) (va_recv hK hP (ci := 3) (q0 := 0) rfl rfl)) rfl rfl hl.1 rfl (lv_room (Nat.le_of_ble_eq_true rfl)) dX3_canBeKept_22 ⟨Nat.zero_le _, Nat.zero_le _⟩) hP hD hS hA [0, 1, 2, 3, 4] rfl rfl rfl rfl (fun H locs hP hD hS => ?_)
    refine lv_icmp_ne (tgt := 32) hx hb dX3_canBeKept_25 (by decide) (fun c_10 => ?_) (fun c_10 => ?_)
    · have hf := ite_f hf c_10
      refine lv_iconst (v := 0) hx hb dX3_canBeKept_32 (by decide) ?_
      cases hf
      exact mZret hx hb hr rfl hlocks hP hD hK hS dX3_canBeKept_33
    · have hf := ite_t hf c_10
      refine lv_iconst (v := 1) hx hb dX3_canBeKept_28 (by decide) ?_
      refine lv_goto (tgt := 33) hx hb dX3_canBeKept_29 (by decide) ?_
      cases hf
      exact mZret hx hb hr rfl hlocks hP hD hK hS dX3_canBeKept_33
def f_X3_size (nr : Int32) : Option (Int32) := some nr
abbrev rm_X3_size : Room := { frames := 0, cells := 0, slots := 0, locals := 0 }
set_option maxHeartbeats 4000000 in
set_option maxRecDepth 100000 in
theorem c_X3_size (l : Launch) (D : va_G) (cI cC cT : ClassId) (h0 h1 h2 h3 h4 : Nat) (nr : Int32) (pf : Int32) (ks : Nat → Int32) (vs : Nat → Int32) (wg : Nat → Int32) (ts : Nat → Int32) (sz : Nat) (out : Int32) (hf : f_X3_size nr = some out) : Met l yX3_size wsX3_size rm_X3_size (mP D (mTY cI cC cT) [.ref h0] (W_T cI cC cT h0 h1 h2 h3 h4 nr pf ks vs wg ts) sz) (mQi D (mTY cI cC cT) out (va_A (W_T cI cC cT h0 h1 h2 h3 h4 nr pf ks vs wg ts) sz) (W_T cI cC cT h0 h1 h2 h3 h4 nr pf ks vs wg ts)) 0 0 (va_A (W_T cI cC cT h0 h1 h2 h3 h4 nr pf ks vs wg ts) sz) := by
  refine mEnt (cc := cX3_size) (maxL := 1) (ret := (some .int)) (own := RX3) (Qq := fun A => mQi D (mTY cI cC cT) out A (W_T cI cC cT h0 h1 h2 h3 h4 nr pf ks vs wg ts)) (by decide) rfl rfl (Nat.le_of_ble_eq_true rfl) ?_
  intro p e s m below meth c A ls H locs hx hb hr hml hlocks hown hts hN hA hP hK hD hS hl
  have hin_X3 : ∀ w ∈ u_ws RX3 TX3 6, w ∈ wsX3_size := by decide +kernel
  have fl_24 := hts (.fieldLink RX3 24 "SureMendings$Table" "size" "I") (by decide +kernel)
  have hl : lv_has ls 1 [(0, .ref h0)] := hl
  unfold f_X3_size at hf
  refine lv_aload_n hx hb dX3_size_0 rfl (lv_at hl 0 rfl) ?_
  refine va_get (D := D) (ci := 3) (v := .int nr) (C := RX3) (T := TX3) (N := 6) hx hb hts hin_X3 hown hK hP 0 rfl rfl 4 (by decide) fl_24 (fun _ h9 => h9) rfl dX3_size_1 ?_
  cases hf
  exact mIret hx hb hr hlocks hP hD hK hS dX3_size_4
def f_X5_copy (u0 : Nat → Int32) (u1 : Nat → Int32) : Option ((Nat → Int32)) := some (va_cpy u0 u1 0 0 20)
abbrev rm_X5_copy : Room := { frames := 1, cells := 0, slots := 0, locals := 18 }
set_option maxHeartbeats 4000000 in
set_option maxRecDepth 100000 in
theorem c_X5_copy (l : Launch) (D : va_G) (cI cC cT : ClassId) (h0 h1 : Nat) (u0 : Nat → Int32) (u1 : Nat → Int32) (sz : Nat) (o_u1 : Nat → Int32) (hf : f_X5_copy u0 u1 = some o_u1) : Met l yX5_copy wsX5_copy rm_X5_copy (mP D (mTY cI cC cT) [.ref h0, .ref h1] ((W_A cI cC cT h0 20 u0) ++ (W_A cI cC cT h1 20 u1)) sz) (mQv D (mTY cI cC cT) (va_A ((W_A cI cC cT h0 20 u0) ++ (W_A cI cC cT h1 20 u1)) sz) ((W_A cI cC cT h0 20 u0) ++ (W_A cI cC cT h1 20 o_u1))) 0 0 (va_A ((W_A cI cC cT h0 20 u0) ++ (W_A cI cC cT h1 20 u1)) sz) := by
  refine mEnt (cc := cX5_copy) (maxL := 2) (ret := none) (own := RX5) (Qq := fun A => mQv D (mTY cI cC cT) A ((W_A cI cC cT h0 20 u0) ++ (W_A cI cC cT h1 20 o_u1))) (by decide) rfl rfl (Nat.le_of_ble_eq_true rfl) ?_
  intro p e s m below meth c A ls H locs hx hb hr hml hlocks hown hts hN hA hP hK hD hS hl
  have hl : lv_has ls 2 [(0, .ref h0), (1, .ref h1)] := hl
  unfold f_X5_copy at hf
  refine lv_aload_n hx hb dX5_copy_0 rfl (lv_at hl 0 rfl) ?_
  refine lv_iconst (v := 0) hx hb dX5_copy_1 (by decide) ?_
  refine lv_aload_n hx hb dX5_copy_2 rfl (lv_at hl 1 rfl) ?_
  refine lv_iconst (v := 0) hx hb dX5_copy_3 (by decide) ?_
  refine lv_aload_n hx hb dX5_copy_4 rfl (lv_at hl 0 rfl) ?_
  refine va_alen hx hb hK hP 0 0 rfl rfl (v := 20) rfl dX5_copy_5 ?_
  refine lv_aload_n hx hb dX5_copy_6 rfl (lv_at hl 1 rfl) ?_
  refine va_alen hx hb hK hP 1 0 rfl rfl (v := 20) rfl dX5_copy_7 ?_
  refine va_mmin hx hb (by rw [hml]; exact hl.1.symm) hown (hts (.methodLink RX5 240 Lib.Math.min.name) (by decide +kernel)) (hts (.static Lib.Math.min.name) (by decide +kernel)) (hts (.initialized "java/lang/Math") (by decide +kernel)) (hts (.code Lib.Math.min.name Lib.Math.min.code 2 (some .int)) (by decide +kernel)) (Nat.le_of_ble_eq_true rfl) (Nat.le_of_ble_eq_true rfl) (Nat.zero_le _) (Nat.zero_le _) dX5_copy_8 ?_
  refine lv_tope (y := 20) (by decide) ?_
  refine va_copyi hx hb (by rw [hml]; exact hl.1.symm) hown (hts (.methodLink RX5 245 arraycopyName) (by decide +kernel)) (hts (.native arraycopyName) (by decide +kernel)) (hts (.static arraycopyName) (by decide +kernel)) (hts (.initialized "java/lang/System") (by decide +kernel)) hK hP hD hS 0 1 0 0 rfl rfl rfl rfl rfl (by decide) (by decide) (by decide) (by decide) (by decide) (fun _ _ => rfl) (Nat.le_of_ble_eq_true rfl) (Nat.le_of_ble_eq_true rfl) dX5_copy_11 (fun H locs hP hD hS => ?_)
  have hP : va_P D vwCl ((W_A cI cC cT h0 20 u0) ++ (W_A cI cC cT h1 20 (va_cpy u0 u1 0 0 20))) H := hP
  have hD : va_D A ((W_A cI cC cT h0 20 u0) ++ (W_A cI cC cT h1 20 (va_cpy u0 u1 0 0 20))) := hD
  cases hf
  exact mVret hx hb hr hlocks hP hD hK hS dX5_copy_14
def f_X3_copyFrom (ks : Nat → Int32) (vs : Nat → Int32) (wg : Nat → Int32) (ts : Nat → Int32) (onr : Int32) (opf : Int32) (oks : Nat → Int32) (ovs : Nat → Int32) (owg : Nat → Int32) (ots : Nat → Int32) : Option (Int32 × Int32 × (Nat → Int32) × (Nat → Int32) × (Nat → Int32) × (Nat → Int32)) := (Option.bind (f_X5_copy oks ks) (fun u1_1 => (Option.bind (f_X5_copy ovs vs) (fun u1_3 => (Option.bind (f_X5_copy owg wg) (fun u1_5 => (Option.bind (f_X5_copy ots ts) (fun u1_7 => (if isB opf then some ((onr, opf, u1_1, u1_3, u1_5, u1_7)) else none)))))))))
abbrev rm_X3_copyFrom : Room := { frames := 2, cells := 0, slots := 0, locals := 39 }
set_option maxHeartbeats 4000000 in
set_option maxRecDepth 100000 in
theorem c_X3_copyFrom (l : Launch) (D : va_G) (cI cC cT : ClassId) (h0 h1 h2 h3 h4 h5 h6 h7 h8 h9 : Nat) (nr : Int32) (pf : Int32) (ks : Nat → Int32) (vs : Nat → Int32) (wg : Nat → Int32) (ts : Nat → Int32) (onr : Int32) (opf : Int32) (oks : Nat → Int32) (ovs : Nat → Int32) (owg : Nat → Int32) (ots : Nat → Int32) (sz : Nat) (o_nr : Int32) (o_pf : Int32) (o_ks : Nat → Int32) (o_vs : Nat → Int32) (o_wg : Nat → Int32) (o_ts : Nat → Int32) (hf : f_X3_copyFrom ks vs wg ts onr opf oks ovs owg ots = some ((o_nr, o_pf, o_ks, o_vs, o_wg, o_ts))) : Met l yX3_copyFrom wsX3_copyFrom rm_X3_copyFrom (mP D (mTY cI cC cT) [.ref h0, .ref h5] ((W_T cI cC cT h0 h1 h2 h3 h4 nr pf ks vs wg ts) ++ (W_T cI cC cT h5 h6 h7 h8 h9 onr opf oks ovs owg ots)) sz) (mQv D (mTY cI cC cT) (va_A ((W_T cI cC cT h0 h1 h2 h3 h4 nr pf ks vs wg ts) ++ (W_T cI cC cT h5 h6 h7 h8 h9 onr opf oks ovs owg ots)) sz) ((W_T cI cC cT h0 h1 h2 h3 h4 o_nr o_pf o_ks o_vs o_wg o_ts) ++ (W_T cI cC cT h5 h6 h7 h8 h9 onr opf oks ovs owg ots))) 0 0 (va_A ((W_T cI cC cT h0 h1 h2 h3 h4 nr pf ks vs wg ts) ++ (W_T cI cC cT h5 h6 h7 h8 h9 onr opf oks ovs owg ots)) sz) := by
  refine mEnt (cc := cX3_copyFrom) (maxL := 2) (ret := none) (own := RX3) (Qq := fun A => mQv D (mTY cI cC cT) A ((W_T cI cC cT h0 h1 h2 h3 h4 o_nr o_pf o_ks o_vs o_wg o_ts) ++ (W_T cI cC cT h5 h6 h7 h8 h9 onr opf oks ovs owg ots))) (by decide) rfl rfl (Nat.le_of_ble_eq_true rfl) ?_
  intro p e s m below meth c A ls H locs hx hb hr hml hlocks hown hts hN hA hP hK hD hS hl
  have hin_X3 : ∀ w ∈ u_ws RX3 TX3 6, w ∈ wsX3_copyFrom := by decide +kernel
  have fl_9 := hts (.fieldLink RX3 9 "SureMendings$Table" "keys" "[I") (by decide +kernel)
  have fl_15 := hts (.fieldLink RX3 15 "SureMendings$Table" "values" "[I") (by decide +kernel)
  have fl_18 := hts (.fieldLink RX3 18 "SureMendings$Table" "weights" "[I") (by decide +kernel)
  have fl_21 := hts (.fieldLink RX3 21 "SureMendings$Table" "targets" "[I") (by decide +kernel)
  have fl_24 := hts (.fieldLink RX3 24 "SureMendings$Table" "size" "I") (by decide +kernel)
  have fl_32 := hts (.fieldLink RX3 32 "SureMendings$Table" "preferring" "Z") (by decide +kernel)
  have hl : lv_has ls 2 [(0, .ref h0), (1, .ref h5)] := hl
  unfold f_X3_copyFrom at hf
  refine lv_aload_n hx hb dX3_copyFrom_0 rfl (lv_at hl 1 rfl) ?_
  refine va_get (D := D) (ci := 3) (v := .ref h6) (C := RX3) (T := TX3) (N := 6) hx hb hts hin_X3 hown hK hP 5 rfl rfl 0 (by decide) fl_9 (fun _ h9 => h9) rfl dX3_copyFrom_1 ?_
  refine lv_aload_n hx hb dX3_copyFrom_4 rfl (lv_at hl 0 rfl) ?_
  refine va_get (D := D) (ci := 3) (v := .ref h1) (C := RX3) (T := TX3) (N := 6) hx hb hts hin_X3 hown hK hP 0 rfl rfl 0 (by decide) fl_9 (fun _ h9 => h9) rfl dX3_copyFrom_5 ?_
  obtain ⟨u1_1, q_2, hf⟩ := bnd hf
  refine mGov (w2 := ((W_T cI cC cT h0 h1 h2 h3 h4 nr pf u1_1 vs wg ts) ++ (W_T cI cC cT h5 h6 h7 h8 h9 onr opf oks ovs owg ots))) (va_runSN (As := [.ref h6, .ref h1]) (rest := []) ⟨hx, hb, hml, hown, hts⟩ (c_X5_copy l D cI cC cT h6 h1 oks ks H.size u1_1 q_2) ⟨va_cnB 2 hts gX3_copyFrom_X5_copy_n36 rfl rfl rfl (nW_at hN 4 rfl) (hts (.initialized RX5) (by decide +kernel)) (by decide +kernel) ⟨Nat.le_of_ble_eq_true rfl, Nat.le_of_ble_eq_true rfl⟩, hts (.static yX5_copy) (by decide +kernel), trivial⟩ (mPreS hP hD hK hN [6, 1] rfl (by decide)) rfl rfl hl.1 rfl (lv_room (Nat.le_of_ble_eq_true rfl)) dX3_copyFrom_8 ⟨Nat.zero_le _, Nat.zero_le _⟩) hP hD hS hA [6, 1] rfl rfl rfl rfl (fun H locs hP hD hS => ?_)
  refine lv_aload_n hx hb dX3_copyFrom_11 rfl (lv_at hl 1 rfl) ?_
  refine va_get (D := D) (ci := 3) (v := .ref h7) (C := RX3) (T := TX3) (N := 6) hx hb hts hin_X3 hown hK hP 5 rfl rfl 1 (by decide) fl_15 (fun _ h9 => h9) rfl dX3_copyFrom_12 ?_
  refine lv_aload_n hx hb dX3_copyFrom_15 rfl (lv_at hl 0 rfl) ?_
  refine va_get (D := D) (ci := 3) (v := .ref h2) (C := RX3) (T := TX3) (N := 6) hx hb hts hin_X3 hown hK hP 0 rfl rfl 1 (by decide) fl_15 (fun _ h9 => h9) rfl dX3_copyFrom_16 ?_
  obtain ⟨u1_3, q_4, hf⟩ := bnd hf
  refine mGov (w2 := ((W_T cI cC cT h0 h1 h2 h3 h4 nr pf u1_1 u1_3 wg ts) ++ (W_T cI cC cT h5 h6 h7 h8 h9 onr opf oks ovs owg ots))) (va_runSN (As := [.ref h7, .ref h2]) (rest := []) ⟨hx, hb, hml, hown, hts⟩ (c_X5_copy l D cI cC cT h7 h2 ovs vs H.size u1_3 q_4) ⟨va_cnB 2 hts gX3_copyFrom_X5_copy_n36 rfl rfl rfl (nW_at hN 4 rfl) (hts (.initialized RX5) (by decide +kernel)) (by decide +kernel) ⟨Nat.le_of_ble_eq_true rfl, Nat.le_of_ble_eq_true rfl⟩, hts (.static yX5_copy) (by decide +kernel), trivial⟩ (mPreS hP hD hK hN [7, 2] rfl (by decide)) rfl rfl hl.1 rfl (lv_room (Nat.le_of_ble_eq_true rfl)) dX3_copyFrom_19 ⟨Nat.zero_le _, Nat.zero_le _⟩) hP hD hS hA [7, 2] rfl rfl rfl rfl (fun H locs hP hD hS => ?_)
  refine lv_aload_n hx hb dX3_copyFrom_22 rfl (lv_at hl 1 rfl) ?_
  refine va_get (D := D) (ci := 3) (v := .ref h8) (C := RX3) (T := TX3) (N := 6) hx hb hts hin_X3 hown hK hP 5 rfl rfl 2 (by decide) fl_18 (fun _ h9 => h9) rfl dX3_copyFrom_23 ?_
  refine lv_aload_n hx hb dX3_copyFrom_26 rfl (lv_at hl 0 rfl) ?_
  refine va_get (D := D) (ci := 3) (v := .ref h3) (C := RX3) (T := TX3) (N := 6) hx hb hts hin_X3 hown hK hP 0 rfl rfl 2 (by decide) fl_18 (fun _ h9 => h9) rfl dX3_copyFrom_27 ?_
  obtain ⟨u1_5, q_6, hf⟩ := bnd hf
  refine mGov (w2 := ((W_T cI cC cT h0 h1 h2 h3 h4 nr pf u1_1 u1_3 u1_5 ts) ++ (W_T cI cC cT h5 h6 h7 h8 h9 onr opf oks ovs owg ots))) (va_runSN (As := [.ref h8, .ref h3]) (rest := []) ⟨hx, hb, hml, hown, hts⟩ (c_X5_copy l D cI cC cT h8 h3 owg wg H.size u1_5 q_6) ⟨va_cnB 2 hts gX3_copyFrom_X5_copy_n36 rfl rfl rfl (nW_at hN 4 rfl) (hts (.initialized RX5) (by decide +kernel)) (by decide +kernel) ⟨Nat.le_of_ble_eq_true rfl, Nat.le_of_ble_eq_true rfl⟩, hts (.static yX5_copy) (by decide +kernel), trivial⟩ (mPreS hP hD hK hN [8, 3] rfl (by decide)) rfl rfl hl.1 rfl (lv_room (Nat.le_of_ble_eq_true rfl)) dX3_copyFrom_30 ⟨Nat.zero_le _, Nat.zero_le _⟩) hP hD hS hA [8, 3] rfl rfl rfl rfl (fun H locs hP hD hS => ?_)
  refine lv_aload_n hx hb dX3_copyFrom_33 rfl (lv_at hl 1 rfl) ?_
  refine va_get (D := D) (ci := 3) (v := .ref h9) (C := RX3) (T := TX3) (N := 6) hx hb hts hin_X3 hown hK hP 5 rfl rfl 3 (by decide) fl_21 (fun _ h9 => h9) rfl dX3_copyFrom_34 ?_
  refine lv_aload_n hx hb dX3_copyFrom_37 rfl (lv_at hl 0 rfl) ?_
  refine va_get (D := D) (ci := 3) (v := .ref h4) (C := RX3) (T := TX3) (N := 6) hx hb hts hin_X3 hown hK hP 0 rfl rfl 3 (by decide) fl_21 (fun _ h9 => h9) rfl dX3_copyFrom_38 ?_
  obtain ⟨u1_7, q_8, hf⟩ := bnd hf
  refine mGov (w2 := ((W_T cI cC cT h0 h1 h2 h3 h4 nr pf u1_1 u1_3 u1_5 u1_7) ++ (W_T cI cC cT h5 h6 h7 h8 h9 onr opf oks ovs owg ots))) (va_runSN (As := [.ref h9, .ref h4]) (rest := []) ⟨hx, hb, hml, hown, hts⟩ (c_X5_copy l D cI cC cT h9 h4 ots ts H.size u1_7 q_8) ⟨va_cnB 2 hts gX3_copyFrom_X5_copy_n36 rfl rfl rfl (nW_at hN 4 rfl) (hts (.initialized RX5) (by decide +kernel)) (by decide +kernel) ⟨Nat.le_of_ble_eq_true rfl, Nat.le_of_ble_eq_true rfl⟩, hts (.static yX5_copy) (by decide +kernel), trivial⟩ (mPreS hP hD hK hN [9, 4] rfl (by decide)) rfl rfl hl.1 rfl (lv_room (Nat.le_of_ble_eq_true rfl)) dX3_copyFrom_41 ⟨Nat.zero_le _, Nat.zero_le _⟩) hP hD hS hA [9, 4] rfl rfl rfl rfl (fun H locs hP hD hS => ?_)
  refine lv_aload_n hx hb dX3_copyFrom_44 rfl (lv_at hl 0 rfl) ?_
  refine lv_aload_n hx hb dX3_copyFrom_45 rfl (lv_at hl 1 rfl) ?_
  refine va_get (D := D) (ci := 3) (v := .int onr) (C := RX3) (T := TX3) (N := 6) hx hb hts hin_X3 hown hK hP 5 rfl rfl 4 (by decide) fl_24 (fun _ h9 => h9) rfl dX3_copyFrom_46 ?_
  refine va_put (D := D) (ci := 3) (v := .int onr) (ty := .int) (C := RX3) (T := TX3) (N := 6) hx hb hts hin_X3 tyX3 tyX3_ok nmX3 hown hK hP hD hS 0 rfl rfl 4 (by decide) fl_24 (fun _ h9 => h9) rfl (by decide +kernel) rfl rfl (Nat.le_of_ble_eq_true rfl) dX3_copyFrom_49 (fun H locs hP hD hS => ?_)
  have hP : va_P D vwCl ((W_T cI cC cT h0 h1 h2 h3 h4 onr pf u1_1 u1_3 u1_5 u1_7) ++ (W_T cI cC cT h5 h6 h7 h8 h9 onr opf oks ovs owg ots)) H := hP
  have hD : va_D A ((W_T cI cC cT h0 h1 h2 h3 h4 onr pf u1_1 u1_3 u1_5 u1_7) ++ (W_T cI cC cT h5 h6 h7 h8 h9 onr opf oks ovs owg ots)) := hD
  refine lv_aload_n hx hb dX3_copyFrom_52 rfl (lv_at hl 0 rfl) ?_
  refine lv_aload_n hx hb dX3_copyFrom_53 rfl (lv_at hl 1 rfl) ?_
  refine va_get (D := D) (ci := 3) (v := .int opf) (C := RX3) (T := TX3) (N := 6) hx hb hts hin_X3 hown hK hP 5 rfl rfl 5 (by decide) fl_32 (fun _ h9 => h9) rfl dX3_copyFrom_54 ?_
  obtain ⟨h_9, hf⟩ := grd hf
  refine va_put (D := D) (ci := 3) (v := .int opf) (ty := .boolean) (C := RX3) (T := TX3) (N := 6) hx hb hts hin_X3 tyX3 tyX3_ok nmX3 hown hK hP hD hS 0 rfl rfl 5 (by decide) fl_32 (fun _ h9 => h9) rfl (by decide +kernel) (isB_narrow h_9) (isB_fits h_9) (Nat.le_of_ble_eq_true rfl) dX3_copyFrom_57 (fun H locs hP hD hS => ?_)
  have hP : va_P D vwCl ((W_T cI cC cT h0 h1 h2 h3 h4 onr opf u1_1 u1_3 u1_5 u1_7) ++ (W_T cI cC cT h5 h6 h7 h8 h9 onr opf oks ovs owg ots)) H := hP
  have hD : va_D A ((W_T cI cC cT h0 h1 h2 h3 h4 onr opf u1_1 u1_3 u1_5 u1_7) ++ (W_T cI cC cT h5 h6 h7 h8 h9 onr opf oks ovs owg ots)) := hD
  cases hf
  exact mVret hx hb hr hlocks hP hD hK hS dX3_copyFrom_60
def f_X3_room (nr : Int32) : Option (Int32) := some (20 - nr)
abbrev rm_X3_room : Room := { frames := 0, cells := 0, slots := 0, locals := 0 }
set_option maxHeartbeats 4000000 in
set_option maxRecDepth 100000 in
theorem c_X3_room (l : Launch) (D : va_G) (cI cC cT : ClassId) (h0 h1 h2 h3 h4 : Nat) (nr : Int32) (pf : Int32) (ks : Nat → Int32) (vs : Nat → Int32) (wg : Nat → Int32) (ts : Nat → Int32) (sz : Nat) (out : Int32) (hf : f_X3_room nr = some out) : Met l yX3_room wsX3_room rm_X3_room (mP D (mTY cI cC cT) [.ref h0] (W_T cI cC cT h0 h1 h2 h3 h4 nr pf ks vs wg ts) sz) (mQi D (mTY cI cC cT) out (va_A (W_T cI cC cT h0 h1 h2 h3 h4 nr pf ks vs wg ts) sz) (W_T cI cC cT h0 h1 h2 h3 h4 nr pf ks vs wg ts)) 0 0 (va_A (W_T cI cC cT h0 h1 h2 h3 h4 nr pf ks vs wg ts) sz) := by
  refine mEnt (cc := cX3_room) (maxL := 1) (ret := (some .int)) (own := RX3) (Qq := fun A => mQi D (mTY cI cC cT) out A (W_T cI cC cT h0 h1 h2 h3 h4 nr pf ks vs wg ts)) (by decide) rfl rfl (Nat.le_of_ble_eq_true rfl) ?_
  intro p e s m below meth c A ls H locs hx hb hr hml hlocks hown hts hN hA hP hK hD hS hl
  have hin_X3 : ∀ w ∈ u_ws RX3 TX3 6, w ∈ wsX3_room := by decide +kernel
  have fl_24 := hts (.fieldLink RX3 24 "SureMendings$Table" "size" "I") (by decide +kernel)
  have hl : lv_has ls 1 [(0, .ref h0)] := hl
  unfold f_X3_room at hf
  refine lv_bipush (v := 20) hx hb dX3_room_0 (by decide) ?_
  refine lv_aload_n hx hb dX3_room_2 rfl (lv_at hl 0 rfl) ?_
  refine va_get (D := D) (ci := 3) (v := .int nr) (C := RX3) (T := TX3) (N := 6) hx hb hts hin_X3 hown hK hP 0 rfl rfl 4 (by decide) fl_24 (fun _ h9 => h9) rfl dX3_room_3 ?_
  refine lv_isub hx hb dX3_room_6 ?_
  cases hf
  exact mIret hx hb hr hlocks hP hD hK hS dX3_room_7
def f_X3_append (nr : Int32) (ks : Nat → Int32) (vs : Nat → Int32) (wg : Nat → Int32) (ts : Nat → Int32) (p0 : Int32) (p1 : Int32) (p2 : Int32) (p3 : Int32) : Option (Int32 × (Nat → Int32) × (Nat → Int32) × (Nat → Int32) × (Nat → Int32)) := (Option.bind (f_X3_room nr) (fun r_1 => (if r_1 ≤ 0 then some ((nr, ks, vs, wg, ts)) else (Option.bind (f_X5_put ks nr p0 20) (fun u0_4 => (Option.bind (f_X5_put vs nr p1 20) (fun u0_6 => (Option.bind (f_X5_put wg nr p2 20) (fun u0_8 => (Option.bind (f_X5_put ts nr p3 20) (fun u0_10 => some ((nr + 1, u0_4, u0_6, u0_8, u0_10)))))))))))))
abbrev rm_X3_append : Room := { frames := 1, cells := 0, slots := 0, locals := 22 }
set_option maxHeartbeats 4000000 in
set_option maxRecDepth 100000 in
theorem c_X3_append (l : Launch) (D : va_G) (cI cC cT : ClassId) (h0 h1 h2 h3 h4 : Nat) (nr : Int32) (pf : Int32) (ks : Nat → Int32) (vs : Nat → Int32) (wg : Nat → Int32) (ts : Nat → Int32) (sz : Nat) (p0 : Int32) (p1 : Int32) (p2 : Int32) (p3 : Int32) (o_nr : Int32) (o_ks : Nat → Int32) (o_vs : Nat → Int32) (o_wg : Nat → Int32) (o_ts : Nat → Int32) (hf : f_X3_append nr ks vs wg ts p0 p1 p2 p3 = some ((o_nr, o_ks, o_vs, o_wg, o_ts))) : Met l yX3_append wsX3_append rm_X3_append (mP D (mTY cI cC cT) [.ref h0, .int p0, .int p1, .int p2, .int p3] (W_T cI cC cT h0 h1 h2 h3 h4 nr pf ks vs wg ts) sz) (mQv D (mTY cI cC cT) (va_A (W_T cI cC cT h0 h1 h2 h3 h4 nr pf ks vs wg ts) sz) (W_T cI cC cT h0 h1 h2 h3 h4 o_nr pf o_ks o_vs o_wg o_ts)) 0 0 (va_A (W_T cI cC cT h0 h1 h2 h3 h4 nr pf ks vs wg ts) sz) := by
  refine mEnt (cc := cX3_append) (maxL := 5) (ret := none) (own := RX3) (Qq := fun A => mQv D (mTY cI cC cT) A (W_T cI cC cT h0 h1 h2 h3 h4 o_nr pf o_ks o_vs o_wg o_ts)) (by decide) rfl rfl (Nat.le_of_ble_eq_true rfl) ?_
  intro p e s m below meth c A ls H locs hx hb hr hml hlocks hown hts hN hA hP hK hD hS hl
  have hin_X3 : ∀ w ∈ u_ws RX3 TX3 6, w ∈ wsX3_append := by decide +kernel
  have fl_9 := hts (.fieldLink RX3 9 "SureMendings$Table" "keys" "[I") (by decide +kernel)
  have fl_15 := hts (.fieldLink RX3 15 "SureMendings$Table" "values" "[I") (by decide +kernel)
  have fl_18 := hts (.fieldLink RX3 18 "SureMendings$Table" "weights" "[I") (by decide +kernel)
  have fl_21 := hts (.fieldLink RX3 21 "SureMendings$Table" "targets" "[I") (by decide +kernel)
  have fl_24 := hts (.fieldLink RX3 24 "SureMendings$Table" "size" "I") (by decide +kernel)
  have hl : lv_has ls 5 [(0, .ref h0), (1, .int p0), (2, .int p1), (3, .int p2), (4, .int p3)] := hl
  unfold f_X3_append at hf
  refine lv_aload_n hx hb dX3_append_0 rfl (lv_at hl 0 rfl) ?_
  obtain ⟨r_1, q_2, hf⟩ := bnd hf
  refine mGoi (w2 := (W_T cI cC cT h0 h1 h2 h3 h4 nr pf ks vs wg ts)) (va_runV (As := []) (rest := []) ⟨hx, hb, hml, hown, hts⟩ (c_X3_room l D cI cC cT h0 h1 h2 h3 h4 nr pf ks vs wg ts H.size r_1 q_2) (cwV 0 hts gX3_append_X3_room rfl rfl rfl (by decide +kernel) ⟨Nat.le_of_ble_eq_true rfl, Nat.le_of_ble_eq_true rfl⟩) (mPreV hP hD hK hN [0, 1, 2, 3, 4] rfl (by decide) (va_recv hK hP (ci := 3) (q0 := 0) rfl rfl)) rfl rfl hl.1 rfl (lv_room (Nat.le_of_ble_eq_true rfl)) dX3_append_1 ⟨Nat.zero_le _, Nat.zero_le _⟩) hP hD hS hA [0, 1, 2, 3, 4] rfl rfl rfl rfl (fun H locs hP hD hS => ?_)
  refine lv_if_le (tgt := 66) hx hb dX3_append_4 (by decide) (fun c_3 => ?_) (fun c_3 => ?_)
  · have hf := ite_t hf c_3
    cases hf
    exact mVret hx hb hr hlocks hP hD hK hS dX3_append_66
  · have hf := ite_f hf c_3
    refine lv_aload_n hx hb dX3_append_7 rfl (lv_at hl 0 rfl) ?_
    refine va_get (D := D) (ci := 3) (v := .ref h1) (C := RX3) (T := TX3) (N := 6) hx hb hts hin_X3 hown hK hP 0 rfl rfl 0 (by decide) fl_9 (fun _ h9 => h9) rfl dX3_append_8 ?_
    refine lv_aload_n hx hb dX3_append_11 rfl (lv_at hl 0 rfl) ?_
    refine va_get (D := D) (ci := 3) (v := .int nr) (C := RX3) (T := TX3) (N := 6) hx hb hts hin_X3 hown hK hP 0 rfl rfl 4 (by decide) fl_24 (fun _ h9 => h9) rfl dX3_append_12 ?_
    refine lv_iload_n hx hb dX3_append_15 rfl (lv_at hl 1 rfl) ?_
    obtain ⟨u0_4, q_5, hf⟩ := bnd hf
    refine mGov (w2 := (W_T cI cC cT h0 h1 h2 h3 h4 nr pf u0_4 vs wg ts)) (va_runSN (As := [.ref h1, .int nr, .int p0]) (rest := []) ⟨hx, hb, hml, hown, hts⟩ (c_X5_put l D cI cC cT 20 h1 ks H.size nr p0 u0_4 q_5) ⟨va_cnB 3 hts gX3_append_X5_put_n44 rfl rfl rfl (nW_at hN 5 rfl) (hts (.initialized RX5) (by decide +kernel)) (by decide +kernel) ⟨Nat.le_of_ble_eq_true rfl, Nat.le_of_ble_eq_true rfl⟩, hts (.static yX5_put) (by decide +kernel), trivial⟩ (mPreS hP hD hK hN [1] rfl (by decide)) rfl rfl hl.1 rfl (lv_room (Nat.le_of_ble_eq_true rfl)) dX3_append_16 ⟨Nat.zero_le _, Nat.zero_le _⟩) hP hD hS hA [1] rfl rfl rfl rfl (fun H locs hP hD hS => ?_)
    refine lv_aload_n hx hb dX3_append_19 rfl (lv_at hl 0 rfl) ?_
    refine va_get (D := D) (ci := 3) (v := .ref h2) (C := RX3) (T := TX3) (N := 6) hx hb hts hin_X3 hown hK hP 0 rfl rfl 1 (by decide) fl_15 (fun _ h9 => h9) rfl dX3_append_20 ?_
    refine lv_aload_n hx hb dX3_append_23 rfl (lv_at hl 0 rfl) ?_
    refine va_get (D := D) (ci := 3) (v := .int nr) (C := RX3) (T := TX3) (N := 6) hx hb hts hin_X3 hown hK hP 0 rfl rfl 4 (by decide) fl_24 (fun _ h9 => h9) rfl dX3_append_24 ?_
    refine lv_iload_n hx hb dX3_append_27 rfl (lv_at hl 2 rfl) ?_
    obtain ⟨u0_6, q_7, hf⟩ := bnd hf
    refine mGov (w2 := (W_T cI cC cT h0 h1 h2 h3 h4 nr pf u0_4 u0_6 wg ts)) (va_runSN (As := [.ref h2, .int nr, .int p1]) (rest := []) ⟨hx, hb, hml, hown, hts⟩ (c_X5_put l D cI cC cT 20 h2 vs H.size nr p1 u0_6 q_7) ⟨va_cnB 3 hts gX3_append_X5_put_n44 rfl rfl rfl (nW_at hN 5 rfl) (hts (.initialized RX5) (by decide +kernel)) (by decide +kernel) ⟨Nat.le_of_ble_eq_true rfl, Nat.le_of_ble_eq_true rfl⟩, hts (.static yX5_put) (by decide +kernel), trivial⟩ (mPreS hP hD hK hN [2] rfl (by decide)) rfl rfl hl.1 rfl (lv_room (Nat.le_of_ble_eq_true rfl)) dX3_append_28 ⟨Nat.zero_le _, Nat.zero_le _⟩) hP hD hS hA [2] rfl rfl rfl rfl (fun H locs hP hD hS => ?_)
    refine lv_aload_n hx hb dX3_append_31 rfl (lv_at hl 0 rfl) ?_
    refine va_get (D := D) (ci := 3) (v := .ref h3) (C := RX3) (T := TX3) (N := 6) hx hb hts hin_X3 hown hK hP 0 rfl rfl 2 (by decide) fl_18 (fun _ h9 => h9) rfl dX3_append_32 ?_
    refine lv_aload_n hx hb dX3_append_35 rfl (lv_at hl 0 rfl) ?_
    refine va_get (D := D) (ci := 3) (v := .int nr) (C := RX3) (T := TX3) (N := 6) hx hb hts hin_X3 hown hK hP 0 rfl rfl 4 (by decide) fl_24 (fun _ h9 => h9) rfl dX3_append_36 ?_
    refine lv_iload_n hx hb dX3_append_39 rfl (lv_at hl 3 rfl) ?_
    obtain ⟨u0_8, q_9, hf⟩ := bnd hf
    refine mGov (w2 := (W_T cI cC cT h0 h1 h2 h3 h4 nr pf u0_4 u0_6 u0_8 ts)) (va_runSN (As := [.ref h3, .int nr, .int p2]) (rest := []) ⟨hx, hb, hml, hown, hts⟩ (c_X5_put l D cI cC cT 20 h3 wg H.size nr p2 u0_8 q_9) ⟨va_cnB 3 hts gX3_append_X5_put_n44 rfl rfl rfl (nW_at hN 5 rfl) (hts (.initialized RX5) (by decide +kernel)) (by decide +kernel) ⟨Nat.le_of_ble_eq_true rfl, Nat.le_of_ble_eq_true rfl⟩, hts (.static yX5_put) (by decide +kernel), trivial⟩ (mPreS hP hD hK hN [3] rfl (by decide)) rfl rfl hl.1 rfl (lv_room (Nat.le_of_ble_eq_true rfl)) dX3_append_40 ⟨Nat.zero_le _, Nat.zero_le _⟩) hP hD hS hA [3] rfl rfl rfl rfl (fun H locs hP hD hS => ?_)
    refine lv_aload_n hx hb dX3_append_43 rfl (lv_at hl 0 rfl) ?_
    refine va_get (D := D) (ci := 3) (v := .ref h4) (C := RX3) (T := TX3) (N := 6) hx hb hts hin_X3 hown hK hP 0 rfl rfl 3 (by decide) fl_21 (fun _ h9 => h9) rfl dX3_append_44 ?_
    refine lv_aload_n hx hb dX3_append_47 rfl (lv_at hl 0 rfl) ?_
    refine va_get (D := D) (ci := 3) (v := .int nr) (C := RX3) (T := TX3) (N := 6) hx hb hts hin_X3 hown hK hP 0 rfl rfl 4 (by decide) fl_24 (fun _ h9 => h9) rfl dX3_append_48 ?_
    refine lv_iload hx hb dX3_append_51 (lv_at hl 4 rfl) ?_
    obtain ⟨u0_10, q_11, hf⟩ := bnd hf
    refine mGov (w2 := (W_T cI cC cT h0 h1 h2 h3 h4 nr pf u0_4 u0_6 u0_8 u0_10)) (va_runSN (As := [.ref h4, .int nr, .int p3]) (rest := []) ⟨hx, hb, hml, hown, hts⟩ (c_X5_put l D cI cC cT 20 h4 ts H.size nr p3 u0_10 q_11) ⟨va_cnB 3 hts gX3_append_X5_put_n44 rfl rfl rfl (nW_at hN 5 rfl) (hts (.initialized RX5) (by decide +kernel)) (by decide +kernel) ⟨Nat.le_of_ble_eq_true rfl, Nat.le_of_ble_eq_true rfl⟩, hts (.static yX5_put) (by decide +kernel), trivial⟩ (mPreS hP hD hK hN [4] rfl (by decide)) rfl rfl hl.1 rfl (lv_room (Nat.le_of_ble_eq_true rfl)) dX3_append_53 ⟨Nat.zero_le _, Nat.zero_le _⟩) hP hD hS hA [4] rfl rfl rfl rfl (fun H locs hP hD hS => ?_)
    refine lv_aload_n hx hb dX3_append_56 rfl (lv_at hl 0 rfl) ?_
    refine lv_dup hx hb dX3_append_57 rfl ?_
    refine va_get (D := D) (ci := 3) (v := .int nr) (C := RX3) (T := TX3) (N := 6) hx hb hts hin_X3 hown hK hP 0 rfl rfl 4 (by decide) fl_24 (fun _ h9 => h9) rfl dX3_append_58 ?_
    refine lv_iconst (v := 1) hx hb dX3_append_61 (by decide) ?_
    refine lv_iadd hx hb dX3_append_62 ?_
    refine va_put (D := D) (ci := 3) (v := .int (nr + 1)) (ty := .int) (C := RX3) (T := TX3) (N := 6) hx hb hts hin_X3 tyX3 tyX3_ok nmX3 hown hK hP hD hS 0 rfl rfl 4 (by decide) fl_24 (fun _ h9 => h9) rfl (by decide +kernel) rfl rfl (Nat.le_of_ble_eq_true rfl) dX3_append_63 (fun H locs hP hD hS => ?_)
    have hP : va_P D vwCl (W_T cI cC cT h0 h1 h2 h3 h4 (nr + 1) pf u0_4 u0_6 u0_8 u0_10) H := hP
    have hD : va_D A (W_T cI cC cT h0 h1 h2 h3 h4 (nr + 1) pf u0_4 u0_6 u0_8 u0_10) := hD
    cases hf
    exact mVret hx hb hr hlocks hP hD hK hS dX3_append_66
def b_X3_rowsWith_1 (nr : Int32) (ks : Nat → Int32) (p0 : Int32) (z : Int32 × Int32) : Option ((Int32 × Int32) ⊕ (Int32)) := match z with
  | (v2_1, v3_2) => (if nr ≤ v3_2 then some (.inr v2_1) else (Option.bind (f_X3_keyAt ks v3_2) (fun r_5 => (Option.bind (α := Int32) ((if r_5 = p0 then some (v2_1 + 1) else some v2_1)) (fun x_7 => some (.inl ((x_7, v3_2 + 1))))))))
def f_X3_rowsWith (nr : Int32) (ks : Nat → Int32) (p0 : Int32) : Option (Int32) := iter fuel (b_X3_rowsWith_1 nr ks p0) ((0, 0))
abbrev rm_X3_rowsWith : Room := { frames := 2, cells := 0, slots := 0, locals := 42 }
set_option maxHeartbeats 4000000 in
set_option maxRecDepth 100000 in
theorem c_X3_rowsWith (l : Launch) (D : va_G) (cI cC cT : ClassId) (h0 h1 h2 h3 h4 : Nat) (nr : Int32) (pf : Int32) (ks : Nat → Int32) (vs : Nat → Int32) (wg : Nat → Int32) (ts : Nat → Int32) (sz : Nat) (p0 : Int32) (out : Int32) (hf : f_X3_rowsWith nr ks p0 = some out) : Met l yX3_rowsWith wsX3_rowsWith rm_X3_rowsWith (mP D (mTY cI cC cT) [.ref h0, .int p0] (W_T cI cC cT h0 h1 h2 h3 h4 nr pf ks vs wg ts) sz) (mQi D (mTY cI cC cT) out (va_A (W_T cI cC cT h0 h1 h2 h3 h4 nr pf ks vs wg ts) sz) (W_T cI cC cT h0 h1 h2 h3 h4 nr pf ks vs wg ts)) 0 0 (va_A (W_T cI cC cT h0 h1 h2 h3 h4 nr pf ks vs wg ts) sz) := by
  refine mEnt (cc := cX3_rowsWith) (maxL := 4) (ret := (some .int)) (own := RX3) (Qq := fun A => mQi D (mTY cI cC cT) out A (W_T cI cC cT h0 h1 h2 h3 h4 nr pf ks vs wg ts)) (by decide) rfl rfl (Nat.le_of_ble_eq_true rfl) ?_
  intro p e s m below meth c A ls H locs hx hb hr hml hlocks hown hts hN hA hP hK hD hS hl
  have hin_X3 : ∀ w ∈ u_ws RX3 TX3 6, w ∈ wsX3_rowsWith := by decide +kernel
  have fl_24 := hts (.fieldLink RX3 24 "SureMendings$Table" "size" "I") (by decide +kernel)
  have hl : lv_has ls 4 [(0, .ref h0), (1, .int p0)] := hl
  unfold f_X3_rowsWith at hf
  refine lv_iconst (v := 0) hx hb dX3_rowsWith_0 (by decide) ?_
  refine lv_istore_n (lv' := [(2, .int 0), (0, .ref h0), (1, .int p0)]) hx hb dX3_rowsWith_1 rfl hl (by decide) rfl (fun ls hl => ?_)
  refine lv_iconst (v := 0) hx hb dX3_rowsWith_2 (by decide) ?_
  refine lv_istore_n (lv' := [(3, .int 0), (2, .int 0), (0, .ref h0), (1, .int p0)]) hx hb dX3_rowsWith_3 rfl hl (by decide) rfl (fun ls hl => ?_)
  have LP_3 : ∀ (n_3 : Nat) (v2_1 : Int32) (v3_2 : Int32), iter n_3 (b_X3_rowsWith_1 nr ks p0) ((v2_1, v3_2)) = some out → ∀ (H : Heap) (locs : List Loc), va_P D vwCl (W_T cI cC cT h0 h1 h2 h3 h4 nr pf ks vs wg ts) H → va_D A (W_T cI cC cT h0 h1 h2 h3 h4 nr pf ks vs wg ts) → va_S A s.heap H locs → ∀ (ls : Array Slot), lv_has ls 4 [(0, .ref h0), (1, .int p0), (2, .int v2_1), (3, .int v3_2)] → W p l e rm_X3_rowsWith s m ([.ref h0, .int p0] : List Value).toArray below meth c H locs 0 0 (MQ below (mQi D (mTY cI cC cT) out A (W_T cI cC cT h0 h1 h2 h3 h4 nr pf ks vs wg ts)) ([.ref h0, .int p0] : List Value).toArray s 0 0 A) (F0 m 4 ls []) := by
    intro n_3
    induction n_3 with
    | zero => intro v2_1 v3_2 hf; exact (iter_zero hf).elim
    | succ n_3 ih_3 =>
      intro v2_1 v3_2 hf H locs hP hD hS ls hl
      obtain ⟨o_3, hf, ho_3⟩ := iter_succ hf
      dsimp only [b_X3_rowsWith_1] at hf
      refine lv_iload_n hx hb dX3_rowsWith_4 rfl (lv_at hl 3 rfl) ?_
      refine lv_aload_n hx hb dX3_rowsWith_5 rfl (lv_at hl 0 rfl) ?_
      refine va_get (D := D) (ci := 3) (v := .int nr) (C := RX3) (T := TX3) (N := 6) hx hb hts hin_X3 hown hK hP 0 rfl rfl 4 (by decide) fl_24 (fun _ h9 => h9) rfl dX3_rowsWith_6 ?_
      refine lv_icmp_ge (tgt := 30) hx hb dX3_rowsWith_9 (by decide) (fun c_4 => ?_) (fun c_4 => ?_)
      · have hf := ite_t hf c_4
        refine lv_iload_n hx hb dX3_rowsWith_30 rfl (lv_at hl 2 rfl) ?_
        cases hf
        have hf := ho_3.2 _ rfl
        cases hf
        exact mIret hx hb hr hlocks hP hD hK hS dX3_rowsWith_31
      · have hf := ite_f hf c_4
        refine lv_aload_n hx hb dX3_rowsWith_12 rfl (lv_at hl 0 rfl) ?_
        refine lv_iload_n hx hb dX3_rowsWith_13 rfl (lv_at hl 3 rfl) ?_
        obtain ⟨r_5, q_6, hf⟩ := bnd hf
        refine mGoi (w2 := (W_T cI cC cT h0 h1 h2 h3 h4 nr pf ks vs wg ts)) (va_runV (As := [.int v3_2]) (rest := []) ⟨hx, hb, hml, hown, hts⟩ (c_X3_keyAt l D cI cC cT h0 h1 h2 h3 h4 nr pf ks vs wg ts H.size v3_2 r_5 q_6) (cwV 1 hts gX3_rowsWith_X3_keyAt rfl rfl rfl (by decide +kernel) ⟨Nat.le_of_ble_eq_true rfl, Nat.le_of_ble_eq_true rfl⟩) (mPreV hP hD hK hN [0, 1, 2, 3, 4] rfl (by decide) (va_recv hK hP (ci := 3) (q0 := 0) rfl rfl)) rfl rfl hl.1 rfl (lv_room (Nat.le_of_ble_eq_true rfl)) dX3_rowsWith_14 ⟨Nat.zero_le _, Nat.zero_le _⟩) hP hD hS hA [0, 1, 2, 3, 4] rfl rfl rfl rfl (fun H locs hP hD hS => ?_)
        refine lv_iload_n hx hb dX3_rowsWith_17 rfl (lv_at hl 1 rfl) ?_
        obtain ⟨x_7, q_9, hf⟩ := bnd hf
        have K_8 : ∀ (H : Heap) (locs : List Loc), va_P D vwCl (W_T cI cC cT h0 h1 h2 h3 h4 nr pf ks vs wg ts) H → va_D A (W_T cI cC cT h0 h1 h2 h3 h4 nr pf ks vs wg ts) → va_S A s.heap H locs → ∀ (ls : Array Slot), lv_has ls 4 [(0, .ref h0), (1, .int p0), (2, .int x_7), (3, .int v3_2)] → W p l e rm_X3_rowsWith s m ([.ref h0, .int p0] : List Value).toArray below meth c H locs 0 0 (MQ below (mQi D (mTY cI cC cT) out A (W_T cI cC cT h0 h1 h2 h3 h4 nr pf ks vs wg ts)) ([.ref h0, .int p0] : List Value).toArray s 0 0 A) (F0 m 24 ls []) := by
          intro H locs hP hD hS ls hl
          refine lv_iinc (v := v3_2 + 1) (lv' := [(3, .int (v3_2 + 1)), (0, .ref h0), (1, .int p0), (2, .int x_7)]) hx hb dX3_rowsWith_24 hl (k := 3) rfl rfl (by decide) rfl (fun ls hl => ?_)
          refine lv_goto (tgt := 4) hx hb dX3_rowsWith_27 (by decide) ?_
          cases hf
          have hf := ho_3.1 _ rfl
          exact ih_3 _ _ hf _ _ hP hD hS _ (lv_sub hl [1, 2, 3, 0] rfl)
        have hf := q_9
        refine lv_icmp_ne (tgt := 24) hx hb dX3_rowsWith_18 (by decide) (fun c_10 => ?_) (fun c_10 => ?_)
        · have hf := ite_f hf c_10
          cases hf
          exact K_8 _ _ hP hD hS _ (lv_sub hl [0, 1, 2, 3] rfl)
        · have hf := ite_t hf c_10
          refine lv_iinc (v := v2_1 + 1) (lv' := [(2, .int (v2_1 + 1)), (0, .ref h0), (1, .int p0), (3, .int v3_2)]) hx hb dX3_rowsWith_21 hl (k := 2) rfl rfl (by decide) rfl (fun ls hl => ?_)
          cases hf
          exact K_8 _ _ hP hD hS _ (lv_sub hl [1, 2, 0, 3] rfl)
  exact LP_3 _ _ _ hf _ _ hP hD hS _ (lv_sub hl [2, 3, 1, 0] rfl)
def b_X3_keysWithAtLeast_1 (nr : Int32) (ks : Nat → Int32) (p0 : Int32) (z : Int32 × Int32) : Option ((Int32 × Int32) ⊕ (Int32)) := match z with
  | (v2_1, v3_2) => (if 10 ≤ v3_2 then some (.inr v2_1) else (Option.bind (f_X3_rowsWith nr ks v3_2) (fun r_5 => (Option.bind (α := Int32) ((if r_5 < p0 then some v2_1 else some (v2_1 + 1))) (fun x_7 => some (.inl ((x_7, v3_2 + 1))))))))
def f_X3_keysWithAtLeast (nr : Int32) (ks : Nat → Int32) (p0 : Int32) : Option (Int32) := iter fuel (b_X3_keysWithAtLeast_1 nr ks p0) ((0, 0))
abbrev rm_X3_keysWithAtLeast : Room := { frames := 3, cells := 0, slots := 0, locals := 65 }
set_option maxHeartbeats 4000000 in
set_option maxRecDepth 100000 in
theorem c_X3_keysWithAtLeast (l : Launch) (D : va_G) (cI cC cT : ClassId) (h0 h1 h2 h3 h4 : Nat) (nr : Int32) (pf : Int32) (ks : Nat → Int32) (vs : Nat → Int32) (wg : Nat → Int32) (ts : Nat → Int32) (sz : Nat) (p0 : Int32) (out : Int32) (hf : f_X3_keysWithAtLeast nr ks p0 = some out) : Met l yX3_keysWithAtLeast wsX3_keysWithAtLeast rm_X3_keysWithAtLeast (mP D (mTY cI cC cT) [.ref h0, .int p0] (W_T cI cC cT h0 h1 h2 h3 h4 nr pf ks vs wg ts) sz) (mQi D (mTY cI cC cT) out (va_A (W_T cI cC cT h0 h1 h2 h3 h4 nr pf ks vs wg ts) sz) (W_T cI cC cT h0 h1 h2 h3 h4 nr pf ks vs wg ts)) 0 0 (va_A (W_T cI cC cT h0 h1 h2 h3 h4 nr pf ks vs wg ts) sz) := by
  refine mEnt (cc := cX3_keysWithAtLeast) (maxL := 4) (ret := (some .int)) (own := RX3) (Qq := fun A => mQi D (mTY cI cC cT) out A (W_T cI cC cT h0 h1 h2 h3 h4 nr pf ks vs wg ts)) (by decide) rfl rfl (Nat.le_of_ble_eq_true rfl) ?_
  intro p e s m below meth c A ls H locs hx hb hr hml hlocks hown hts hN hA hP hK hD hS hl
  have hl : lv_has ls 4 [(0, .ref h0), (1, .int p0)] := hl
  unfold f_X3_keysWithAtLeast at hf
  refine lv_iconst (v := 0) hx hb dX3_keysWithAtLeast_0 (by decide) ?_
  refine lv_istore_n (lv' := [(2, .int 0), (0, .ref h0), (1, .int p0)]) hx hb dX3_keysWithAtLeast_1 rfl hl (by decide) rfl (fun ls hl => ?_)
  refine lv_iconst (v := 0) hx hb dX3_keysWithAtLeast_2 (by decide) ?_
  refine lv_istore_n (lv' := [(3, .int 0), (2, .int 0), (0, .ref h0), (1, .int p0)]) hx hb dX3_keysWithAtLeast_3 rfl hl (by decide) rfl (fun ls hl => ?_)
  have LP_3 : ∀ (n_3 : Nat) (v2_1 : Int32) (v3_2 : Int32), iter n_3 (b_X3_keysWithAtLeast_1 nr ks p0) ((v2_1, v3_2)) = some out → ∀ (H : Heap) (locs : List Loc), va_P D vwCl (W_T cI cC cT h0 h1 h2 h3 h4 nr pf ks vs wg ts) H → va_D A (W_T cI cC cT h0 h1 h2 h3 h4 nr pf ks vs wg ts) → va_S A s.heap H locs → ∀ (ls : Array Slot), lv_has ls 4 [(0, .ref h0), (1, .int p0), (2, .int v2_1), (3, .int v3_2)] → W p l e rm_X3_keysWithAtLeast s m ([.ref h0, .int p0] : List Value).toArray below meth c H locs 0 0 (MQ below (mQi D (mTY cI cC cT) out A (W_T cI cC cT h0 h1 h2 h3 h4 nr pf ks vs wg ts)) ([.ref h0, .int p0] : List Value).toArray s 0 0 A) (F0 m 4 ls []) := by
    intro n_3
    induction n_3 with
    | zero => intro v2_1 v3_2 hf; exact (iter_zero hf).elim
    | succ n_3 ih_3 =>
      intro v2_1 v3_2 hf H locs hP hD hS ls hl
      obtain ⟨o_3, hf, ho_3⟩ := iter_succ hf
      dsimp only [b_X3_keysWithAtLeast_1] at hf
      refine lv_iload_n hx hb dX3_keysWithAtLeast_4 rfl (lv_at hl 3 rfl) ?_
      refine lv_bipush (v := 10) hx hb dX3_keysWithAtLeast_5 (by decide) ?_
      refine lv_icmp_ge (tgt := 28) hx hb dX3_keysWithAtLeast_7 (by decide) (fun c_4 => ?_) (fun c_4 => ?_)
      · have hf := ite_t hf c_4
        refine lv_iload_n hx hb dX3_keysWithAtLeast_28 rfl (lv_at hl 2 rfl) ?_
        cases hf
        have hf := ho_3.2 _ rfl
        cases hf
        exact mIret hx hb hr hlocks hP hD hK hS dX3_keysWithAtLeast_29
      · have hf := ite_f hf c_4
        refine lv_aload_n hx hb dX3_keysWithAtLeast_10 rfl (lv_at hl 0 rfl) ?_
        refine lv_iload_n hx hb dX3_keysWithAtLeast_11 rfl (lv_at hl 3 rfl) ?_
        obtain ⟨r_5, q_6, hf⟩ := bnd hf
        refine mGoi (w2 := (W_T cI cC cT h0 h1 h2 h3 h4 nr pf ks vs wg ts)) (va_runV (As := [.int v3_2]) (rest := []) ⟨hx, hb, hml, hown, hts⟩ (c_X3_rowsWith l D cI cC cT h0 h1 h2 h3 h4 nr pf ks vs wg ts H.size v3_2 r_5 q_6) (cwV 1 hts gX3_keysWithAtLeast_X3_rowsWith rfl rfl rfl (by decide +kernel) ⟨Nat.le_of_ble_eq_true rfl, Nat.le_of_ble_eq_true rfl⟩) (mPreV hP hD hK hN [0, 1, 2, 3, 4] rfl (by decide) (va_recv hK hP (ci := 3) (q0 := 0) rfl rfl)) rfl rfl hl.1 rfl (lv_room (Nat.le_of_ble_eq_true rfl)) dX3_keysWithAtLeast_12 ⟨Nat.zero_le _, Nat.zero_le _⟩) hP hD hS hA [0, 1, 2, 3, 4] rfl rfl rfl rfl (fun H locs hP hD hS => ?_)
        refine lv_iload_n hx hb dX3_keysWithAtLeast_15 rfl (lv_at hl 1 rfl) ?_
        obtain ⟨x_7, q_9, hf⟩ := bnd hf
        have K_8 : ∀ (H : Heap) (locs : List Loc), va_P D vwCl (W_T cI cC cT h0 h1 h2 h3 h4 nr pf ks vs wg ts) H → va_D A (W_T cI cC cT h0 h1 h2 h3 h4 nr pf ks vs wg ts) → va_S A s.heap H locs → ∀ (ls : Array Slot), lv_has ls 4 [(0, .ref h0), (1, .int p0), (2, .int x_7), (3, .int v3_2)] → W p l e rm_X3_keysWithAtLeast s m ([.ref h0, .int p0] : List Value).toArray below meth c H locs 0 0 (MQ below (mQi D (mTY cI cC cT) out A (W_T cI cC cT h0 h1 h2 h3 h4 nr pf ks vs wg ts)) ([.ref h0, .int p0] : List Value).toArray s 0 0 A) (F0 m 22 ls []) := by
          intro H locs hP hD hS ls hl
          refine lv_iinc (v := v3_2 + 1) (lv' := [(3, .int (v3_2 + 1)), (0, .ref h0), (1, .int p0), (2, .int x_7)]) hx hb dX3_keysWithAtLeast_22 hl (k := 3) rfl rfl (by decide) rfl (fun ls hl => ?_)
          refine lv_goto (tgt := 4) hx hb dX3_keysWithAtLeast_25 (by decide) ?_
          cases hf
          have hf := ho_3.1 _ rfl
          exact ih_3 _ _ hf _ _ hP hD hS _ (lv_sub hl [1, 2, 3, 0] rfl)
        have hf := q_9
        refine lv_icmp_lt (tgt := 22) hx hb dX3_keysWithAtLeast_16 (by decide) (fun c_10 => ?_) (fun c_10 => ?_)
        · have hf := ite_t hf c_10
          cases hf
          exact K_8 _ _ hP hD hS _ (lv_sub hl [0, 1, 2, 3] rfl)
        · have hf := ite_f hf c_10
          refine lv_iinc (v := v2_1 + 1) (lv' := [(2, .int (v2_1 + 1)), (0, .ref h0), (1, .int p0), (3, .int v3_2)]) hx hb dX3_keysWithAtLeast_19 hl (k := 2) rfl rfl (by decide) rfl (fun ls hl => ?_)
          cases hf
          exact K_8 _ _ hP hD hS _ (lv_sub hl [1, 2, 0, 3] rfl)
  exact LP_3 _ _ _ hf _ _ hP hD hS _ (lv_sub hl [2, 3, 1, 0] rfl)
def f_X3_doubledKeys (nr : Int32) (ks : Nat → Int32) : Option (Int32) := (Option.bind (f_X3_keysWithAtLeast nr ks 2) (fun r_1 => some r_1))
abbrev rm_X3_doubledKeys : Room := { frames := 4, cells := 0, slots := 0, locals := 88 }
set_option maxHeartbeats 4000000 in
set_option maxRecDepth 100000 in
theorem c_X3_doubledKeys (l : Launch) (D : va_G) (cI cC cT : ClassId) (h0 h1 h2 h3 h4 : Nat) (nr : Int32) (pf : Int32) (ks : Nat → Int32) (vs : Nat → Int32) (wg : Nat → Int32) (ts : Nat → Int32) (sz : Nat) (out : Int32) (hf : f_X3_doubledKeys nr ks = some out) : Met l yX3_doubledKeys wsX3_doubledKeys rm_X3_doubledKeys (mP D (mTY cI cC cT) [.ref h0] (W_T cI cC cT h0 h1 h2 h3 h4 nr pf ks vs wg ts) sz) (mQi D (mTY cI cC cT) out (va_A (W_T cI cC cT h0 h1 h2 h3 h4 nr pf ks vs wg ts) sz) (W_T cI cC cT h0 h1 h2 h3 h4 nr pf ks vs wg ts)) 0 0 (va_A (W_T cI cC cT h0 h1 h2 h3 h4 nr pf ks vs wg ts) sz) := by
  refine mEnt (cc := cX3_doubledKeys) (maxL := 1) (ret := (some .int)) (own := RX3) (Qq := fun A => mQi D (mTY cI cC cT) out A (W_T cI cC cT h0 h1 h2 h3 h4 nr pf ks vs wg ts)) (by decide) rfl rfl (Nat.le_of_ble_eq_true rfl) ?_
  intro p e s m below meth c A ls H locs hx hb hr hml hlocks hown hts hN hA hP hK hD hS hl
  have hl : lv_has ls 1 [(0, .ref h0)] := hl
  unfold f_X3_doubledKeys at hf
  refine lv_aload_n hx hb dX3_doubledKeys_0 rfl (lv_at hl 0 rfl) ?_
  refine lv_iconst (v := 2) hx hb dX3_doubledKeys_1 (by decide) ?_
  obtain ⟨r_1, q_2, hf⟩ := bnd hf
  refine mGoi (w2 := (W_T cI cC cT h0 h1 h2 h3 h4 nr pf ks vs wg ts)) (va_runV (As := [.int 2]) (rest := []) ⟨hx, hb, hml, hown, hts⟩ (c_X3_keysWithAtLeast l D cI cC cT h0 h1 h2 h3 h4 nr pf ks vs wg ts H.size 2 r_1 q_2) (cwV 1 hts gX3_doubledKeys_X3_keysWithAtLeast rfl rfl rfl (by decide +kernel) ⟨Nat.le_of_ble_eq_true rfl, Nat.le_of_ble_eq_true rfl⟩) (mPreV hP hD hK hN [0, 1, 2, 3, 4] rfl (by decide) (va_recv hK hP (ci := 3) (q0 := 0) rfl rfl)) rfl rfl hl.1 rfl (lv_room (Nat.le_of_ble_eq_true rfl)) dX3_doubledKeys_2 ⟨Nat.zero_le _, Nat.zero_le _⟩) hP hD hS hA [0, 1, 2, 3, 4] rfl rfl rfl rfl (fun H locs hP hD hS => ?_)
  cases hf
  exact mIret hx hb hr hlocks hP hD hK hS dX3_doubledKeys_5
def f_X3_has (nr : Int32) (p0 : Int32) : Option (Int32) := (if p0 < 0 then some 0 else (if nr ≤ p0 then some 0 else some 1))
abbrev rm_X3_has : Room := { frames := 0, cells := 0, slots := 0, locals := 0 }
set_option maxHeartbeats 4000000 in
set_option maxRecDepth 100000 in
theorem c_X3_has (l : Launch) (D : va_G) (cI cC cT : ClassId) (h0 h1 h2 h3 h4 : Nat) (nr : Int32) (pf : Int32) (ks : Nat → Int32) (vs : Nat → Int32) (wg : Nat → Int32) (ts : Nat → Int32) (sz : Nat) (p0 : Int32) (out : Int32) (hf : f_X3_has nr p0 = some out) : Met l yX3_has wsX3_has rm_X3_has (mP D (mTY cI cC cT) [.ref h0, .int p0] (W_T cI cC cT h0 h1 h2 h3 h4 nr pf ks vs wg ts) sz) (mQi D (mTY cI cC cT) out (va_A (W_T cI cC cT h0 h1 h2 h3 h4 nr pf ks vs wg ts) sz) (W_T cI cC cT h0 h1 h2 h3 h4 nr pf ks vs wg ts)) 0 0 (va_A (W_T cI cC cT h0 h1 h2 h3 h4 nr pf ks vs wg ts) sz) := by
  refine mEnt (cc := cX3_has) (maxL := 2) (ret := (some .boolean)) (own := RX3) (Qq := fun A => mQi D (mTY cI cC cT) out A (W_T cI cC cT h0 h1 h2 h3 h4 nr pf ks vs wg ts)) (by decide) rfl rfl (Nat.le_of_ble_eq_true rfl) ?_
  intro p e s m below meth c A ls H locs hx hb hr hml hlocks hown hts hN hA hP hK hD hS hl
  have hin_X3 : ∀ w ∈ u_ws RX3 TX3 6, w ∈ wsX3_has := by decide +kernel
  have fl_24 := hts (.fieldLink RX3 24 "SureMendings$Table" "size" "I") (by decide +kernel)
  have hl : lv_has ls 2 [(0, .ref h0), (1, .int p0)] := hl
  unfold f_X3_has at hf
  refine lv_iload_n hx hb dX3_has_0 rfl (lv_at hl 1 rfl) ?_
  refine lv_if_lt (tgt := 16) hx hb dX3_has_1 (by decide) (fun c_1 => ?_) (fun c_1 => ?_)
  · have hf := ite_t hf c_1
    refine lv_iconst (v := 0) hx hb dX3_has_16 (by decide) ?_
    cases hf
    exact mZret hx hb hr rfl hlocks hP hD hK hS dX3_has_17
  · have hf := ite_f hf c_1
    refine lv_iload_n hx hb dX3_has_4 rfl (lv_at hl 1 rfl) ?_
    refine lv_aload_n hx hb dX3_has_5 rfl (lv_at hl 0 rfl) ?_
    refine va_get (D := D) (ci := 3) (v := .int nr) (C := RX3) (T := TX3) (N := 6) hx hb hts hin_X3 hown hK hP 0 rfl rfl 4 (by decide) fl_24 (fun _ h9 => h9) rfl dX3_has_6 ?_
    refine lv_icmp_ge (tgt := 16) hx hb dX3_has_9 (by decide) (fun c_2 => ?_) (fun c_2 => ?_)
    · have hf := ite_t hf c_2
      refine lv_iconst (v := 0) hx hb dX3_has_16 (by decide) ?_
      cases hf
      exact mZret hx hb hr rfl hlocks hP hD hK hS dX3_has_17
    · have hf := ite_f hf c_2
      refine lv_iconst (v := 1) hx hb dX3_has_12 (by decide) ?_
      refine lv_goto (tgt := 17) hx hb dX3_has_13 (by decide) ?_
      cases hf
      exact mZret hx hb hr rfl hlocks hP hD hK hS dX3_has_17
def f_X3_move (ks : Nat → Int32) (vs : Nat → Int32) (wg : Nat → Int32) (ts : Nat → Int32) (p0 : Int32) (p1 : Int32) : Option ((Nat → Int32) × (Nat → Int32) × (Nat → Int32) × (Nat → Int32)) := (Option.bind (f_X3_keyAt ks p0) (fun r_1 => (Option.bind (f_X5_put ks p1 r_1 20) (fun u0_3 => (Option.bind (f_X3_valueAt vs p0) (fun r_5 => (Option.bind (f_X5_put vs p1 r_5 20) (fun u0_7 => (Option.bind (f_X3_weightAt wg p0) (fun r_9 => (Option.bind (f_X5_put wg p1 r_9 20) (fun u0_11 => (Option.bind (f_X3_targetAt ts p0) (fun r_13 => (Option.bind (f_X5_put ts p1 r_13 20) (fun u0_15 => some ((u0_3, u0_7, u0_11, u0_15))))))))))))))))))
abbrev rm_X3_move : Room := { frames := 2, cells := 0, slots := 0, locals := 42 }
set_option maxHeartbeats 4000000 in
set_option maxRecDepth 100000 in
theorem c_X3_move (l : Launch) (D : va_G) (cI cC cT : ClassId) (h0 h1 h2 h3 h4 : Nat) (nr : Int32) (pf : Int32) (ks : Nat → Int32) (vs : Nat → Int32) (wg : Nat → Int32) (ts : Nat → Int32) (sz : Nat) (p0 : Int32) (p1 : Int32) (o_ks : Nat → Int32) (o_vs : Nat → Int32) (o_wg : Nat → Int32) (o_ts : Nat → Int32) (hf : f_X3_move ks vs wg ts p0 p1 = some ((o_ks, o_vs, o_wg, o_ts))) : Met l yX3_move wsX3_move rm_X3_move (mP D (mTY cI cC cT) [.ref h0, .int p0, .int p1] (W_T cI cC cT h0 h1 h2 h3 h4 nr pf ks vs wg ts) sz) (mQv D (mTY cI cC cT) (va_A (W_T cI cC cT h0 h1 h2 h3 h4 nr pf ks vs wg ts) sz) (W_T cI cC cT h0 h1 h2 h3 h4 nr pf o_ks o_vs o_wg o_ts)) 0 0 (va_A (W_T cI cC cT h0 h1 h2 h3 h4 nr pf ks vs wg ts) sz) := by
  refine mEnt (cc := cX3_move) (maxL := 3) (ret := none) (own := RX3) (Qq := fun A => mQv D (mTY cI cC cT) A (W_T cI cC cT h0 h1 h2 h3 h4 nr pf o_ks o_vs o_wg o_ts)) (by decide) rfl rfl (Nat.le_of_ble_eq_true rfl) ?_
  intro p e s m below meth c A ls H locs hx hb hr hml hlocks hown hts hN hA hP hK hD hS hl
  have hin_X3 : ∀ w ∈ u_ws RX3 TX3 6, w ∈ wsX3_move := by decide +kernel
  have fl_9 := hts (.fieldLink RX3 9 "SureMendings$Table" "keys" "[I") (by decide +kernel)
  have fl_15 := hts (.fieldLink RX3 15 "SureMendings$Table" "values" "[I") (by decide +kernel)
  have fl_18 := hts (.fieldLink RX3 18 "SureMendings$Table" "weights" "[I") (by decide +kernel)
  have fl_21 := hts (.fieldLink RX3 21 "SureMendings$Table" "targets" "[I") (by decide +kernel)
  have hl : lv_has ls 3 [(0, .ref h0), (1, .int p0), (2, .int p1)] := hl
  unfold f_X3_move at hf
  refine lv_aload_n hx hb dX3_move_0 rfl (lv_at hl 0 rfl) ?_
  refine va_get (D := D) (ci := 3) (v := .ref h1) (C := RX3) (T := TX3) (N := 6) hx hb hts hin_X3 hown hK hP 0 rfl rfl 0 (by decide) fl_9 (fun _ h9 => h9) rfl dX3_move_1 ?_
  refine lv_iload_n hx hb dX3_move_4 rfl (lv_at hl 2 rfl) ?_
  refine lv_aload_n hx hb dX3_move_5 rfl (lv_at hl 0 rfl) ?_
  refine lv_iload_n hx hb dX3_move_6 rfl (lv_at hl 1 rfl) ?_
  obtain ⟨r_1, q_2, hf⟩ := bnd hf
  refine mGoi (w2 := (W_T cI cC cT h0 h1 h2 h3 h4 nr pf ks vs wg ts)) (va_runV (As := [.int p0]) (rest := [.int p1, .ref h1]) ⟨hx, hb, hml, hown, hts⟩ (c_X3_keyAt l D cI cC cT h0 h1 h2 h3 h4 nr pf ks vs wg ts H.size p0 r_1 q_2) (cwV 1 hts gX3_move_X3_keyAt rfl rfl rfl (by decide +kernel) ⟨Nat.le_of_ble_eq_true rfl, Nat.le_of_ble_eq_true rfl⟩) (mPreV hP hD hK hN [0, 1, 2, 3, 4] rfl (by decide) (va_recv hK hP (ci := 3) (q0 := 0) rfl rfl)) rfl rfl hl.1 rfl (lv_room (Nat.le_of_ble_eq_true rfl)) dX3_move_7 ⟨Nat.zero_le _, Nat.zero_le _⟩) hP hD hS hA [0, 1, 2, 3, 4] rfl rfl rfl rfl (fun H locs hP hD hS => ?_)
  obtain ⟨u0_3, q_4, hf⟩ := bnd hf
  refine mGov (w2 := (W_T cI cC cT h0 h1 h2 h3 h4 nr pf u0_3 vs wg ts)) (va_runSN (As := [.ref h1, .int p1, .int r_1]) (rest := []) ⟨hx, hb, hml, hown, hts⟩ (c_X5_put l D cI cC cT 20 h1 ks H.size p1 r_1 u0_3 q_4) ⟨va_cnB 3 hts gX3_move_X5_put_n44 rfl rfl rfl (nW_at hN 5 rfl) (hts (.initialized RX5) (by decide +kernel)) (by decide +kernel) ⟨Nat.le_of_ble_eq_true rfl, Nat.le_of_ble_eq_true rfl⟩, hts (.static yX5_put) (by decide +kernel), trivial⟩ (mPreS hP hD hK hN [1] rfl (by decide)) rfl rfl hl.1 rfl (lv_room (Nat.le_of_ble_eq_true rfl)) dX3_move_10 ⟨Nat.zero_le _, Nat.zero_le _⟩) hP hD hS hA [1] rfl rfl rfl rfl (fun H locs hP hD hS => ?_)
  refine lv_aload_n hx hb dX3_move_13 rfl (lv_at hl 0 rfl) ?_
  refine va_get (D := D) (ci := 3) (v := .ref h2) (C := RX3) (T := TX3) (N := 6) hx hb hts hin_X3 hown hK hP 0 rfl rfl 1 (by decide) fl_15 (fun _ h9 => h9) rfl dX3_move_14 ?_
  refine lv_iload_n hx hb dX3_move_17 rfl (lv_at hl 2 rfl) ?_
  refine lv_aload_n hx hb dX3_move_18 rfl (lv_at hl 0 rfl) ?_
  refine lv_iload_n hx hb dX3_move_19 rfl (lv_at hl 1 rfl) ?_
  obtain ⟨r_5, q_6, hf⟩ := bnd hf
  refine mGoi (w2 := (W_T cI cC cT h0 h1 h2 h3 h4 nr pf u0_3 vs wg ts)) (va_runV (As := [.int p0]) (rest := [.int p1, .ref h2]) ⟨hx, hb, hml, hown, hts⟩ (c_X3_valueAt l D cI cC cT h0 h1 h2 h3 h4 nr pf u0_3 vs wg ts H.size p0 r_5 q_6) (cwV 1 hts gX3_move_X3_valueAt rfl rfl rfl (by decide +kernel) ⟨Nat.le_of_ble_eq_true rfl, Nat.le_of_ble_eq_true rfl⟩) (mPreV hP hD hK hN [0, 1, 2, 3, 4] rfl (by decide) (va_recv hK hP (ci := 3) (q0 := 0) rfl rfl)) rfl rfl hl.1 rfl (lv_room (Nat.le_of_ble_eq_true rfl)) dX3_move_20 ⟨Nat.zero_le _, Nat.zero_le _⟩) hP hD hS hA [0, 1, 2, 3, 4] rfl rfl rfl rfl (fun H locs hP hD hS => ?_)
  obtain ⟨u0_7, q_8, hf⟩ := bnd hf
  refine mGov (w2 := (W_T cI cC cT h0 h1 h2 h3 h4 nr pf u0_3 u0_7 wg ts)) (va_runSN (As := [.ref h2, .int p1, .int r_5]) (rest := []) ⟨hx, hb, hml, hown, hts⟩ (c_X5_put l D cI cC cT 20 h2 vs H.size p1 r_5 u0_7 q_8) ⟨va_cnB 3 hts gX3_move_X5_put_n44 rfl rfl rfl (nW_at hN 5 rfl) (hts (.initialized RX5) (by decide +kernel)) (by decide +kernel) ⟨Nat.le_of_ble_eq_true rfl, Nat.le_of_ble_eq_true rfl⟩, hts (.static yX5_put) (by decide +kernel), trivial⟩ (mPreS hP hD hK hN [2] rfl (by decide)) rfl rfl hl.1 rfl (lv_room (Nat.le_of_ble_eq_true rfl)) dX3_move_23 ⟨Nat.zero_le _, Nat.zero_le _⟩) hP hD hS hA [2] rfl rfl rfl rfl (fun H locs hP hD hS => ?_)
  refine lv_aload_n hx hb dX3_move_26 rfl (lv_at hl 0 rfl) ?_
  refine va_get (D := D) (ci := 3) (v := .ref h3) (C := RX3) (T := TX3) (N := 6) hx hb hts hin_X3 hown hK hP 0 rfl rfl 2 (by decide) fl_18 (fun _ h9 => h9) rfl dX3_move_27 ?_
  refine lv_iload_n hx hb dX3_move_30 rfl (lv_at hl 2 rfl) ?_
  refine lv_aload_n hx hb dX3_move_31 rfl (lv_at hl 0 rfl) ?_
  refine lv_iload_n hx hb dX3_move_32 rfl (lv_at hl 1 rfl) ?_
  obtain ⟨r_9, q_10, hf⟩ := bnd hf
  refine mGoi (w2 := (W_T cI cC cT h0 h1 h2 h3 h4 nr pf u0_3 u0_7 wg ts)) (va_runV (As := [.int p0]) (rest := [.int p1, .ref h3]) ⟨hx, hb, hml, hown, hts⟩ (c_X3_weightAt l D cI cC cT h0 h1 h2 h3 h4 nr pf u0_3 u0_7 wg ts H.size p0 r_9 q_10) (cwV 1 hts gX3_move_X3_weightAt rfl rfl rfl (by decide +kernel) ⟨Nat.le_of_ble_eq_true rfl, Nat.le_of_ble_eq_true rfl⟩) (mPreV hP hD hK hN [0, 1, 2, 3, 4] rfl (by decide) (va_recv hK hP (ci := 3) (q0 := 0) rfl rfl)) rfl rfl hl.1 rfl (lv_room (Nat.le_of_ble_eq_true rfl)) dX3_move_33 ⟨Nat.zero_le _, Nat.zero_le _⟩) hP hD hS hA [0, 1, 2, 3, 4] rfl rfl rfl rfl (fun H locs hP hD hS => ?_)
  obtain ⟨u0_11, q_12, hf⟩ := bnd hf
  refine mGov (w2 := (W_T cI cC cT h0 h1 h2 h3 h4 nr pf u0_3 u0_7 u0_11 ts)) (va_runSN (As := [.ref h3, .int p1, .int r_9]) (rest := []) ⟨hx, hb, hml, hown, hts⟩ (c_X5_put l D cI cC cT 20 h3 wg H.size p1 r_9 u0_11 q_12) ⟨va_cnB 3 hts gX3_move_X5_put_n44 rfl rfl rfl (nW_at hN 5 rfl) (hts (.initialized RX5) (by decide +kernel)) (by decide +kernel) ⟨Nat.le_of_ble_eq_true rfl, Nat.le_of_ble_eq_true rfl⟩, hts (.static yX5_put) (by decide +kernel), trivial⟩ (mPreS hP hD hK hN [3] rfl (by decide)) rfl rfl hl.1 rfl (lv_room (Nat.le_of_ble_eq_true rfl)) dX3_move_36 ⟨Nat.zero_le _, Nat.zero_le _⟩) hP hD hS hA [3] rfl rfl rfl rfl (fun H locs hP hD hS => ?_)
  refine lv_aload_n hx hb dX3_move_39 rfl (lv_at hl 0 rfl) ?_
  refine va_get (D := D) (ci := 3) (v := .ref h4) (C := RX3) (T := TX3) (N := 6) hx hb hts hin_X3 hown hK hP 0 rfl rfl 3 (by decide) fl_21 (fun _ h9 => h9) rfl dX3_move_40 ?_
  refine lv_iload_n hx hb dX3_move_43 rfl (lv_at hl 2 rfl) ?_
  refine lv_aload_n hx hb dX3_move_44 rfl (lv_at hl 0 rfl) ?_
  refine lv_iload_n hx hb dX3_move_45 rfl (lv_at hl 1 rfl) ?_
  obtain ⟨r_13, q_14, hf⟩ := bnd hf
  refine mGoi (w2 := (W_T cI cC cT h0 h1 h2 h3 h4 nr pf u0_3 u0_7 u0_11 ts)) (va_runV (As := [.int p0]) (rest := [.int p1, .ref h4]) ⟨hx, hb, hml, hown, hts⟩ (c_X3_targetAt l D cI cC cT h0 h1 h2 h3 h4 nr pf u0_3 u0_7 u0_11 ts H.size p0 r_13 q_14) (cwV 1 hts gX3_move_X3_targetAt rfl rfl rfl (by decide +kernel) ⟨Nat.le_of_ble_eq_true rfl, Nat.le_of_ble_eq_true rfl⟩) (mPreV hP hD hK hN [0, 1, 2, 3, 4] rfl (by decide) (va_recv hK hP (ci := 3) (q0 := 0) rfl rfl)) rfl rfl hl.1 rfl (lv_room (Nat.le_of_ble_eq_true rfl)) dX3_move_46 ⟨Nat.zero_le _, Nat.zero_le _⟩) hP hD hS hA [0, 1, 2, 3, 4] rfl rfl rfl rfl (fun H locs hP hD hS => ?_)
  obtain ⟨u0_15, q_16, hf⟩ := bnd hf
  refine mGov (w2 := (W_T cI cC cT h0 h1 h2 h3 h4 nr pf u0_3 u0_7 u0_11 u0_15)) (va_runSN (As := [.ref h4, .int p1, .int r_13]) (rest := []) ⟨hx, hb, hml, hown, hts⟩ (c_X5_put l D cI cC cT 20 h4 ts H.size p1 r_13 u0_15 q_16) ⟨va_cnB 3 hts gX3_move_X5_put_n44 rfl rfl rfl (nW_at hN 5 rfl) (hts (.initialized RX5) (by decide +kernel)) (by decide +kernel) ⟨Nat.le_of_ble_eq_true rfl, Nat.le_of_ble_eq_true rfl⟩, hts (.static yX5_put) (by decide +kernel), trivial⟩ (mPreS hP hD hK hN [4] rfl (by decide)) rfl rfl hl.1 rfl (lv_room (Nat.le_of_ble_eq_true rfl)) dX3_move_49 ⟨Nat.zero_le _, Nat.zero_le _⟩) hP hD hS hA [4] rfl rfl rfl rfl (fun H locs hP hD hS => ?_)
  cases hf
  exact mVret hx hb hr hlocks hP hD hK hS dX3_move_52
def b_X3_drop_1 (nr : Int32) (z : Int32 × (Nat → Int32) × (Nat → Int32) × (Nat → Int32) × (Nat → Int32)) : Option ((Int32 × (Nat → Int32) × (Nat → Int32) × (Nat → Int32) × (Nat → Int32)) ⊕ (Int32 × (Nat → Int32) × (Nat → Int32) × (Nat → Int32) × (Nat → Int32))) := match z with
  | (v2_4, ks_5, vs_6, wg_7, ts_8) => (if nr ≤ v2_4 then some (.inr ((nr - 1, ks_5, vs_6, wg_7, ts_8))) else (Option.bind (f_X3_move ks_5 vs_6 wg_7 ts_8 v2_4 (v2_4 - 1)) (fun (ks_11, vs_12, wg_13, ts_14) => some (.inl ((v2_4 + 1, ks_11, vs_12, wg_13, ts_14))))))
def f_X3_drop (nr : Int32) (ks : Nat → Int32) (vs : Nat → Int32) (wg : Nat → Int32) (ts : Nat → Int32) (p0 : Int32) : Option (Int32 × (Nat → Int32) × (Nat → Int32) × (Nat → Int32) × (Nat → Int32)) := (Option.bind (f_X3_has nr p0) (fun r_1 => (if r_1 = 0 then some ((nr, ks, vs, wg, ts)) else iter fuel (b_X3_drop_1 nr) ((p0 + 1, ks, vs, wg, ts)))))
abbrev rm_X3_drop : Room := { frames := 3, cells := 0, slots := 0, locals := 64 }
set_option maxHeartbeats 4000000 in
set_option maxRecDepth 100000 in
theorem c_X3_drop (l : Launch) (D : va_G) (cI cC cT : ClassId) (h0 h1 h2 h3 h4 : Nat) (nr : Int32) (pf : Int32) (ks : Nat → Int32) (vs : Nat → Int32) (wg : Nat → Int32) (ts : Nat → Int32) (sz : Nat) (p0 : Int32) (o_nr : Int32) (o_ks : Nat → Int32) (o_vs : Nat → Int32) (o_wg : Nat → Int32) (o_ts : Nat → Int32) (hf : f_X3_drop nr ks vs wg ts p0 = some ((o_nr, o_ks, o_vs, o_wg, o_ts))) : Met l yX3_drop wsX3_drop rm_X3_drop (mP D (mTY cI cC cT) [.ref h0, .int p0] (W_T cI cC cT h0 h1 h2 h3 h4 nr pf ks vs wg ts) sz) (mQv D (mTY cI cC cT) (va_A (W_T cI cC cT h0 h1 h2 h3 h4 nr pf ks vs wg ts) sz) (W_T cI cC cT h0 h1 h2 h3 h4 o_nr pf o_ks o_vs o_wg o_ts)) 0 0 (va_A (W_T cI cC cT h0 h1 h2 h3 h4 nr pf ks vs wg ts) sz) := by
  refine mEnt (cc := cX3_drop) (maxL := 3) (ret := none) (own := RX3) (Qq := fun A => mQv D (mTY cI cC cT) A (W_T cI cC cT h0 h1 h2 h3 h4 o_nr pf o_ks o_vs o_wg o_ts)) (by decide) rfl rfl (Nat.le_of_ble_eq_true rfl) ?_
  intro p e s m below meth c A ls H locs hx hb hr hml hlocks hown hts hN hA hP hK hD hS hl
  have hin_X3 : ∀ w ∈ u_ws RX3 TX3 6, w ∈ wsX3_drop := by decide +kernel
  have fl_24 := hts (.fieldLink RX3 24 "SureMendings$Table" "size" "I") (by decide +kernel)
  have hl : lv_has ls 3 [(0, .ref h0), (1, .int p0)] := hl
  unfold f_X3_drop at hf
  refine lv_aload_n hx hb dX3_drop_0 rfl (lv_at hl 0 rfl) ?_
  refine lv_iload_n hx hb dX3_drop_1 rfl (lv_at hl 1 rfl) ?_
  obtain ⟨r_1, q_2, hf⟩ := bnd hf
  refine mGoi (w2 := (W_T cI cC cT h0 h1 h2 h3 h4 nr pf ks vs wg ts)) (va_runV (As := [.int p0]) (rest := []) ⟨hx, hb, hml, hown, hts⟩ (c_X3_has l D cI cC cT h0 h1 h2 h3 h4 nr pf ks vs wg ts H.size p0 r_1 q_2) (cwV 1 hts gX3_drop_X3_has rfl rfl rfl (by decide +kernel) ⟨Nat.le_of_ble_eq_true rfl, Nat.le_of_ble_eq_true rfl⟩) (mPreV hP hD hK hN [0, 1, 2, 3, 4] rfl (by decide) (va_recv hK hP (ci := 3) (q0 := 0) rfl rfl)) rfl rfl hl.1 rfl (lv_room (Nat.le_of_ble_eq_true rfl)) dX3_drop_2 ⟨Nat.zero_le _, Nat.zero_le _⟩) hP hD hS hA [0, 1, 2, 3, 4] rfl rfl rfl rfl (fun H locs hP hD hS => ?_)
  refine lv_if_eq (tgt := 44) hx hb dX3_drop_5 (by decide) (fun c_3 => ?_) (fun c_3 => ?_)
  · have hf := ite_t hf c_3
    cases hf
    exact mVret hx hb hr hlocks hP hD hK hS dX3_drop_44
  · have hf := ite_f hf c_3
    refine lv_iload_n hx hb dX3_drop_8 rfl (lv_at hl 1 rfl) ?_
    refine lv_iconst (v := 1) hx hb dX3_drop_9 (by decide) ?_
    refine lv_iadd hx hb dX3_drop_10 ?_
    refine lv_istore_n (lv' := [(2, .int (p0 + 1)), (0, .ref h0), (1, .int p0)]) hx hb dX3_drop_11 rfl hl (by decide) rfl (fun ls hl => ?_)
    have LP_9 : ∀ (n_9 : Nat) (v2_4 : Int32) (ks_5 : Nat → Int32) (vs_6 : Nat → Int32) (wg_7 : Nat → Int32) (ts_8 : Nat → Int32), iter n_9 (b_X3_drop_1 nr) ((v2_4, ks_5, vs_6, wg_7, ts_8)) = some ((o_nr, o_ks, o_vs, o_wg, o_ts)) → ∀ (H : Heap) (locs : List Loc), va_P D vwCl (W_T cI cC cT h0 h1 h2 h3 h4 nr pf ks_5 vs_6 wg_7 ts_8) H → va_D A (W_T cI cC cT h0 h1 h2 h3 h4 nr pf ks_5 vs_6 wg_7 ts_8) → va_S A s.heap H locs → ∀ (ls : Array Slot), lv_has ls 3 [(0, .ref h0), (2, .int v2_4)] → W p l e rm_X3_drop s m ([.ref h0, .int p0] : List Value).toArray below meth c H locs 0 0 (MQ below (mQv D (mTY cI cC cT) A (W_T cI cC cT h0 h1 h2 h3 h4 o_nr pf o_ks o_vs o_wg o_ts)) ([.ref h0, .int p0] : List Value).toArray s 0 0 A) (F0 m 12 ls []) := by
      intro n_9
      induction n_9 with
      | zero => intro v2_4 ks_5 vs_6 wg_7 ts_8 hf; exact (iter_zero hf).elim
      | succ n_9 ih_9 =>
        intro v2_4 ks_5 vs_6 wg_7 ts_8 hf H locs hP hD hS ls hl
        obtain ⟨o_9, hf, ho_9⟩ := iter_succ hf
        dsimp only [b_X3_drop_1] at hf
        refine lv_iload_n hx hb dX3_drop_12 rfl (lv_at hl 1 rfl) ?_
        refine lv_aload_n hx hb dX3_drop_13 rfl (lv_at hl 0 rfl) ?_
        refine va_get (D := D) (ci := 3) (v := .int nr) (C := RX3) (T := TX3) (N := 6) hx hb hts hin_X3 hown hK hP 0 rfl rfl 4 (by decide) fl_24 (fun _ h9 => h9) rfl dX3_drop_14 ?_
        refine lv_icmp_ge (tgt := 34) hx hb dX3_drop_17 (by decide) (fun c_10 => ?_) (fun c_10 => ?_)
        · have hf := ite_t hf c_10
          refine lv_aload_n hx hb dX3_drop_34 rfl (lv_at hl 0 rfl) ?_
          refine lv_dup hx hb dX3_drop_35 rfl ?_
          refine va_get (D := D) (ci := 3) (v := .int nr) (C := RX3) (T := TX3) (N := 6) hx hb hts hin_X3 hown hK hP 0 rfl rfl 4 (by decide) fl_24 (fun _ h9 => h9) rfl dX3_drop_36 ?_
          refine lv_iconst (v := 1) hx hb dX3_drop_39 (by decide) ?_
          refine lv_isub hx hb dX3_drop_40 ?_
          refine va_put (D := D) (ci := 3) (v := .int (nr - 1)) (ty := .int) (C := RX3) (T := TX3) (N := 6) hx hb hts hin_X3 tyX3 tyX3_ok nmX3 hown hK hP hD hS 0 rfl rfl 4 (by decide) fl_24 (fun _ h9 => h9) rfl (by decide +kernel) rfl rfl (Nat.le_of_ble_eq_true rfl) dX3_drop_41 (fun H locs hP hD hS => ?_)
          have hP : va_P D vwCl (W_T cI cC cT h0 h1 h2 h3 h4 (nr - 1) pf ks_5 vs_6 wg_7 ts_8) H := hP
          have hD : va_D A (W_T cI cC cT h0 h1 h2 h3 h4 (nr - 1) pf ks_5 vs_6 wg_7 ts_8) := hD
          cases hf
          have hf := ho_9.2 _ rfl
          cases hf
          exact mVret hx hb hr hlocks hP hD hK hS dX3_drop_44
        · have hf := ite_f hf c_10
          refine lv_aload_n hx hb dX3_drop_20 rfl (lv_at hl 0 rfl) ?_
          refine lv_iload_n hx hb dX3_drop_21 rfl (lv_at hl 1 rfl) ?_
          refine lv_iload_n hx hb dX3_drop_22 rfl (lv_at hl 1 rfl) ?_
          refine lv_iconst (v := 1) hx hb dX3_drop_23 (by decide) ?_
          refine lv_isub hx hb dX3_drop_24 ?_
          obtain ⟨⟨ks_11, vs_12, wg_13, ts_14⟩, q_15, hf⟩ := bnd hf
          refine mGov (w2 := (W_T cI cC cT h0 h1 h2 h3 h4 nr pf ks_11 vs_12 wg_13 ts_14)) (va_runV (As := [.int v2_4, .int (v2_4 - 1)]) (rest := []) ⟨hx, hb, hml, hown, hts⟩ (c_X3_move l D cI cC cT h0 h1 h2 h3 h4 nr pf ks_5 vs_6 wg_7 ts_8 H.size v2_4 (v2_4 - 1) ks_11 vs_12 wg_13 ts_14 q_15) (cwV 2 hts gX3_drop_X3_move rfl rfl rfl (by decide +kernel) ⟨Nat.le_of_ble_eq_true rfl, Nat.le_of_ble_eq_true rfl⟩) (mPreV hP hD hK hN [0, 1, 2, 3, 4] rfl (by decide) (va_recv hK hP (ci := 3) (q0 := 0) rfl rfl)) rfl rfl hl.1 rfl (lv_room (Nat.le_of_ble_eq_true rfl)) dX3_drop_25 ⟨Nat.zero_le _, Nat.zero_le _⟩) hP hD hS hA [0, 1, 2, 3, 4] rfl rfl rfl rfl (fun H locs hP hD hS => ?_)
          refine lv_iinc (v := v2_4 + 1) (lv' := [(2, .int (v2_4 + 1)), (0, .ref h0)]) hx hb dX3_drop_28 hl (k := 1) rfl rfl (by decide) rfl (fun ls hl => ?_)
          refine lv_goto (tgt := 12) hx hb dX3_drop_31 (by decide) ?_
          cases hf
          have hf := ho_9.1 _ rfl
          exact ih_9 _ _ _ _ _ hf _ _ hP hD hS _ (lv_sub hl [1, 0] rfl)
    exact LP_9 _ _ _ _ _ _ hf _ _ hP hD hS _ (lv_sub hl [1, 0] rfl)
def b_X3_dropOthersLike_1 (nr : Int32) (p0 : Int32) (r_4 : Int32) (z : Int32 × Int32 × (Nat → Int32) × (Nat → Int32) × (Nat → Int32) × (Nat → Int32)) : Option ((Int32 × Int32 × (Nat → Int32) × (Nat → Int32) × (Nat → Int32) × (Nat → Int32)) ⊕ (Int32 × (Nat → Int32) × (Nat → Int32) × (Nat → Int32) × (Nat → Int32))) := match z with
  | (v3_6, v4_7, ks_8, vs_9, wg_10, ts_11) => (if nr ≤ v4_7 then some (.inr ((v3_6, ks_8, vs_9, wg_10, ts_11))) else (Option.bind (α := Int32 × (Nat → Int32) × (Nat → Int32) × (Nat → Int32) × (Nat → Int32)) ((if v4_7 = p0 then (Option.bind (f_X3_move ks_8 vs_9 wg_10 ts_11 v4_7 v3_6) (fun (ks_22, vs_23, wg_24, ts_25) => some ((v3_6 + 1, ks_22, vs_23, wg_24, ts_25)))) else (Option.bind (f_X3_keyAt ks_8 v4_7) (fun r_27 => (if r_27 = r_4 then some ((v3_6, ks_8, vs_9, wg_10, ts_11)) else (Option.bind (f_X3_move ks_8 vs_9 wg_10 ts_11 v4_7 v3_6) (fun (ks_30, vs_31, wg_32, ts_33) => some ((v3_6 + 1, ks_30, vs_31, wg_32, ts_33))))))))) (fun (x_14, ks_15, vs_16, wg_17, ts_18) => some (.inl ((x_14, v4_7 + 1, ks_15, vs_16, wg_17, ts_18))))))
def f_X3_dropOthersLike (nr : Int32) (ks : Nat → Int32) (vs : Nat → Int32) (wg : Nat → Int32) (ts : Nat → Int32) (p0 : Int32) : Option (Int32 × (Nat → Int32) × (Nat → Int32) × (Nat → Int32) × (Nat → Int32)) := (Option.bind (f_X3_has nr p0) (fun r_1 => (if r_1 = 0 then some ((nr, ks, vs, wg, ts)) else (Option.bind (f_X3_keyAt ks p0) (fun r_4 => iter fuel (b_X3_dropOthersLike_1 nr p0 r_4) ((0, 0, ks, vs, wg, ts)))))))
abbrev rm_X3_dropOthersLike : Room := { frames := 3, cells := 0, slots := 0, locals := 64 }
set_option maxHeartbeats 4000000 in
set_option maxRecDepth 100000 in
theorem c_X3_dropOthersLike (l : Launch) (D : va_G) (cI cC cT : ClassId) (h0 h1 h2 h3 h4 : Nat) (nr : Int32) (pf : Int32) (ks : Nat → Int32) (vs : Nat → Int32) (wg : Nat → Int32) (ts : Nat → Int32) (sz : Nat) (p0 : Int32) (o_nr : Int32) (o_ks : Nat → Int32) (o_vs : Nat → Int32) (o_wg : Nat → Int32) (o_ts : Nat → Int32) (hf : f_X3_dropOthersLike nr ks vs wg ts p0 = some ((o_nr, o_ks, o_vs, o_wg, o_ts))) : Met l yX3_dropOthersLike wsX3_dropOthersLike rm_X3_dropOthersLike (mP D (mTY cI cC cT) [.ref h0, .int p0] (W_T cI cC cT h0 h1 h2 h3 h4 nr pf ks vs wg ts) sz) (mQv D (mTY cI cC cT) (va_A (W_T cI cC cT h0 h1 h2 h3 h4 nr pf ks vs wg ts) sz) (W_T cI cC cT h0 h1 h2 h3 h4 o_nr pf o_ks o_vs o_wg o_ts)) 0 0 (va_A (W_T cI cC cT h0 h1 h2 h3 h4 nr pf ks vs wg ts) sz) := by
  refine mEnt (cc := cX3_dropOthersLike) (maxL := 5) (ret := none) (own := RX3) (Qq := fun A => mQv D (mTY cI cC cT) A (W_T cI cC cT h0 h1 h2 h3 h4 o_nr pf o_ks o_vs o_wg o_ts)) (by decide) rfl rfl (Nat.le_of_ble_eq_true rfl) ?_
  intro p e s m below meth c A ls H locs hx hb hr hml hlocks hown hts hN hA hP hK hD hS hl
  have hin_X3 : ∀ w ∈ u_ws RX3 TX3 6, w ∈ wsX3_dropOthersLike := by decide +kernel
  have fl_24 := hts (.fieldLink RX3 24 "SureMendings$Table" "size" "I") (by decide +kernel)
  have hl : lv_has ls 5 [(0, .ref h0), (1, .int p0)] := hl
  unfold f_X3_dropOthersLike at hf
  refine lv_aload_n hx hb dX3_dropOthersLike_0 rfl (lv_at hl 0 rfl) ?_
  refine lv_iload_n hx hb dX3_dropOthersLike_1 rfl (lv_at hl 1 rfl) ?_
  obtain ⟨r_1, q_2, hf⟩ := bnd hf
  refine mGoi (w2 := (W_T cI cC cT h0 h1 h2 h3 h4 nr pf ks vs wg ts)) (va_runV (As := [.int p0]) (rest := []) ⟨hx, hb, hml, hown, hts⟩ (c_X3_has l D cI cC cT h0 h1 h2 h3 h4 nr pf ks vs wg ts H.size p0 r_1 q_2) (cwV 1 hts gX3_dropOthersLike_X3_has rfl rfl rfl (by decide +kernel) ⟨Nat.le_of_ble_eq_true rfl, Nat.le_of_ble_eq_true rfl⟩) (mPreV hP hD hK hN [0, 1, 2, 3, 4] rfl (by decide) (va_recv hK hP (ci := 3) (q0 := 0) rfl rfl)) rfl rfl hl.1 rfl (lv_room (Nat.le_of_ble_eq_true rfl)) dX3_dropOthersLike_2 ⟨Nat.zero_le _, Nat.zero_le _⟩) hP hD hS hA [0, 1, 2, 3, 4] rfl rfl rfl rfl (fun H locs hP hD hS => ?_)
  refine lv_if_eq (tgt := 65) hx hb dX3_dropOthersLike_5 (by decide) (fun c_3 => ?_) (fun c_3 => ?_)
  · have hf := ite_t hf c_3
    cases hf
    exact mVret hx hb hr hlocks hP hD hK hS dX3_dropOthersLike_65
  · have hf := ite_f hf c_3
    refine lv_aload_n hx hb dX3_dropOthersLike_8 rfl (lv_at hl 0 rfl) ?_
    refine lv_iload_n hx hb dX3_dropOthersLike_9 rfl (lv_at hl 1 rfl) ?_
    obtain ⟨r_4, q_5, hf⟩ := bnd hf
    refine mGoi (w2 := (W_T cI cC cT h0 h1 h2 h3 h4 nr pf ks vs wg ts)) (va_runV (As := [.int p0]) (rest := []) ⟨hx, hb, hml, hown, hts⟩ (c_X3_keyAt l D cI cC cT h0 h1 h2 h3 h4 nr pf ks vs wg ts H.size p0 r_4 q_5) (cwV 1 hts gX3_dropOthersLike_X3_keyAt rfl rfl rfl (by decide +kernel) ⟨Nat.le_of_ble_eq_true rfl, Nat.le_of_ble_eq_true rfl⟩) (mPreV hP hD hK hN [0, 1, 2, 3, 4] rfl (by decide) (va_recv hK hP (ci := 3) (q0 := 0) rfl rfl)) rfl rfl hl.1 rfl (lv_room (Nat.le_of_ble_eq_true rfl)) dX3_dropOthersLike_10 ⟨Nat.zero_le _, Nat.zero_le _⟩) hP hD hS hA [0, 1, 2, 3, 4] rfl rfl rfl rfl (fun H locs hP hD hS => ?_)
    refine lv_istore_n (lv' := [(2, .int r_4), (0, .ref h0), (1, .int p0)]) hx hb dX3_dropOthersLike_13 rfl hl (by decide) rfl (fun ls hl => ?_)
    refine lv_iconst (v := 0) hx hb dX3_dropOthersLike_14 (by decide) ?_
    refine lv_istore_n (lv' := [(3, .int 0), (2, .int r_4), (0, .ref h0), (1, .int p0)]) hx hb dX3_dropOthersLike_15 rfl hl (by decide) rfl (fun ls hl => ?_)
    refine lv_iconst (v := 0) hx hb dX3_dropOthersLike_16 (by decide) ?_
    refine lv_istore (lv' := [(4, .int 0), (3, .int 0), (2, .int r_4), (0, .ref h0), (1, .int p0)]) hx hb dX3_dropOthersLike_17 hl (by decide) rfl (fun ls hl => ?_)
    have LP_12 : ∀ (n_12 : Nat) (v3_6 : Int32) (v4_7 : Int32) (ks_8 : Nat → Int32) (vs_9 : Nat → Int32) (wg_10 : Nat → Int32) (ts_11 : Nat → Int32), iter n_12 (b_X3_dropOthersLike_1 nr p0 r_4) ((v3_6, v4_7, ks_8, vs_9, wg_10, ts_11)) = some ((o_nr, o_ks, o_vs, o_wg, o_ts)) → ∀ (H : Heap) (locs : List Loc), va_P D vwCl (W_T cI cC cT h0 h1 h2 h3 h4 nr pf ks_8 vs_9 wg_10 ts_11) H → va_D A (W_T cI cC cT h0 h1 h2 h3 h4 nr pf ks_8 vs_9 wg_10 ts_11) → va_S A s.heap H locs → ∀ (ls : Array Slot), lv_has ls 5 [(0, .ref h0), (1, .int p0), (2, .int r_4), (3, .int v3_6), (4, .int v4_7)] → W p l e rm_X3_dropOthersLike s m ([.ref h0, .int p0] : List Value).toArray below meth c H locs 0 0 (MQ below (mQv D (mTY cI cC cT) A (W_T cI cC cT h0 h1 h2 h3 h4 o_nr pf o_ks o_vs o_wg o_ts)) ([.ref h0, .int p0] : List Value).toArray s 0 0 A) (F0 m 19 ls []) := by
      intro n_12
      induction n_12 with
      | zero => intro v3_6 v4_7 ks_8 vs_9 wg_10 ts_11 hf; exact (iter_zero hf).elim
      | succ n_12 ih_12 =>
        intro v3_6 v4_7 ks_8 vs_9 wg_10 ts_11 hf H locs hP hD hS ls hl
        obtain ⟨o_12, hf, ho_12⟩ := iter_succ hf
        dsimp only [b_X3_dropOthersLike_1] at hf
        refine lv_iload hx hb dX3_dropOthersLike_19 (lv_at hl 4 rfl) ?_
        refine lv_aload_n hx hb dX3_dropOthersLike_21 rfl (lv_at hl 0 rfl) ?_
        refine va_get (D := D) (ci := 3) (v := .int nr) (C := RX3) (T := TX3) (N := 6) hx hb hts hin_X3 hown hK hP 0 rfl rfl 4 (by decide) fl_24 (fun _ h9 => h9) rfl dX3_dropOthersLike_22 ?_
        refine lv_icmp_ge (tgt := 60) hx hb dX3_dropOthersLike_25 (by decide) (fun c_13 => ?_) (fun c_13 => ?_)
        · have hf := ite_t hf c_13
          refine lv_aload_n hx hb dX3_dropOthersLike_60 rfl (lv_at hl 0 rfl) ?_
          refine lv_iload_n hx hb dX3_dropOthersLike_61 rfl (lv_at hl 3 rfl) ?_
          refine va_put (D := D) (ci := 3) (v := .int v3_6) (ty := .int) (C := RX3) (T := TX3) (N := 6) hx hb hts hin_X3 tyX3 tyX3_ok nmX3 hown hK hP hD hS 0 rfl rfl 4 (by decide) fl_24 (fun _ h9 => h9) rfl (by decide +kernel) rfl rfl (Nat.le_of_ble_eq_true rfl) dX3_dropOthersLike_62 (fun H locs hP hD hS => ?_)
          have hP : va_P D vwCl (W_T cI cC cT h0 h1 h2 h3 h4 v3_6 pf ks_8 vs_9 wg_10 ts_11) H := hP
          have hD : va_D A (W_T cI cC cT h0 h1 h2 h3 h4 v3_6 pf ks_8 vs_9 wg_10 ts_11) := hD
          cases hf
          have hf := ho_12.2 _ rfl
          cases hf
          exact mVret hx hb hr hlocks hP hD hK hS dX3_dropOthersLike_65
        · have hf := ite_f hf c_13
          refine lv_iload hx hb dX3_dropOthersLike_28 (lv_at hl 4 rfl) ?_
          refine lv_iload_n hx hb dX3_dropOthersLike_30 rfl (lv_at hl 1 rfl) ?_
          obtain ⟨⟨x_14, ks_15, vs_16, wg_17, ts_18⟩, q_20, hf⟩ := bnd hf
          have K_19 : ∀ (H : Heap) (locs : List Loc), va_P D vwCl (W_T cI cC cT h0 h1 h2 h3 h4 nr pf ks_15 vs_16 wg_17 ts_18) H → va_D A (W_T cI cC cT h0 h1 h2 h3 h4 nr pf ks_15 vs_16 wg_17 ts_18) → va_S A s.heap H locs → ∀ (ls : Array Slot), lv_has ls 5 [(0, .ref h0), (1, .int p0), (2, .int r_4), (3, .int x_14), (4, .int v4_7)] → W p l e rm_X3_dropOthersLike s m ([.ref h0, .int p0] : List Value).toArray below meth c H locs 0 0 (MQ below (mQv D (mTY cI cC cT) A (W_T cI cC cT h0 h1 h2 h3 h4 o_nr pf o_ks o_vs o_wg o_ts)) ([.ref h0, .int p0] : List Value).toArray s 0 0 A) (F0 m 54 ls []) := by
            intro H locs hP hD hS ls hl
            refine lv_iinc (v := v4_7 + 1) (lv' := [(4, .int (v4_7 + 1)), (0, .ref h0), (1, .int p0), (2, .int r_4), (3, .int x_14)]) hx hb dX3_dropOthersLike_54 hl (k := 4) rfl rfl (by decide) rfl (fun ls hl => ?_)
            refine lv_goto (tgt := 19) hx hb dX3_dropOthersLike_57 (by decide) ?_
            cases hf
            have hf := ho_12.1 _ rfl
            exact ih_12 _ _ _ _ _ _ hf _ _ hP hD hS _ (lv_sub hl [1, 2, 3, 4, 0] rfl)
          have hf := q_20
          refine lv_icmp_eq (tgt := 44) hx hb dX3_dropOthersLike_31 (by decide) (fun c_21 => ?_) (fun c_21 => ?_)
          · have hf := ite_t hf c_21
            refine lv_aload_n hx hb dX3_dropOthersLike_44 rfl (lv_at hl 0 rfl) ?_
            refine lv_iload hx hb dX3_dropOthersLike_45 (lv_at hl 4 rfl) ?_
            refine lv_iload_n hx hb dX3_dropOthersLike_47 rfl (lv_at hl 3 rfl) ?_
            obtain ⟨⟨ks_22, vs_23, wg_24, ts_25⟩, q_26, hf⟩ := bnd hf
            refine mGov (w2 := (W_T cI cC cT h0 h1 h2 h3 h4 nr pf ks_22 vs_23 wg_24 ts_25)) (va_runV (As := [.int v4_7, .int v3_6]) (rest := []) ⟨hx, hb, hml, hown, hts⟩ (c_X3_move l D cI cC cT h0 h1 h2 h3 h4 nr pf ks_8 vs_9 wg_10 ts_11 H.size v4_7 v3_6 ks_22 vs_23 wg_24 ts_25 q_26) (cwV 2 hts gX3_dropOthersLike_X3_move rfl rfl rfl (by decide +kernel) ⟨Nat.le_of_ble_eq_true rfl, Nat.le_of_ble_eq_true rfl⟩) (mPreV hP hD hK hN [0, 1, 2, 3, 4] rfl (by decide) (va_recv hK hP (ci := 3) (q0 := 0) rfl rfl)) rfl rfl hl.1 rfl (lv_room (Nat.le_of_ble_eq_true rfl)) dX3_dropOthersLike_48 ⟨Nat.zero_le _, Nat.zero_le _⟩) hP hD hS hA [0, 1, 2, 3, 4] rfl rfl rfl rfl (fun H locs hP hD hS => ?_)
            refine lv_iinc (v := v3_6 + 1) (lv' := [(3, .int (v3_6 + 1)), (0, .ref h0), (1, .int p0), (2, .int r_4), (4, .int v4_7)]) hx hb dX3_dropOthersLike_51 hl (k := 3) rfl rfl (by decide) rfl (fun ls hl => ?_)
            cases hf
            exact K_19 _ _ hP hD hS _ (lv_sub hl [1, 2, 3, 0, 4] rfl)
          · have hf := ite_f hf c_21
            refine lv_aload_n hx hb dX3_dropOthersLike_34 rfl (lv_at hl 0 rfl) ?_
            refine lv_iload hx hb dX3_dropOthersLike_35 (lv_at hl 4 rfl) ?_
            obtain ⟨r_27, q_28, hf⟩ := bnd hf
            refine mGoi (w2 := (W_T cI cC cT h0 h1 h2 h3 h4 nr pf ks_8 vs_9 wg_10 ts_11)) (va_runV (As := [.int v4_7]) (rest := []) ⟨hx, hb, hml, hown, hts⟩ (c_X3_keyAt l D cI cC cT h0 h1 h2 h3 h4 nr pf ks_8 vs_9 wg_10 ts_11 H.size v4_7 r_27 q_28) (cwV 1 hts gX3_dropOthersLike_X3_keyAt rfl rfl rfl (by decide +kernel) ⟨Nat.le_of_ble_eq_true rfl, Nat.le_of_ble_eq_true rfl⟩) (mPreV hP hD hK hN [0, 1, 2, 3, 4] rfl (by decide) (va_recv hK hP (ci := 3) (q0 := 0) rfl rfl)) rfl rfl hl.1 rfl (lv_room (Nat.le_of_ble_eq_true rfl)) dX3_dropOthersLike_37 ⟨Nat.zero_le _, Nat.zero_le _⟩) hP hD hS hA [0, 1, 2, 3, 4] rfl rfl rfl rfl (fun H locs hP hD hS => ?_)
            refine lv_iload_n hx hb dX3_dropOthersLike_40 rfl (lv_at hl 2 rfl) ?_
            refine lv_icmp_eq (tgt := 54) hx hb dX3_dropOthersLike_41 (by decide) (fun c_29 => ?_) (fun c_29 => ?_)
            · have hf := ite_t hf c_29
              cases hf
              exact K_19 _ _ hP hD hS _ (lv_sub hl [0, 1, 2, 3, 4] rfl)
            · have hf := ite_f hf c_29
              refine lv_aload_n hx hb dX3_dropOthersLike_44 rfl (lv_at hl 0 rfl) ?_
              refine lv_iload hx hb dX3_dropOthersLike_45 (lv_at hl 4 rfl) ?_
              refine lv_iload_n hx hb dX3_dropOthersLike_47 rfl (lv_at hl 3 rfl) ?_
              obtain ⟨⟨ks_30, vs_31, wg_32, ts_33⟩, q_34, hf⟩ := bnd hf
              refine mGov (w2 := (W_T cI cC cT h0 h1 h2 h3 h4 nr pf ks_30 vs_31 wg_32 ts_33)) (va_runV (As := [.int v4_7, .int v3_6]) (rest := []) ⟨hx, hb, hml, hown, hts⟩ (c_X3_move l D cI cC cT h0 h1 h2 h3 h4 nr pf ks_8 vs_9 wg_10 ts_11 H.size v4_7 v3_6 ks_30 vs_31 wg_32 ts_33 q_34) (cwV 2 hts gX3_dropOthersLike_X3_move rfl rfl rfl (by decide +kernel) ⟨Nat.le_of_ble_eq_true rfl, Nat.le_of_ble_eq_true rfl⟩) (mPreV hP hD hK hN [0, 1, 2, 3, 4] rfl (by decide) (va_recv hK hP (ci := 3) (q0 := 0) rfl rfl)) rfl rfl hl.1 rfl (lv_room (Nat.le_of_ble_eq_true rfl)) dX3_dropOthersLike_48 ⟨Nat.zero_le _, Nat.zero_le _⟩) hP hD hS hA [0, 1, 2, 3, 4] rfl rfl rfl rfl (fun H locs hP hD hS => ?_)
              refine lv_iinc (v := v3_6 + 1) (lv' := [(3, .int (v3_6 + 1)), (0, .ref h0), (1, .int p0), (2, .int r_4), (4, .int v4_7)]) hx hb dX3_dropOthersLike_51 hl (k := 3) rfl rfl (by decide) rfl (fun ls hl => ?_)
              cases hf
              exact K_19 _ _ hP hD hS _ (lv_sub hl [1, 2, 3, 0, 4] rfl)
    exact LP_12 _ _ _ _ _ _ _ hf _ _ hP hD hS _ (lv_sub hl [3, 4, 2, 1, 0] rfl)
def b_X3_firstWith_1 (nr : Int32) (ks : Nat → Int32) (p0 : Int32) (z : Int32) : Option ((Int32) ⊕ (Int32)) := match z with
  | v2_1 => (if nr ≤ v2_1 then some (.inr (-5)) else (Option.bind (f_X3_keyAt ks v2_1) (fun r_4 => (if r_4 = p0 then some (.inr v2_1) else some (.inl (v2_1 + 1))))))
def f_X3_firstWith (nr : Int32) (ks : Nat → Int32) (p0 : Int32) : Option (Int32) := iter fuel (b_X3_firstWith_1 nr ks p0) 0
abbrev rm_X3_firstWith : Room := { frames := 2, cells := 0, slots := 0, locals := 42 }
set_option maxHeartbeats 4000000 in
set_option maxRecDepth 100000 in
theorem c_X3_firstWith (l : Launch) (D : va_G) (cI cC cT : ClassId) (h0 h1 h2 h3 h4 : Nat) (nr : Int32) (pf : Int32) (ks : Nat → Int32) (vs : Nat → Int32) (wg : Nat → Int32) (ts : Nat → Int32) (sz : Nat) (p0 : Int32) (out : Int32) (hf : f_X3_firstWith nr ks p0 = some out) : Met l yX3_firstWith wsX3_firstWith rm_X3_firstWith (mP D (mTY cI cC cT) [.ref h0, .int p0] (W_T cI cC cT h0 h1 h2 h3 h4 nr pf ks vs wg ts) sz) (mQi D (mTY cI cC cT) out (va_A (W_T cI cC cT h0 h1 h2 h3 h4 nr pf ks vs wg ts) sz) (W_T cI cC cT h0 h1 h2 h3 h4 nr pf ks vs wg ts)) 0 0 (va_A (W_T cI cC cT h0 h1 h2 h3 h4 nr pf ks vs wg ts) sz) := by
  refine mEnt (cc := cX3_firstWith) (maxL := 3) (ret := (some .int)) (own := RX3) (Qq := fun A => mQi D (mTY cI cC cT) out A (W_T cI cC cT h0 h1 h2 h3 h4 nr pf ks vs wg ts)) (by decide) rfl rfl (Nat.le_of_ble_eq_true rfl) ?_
  intro p e s m below meth c A ls H locs hx hb hr hml hlocks hown hts hN hA hP hK hD hS hl
  have hin_X3 : ∀ w ∈ u_ws RX3 TX3 6, w ∈ wsX3_firstWith := by decide +kernel
  have fl_24 := hts (.fieldLink RX3 24 "SureMendings$Table" "size" "I") (by decide +kernel)
  have hl : lv_has ls 3 [(0, .ref h0), (1, .int p0)] := hl
  unfold f_X3_firstWith at hf
  refine lv_iconst (v := 0) hx hb dX3_firstWith_0 (by decide) ?_
  refine lv_istore_n (lv' := [(2, .int 0), (0, .ref h0), (1, .int p0)]) hx hb dX3_firstWith_1 rfl hl (by decide) rfl (fun ls hl => ?_)
  have LP_2 : ∀ (n_2 : Nat) (v2_1 : Int32), iter n_2 (b_X3_firstWith_1 nr ks p0) v2_1 = some out → ∀ (H : Heap) (locs : List Loc), va_P D vwCl (W_T cI cC cT h0 h1 h2 h3 h4 nr pf ks vs wg ts) H → va_D A (W_T cI cC cT h0 h1 h2 h3 h4 nr pf ks vs wg ts) → va_S A s.heap H locs → ∀ (ls : Array Slot), lv_has ls 3 [(0, .ref h0), (1, .int p0), (2, .int v2_1)] → W p l e rm_X3_firstWith s m ([.ref h0, .int p0] : List Value).toArray below meth c H locs 0 0 (MQ below (mQi D (mTY cI cC cT) out A (W_T cI cC cT h0 h1 h2 h3 h4 nr pf ks vs wg ts)) ([.ref h0, .int p0] : List Value).toArray s 0 0 A) (F0 m 2 ls []) := by
    intro n_2
    induction n_2 with
    | zero => intro v2_1 hf; exact (iter_zero hf).elim
    | succ n_2 ih_2 =>
      intro v2_1 hf H locs hP hD hS ls hl
      obtain ⟨o_2, hf, ho_2⟩ := iter_succ hf
      dsimp only [b_X3_firstWith_1] at hf
      refine lv_iload_n hx hb dX3_firstWith_2 rfl (lv_at hl 2 rfl) ?_
      refine lv_aload_n hx hb dX3_firstWith_3 rfl (lv_at hl 0 rfl) ?_
      refine va_get (D := D) (ci := 3) (v := .int nr) (C := RX3) (T := TX3) (N := 6) hx hb hts hin_X3 hown hK hP 0 rfl rfl 4 (by decide) fl_24 (fun _ h9 => h9) rfl dX3_firstWith_4 ?_
      refine lv_icmp_ge (tgt := 27) hx hb dX3_firstWith_7 (by decide) (fun c_3 => ?_) (fun c_3 => ?_)
      · have hf := ite_t hf c_3
        refine lv_bipush (v := -5) hx hb dX3_firstWith_27 (by decide) ?_
        cases hf
        have hf := ho_2.2 _ rfl
        cases hf
        exact mIret hx hb hr hlocks hP hD hK hS dX3_firstWith_29
      · have hf := ite_f hf c_3
        refine lv_aload_n hx hb dX3_firstWith_10 rfl (lv_at hl 0 rfl) ?_
        refine lv_iload_n hx hb dX3_firstWith_11 rfl (lv_at hl 2 rfl) ?_
        obtain ⟨r_4, q_5, hf⟩ := bnd hf
        refine mGoi (w2 := (W_T cI cC cT h0 h1 h2 h3 h4 nr pf ks vs wg ts)) (va_runV (As := [.int v2_1]) (rest := []) ⟨hx, hb, hml, hown, hts⟩ (c_X3_keyAt l D cI cC cT h0 h1 h2 h3 h4 nr pf ks vs wg ts H.size v2_1 r_4 q_5) (cwV 1 hts gX3_firstWith_X3_keyAt rfl rfl rfl (by decide +kernel) ⟨Nat.le_of_ble_eq_true rfl, Nat.le_of_ble_eq_true rfl⟩) (mPreV hP hD hK hN [0, 1, 2, 3, 4] rfl (by decide) (va_recv hK hP (ci := 3) (q0 := 0) rfl rfl)) rfl rfl hl.1 rfl (lv_room (Nat.le_of_ble_eq_true rfl)) dX3_firstWith_12 ⟨Nat.zero_le _, Nat.zero_le _⟩) hP hD hS hA [0, 1, 2, 3, 4] rfl rfl rfl rfl (fun H locs hP hD hS => ?_)
        refine lv_iload_n hx hb dX3_firstWith_15 rfl (lv_at hl 1 rfl) ?_
        refine lv_icmp_ne (tgt := 21) hx hb dX3_firstWith_16 (by decide) (fun c_6 => ?_) (fun c_6 => ?_)
        · have hf := ite_f hf c_6
          refine lv_iinc (v := v2_1 + 1) (lv' := [(2, .int (v2_1 + 1)), (0, .ref h0), (1, .int p0)]) hx hb dX3_firstWith_21 hl (k := 2) rfl rfl (by decide) rfl (fun ls hl => ?_)
          refine lv_goto (tgt := 2) hx hb dX3_firstWith_24 (by decide) ?_
          cases hf
          have hf := ho_2.1 _ rfl
          exact ih_2 _ hf _ _ hP hD hS _ (lv_sub hl [1, 2, 0] rfl)
        · have hf := ite_t hf c_6
          refine lv_iload_n hx hb dX3_firstWith_19 rfl (lv_at hl 2 rfl) ?_
          cases hf
          have hf := ho_2.2 _ rfl
          cases hf
          exact mIret hx hb hr hlocks hP hD hK hS dX3_firstWith_20
  exact LP_2 _ _ hf _ _ hP hD hS _ (lv_sub hl [1, 2, 0] rfl)
def f_X3_keysThere (nr : Int32) (ks : Nat → Int32) : Option (Int32) := (Option.bind (f_X3_keysWithAtLeast nr ks 1) (fun r_1 => some r_1))
abbrev rm_X3_keysThere : Room := { frames := 4, cells := 0, slots := 0, locals := 88 }
set_option maxHeartbeats 4000000 in
set_option maxRecDepth 100000 in
theorem c_X3_keysThere (l : Launch) (D : va_G) (cI cC cT : ClassId) (h0 h1 h2 h3 h4 : Nat) (nr : Int32) (pf : Int32) (ks : Nat → Int32) (vs : Nat → Int32) (wg : Nat → Int32) (ts : Nat → Int32) (sz : Nat) (out : Int32) (hf : f_X3_keysThere nr ks = some out) : Met l yX3_keysThere wsX3_keysThere rm_X3_keysThere (mP D (mTY cI cC cT) [.ref h0] (W_T cI cC cT h0 h1 h2 h3 h4 nr pf ks vs wg ts) sz) (mQi D (mTY cI cC cT) out (va_A (W_T cI cC cT h0 h1 h2 h3 h4 nr pf ks vs wg ts) sz) (W_T cI cC cT h0 h1 h2 h3 h4 nr pf ks vs wg ts)) 0 0 (va_A (W_T cI cC cT h0 h1 h2 h3 h4 nr pf ks vs wg ts) sz) := by
  refine mEnt (cc := cX3_keysThere) (maxL := 1) (ret := (some .int)) (own := RX3) (Qq := fun A => mQi D (mTY cI cC cT) out A (W_T cI cC cT h0 h1 h2 h3 h4 nr pf ks vs wg ts)) (by decide) rfl rfl (Nat.le_of_ble_eq_true rfl) ?_
  intro p e s m below meth c A ls H locs hx hb hr hml hlocks hown hts hN hA hP hK hD hS hl
  have hl : lv_has ls 1 [(0, .ref h0)] := hl
  unfold f_X3_keysThere at hf
  refine lv_aload_n hx hb dX3_keysThere_0 rfl (lv_at hl 0 rfl) ?_
  refine lv_iconst (v := 1) hx hb dX3_keysThere_1 (by decide) ?_
  obtain ⟨r_1, q_2, hf⟩ := bnd hf
  refine mGoi (w2 := (W_T cI cC cT h0 h1 h2 h3 h4 nr pf ks vs wg ts)) (va_runV (As := [.int 1]) (rest := []) ⟨hx, hb, hml, hown, hts⟩ (c_X3_keysWithAtLeast l D cI cC cT h0 h1 h2 h3 h4 nr pf ks vs wg ts H.size 1 r_1 q_2) (cwV 1 hts gX3_keysThere_X3_keysWithAtLeast rfl rfl rfl (by decide +kernel) ⟨Nat.le_of_ble_eq_true rfl, Nat.le_of_ble_eq_true rfl⟩) (mPreV hP hD hK hN [0, 1, 2, 3, 4] rfl (by decide) (va_recv hK hP (ci := 3) (q0 := 0) rfl rfl)) rfl rfl hl.1 rfl (lv_room (Nat.le_of_ble_eq_true rfl)) dX3_keysThere_2 ⟨Nat.zero_le _, Nat.zero_le _⟩) hP hD hS hA [0, 1, 2, 3, 4] rfl rfl rfl rfl (fun H locs hP hD hS => ?_)
  cases hf
  exact mIret hx hb hr hlocks hP hD hK hS dX3_keysThere_5
def b_X3_lastWith_1 (ks : Nat → Int32) (p0 : Int32) (z : Int32) : Option ((Int32) ⊕ (Int32)) := match z with
  | v2_1 => (if v2_1 < 0 then some (.inr (-5)) else (Option.bind (f_X3_keyAt ks v2_1) (fun r_4 => (if r_4 = p0 then some (.inr v2_1) else some (.inl (v2_1 + (-1)))))))
def f_X3_lastWith (nr : Int32) (ks : Nat → Int32) (p0 : Int32) : Option (Int32) := iter fuel (b_X3_lastWith_1 ks p0) (nr - 1)
abbrev rm_X3_lastWith : Room := { frames := 2, cells := 0, slots := 0, locals := 42 }
set_option maxHeartbeats 4000000 in
set_option maxRecDepth 100000 in
theorem c_X3_lastWith (l : Launch) (D : va_G) (cI cC cT : ClassId) (h0 h1 h2 h3 h4 : Nat) (nr : Int32) (pf : Int32) (ks : Nat → Int32) (vs : Nat → Int32) (wg : Nat → Int32) (ts : Nat → Int32) (sz : Nat) (p0 : Int32) (out : Int32) (hf : f_X3_lastWith nr ks p0 = some out) : Met l yX3_lastWith wsX3_lastWith rm_X3_lastWith (mP D (mTY cI cC cT) [.ref h0, .int p0] (W_T cI cC cT h0 h1 h2 h3 h4 nr pf ks vs wg ts) sz) (mQi D (mTY cI cC cT) out (va_A (W_T cI cC cT h0 h1 h2 h3 h4 nr pf ks vs wg ts) sz) (W_T cI cC cT h0 h1 h2 h3 h4 nr pf ks vs wg ts)) 0 0 (va_A (W_T cI cC cT h0 h1 h2 h3 h4 nr pf ks vs wg ts) sz) := by
  refine mEnt (cc := cX3_lastWith) (maxL := 3) (ret := (some .int)) (own := RX3) (Qq := fun A => mQi D (mTY cI cC cT) out A (W_T cI cC cT h0 h1 h2 h3 h4 nr pf ks vs wg ts)) (by decide) rfl rfl (Nat.le_of_ble_eq_true rfl) ?_
  intro p e s m below meth c A ls H locs hx hb hr hml hlocks hown hts hN hA hP hK hD hS hl
  have hin_X3 : ∀ w ∈ u_ws RX3 TX3 6, w ∈ wsX3_lastWith := by decide +kernel
  have fl_24 := hts (.fieldLink RX3 24 "SureMendings$Table" "size" "I") (by decide +kernel)
  have hl : lv_has ls 3 [(0, .ref h0), (1, .int p0)] := hl
  unfold f_X3_lastWith at hf
  refine lv_aload_n hx hb dX3_lastWith_0 rfl (lv_at hl 0 rfl) ?_
  refine va_get (D := D) (ci := 3) (v := .int nr) (C := RX3) (T := TX3) (N := 6) hx hb hts hin_X3 hown hK hP 0 rfl rfl 4 (by decide) fl_24 (fun _ h9 => h9) rfl dX3_lastWith_1 ?_
  refine lv_iconst (v := 1) hx hb dX3_lastWith_4 (by decide) ?_
  refine lv_isub hx hb dX3_lastWith_5 ?_
  refine lv_istore_n (lv' := [(2, .int (nr - 1)), (0, .ref h0), (1, .int p0)]) hx hb dX3_lastWith_6 rfl hl (by decide) rfl (fun ls hl => ?_)
  have LP_2 : ∀ (n_2 : Nat) (v2_1 : Int32), iter n_2 (b_X3_lastWith_1 ks p0) v2_1 = some out → ∀ (H : Heap) (locs : List Loc), va_P D vwCl (W_T cI cC cT h0 h1 h2 h3 h4 nr pf ks vs wg ts) H → va_D A (W_T cI cC cT h0 h1 h2 h3 h4 nr pf ks vs wg ts) → va_S A s.heap H locs → ∀ (ls : Array Slot), lv_has ls 3 [(0, .ref h0), (1, .int p0), (2, .int v2_1)] → W p l e rm_X3_lastWith s m ([.ref h0, .int p0] : List Value).toArray below meth c H locs 0 0 (MQ below (mQi D (mTY cI cC cT) out A (W_T cI cC cT h0 h1 h2 h3 h4 nr pf ks vs wg ts)) ([.ref h0, .int p0] : List Value).toArray s 0 0 A) (F0 m 7 ls []) := by
    intro n_2
    induction n_2 with
    | zero => intro v2_1 hf; exact (iter_zero hf).elim
    | succ n_2 ih_2 =>
      intro v2_1 hf H locs hP hD hS ls hl
      obtain ⟨o_2, hf, ho_2⟩ := iter_succ hf
      dsimp only [b_X3_lastWith_1] at hf
      refine lv_iload_n hx hb dX3_lastWith_7 rfl (lv_at hl 2 rfl) ?_
      refine lv_if_lt (tgt := 28) hx hb dX3_lastWith_8 (by decide) (fun c_3 => ?_) (fun c_3 => ?_)
      · have hf := ite_t hf c_3
        refine lv_bipush (v := -5) hx hb dX3_lastWith_28 (by decide) ?_
        cases hf
        have hf := ho_2.2 _ rfl
        cases hf
        exact mIret hx hb hr hlocks hP hD hK hS dX3_lastWith_30
      · have hf := ite_f hf c_3
        refine lv_aload_n hx hb dX3_lastWith_11 rfl (lv_at hl 0 rfl) ?_
        refine lv_iload_n hx hb dX3_lastWith_12 rfl (lv_at hl 2 rfl) ?_
        obtain ⟨r_4, q_5, hf⟩ := bnd hf
        refine mGoi (w2 := (W_T cI cC cT h0 h1 h2 h3 h4 nr pf ks vs wg ts)) (va_runV (As := [.int v2_1]) (rest := []) ⟨hx, hb, hml, hown, hts⟩ (c_X3_keyAt l D cI cC cT h0 h1 h2 h3 h4 nr pf ks vs wg ts H.size v2_1 r_4 q_5) (cwV 1 hts gX3_lastWith_X3_keyAt rfl rfl rfl (by decide +kernel) ⟨Nat.le_of_ble_eq_true rfl, Nat.le_of_ble_eq_true rfl⟩) (mPreV hP hD hK hN [0, 1, 2, 3, 4] rfl (by decide) (va_recv hK hP (ci := 3) (q0 := 0) rfl rfl)) rfl rfl hl.1 rfl (lv_room (Nat.le_of_ble_eq_true rfl)) dX3_lastWith_13 ⟨Nat.zero_le _, Nat.zero_le _⟩) hP hD hS hA [0, 1, 2, 3, 4] rfl rfl rfl rfl (fun H locs hP hD hS => ?_)
        refine lv_iload_n hx hb dX3_lastWith_16 rfl (lv_at hl 1 rfl) ?_
        refine lv_icmp_ne (tgt := 22) hx hb dX3_lastWith_17 (by decide) (fun c_6 => ?_) (fun c_6 => ?_)
        · have hf := ite_f hf c_6
          refine lv_iinc (v := v2_1 + (-1)) (lv' := [(2, .int (v2_1 + (-1))), (0, .ref h0), (1, .int p0)]) hx hb dX3_lastWith_22 hl (k := 2) rfl rfl (by decide) rfl (fun ls hl => ?_)
          refine lv_goto (tgt := 7) hx hb dX3_lastWith_25 (by decide) ?_
          cases hf
          have hf := ho_2.1 _ rfl
          exact ih_2 _ hf _ _ hP hD hS _ (lv_sub hl [1, 2, 0] rfl)
        · have hf := ite_t hf c_6
          refine lv_iload_n hx hb dX3_lastWith_20 rfl (lv_at hl 2 rfl) ?_
          cases hf
          have hf := ho_2.2 _ rfl
          cases hf
          exact mIret hx hb hr hlocks hP hD hK hS dX3_lastWith_21
  exact LP_2 _ _ hf _ _ hP hD hS _ (lv_sub hl [1, 2, 0] rfl)
def b_X3_lightestWith_1 (nr : Int32) (ks : Nat → Int32) (wg : Nat → Int32) (p0 : Int32) (z : Int32 × Int32) : Option ((Int32 × Int32) ⊕ (Int32)) := match z with
  | (v2_1, v3_2) => (if nr ≤ v3_2 then some (.inr v2_1) else (Option.bind (f_X3_keyAt ks v3_2) (fun r_5 => (Option.bind (α := Int32) ((if r_5 = p0 then (if v2_1 = (-5) then some v3_2 else (Option.bind (f_X3_weightAt wg v3_2) (fun r_12 => (Option.bind (f_X3_weightAt wg v2_1) (fun r_14 => (if r_14 ≤ r_12 then some v2_1 else some v3_2)))))) else some v2_1)) (fun x_7 => some (.inl ((x_7, v3_2 + 1))))))))
def f_X3_lightestWith (nr : Int32) (ks : Nat → Int32) (wg : Nat → Int32) (p0 : Int32) : Option (Int32) := iter fuel (b_X3_lightestWith_1 nr ks wg p0) ((-5, 0))
abbrev rm_X3_lightestWith : Room := { frames := 2, cells := 0, slots := 0, locals := 42 }
set_option maxHeartbeats 4000000 in
set_option maxRecDepth 100000 in
theorem c_X3_lightestWith (l : Launch) (D : va_G) (cI cC cT : ClassId) (h0 h1 h2 h3 h4 : Nat) (nr : Int32) (pf : Int32) (ks : Nat → Int32) (vs : Nat → Int32) (wg : Nat → Int32) (ts : Nat → Int32) (sz : Nat) (p0 : Int32) (out : Int32) (hf : f_X3_lightestWith nr ks wg p0 = some out) : Met l yX3_lightestWith wsX3_lightestWith rm_X3_lightestWith (mP D (mTY cI cC cT) [.ref h0, .int p0] (W_T cI cC cT h0 h1 h2 h3 h4 nr pf ks vs wg ts) sz) (mQi D (mTY cI cC cT) out (va_A (W_T cI cC cT h0 h1 h2 h3 h4 nr pf ks vs wg ts) sz) (W_T cI cC cT h0 h1 h2 h3 h4 nr pf ks vs wg ts)) 0 0 (va_A (W_T cI cC cT h0 h1 h2 h3 h4 nr pf ks vs wg ts) sz) := by
  refine mEnt (cc := cX3_lightestWith) (maxL := 4) (ret := (some .int)) (own := RX3) (Qq := fun A => mQi D (mTY cI cC cT) out A (W_T cI cC cT h0 h1 h2 h3 h4 nr pf ks vs wg ts)) (by decide) rfl rfl (Nat.le_of_ble_eq_true rfl) ?_
  intro p e s m below meth c A ls H locs hx hb hr hml hlocks hown hts hN hA hP hK hD hS hl
  have hin_X3 : ∀ w ∈ u_ws RX3 TX3 6, w ∈ wsX3_lightestWith := by decide +kernel
  have fl_24 := hts (.fieldLink RX3 24 "SureMendings$Table" "size" "I") (by decide +kernel)
  have hl : lv_has ls 4 [(0, .ref h0), (1, .int p0)] := hl
  unfold f_X3_lightestWith at hf
  refine lv_bipush (v := -5) hx hb dX3_lightestWith_0 (by decide) ?_
  refine lv_istore_n (lv' := [(2, .int (-5)), (0, .ref h0), (1, .int p0)]) hx hb dX3_lightestWith_2 rfl hl (by decide) rfl (fun ls hl => ?_)
  refine lv_iconst (v := 0) hx hb dX3_lightestWith_3 (by decide) ?_
  refine lv_istore_n (lv' := [(3, .int 0), (2, .int (-5)), (0, .ref h0), (1, .int p0)]) hx hb dX3_lightestWith_4 rfl hl (by decide) rfl (fun ls hl => ?_)
  have LP_3 : ∀ (n_3 : Nat) (v2_1 : Int32) (v3_2 : Int32), iter n_3 (b_X3_lightestWith_1 nr ks wg p0) ((v2_1, v3_2)) = some out → ∀ (H : Heap) (locs : List Loc), va_P D vwCl (W_T cI cC cT h0 h1 h2 h3 h4 nr pf ks vs wg ts) H → va_D A (W_T cI cC cT h0 h1 h2 h3 h4 nr pf ks vs wg ts) → va_S A s.heap H locs → ∀ (ls : Array Slot), lv_has ls 4 [(0, .ref h0), (1, .int p0), (2, .int v2_1), (3, .int v3_2)] → W p l e rm_X3_lightestWith s m ([.ref h0, .int p0] : List Value).toArray below meth c H locs 0 0 (MQ below (mQi D (mTY cI cC cT) out A (W_T cI cC cT h0 h1 h2 h3 h4 nr pf ks vs wg ts)) ([.ref h0, .int p0] : List Value).toArray s 0 0 A) (F0 m 5 ls []) := by
    intro n_3
    induction n_3 with
    | zero => intro v2_1 v3_2 hf; exact (iter_zero hf).elim
    | succ n_3 ih_3 =>
      intro v2_1 v3_2 hf H locs hP hD hS ls hl
      obtain ⟨o_3, hf, ho_3⟩ := iter_succ hf
      dsimp only [b_X3_lightestWith_1] at hf
      refine lv_iload_n hx hb dX3_lightestWith_5 rfl (lv_at hl 3 rfl) ?_
      refine lv_aload_n hx hb dX3_lightestWith_6 rfl (lv_at hl 0 rfl) ?_
      refine va_get (D := D) (ci := 3) (v := .int nr) (C := RX3) (T := TX3) (N := 6) hx hb hts hin_X3 hown hK hP 0 rfl rfl 4 (by decide) fl_24 (fun _ h9 => h9) rfl dX3_lightestWith_7 ?_
      refine lv_icmp_ge (tgt := 49) hx hb dX3_lightestWith_10 (by decide) (fun c_4 => ?_) (fun c_4 => ?_)
      · have hf := ite_t hf c_4
        refine lv_iload_n hx hb dX3_lightestWith_49 rfl (lv_at hl 2 rfl) ?_
        cases hf
        have hf := ho_3.2 _ rfl
        cases hf
        exact mIret hx hb hr hlocks hP hD hK hS dX3_lightestWith_50
      · have hf := ite_f hf c_4
        refine lv_aload_n hx hb dX3_lightestWith_13 rfl (lv_at hl 0 rfl) ?_
        refine lv_iload_n hx hb dX3_lightestWith_14 rfl (lv_at hl 3 rfl) ?_
        obtain ⟨r_5, q_6, hf⟩ := bnd hf
        refine mGoi (w2 := (W_T cI cC cT h0 h1 h2 h3 h4 nr pf ks vs wg ts)) (va_runV (As := [.int v3_2]) (rest := []) ⟨hx, hb, hml, hown, hts⟩ (c_X3_keyAt l D cI cC cT h0 h1 h2 h3 h4 nr pf ks vs wg ts H.size v3_2 r_5 q_6) (cwV 1 hts gX3_lightestWith_X3_keyAt rfl rfl rfl (by decide +kernel) ⟨Nat.le_of_ble_eq_true rfl, Nat.le_of_ble_eq_true rfl⟩) (mPreV hP hD hK hN [0, 1, 2, 3, 4] rfl (by decide) (va_recv hK hP (ci := 3) (q0 := 0) rfl rfl)) rfl rfl hl.1 rfl (lv_room (Nat.le_of_ble_eq_true rfl)) dX3_lightestWith_15 ⟨Nat.zero_le _, Nat.zero_le _⟩) hP hD hS hA [0, 1, 2, 3, 4] rfl rfl rfl rfl (fun H locs hP hD hS => ?_)
        refine lv_iload_n hx hb dX3_lightestWith_18 rfl (lv_at hl 1 rfl) ?_
        obtain ⟨x_7, q_9, hf⟩ := bnd hf
        have K_8 : ∀ (H : Heap) (locs : List Loc), va_P D vwCl (W_T cI cC cT h0 h1 h2 h3 h4 nr pf ks vs wg ts) H → va_D A (W_T cI cC cT h0 h1 h2 h3 h4 nr pf ks vs wg ts) → va_S A s.heap H locs → ∀ (ls : Array Slot), lv_has ls 4 [(0, .ref h0), (1, .int p0), (2, .int x_7), (3, .int v3_2)] → W p l e rm_X3_lightestWith s m ([.ref h0, .int p0] : List Value).toArray below meth c H locs 0 0 (MQ below (mQi D (mTY cI cC cT) out A (W_T cI cC cT h0 h1 h2 h3 h4 nr pf ks vs wg ts)) ([.ref h0, .int p0] : List Value).toArray s 0 0 A) (F0 m 43 ls []) := by
          intro H locs hP hD hS ls hl
          refine lv_iinc (v := v3_2 + 1) (lv' := [(3, .int (v3_2 + 1)), (0, .ref h0), (1, .int p0), (2, .int x_7)]) hx hb dX3_lightestWith_43 hl (k := 3) rfl rfl (by decide) rfl (fun ls hl => ?_)
          refine lv_goto (tgt := 5) hx hb dX3_lightestWith_46 (by decide) ?_
          cases hf
          have hf := ho_3.1 _ rfl
          exact ih_3 _ _ hf _ _ hP hD hS _ (lv_sub hl [1, 2, 3, 0] rfl)
        have hf := q_9
        refine lv_icmp_ne (tgt := 43) hx hb dX3_lightestWith_19 (by decide) (fun c_10 => ?_) (fun c_10 => ?_)
        · have hf := ite_f hf c_10
          cases hf
          exact K_8 _ _ hP hD hS _ (lv_sub hl [0, 1, 2, 3] rfl)
        · have hf := ite_t hf c_10
          refine lv_iload_n hx hb dX3_lightestWith_22 rfl (lv_at hl 2 rfl) ?_
          refine lv_bipush (v := -5) hx hb dX3_lightestWith_23 (by decide) ?_
          refine lv_icmp_eq (tgt := 41) hx hb dX3_lightestWith_25 (by decide) (fun c_11 => ?_) (fun c_11 => ?_)
          · have hf := ite_t hf c_11
            refine lv_iload_n hx hb dX3_lightestWith_41 rfl (lv_at hl 3 rfl) ?_
            refine lv_istore_n (lv' := [(2, .int v3_2), (0, .ref h0), (1, .int p0), (3, .int v3_2)]) hx hb dX3_lightestWith_42 rfl hl (by decide) rfl (fun ls hl => ?_)
            cases hf
            exact K_8 _ _ hP hD hS _ (lv_sub hl [1, 2, 0, 3] rfl)
          · have hf := ite_f hf c_11
            refine lv_aload_n hx hb dX3_lightestWith_28 rfl (lv_at hl 0 rfl) ?_
            refine lv_iload_n hx hb dX3_lightestWith_29 rfl (lv_at hl 3 rfl) ?_
            obtain ⟨r_12, q_13, hf⟩ := bnd hf
            refine mGoi (w2 := (W_T cI cC cT h0 h1 h2 h3 h4 nr pf ks vs wg ts)) (va_runV (As := [.int v3_2]) (rest := []) ⟨hx, hb, hml, hown, hts⟩ (c_X3_weightAt l D cI cC cT h0 h1 h2 h3 h4 nr pf ks vs wg ts H.size v3_2 r_12 q_13) (cwV 1 hts gX3_lightestWith_X3_weightAt rfl rfl rfl (by decide +kernel) ⟨Nat.le_of_ble_eq_true rfl, Nat.le_of_ble_eq_true rfl⟩) (mPreV hP hD hK hN [0, 1, 2, 3, 4] rfl (by decide) (va_recv hK hP (ci := 3) (q0 := 0) rfl rfl)) rfl rfl hl.1 rfl (lv_room (Nat.le_of_ble_eq_true rfl)) dX3_lightestWith_30 ⟨Nat.zero_le _, Nat.zero_le _⟩) hP hD hS hA [0, 1, 2, 3, 4] rfl rfl rfl rfl (fun H locs hP hD hS => ?_)
            refine lv_aload_n hx hb dX3_lightestWith_33 rfl (lv_at hl 0 rfl) ?_
            refine lv_iload_n hx hb dX3_lightestWith_34 rfl (lv_at hl 2 rfl) ?_
            obtain ⟨r_14, q_15, hf⟩ := bnd hf
            refine mGoi (w2 := (W_T cI cC cT h0 h1 h2 h3 h4 nr pf ks vs wg ts)) (va_runV (As := [.int v2_1]) (rest := [.int r_12]) ⟨hx, hb, hml, hown, hts⟩ (c_X3_weightAt l D cI cC cT h0 h1 h2 h3 h4 nr pf ks vs wg ts H.size v2_1 r_14 q_15) (cwV 1 hts gX3_lightestWith_X3_weightAt rfl rfl rfl (by decide +kernel) ⟨Nat.le_of_ble_eq_true rfl, Nat.le_of_ble_eq_true rfl⟩) (mPreV hP hD hK hN [0, 1, 2, 3, 4] rfl (by decide) (va_recv hK hP (ci := 3) (q0 := 0) rfl rfl)) rfl rfl hl.1 rfl (lv_room (Nat.le_of_ble_eq_true rfl)) dX3_lightestWith_35 ⟨Nat.zero_le _, Nat.zero_le _⟩) hP hD hS hA [0, 1, 2, 3, 4] rfl rfl rfl rfl (fun H locs hP hD hS => ?_)
            refine lv_icmp_ge (tgt := 43) hx hb dX3_lightestWith_38 (by decide) (fun c_16 => ?_) (fun c_16 => ?_)
            · have hf := ite_t hf c_16
              cases hf
              exact K_8 _ _ hP hD hS _ (lv_sub hl [0, 1, 2, 3] rfl)
            · have hf := ite_f hf c_16
              refine lv_iload_n hx hb dX3_lightestWith_41 rfl (lv_at hl 3 rfl) ?_
              refine lv_istore_n (lv' := [(2, .int v3_2), (0, .ref h0), (1, .int p0), (3, .int v3_2)]) hx hb dX3_lightestWith_42 rfl hl (by decide) rfl (fun ls hl => ?_)
              cases hf
              exact K_8 _ _ hP hD hS _ (lv_sub hl [1, 2, 0, 3] rfl)
  exact LP_3 _ _ _ hf _ _ hP hD hS _ (lv_sub hl [2, 3, 1, 0] rfl)
def f_X3_prefersHeaviest (pf : Int32) : Option (Int32) := (if isB pf then some pf else none)
abbrev rm_X3_prefersHeaviest : Room := { frames := 0, cells := 0, slots := 0, locals := 0 }
set_option maxHeartbeats 4000000 in
set_option maxRecDepth 100000 in
theorem c_X3_prefersHeaviest (l : Launch) (D : va_G) (cI cC cT : ClassId) (h0 h1 h2 h3 h4 : Nat) (nr : Int32) (pf : Int32) (ks : Nat → Int32) (vs : Nat → Int32) (wg : Nat → Int32) (ts : Nat → Int32) (sz : Nat) (out : Int32) (hf : f_X3_prefersHeaviest pf = some out) : Met l yX3_prefersHeaviest wsX3_prefersHeaviest rm_X3_prefersHeaviest (mP D (mTY cI cC cT) [.ref h0] (W_T cI cC cT h0 h1 h2 h3 h4 nr pf ks vs wg ts) sz) (mQi D (mTY cI cC cT) out (va_A (W_T cI cC cT h0 h1 h2 h3 h4 nr pf ks vs wg ts) sz) (W_T cI cC cT h0 h1 h2 h3 h4 nr pf ks vs wg ts)) 0 0 (va_A (W_T cI cC cT h0 h1 h2 h3 h4 nr pf ks vs wg ts) sz) := by
  refine mEnt (cc := cX3_prefersHeaviest) (maxL := 1) (ret := (some .boolean)) (own := RX3) (Qq := fun A => mQi D (mTY cI cC cT) out A (W_T cI cC cT h0 h1 h2 h3 h4 nr pf ks vs wg ts)) (by decide) rfl rfl (Nat.le_of_ble_eq_true rfl) ?_
  intro p e s m below meth c A ls H locs hx hb hr hml hlocks hown hts hN hA hP hK hD hS hl
  have hin_X3 : ∀ w ∈ u_ws RX3 TX3 6, w ∈ wsX3_prefersHeaviest := by decide +kernel
  have fl_32 := hts (.fieldLink RX3 32 "SureMendings$Table" "preferring" "Z") (by decide +kernel)
  have hl : lv_has ls 1 [(0, .ref h0)] := hl
  unfold f_X3_prefersHeaviest at hf
  refine lv_aload_n hx hb dX3_prefersHeaviest_0 rfl (lv_at hl 0 rfl) ?_
  refine va_get (D := D) (ci := 3) (v := .int pf) (C := RX3) (T := TX3) (N := 6) hx hb hts hin_X3 hown hK hP 0 rfl rfl 5 (by decide) fl_32 (fun _ h9 => h9) rfl dX3_prefersHeaviest_1 ?_
  obtain ⟨h_1, hf⟩ := grd hf
  cases hf
  exact mZret hx hb hr (isB_narrow h_1) hlocks hP hD hK hS dX3_prefersHeaviest_4
def b_X3_rowsPointingTo_1 (nr : Int32) (ts : Nat → Int32) (p0 : Int32) (z : Int32 × Int32) : Option ((Int32 × Int32) ⊕ (Int32)) := match z with
  | (v2_1, v3_2) => (if nr ≤ v3_2 then some (.inr v2_1) else (Option.bind (f_X3_targetAt ts v3_2) (fun r_5 => (Option.bind (α := Int32) ((if r_5 = p0 then some (v2_1 + 1) else some v2_1)) (fun x_7 => some (.inl ((x_7, v3_2 + 1))))))))
def f_X3_rowsPointingTo (nr : Int32) (ts : Nat → Int32) (p0 : Int32) : Option (Int32) := iter fuel (b_X3_rowsPointingTo_1 nr ts p0) ((0, 0))
abbrev rm_X3_rowsPointingTo : Room := { frames := 2, cells := 0, slots := 0, locals := 42 }
set_option maxHeartbeats 4000000 in
set_option maxRecDepth 100000 in
theorem c_X3_rowsPointingTo (l : Launch) (D : va_G) (cI cC cT : ClassId) (h0 h1 h2 h3 h4 : Nat) (nr : Int32) (pf : Int32) (ks : Nat → Int32) (vs : Nat → Int32) (wg : Nat → Int32) (ts : Nat → Int32) (sz : Nat) (p0 : Int32) (out : Int32) (hf : f_X3_rowsPointingTo nr ts p0 = some out) : Met l yX3_rowsPointingTo wsX3_rowsPointingTo rm_X3_rowsPointingTo (mP D (mTY cI cC cT) [.ref h0, .int p0] (W_T cI cC cT h0 h1 h2 h3 h4 nr pf ks vs wg ts) sz) (mQi D (mTY cI cC cT) out (va_A (W_T cI cC cT h0 h1 h2 h3 h4 nr pf ks vs wg ts) sz) (W_T cI cC cT h0 h1 h2 h3 h4 nr pf ks vs wg ts)) 0 0 (va_A (W_T cI cC cT h0 h1 h2 h3 h4 nr pf ks vs wg ts) sz) := by
  refine mEnt (cc := cX3_rowsPointingTo) (maxL := 4) (ret := (some .int)) (own := RX3) (Qq := fun A => mQi D (mTY cI cC cT) out A (W_T cI cC cT h0 h1 h2 h3 h4 nr pf ks vs wg ts)) (by decide) rfl rfl (Nat.le_of_ble_eq_true rfl) ?_
  intro p e s m below meth c A ls H locs hx hb hr hml hlocks hown hts hN hA hP hK hD hS hl
  have hin_X3 : ∀ w ∈ u_ws RX3 TX3 6, w ∈ wsX3_rowsPointingTo := by decide +kernel
  have fl_24 := hts (.fieldLink RX3 24 "SureMendings$Table" "size" "I") (by decide +kernel)
  have hl : lv_has ls 4 [(0, .ref h0), (1, .int p0)] := hl
  unfold f_X3_rowsPointingTo at hf
  refine lv_iconst (v := 0) hx hb dX3_rowsPointingTo_0 (by decide) ?_
  refine lv_istore_n (lv' := [(2, .int 0), (0, .ref h0), (1, .int p0)]) hx hb dX3_rowsPointingTo_1 rfl hl (by decide) rfl (fun ls hl => ?_)
  refine lv_iconst (v := 0) hx hb dX3_rowsPointingTo_2 (by decide) ?_
  refine lv_istore_n (lv' := [(3, .int 0), (2, .int 0), (0, .ref h0), (1, .int p0)]) hx hb dX3_rowsPointingTo_3 rfl hl (by decide) rfl (fun ls hl => ?_)
  have LP_3 : ∀ (n_3 : Nat) (v2_1 : Int32) (v3_2 : Int32), iter n_3 (b_X3_rowsPointingTo_1 nr ts p0) ((v2_1, v3_2)) = some out → ∀ (H : Heap) (locs : List Loc), va_P D vwCl (W_T cI cC cT h0 h1 h2 h3 h4 nr pf ks vs wg ts) H → va_D A (W_T cI cC cT h0 h1 h2 h3 h4 nr pf ks vs wg ts) → va_S A s.heap H locs → ∀ (ls : Array Slot), lv_has ls 4 [(0, .ref h0), (1, .int p0), (2, .int v2_1), (3, .int v3_2)] → W p l e rm_X3_rowsPointingTo s m ([.ref h0, .int p0] : List Value).toArray below meth c H locs 0 0 (MQ below (mQi D (mTY cI cC cT) out A (W_T cI cC cT h0 h1 h2 h3 h4 nr pf ks vs wg ts)) ([.ref h0, .int p0] : List Value).toArray s 0 0 A) (F0 m 4 ls []) := by
    intro n_3
    induction n_3 with
    | zero => intro v2_1 v3_2 hf; exact (iter_zero hf).elim
    | succ n_3 ih_3 =>
      intro v2_1 v3_2 hf H locs hP hD hS ls hl
      obtain ⟨o_3, hf, ho_3⟩ := iter_succ hf
      dsimp only [b_X3_rowsPointingTo_1] at hf
      refine lv_iload_n hx hb dX3_rowsPointingTo_4 rfl (lv_at hl 3 rfl) ?_
      refine lv_aload_n hx hb dX3_rowsPointingTo_5 rfl (lv_at hl 0 rfl) ?_
      refine va_get (D := D) (ci := 3) (v := .int nr) (C := RX3) (T := TX3) (N := 6) hx hb hts hin_X3 hown hK hP 0 rfl rfl 4 (by decide) fl_24 (fun _ h9 => h9) rfl dX3_rowsPointingTo_6 ?_
      refine lv_icmp_ge (tgt := 30) hx hb dX3_rowsPointingTo_9 (by decide) (fun c_4 => ?_) (fun c_4 => ?_)
      · have hf := ite_t hf c_4
        refine lv_iload_n hx hb dX3_rowsPointingTo_30 rfl (lv_at hl 2 rfl) ?_
        cases hf
        have hf := ho_3.2 _ rfl
        cases hf
        exact mIret hx hb hr hlocks hP hD hK hS dX3_rowsPointingTo_31
      · have hf := ite_f hf c_4
        refine lv_aload_n hx hb dX3_rowsPointingTo_12 rfl (lv_at hl 0 rfl) ?_
        refine lv_iload_n hx hb dX3_rowsPointingTo_13 rfl (lv_at hl 3 rfl) ?_
        obtain ⟨r_5, q_6, hf⟩ := bnd hf
        refine mGoi (w2 := (W_T cI cC cT h0 h1 h2 h3 h4 nr pf ks vs wg ts)) (va_runV (As := [.int v3_2]) (rest := []) ⟨hx, hb, hml, hown, hts⟩ (c_X3_targetAt l D cI cC cT h0 h1 h2 h3 h4 nr pf ks vs wg ts H.size v3_2 r_5 q_6) (cwV 1 hts gX3_rowsPointingTo_X3_targetAt rfl rfl rfl (by decide +kernel) ⟨Nat.le_of_ble_eq_true rfl, Nat.le_of_ble_eq_true rfl⟩) (mPreV hP hD hK hN [0, 1, 2, 3, 4] rfl (by decide) (va_recv hK hP (ci := 3) (q0 := 0) rfl rfl)) rfl rfl hl.1 rfl (lv_room (Nat.le_of_ble_eq_true rfl)) dX3_rowsPointingTo_14 ⟨Nat.zero_le _, Nat.zero_le _⟩) hP hD hS hA [0, 1, 2, 3, 4] rfl rfl rfl rfl (fun H locs hP hD hS => ?_)
        refine lv_iload_n hx hb dX3_rowsPointingTo_17 rfl (lv_at hl 1 rfl) ?_
        obtain ⟨x_7, q_9, hf⟩ := bnd hf
        have K_8 : ∀ (H : Heap) (locs : List Loc), va_P D vwCl (W_T cI cC cT h0 h1 h2 h3 h4 nr pf ks vs wg ts) H → va_D A (W_T cI cC cT h0 h1 h2 h3 h4 nr pf ks vs wg ts) → va_S A s.heap H locs → ∀ (ls : Array Slot), lv_has ls 4 [(0, .ref h0), (1, .int p0), (2, .int x_7), (3, .int v3_2)] → W p l e rm_X3_rowsPointingTo s m ([.ref h0, .int p0] : List Value).toArray below meth c H locs 0 0 (MQ below (mQi D (mTY cI cC cT) out A (W_T cI cC cT h0 h1 h2 h3 h4 nr pf ks vs wg ts)) ([.ref h0, .int p0] : List Value).toArray s 0 0 A) (F0 m 24 ls []) := by
          intro H locs hP hD hS ls hl
          refine lv_iinc (v := v3_2 + 1) (lv' := [(3, .int (v3_2 + 1)), (0, .ref h0), (1, .int p0), (2, .int x_7)]) hx hb dX3_rowsPointingTo_24 hl (k := 3) rfl rfl (by decide) rfl (fun ls hl => ?_)
          refine lv_goto (tgt := 4) hx hb dX3_rowsPointingTo_27 (by decide) ?_
          cases hf
          have hf := ho_3.1 _ rfl
          exact ih_3 _ _ hf _ _ hP hD hS _ (lv_sub hl [1, 2, 3, 0] rfl)
        have hf := q_9
        refine lv_icmp_ne (tgt := 24) hx hb dX3_rowsPointingTo_18 (by decide) (fun c_10 => ?_) (fun c_10 => ?_)
        · have hf := ite_f hf c_10
          cases hf
          exact K_8 _ _ hP hD hS _ (lv_sub hl [0, 1, 2, 3] rfl)
        · have hf := ite_t hf c_10
          refine lv_iinc (v := v2_1 + 1) (lv' := [(2, .int (v2_1 + 1)), (0, .ref h0), (1, .int p0), (3, .int v3_2)]) hx hb dX3_rowsPointingTo_21 hl (k := 2) rfl rfl (by decide) rfl (fun ls hl => ?_)
          cases hf
          exact K_8 _ _ hP hD hS _ (lv_sub hl [1, 2, 0, 3] rfl)
  exact LP_3 _ _ _ hf _ _ hP hD hS _ (lv_sub hl [2, 3, 1, 0] rfl)
def f_X3_setPreference (p0 : Int32) : Option (Int32) := (if isB p0 then some p0 else none)
abbrev rm_X3_setPreference : Room := { frames := 0, cells := 0, slots := 0, locals := 0 }
set_option maxHeartbeats 4000000 in
set_option maxRecDepth 100000 in
theorem c_X3_setPreference (l : Launch) (D : va_G) (cI cC cT : ClassId) (h0 h1 h2 h3 h4 : Nat) (nr : Int32) (pf : Int32) (ks : Nat → Int32) (vs : Nat → Int32) (wg : Nat → Int32) (ts : Nat → Int32) (sz : Nat) (p0 : Int32) (o_pf : Int32) (hf : f_X3_setPreference p0 = some o_pf) : Met l yX3_setPreference wsX3_setPreference rm_X3_setPreference (mP D (mTY cI cC cT) [.ref h0, .int p0] (W_T cI cC cT h0 h1 h2 h3 h4 nr pf ks vs wg ts) sz) (mQv D (mTY cI cC cT) (va_A (W_T cI cC cT h0 h1 h2 h3 h4 nr pf ks vs wg ts) sz) (W_T cI cC cT h0 h1 h2 h3 h4 nr o_pf ks vs wg ts)) 0 0 (va_A (W_T cI cC cT h0 h1 h2 h3 h4 nr pf ks vs wg ts) sz) := by
  refine mEnt (cc := cX3_setPreference) (maxL := 2) (ret := none) (own := RX3) (Qq := fun A => mQv D (mTY cI cC cT) A (W_T cI cC cT h0 h1 h2 h3 h4 nr o_pf ks vs wg ts)) (by decide) rfl rfl (Nat.le_of_ble_eq_true rfl) ?_
  intro p e s m below meth c A ls H locs hx hb hr hml hlocks hown hts hN hA hP hK hD hS hl
  have hin_X3 : ∀ w ∈ u_ws RX3 TX3 6, w ∈ wsX3_setPreference := by decide +kernel
  have fl_32 := hts (.fieldLink RX3 32 "SureMendings$Table" "preferring" "Z") (by decide +kernel)
  have hl : lv_has ls 2 [(0, .ref h0), (1, .int p0)] := hl
  unfold f_X3_setPreference at hf
  refine lv_aload_n hx hb dX3_setPreference_0 rfl (lv_at hl 0 rfl) ?_
  refine lv_iload_n hx hb dX3_setPreference_1 rfl (lv_at hl 1 rfl) ?_
  obtain ⟨h_1, hf⟩ := grd hf
  refine va_put (D := D) (ci := 3) (v := .int p0) (ty := .boolean) (C := RX3) (T := TX3) (N := 6) hx hb hts hin_X3 tyX3 tyX3_ok nmX3 hown hK hP hD hS 0 rfl rfl 5 (by decide) fl_32 (fun _ h9 => h9) rfl (by decide +kernel) (isB_narrow h_1) (isB_fits h_1) (Nat.le_of_ble_eq_true rfl) dX3_setPreference_2 (fun H locs hP hD hS => ?_)
  have hP : va_P D vwCl (W_T cI cC cT h0 h1 h2 h3 h4 nr p0 ks vs wg ts) H := hP
  have hD : va_D A (W_T cI cC cT h0 h1 h2 h3 h4 nr p0 ks vs wg ts) := hD
  cases hf
  exact mVret hx hb hr hlocks hP hD hK hS dX3_setPreference_5
def f_X5_isValue (p0 : Int32) : Option (Int32) := (if p0 < 97 then some 0 else (if 104 < p0 then some 0 else some 1))
abbrev rm_X5_isValue : Room := { frames := 0, cells := 0, slots := 0, locals := 0 }
set_option maxHeartbeats 4000000 in
set_option maxRecDepth 100000 in
theorem c_X5_isValue (l : Launch) (D : va_G) (cI cC cT : ClassId) (sz : Nat) (p0 : Int32) (out : Int32) (hf : f_X5_isValue p0 = some out) : Met l yX5_isValue wsX5_isValue rm_X5_isValue (mP D (mTY cI cC cT) [.int p0] ([] : va_W) sz) (mQi D (mTY cI cC cT) out (va_A ([] : va_W) sz) ([] : va_W)) 0 0 (va_A ([] : va_W) sz) := by
  refine mEnt (cc := cX5_isValue) (maxL := 1) (ret := (some .boolean)) (own := RX5) (Qq := fun A => mQi D (mTY cI cC cT) out A ([] : va_W)) (by decide) rfl rfl (Nat.le_of_ble_eq_true rfl) ?_
  intro p e s m below meth c A ls H locs hx hb hr hml hlocks hown hts hN hA hP hK hD hS hl
  have hl : lv_has ls 1 [(0, .int p0)] := hl
  unfold f_X5_isValue at hf
  refine lv_iload_n hx hb dX5_isValue_0 rfl (lv_at hl 0 rfl) ?_
  refine lv_bipush (v := 97) hx hb dX5_isValue_1 (by decide) ?_
  refine lv_icmp_lt (tgt := 16) hx hb dX5_isValue_3 (by decide) (fun c_1 => ?_) (fun c_1 => ?_)
  · have hf := ite_t hf c_1
    refine lv_iconst (v := 0) hx hb dX5_isValue_16 (by decide) ?_
    cases hf
    exact mZret hx hb hr rfl hlocks hP hD hK hS dX5_isValue_17
  · have hf := ite_f hf c_1
    refine lv_iload_n hx hb dX5_isValue_6 rfl (lv_at hl 0 rfl) ?_
    refine lv_bipush (v := 104) hx hb dX5_isValue_7 (by decide) ?_
    refine lv_icmp_gt (tgt := 16) hx hb dX5_isValue_9 (by decide) (fun c_2 => ?_) (fun c_2 => ?_)
    · have hf := ite_t hf c_2
      refine lv_iconst (v := 0) hx hb dX5_isValue_16 (by decide) ?_
      cases hf
      exact mZret hx hb hr rfl hlocks hP hD hK hS dX5_isValue_17
    · have hf := ite_f hf c_2
      refine lv_iconst (v := 1) hx hb dX5_isValue_12 (by decide) ?_
      refine lv_goto (tgt := 17) hx hb dX5_isValue_13 (by decide) ?_
      cases hf
      exact mZret hx hb hr rfl hlocks hP hD hK hS dX5_isValue_17
def f_X5_oneIf (p0 : Int32) : Option (Int32) := (if p0 = 0 then some 0 else some 1)
abbrev rm_X5_oneIf : Room := { frames := 0, cells := 0, slots := 0, locals := 0 }
set_option maxHeartbeats 4000000 in
set_option maxRecDepth 100000 in
theorem c_X5_oneIf (l : Launch) (D : va_G) (cI cC cT : ClassId) (sz : Nat) (p0 : Int32) (out : Int32) (hf : f_X5_oneIf p0 = some out) : Met l yX5_oneIf wsX5_oneIf rm_X5_oneIf (mP D (mTY cI cC cT) [.int p0] ([] : va_W) sz) (mQi D (mTY cI cC cT) out (va_A ([] : va_W) sz) ([] : va_W)) 0 0 (va_A ([] : va_W) sz) := by
  refine mEnt (cc := cX5_oneIf) (maxL := 1) (ret := (some .int)) (own := RX5) (Qq := fun A => mQi D (mTY cI cC cT) out A ([] : va_W)) (by decide) rfl rfl (Nat.le_of_ble_eq_true rfl) ?_
  intro p e s m below meth c A ls H locs hx hb hr hml hlocks hown hts hN hA hP hK hD hS hl
  have hl : lv_has ls 1 [(0, .int p0)] := hl
  unfold f_X5_oneIf at hf
  refine lv_iload_n hx hb dX5_oneIf_0 rfl (lv_at hl 0 rfl) ?_
  refine lv_if_eq (tgt := 8) hx hb dX5_oneIf_1 (by decide) (fun c_1 => ?_) (fun c_1 => ?_)
  · have hf := ite_t hf c_1
    refine lv_iconst (v := 0) hx hb dX5_oneIf_8 (by decide) ?_
    cases hf
    exact mIret hx hb hr hlocks hP hD hK hS dX5_oneIf_9
  · have hf := ite_f hf c_1
    refine lv_iconst (v := 1) hx hb dX5_oneIf_4 (by decide) ?_
    refine lv_goto (tgt := 9) hx hb dX5_oneIf_5 (by decide) ?_
    cases hf
    exact mIret hx hb hr hlocks hP hD hK hS dX5_oneIf_9
