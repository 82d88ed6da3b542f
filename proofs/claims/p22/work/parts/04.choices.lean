def f_X0_optionsOf (oc : Nat → Int32) (p0 : Int32) : Option (Int32) := (Option.bind (f_X5_at oc p0 10) (fun r_1 => some r_1))
abbrev rm_X0_optionsOf : Room := { frames := 1, cells := 0, slots := 0, locals := 21 }
set_option maxHeartbeats 4000000 in
set_option maxRecDepth 100000 in
theorem c_X0_optionsOf (l : Launch) (D : va_G) (cI cC cT : ClassId) (h0 h1 h2 h3 h4 h5 h6 h7 h8 h9 : Nat) (mn : Int32) (oc : Nat → Int32) (os : Nat → Int32) (sd : Nat → Int32) (tg : Nat → Int32) (nr : Int32) (pf : Int32) (ks : Nat → Int32) (vs : Nat → Int32) (wg : Nat → Int32) (ts : Nat → Int32) (sz : Nat) (p0 : Int32) (out : Int32) (hf : f_X0_optionsOf oc p0 = some out) : Met l yX0_optionsOf wsX0_optionsOf rm_X0_optionsOf (mP D (mTY cI cC cT) [.ref h0, .int p0] (W_C cI cC cT h0 h1 h2 h3 h4 h5 h6 h7 h8 h9 mn oc os sd tg nr pf ks vs wg ts) sz) (mQi D (mTY cI cC cT) out (va_A (W_C cI cC cT h0 h1 h2 h3 h4 h5 h6 h7 h8 h9 mn oc os sd tg nr pf ks vs wg ts) sz) (W_C cI cC cT h0 h1 h2 h3 h4 h5 h6 h7 h8 h9 mn oc os sd tg nr pf ks vs wg ts)) 0 0 (va_A (W_C cI cC cT h0 h1 h2 h3 h4 h5 h6 h7 h8 h9 mn oc os sd tg nr pf ks vs wg ts) sz) := by
  refine mEnt (cc := cX0_optionsOf) (maxL := 2) (ret := (some .int)) (own := RX0) (Qq := fun A => mQi D (mTY cI cC cT) out A (W_C cI cC cT h0 h1 h2 h3 h4 h5 h6 h7 h8 h9 mn oc os sd tg nr pf ks vs wg ts)) (by decide) rfl rfl (Nat.le_of_ble_eq_true rfl) ?_
  intro p e s m below meth c A ls H locs hx hb hr hml hlocks hown hts hN hA hP hK hD hS hl
  have hin_X0 : ∀ w ∈ u_ws RX0 TX0 6, w ∈ wsX0_optionsOf := by decide +kernel
  have fl_9 := hts (.fieldLink RX0 9 "SureMendings$Choices" "optionCounts" "[I") (by decide +kernel)
  have hl : lv_has ls 2 [(0, .ref h0), (1, .int p0)] := hl
  unfold f_X0_optionsOf at hf
  refine lv_aload_n hx hb dX0_optionsOf_0 rfl (lv_at hl 0 rfl) ?_
  refine va_get (D := D) (ci := 0) (v := .ref h1) (C := RX0) (T := TX0) (N := 6) hx hb hts hin_X0 hown hK hP 0 rfl rfl 1 (by decide) fl_9 (fun _ h9 => h9) rfl dX0_optionsOf_1 ?_
  refine lv_iload_n hx hb dX0_optionsOf_4 rfl (lv_at hl 1 rfl) ?_
  obtain ⟨r_1, q_2, hf⟩ := bnd hf
  refine mGoi (w2 := (W_C cI cC cT h0 h1 h2 h3 h4 h5 h6 h7 h8 h9 mn oc os sd tg nr pf ks vs wg ts)) (va_runSN (As := [.ref h1, .int p0]) (rest := []) ⟨hx, hb, hml, hown, hts⟩ (c_X5_at l D cI cC cT 10 h1 oc H.size p0 r_1 q_2) ⟨va_cnB 2 hts gX0_optionsOf_X5_at_n66 rfl rfl rfl (nW_at hN 7 rfl) (hts (.initialized RX5) (by decide +kernel)) (by decide +kernel) ⟨Nat.le_of_ble_eq_true rfl, Nat.le_of_ble_eq_true rfl⟩, hts (.static yX5_at) (by decide +kernel), trivial⟩ (mPreS hP hD hK hN [1] rfl (by decide)) rfl rfl hl.1 rfl (lv_room (Nat.le_of_ble_eq_true rfl)) dX0_optionsOf_5 ⟨Nat.zero_le _, Nat.zero_le _⟩) hP hD hS hA [1] rfl rfl rfl rfl (fun H locs hP hD hS => ?_)
  cases hf
  exact mIret hx hb hr hlocks hP hD hK hS dX0_optionsOf_8
def f_X0_targetBit (ts : Nat → Int32) (p0 : Int32) : Option (Int32) := (Option.bind (f_X3_targetAt ts p0) (fun r_1 => (Option.bind (f_X5_isKey r_1) (fun r_3 => (if r_3 = 0 then some 1024 else some (1 <<< (r_1 &&& 31)))))))
abbrev rm_X0_targetBit : Room := { frames := 2, cells := 0, slots := 0, locals := 42 }
set_option maxHeartbeats 4000000 in
set_option maxRecDepth 100000 in
theorem c_X0_targetBit (l : Launch) (D : va_G) (cI cC cT : ClassId) (h0 h1 h2 h3 h4 h5 h6 h7 h8 h9 : Nat) (mn : Int32) (oc : Nat → Int32) (os : Nat → Int32) (sd : Nat → Int32) (tg : Nat → Int32) (nr : Int32) (pf : Int32) (ks : Nat → Int32) (vs : Nat → Int32) (wg : Nat → Int32) (ts : Nat → Int32) (sz : Nat) (p0 : Int32) (out : Int32) (hf : f_X0_targetBit ts p0 = some out) : Met l yX0_targetBit wsX0_targetBit rm_X0_targetBit (mP D (mTY cI cC cT) [.ref h0, .int p0] (W_C cI cC cT h0 h1 h2 h3 h4 h5 h6 h7 h8 h9 mn oc os sd tg nr pf ks vs wg ts) sz) (mQi D (mTY cI cC cT) out (va_A (W_C cI cC cT h0 h1 h2 h3 h4 h5 h6 h7 h8 h9 mn oc os sd tg nr pf ks vs wg ts) sz) (W_C cI cC cT h0 h1 h2 h3 h4 h5 h6 h7 h8 h9 mn oc os sd tg nr pf ks vs wg ts)) 0 0 (va_A (W_C cI cC cT h0 h1 h2 h3 h4 h5 h6 h7 h8 h9 mn oc os sd tg nr pf ks vs wg ts) sz) := by
  refine mEnt (cc := cX0_targetBit) (maxL := 3) (ret := (some .int)) (own := RX0) (Qq := fun A => mQi D (mTY cI cC cT) out A (W_C cI cC cT h0 h1 h2 h3 h4 h5 h6 h7 h8 h9 mn oc os sd tg nr pf ks vs wg ts)) (by decide) rfl rfl (Nat.le_of_ble_eq_true rfl) ?_
  intro p e s m below meth c A ls H locs hx hb hr hml hlocks hown hts hN hA hP hK hD hS hl
  have hin_X0 : ∀ w ∈ u_ws RX0 TX0 6, w ∈ wsX0_targetBit := by decide +kernel
  have fl_24 := hts (.fieldLink RX0 24 "SureMendings$Choices" "table" "LSureMendings$Table;") (by decide +kernel)
  have hl : lv_has ls 3 [(0, .ref h0), (1, .int p0)] := hl
  unfold f_X0_targetBit at hf
  refine lv_aload_n hx hb dX0_targetBit_0 rfl (lv_at hl 0 rfl) ?_
  refine va_get (D := D) (ci := 0) (v := .ref h5) (C := RX0) (T := TX0) (N := 6) hx hb hts hin_X0 hown hK hP 0 rfl rfl 0 (by decide) fl_24 (fun _ h9 => h9) rfl dX0_targetBit_1 ?_
  refine lv_iload_n hx hb dX0_targetBit_4 rfl (lv_at hl 1 rfl) ?_
  obtain ⟨r_1, q_2, hf⟩ := bnd hf
  refine mGoi (w2 := (W_C cI cC cT h0 h1 h2 h3 h4 h5 h6 h7 h8 h9 mn oc os sd tg nr pf ks vs wg ts)) (va_runV (As := [.int p0]) (rest := []) ⟨hx, hb, hml, hown, hts⟩ (c_X3_targetAt l D cI cC cT h5 h6 h7 h8 h9 nr pf ks vs wg ts H.size p0 r_1 q_2) (cwV 1 hts gX0_targetBit_X3_targetAt rfl rfl rfl (by decide +kernel) ⟨Nat.le_of_ble_eq_true rfl, Nat.le_of_ble_eq_true rfl⟩) (mPreV hP hD hK hN [5, 6, 7, 8, 9] rfl (by decide) (va_recv hK hP (ci := 3) (q0 := 5) rfl rfl)) rfl rfl hl.1 rfl (lv_room (Nat.le_of_ble_eq_true rfl)) dX0_targetBit_5 ⟨Nat.zero_le _, Nat.zero_le _⟩) hP hD hS hA [5, 6, 7, 8, 9] rfl rfl rfl rfl (fun H locs hP hD hS => ?_)
  refine lv_istore_n (lv' := [(2, .int r_1), (0, .ref h0), (1, .int p0)]) hx hb dX0_targetBit_8 rfl hl (by decide) rfl (fun ls hl => ?_)
  refine lv_iload_n hx hb dX0_targetBit_9 rfl (lv_at hl 0 rfl) ?_
  obtain ⟨r_3, q_4, hf⟩ := bnd hf
  refine mGoi (w2 := (W_C cI cC cT h0 h1 h2 h3 h4 h5 h6 h7 h8 h9 mn oc os sd tg nr pf ks vs wg ts)) (va_runSN (As := [.int r_1]) (rest := []) ⟨hx, hb, hml, hown, hts⟩ (c_X5_isKey l D cI cC cT H.size r_1 r_3 q_4) ⟨va_cnB 1 hts gX0_targetBit_X5_isKey_n76 rfl rfl rfl (nW_at hN 9 rfl) (hts (.initialized RX5) (by decide +kernel)) (by decide +kernel) ⟨Nat.le_of_ble_eq_true rfl, Nat.le_of_ble_eq_true rfl⟩, hts (.static yX5_isKey) (by decide +kernel), trivial⟩ (mPreS hP hD hK hN [] rfl (by decide)) rfl rfl hl.1 rfl (lv_room (Nat.le_of_ble_eq_true rfl)) dX0_targetBit_10 ⟨Nat.zero_le _, Nat.zero_le _⟩) hP hD hS hA [] rfl rfl rfl rfl (fun H locs hP hD hS => ?_)
  refine lv_if_eq (tgt := 22) hx hb dX0_targetBit_13 (by decide) (fun c_5 => ?_) (fun c_5 => ?_)
  · have hf := ite_t hf c_5
    refine lv_sipush (v := 1024) hx hb dX0_targetBit_22 (by decide) ?_
    cases hf
    exact mIret hx hb hr hlocks hP hD hK hS dX0_targetBit_25
  · have hf := ite_f hf c_5
    refine lv_iconst (v := 1) hx hb dX0_targetBit_16 (by decide) ?_
    refine lv_iload_n hx hb dX0_targetBit_17 rfl (lv_at hl 0 rfl) ?_
    refine lv_ishl hx hb dX0_targetBit_18 ?_
    refine lv_goto (tgt := 25) hx hb dX0_targetBit_19 (by decide) ?_
    cases hf
    exact mIret hx hb hr hlocks hP hD hK hS dX0_targetBit_25
def f_X0_addOption (oc : Nat → Int32) (os : Nat → Int32) (tg : Nat → Int32) (ts : Nat → Int32) (p0 : Int32) (p1 : Int32) : Option ((Nat → Int32) × (Nat → Int32) × (Nat → Int32)) := (Option.bind (f_X0_optionsOf oc p0) (fun r_1 => (Option.bind (f_X5_put os ((p0 * 20) + r_1) p1 200) (fun u0_3 => (Option.bind (f_X5_put oc p0 (r_1 + 1) 10) (fun u0_5 => (Option.bind (f_X5_at tg p0 10) (fun r_7 => (Option.bind (f_X0_targetBit ts p1) (fun r_9 => (Option.bind (f_X5_put tg p0 (r_7 ||| r_9) 10) (fun u0_11 => some ((u0_5, u0_3, u0_11))))))))))))))
abbrev rm_X0_addOption : Room := { frames := 3, cells := 0, slots := 0, locals := 64 }
set_option maxHeartbeats 4000000 in
set_option maxRecDepth 100000 in
theorem c_X0_addOption (l : Launch) (D : va_G) (cI cC cT : ClassId) (h0 h1 h2 h3 h4 h5 h6 h7 h8 h9 : Nat) (mn : Int32) (oc : Nat → Int32) (os : Nat → Int32) (sd : Nat → Int32) (tg : Nat → Int32) (nr : Int32) (pf : Int32) (ks : Nat → Int32) (vs : Nat → Int32) (wg : Nat → Int32) (ts : Nat → Int32) (sz : Nat) (p0 : Int32) (p1 : Int32) (o_oc : Nat → Int32) (o_os : Nat → Int32) (o_tg : Nat → Int32) (hf : f_X0_addOption oc os tg ts p0 p1 = some ((o_oc, o_os, o_tg))) : Met l yX0_addOption wsX0_addOption rm_X0_addOption (mP D (mTY cI cC cT) [.ref h0, .int p0, .int p1] (W_C cI cC cT h0 h1 h2 h3 h4 h5 h6 h7 h8 h9 mn oc os sd tg nr pf ks vs wg ts) sz) (mQv D (mTY cI cC cT) (va_A (W_C cI cC cT h0 h1 h2 h3 h4 h5 h6 h7 h8 h9 mn oc os sd tg nr pf ks vs wg ts) sz) (W_C cI cC cT h0 h1 h2 h3 h4 h5 h6 h7 h8 h9 mn o_oc o_os sd o_tg nr pf ks vs wg ts)) 0 0 (va_A (W_C cI cC cT h0 h1 h2 h3 h4 h5 h6 h7 h8 h9 mn oc os sd tg nr pf ks vs wg ts) sz) := by
  refine mEnt (cc := cX0_addOption) (maxL := 4) (ret := none) (own := RX0) (Qq := fun A => mQv D (mTY cI cC cT) A (W_C cI cC cT h0 h1 h2 h3 h4 h5 h6 h7 h8 h9 mn o_oc o_os sd o_tg nr pf ks vs wg ts)) (by decide) rfl rfl (Nat.le_of_ble_eq_true rfl) ?_
  intro p e s m below meth c A ls H locs hx hb hr hml hlocks hown hts hN hA hP hK hD hS hl
  have hin_X0 : ∀ w ∈ u_ws RX0 TX0 6, w ∈ wsX0_addOption := by decide +kernel
  have fl_9 := hts (.fieldLink RX0 9 "SureMendings$Choices" "optionCounts" "[I") (by decide +kernel)
  have fl_15 := hts (.fieldLink RX0 15 "SureMendings$Choices" "optionRows" "[I") (by decide +kernel)
  have fl_21 := hts (.fieldLink RX0 21 "SureMendings$Choices" "targetSets" "[I") (by decide +kernel)
  have hl : lv_has ls 4 [(0, .ref h0), (1, .int p0), (2, .int p1)] := hl
  unfold f_X0_addOption at hf
  refine lv_aload_n hx hb dX0_addOption_0 rfl (lv_at hl 0 rfl) ?_
  refine lv_iload_n hx hb dX0_addOption_1 rfl (lv_at hl 1 rfl) ?_
  obtain ⟨r_1, q_2, hf⟩ := bnd hf
  refine mGoi (w2 := (W_C cI cC cT h0 h1 h2 h3 h4 h5 h6 h7 h8 h9 mn oc os sd tg nr pf ks vs wg ts)) (va_runV (As := [.int p0]) (rest := []) ⟨hx, hb, hml, hown, hts⟩ (c_X0_optionsOf l D cI cC cT h0 h1 h2 h3 h4 h5 h6 h7 h8 h9 mn oc os sd tg nr pf ks vs wg ts H.size p0 r_1 q_2) (cwV 1 hts gX0_addOption_X0_optionsOf rfl rfl rfl (by decide +kernel) ⟨Nat.le_of_ble_eq_true rfl, Nat.le_of_ble_eq_true rfl⟩) (mPreV hP hD hK hN [0, 1, 2, 3, 4, 5, 6, 7, 8, 9] rfl (by decide) (va_recv hK hP (ci := 0) (q0 := 0) rfl rfl)) rfl rfl hl.1 rfl (lv_room (Nat.le_of_ble_eq_true rfl)) dX0_addOption_2 ⟨Nat.zero_le _, Nat.zero_le _⟩) hP hD hS hA [0, 1, 2, 3, 4, 5, 6, 7, 8, 9] rfl rfl rfl rfl (fun H locs hP hD hS => ?_)
  refine lv_istore_n (lv' := [(3, .int r_1), (0, .ref h0), (1, .int p0), (2, .int p1)]) hx hb dX0_addOption_5 rfl hl (by decide) rfl (fun ls hl => ?_)
  refine lv_aload_n hx hb dX0_addOption_6 rfl (lv_at hl 1 rfl) ?_
  refine va_get (D := D) (ci := 0) (v := .ref h2) (C := RX0) (T := TX0) (N := 6) hx hb hts hin_X0 hown hK hP 0 rfl rfl 2 (by decide) fl_15 (fun _ h9 => h9) rfl dX0_addOption_7 ?_
  refine lv_iload_n hx hb dX0_addOption_10 rfl (lv_at hl 2 rfl) ?_
  refine lv_bipush (v := 20) hx hb dX0_addOption_11 (by decide) ?_
  refine lv_imul hx hb dX0_addOption_13 ?_
  refine lv_iload_n hx hb dX0_addOption_14 rfl (lv_at hl 0 rfl) ?_
  refine lv_iadd hx hb dX0_addOption_15 ?_
  refine lv_iload_n hx hb dX0_addOption_16 rfl (lv_at hl 3 rfl) ?_
  obtain ⟨u0_3, q_4, hf⟩ := bnd hf
  refine mGov (w2 := (W_C cI cC cT h0 h1 h2 h3 h4 h5 h6 h7 h8 h9 mn oc u0_3 sd tg nr pf ks vs wg ts)) (va_runSN (As := [.ref h2, .int ((p0 * 20) + r_1), .int p1]) (rest := []) ⟨hx, hb, hml, hown, hts⟩ (c_X5_put l D cI cC cT 200 h2 os H.size ((p0 * 20) + r_1) p1 u0_3 q_4) ⟨va_cnB 3 hts gX0_addOption_X5_put_n56 rfl rfl rfl (nW_at hN 8 rfl) (hts (.initialized RX5) (by decide +kernel)) (by decide +kernel) ⟨Nat.le_of_ble_eq_true rfl, Nat.le_of_ble_eq_true rfl⟩, hts (.static yX5_put) (by decide +kernel), trivial⟩ (mPreS hP hD hK hN [2] rfl (by decide)) rfl rfl hl.1 rfl (lv_room (Nat.le_of_ble_eq_true rfl)) dX0_addOption_17 ⟨Nat.zero_le _, Nat.zero_le _⟩) hP hD hS hA [2] rfl rfl rfl rfl (fun H locs hP hD hS => ?_)
  refine lv_aload_n hx hb dX0_addOption_20 rfl (lv_at hl 1 rfl) ?_
  refine va_get (D := D) (ci := 0) (v := .ref h1) (C := RX0) (T := TX0) (N := 6) hx hb hts hin_X0 hown hK hP 0 rfl rfl 1 (by decide) fl_9 (fun _ h9 => h9) rfl dX0_addOption_21 ?_
  refine lv_iload_n hx hb dX0_addOption_24 rfl (lv_at hl 2 rfl) ?_
  refine lv_iload_n hx hb dX0_addOption_25 rfl (lv_at hl 0 rfl) ?_
  refine lv_iconst (v := 1) hx hb dX0_addOption_26 (by decide) ?_
  refine lv_iadd hx hb dX0_addOption_27 ?_
  obtain ⟨u0_5, q_6, hf⟩ := bnd hf
  refine mGov (w2 := (W_C cI cC cT h0 h1 h2 h3 h4 h5 h6 h7 h8 h9 mn u0_5 u0_3 sd tg nr pf ks vs wg ts)) (va_runSN (As := [.ref h1, .int p0, .int (r_1 + 1)]) (rest := []) ⟨hx, hb, hml, hown, hts⟩ (c_X5_put l D cI cC cT 10 h1 oc H.size p0 (r_1 + 1) u0_5 q_6) ⟨va_cnB 3 hts gX0_addOption_X5_put_n56 rfl rfl rfl (nW_at hN 8 rfl) (hts (.initialized RX5) (by decide +kernel)) (by decide +kernel) ⟨Nat.le_of_ble_eq_true rfl, Nat.le_of_ble_eq_true rfl⟩, hts (.static yX5_put) (by decide +kernel), trivial⟩ (mPreS hP hD hK hN [1] rfl (by decide)) rfl rfl hl.1 rfl (lv_room (Nat.le_of_ble_eq_true rfl)) dX0_addOption_28 ⟨Nat.zero_le _, Nat.zero_le _⟩) hP hD hS hA [1] rfl rfl rfl rfl (fun H locs hP hD hS => ?_)
  refine lv_aload_n hx hb dX0_addOption_31 rfl (lv_at hl 1 rfl) ?_
  refine va_get (D := D) (ci := 0) (v := .ref h4) (C := RX0) (T := TX0) (N := 6) hx hb hts hin_X0 hown hK hP 0 rfl rfl 4 (by decide) fl_21 (fun _ h9 => h9) rfl dX0_addOption_32 ?_
  refine lv_iload_n hx hb dX0_addOption_35 rfl (lv_at hl 2 rfl) ?_
  refine lv_aload_n hx hb dX0_addOption_36 rfl (lv_at hl 1 rfl) ?_
  refine va_get (D := D) (ci := 0) (v := .ref h4) (C := RX0) (T := TX0) (N := 6) hx hb hts hin_X0 hown hK hP 0 rfl rfl 4 (by decide) fl_21 (fun _ h9 => h9) rfl dX0_addOption_37 ?_
  refine lv_iload_n hx hb dX0_addOption_40 rfl (lv_at hl 2 rfl) ?_
  obtain ⟨r_7, q_8, hf⟩ := bnd hf
  refine mGoi (w2 := (W_C cI cC cT h0 h1 h2 h3 h4 h5 h6 h7 h8 h9 mn u0_5 u0_3 sd tg nr pf ks vs wg ts)) (va_runSN (As := [.ref h4, .int p0]) (rest := [.int p0, .ref h4]) ⟨hx, hb, hml, hown, hts⟩ (c_X5_at l D cI cC cT 10 h4 tg H.size p0 r_7 q_8) ⟨va_cnB 2 hts gX0_addOption_X5_at_n66 rfl rfl rfl (nW_at hN 7 rfl) (hts (.initialized RX5) (by decide +kernel)) (by decide +kernel) ⟨Nat.le_of_ble_eq_true rfl, Nat.le_of_ble_eq_true rfl⟩, hts (.static yX5_at) (by decide +kernel), trivial⟩ (mPreS hP hD hK hN [4] rfl (by decide)) rfl rfl hl.1 rfl (lv_room (Nat.le_of_ble_eq_true rfl)) dX0_addOption_41 ⟨Nat.zero_le _, Nat.zero_le _⟩) hP hD hS hA [4] rfl rfl rfl rfl (fun H locs hP hD hS => ?_)
  refine lv_aload_n hx hb dX0_addOption_44 rfl (lv_at hl 1 rfl) ?_
  refine lv_iload_n hx hb dX0_addOption_45 rfl (lv_at hl 3 rfl) ?_
  obtain ⟨r_9, q_10, hf⟩ := bnd hf
  refine mGoi (w2 := (W_C cI cC cT h0 h1 h2 h3 h4 h5 h6 h7 h8 h9 mn u0_5 u0_3 sd tg nr pf ks vs wg ts)) (va_runV (As := [.int p1]) (rest := [.int r_7, .int p0, .ref h4]) ⟨hx, hb, hml, hown, hts⟩ (c_X0_targetBit l D cI cC cT h0 h1 h2 h3 h4 h5 h6 h7 h8 h9 mn u0_5 u0_3 sd tg nr pf ks vs wg ts H.size p1 r_9 q_10) (cwV 1 hts gX0_addOption_X0_targetBit rfl rfl rfl (by decide +kernel) ⟨Nat.le_of_ble_eq_true rfl, Nat.le_of_ble_eq_true rfl⟩) (mPreV hP hD hK hN [0, 1, 2, 3, 4, 5, 6, 7, 8, 9] rfl (by decide) (va_recv hK hP (ci := 0) (q0 := 0) rfl rfl)) rfl rfl hl.1 rfl (lv_room (Nat.le_of_ble_eq_true rfl)) dX0_addOption_46 ⟨Nat.zero_le _, Nat.zero_le _⟩) hP hD hS hA [0, 1, 2, 3, 4, 5, 6, 7, 8, 9] rfl rfl rfl rfl (fun H locs hP hD hS => ?_)
  refine lv_ior hx hb dX0_addOption_49 ?_
  obtain ⟨u0_11, q_12, hf⟩ := bnd hf
  refine mGov (w2 := (W_C cI cC cT h0 h1 h2 h3 h4 h5 h6 h7 h8 h9 mn u0_5 u0_3 sd u0_11 nr pf ks vs wg ts)) (va_runSN (As := [.ref h4, .int p0, .int (r_7 ||| r_9)]) (rest := []) ⟨hx, hb, hml, hown, hts⟩ (c_X5_put l D cI cC cT 10 h4 tg H.size p0 (r_7 ||| r_9) u0_11 q_12) ⟨va_cnB 3 hts gX0_addOption_X5_put_n56 rfl rfl rfl (nW_at hN 8 rfl) (hts (.initialized RX5) (by decide +kernel)) (by decide +kernel) ⟨Nat.le_of_ble_eq_true rfl, Nat.le_of_ble_eq_true rfl⟩, hts (.static yX5_put) (by decide +kernel), trivial⟩ (mPreS hP hD hK hN [4] rfl (by decide)) rfl rfl hl.1 rfl (lv_room (Nat.le_of_ble_eq_true rfl)) dX0_addOption_50 ⟨Nat.zero_le _, Nat.zero_le _⟩) hP hD hS hA [4] rfl rfl rfl rfl (fun H locs hP hD hS => ?_)
  cases hf
  exact mVret hx hb hr hlocks hP hD hK hS dX0_addOption_53
def f_X0_contains (p0 : Int32) (p1 : Int32) : Option (Int32) := (if (p0 &&& (1 <<< (p1 &&& 31))) = 0 then some 0 else some 1)
abbrev rm_X0_contains : Room := { frames := 0, cells := 0, slots := 0, locals := 0 }
set_option maxHeartbeats 4000000 in
set_option maxRecDepth 100000 in
theorem c_X0_contains (l : Launch) (D : va_G) (cI cC cT : ClassId) (sz : Nat) (p0 : Int32) (p1 : Int32) (out : Int32) (hf : f_X0_contains p0 p1 = some out) : Met l yX0_contains wsX0_contains rm_X0_contains (mP D (mTY cI cC cT) [.int p0, .int p1] ([] : va_W) sz) (mQi D (mTY cI cC cT) out (va_A ([] : va_W) sz) ([] : va_W)) 0 0 (va_A ([] : va_W) sz) := by
  refine mEnt (cc := cX0_contains) (maxL := 2) (ret := (some .boolean)) (own := RX0) (Qq := fun A => mQi D (mTY cI cC cT) out A ([] : va_W)) (by decide) rfl rfl (Nat.le_of_ble_eq_true rfl) ?_
  intro p e s m below meth c A ls H locs hx hb hr hml hlocks hown hts hN hA hP hK hD hS hl
  have hl : lv_has ls 2 [(0, .int p0), (1, .int p1)] := hl
  unfold f_X0_contains at hf
  refine lv_iload_n hx hb dX0_contains_0 rfl (lv_at hl 0 rfl) ?_
  refine lv_iconst (v := 1) hx hb dX0_contains_1 (by decide) ?_
  refine lv_iload_n hx hb dX0_contains_2 rfl (lv_at hl 1 rfl) ?_
  refine lv_ishl hx hb dX0_contains_3 ?_
  refine lv_iand hx hb dX0_contains_4 ?_
  refine lv_if_eq (tgt := 12) hx hb dX0_contains_5 (by decide) (fun c_1 => ?_) (fun c_1 => ?_)
  · have hf := ite_t hf c_1
    refine lv_iconst (v := 0) hx hb dX0_contains_12 (by decide) ?_
    cases hf
    exact mZret hx hb hr rfl hlocks hP hD hK hS dX0_contains_13
  · have hf := ite_f hf c_1
    refine lv_iconst (v := 1) hx hb dX0_contains_8 (by decide) ?_
    refine lv_goto (tgt := 13) hx hb dX0_contains_9 (by decide) ?_
    cases hf
    exact mZret hx hb hr rfl hlocks hP hD hK hS dX0_contains_13
def f_X0_isThere (oc : Nat → Int32) (p0 : Int32) : Option (Int32) := (Option.bind (f_X0_optionsOf oc p0) (fun r_1 => (if r_1 ≤ 0 then some 0 else some 1)))
abbrev rm_X0_isThere : Room := { frames := 2, cells := 0, slots := 0, locals := 42 }
set_option maxHeartbeats 4000000 in
set_option maxRecDepth 100000 in
theorem c_X0_isThere (l : Launch) (D : va_G) (cI cC cT : ClassId) (h0 h1 h2 h3 h4 h5 h6 h7 h8 h9 : Nat) (mn : Int32) (oc : Nat → Int32) (os : Nat → Int32) (sd : Nat → Int32) (tg : Nat → Int32) (nr : Int32) (pf : Int32) (ks : Nat → Int32) (vs : Nat → Int32) (wg : Nat → Int32) (ts : Nat → Int32) (sz : Nat) (p0 : Int32) (out : Int32) (hf : f_X0_isThere oc p0 = some out) : Met l yX0_isThere wsX0_isThere rm_X0_isThere (mP D (mTY cI cC cT) [.ref h0, .int p0] (W_C cI cC cT h0 h1 h2 h3 h4 h5 h6 h7 h8 h9 mn oc os sd tg nr pf ks vs wg ts) sz) (mQi D (mTY cI cC cT) out (va_A (W_C cI cC cT h0 h1 h2 h3 h4 h5 h6 h7 h8 h9 mn oc os sd tg nr pf ks vs wg ts) sz) (W_C cI cC cT h0 h1 h2 h3 h4 h5 h6 h7 h8 h9 mn oc os sd tg nr pf ks vs wg ts)) 0 0 (va_A (W_C cI cC cT h0 h1 h2 h3 h4 h5 h6 h7 h8 h9 mn oc os sd tg nr pf ks vs wg ts) sz) := by
  refine mEnt (cc := cX0_isThere) (maxL := 2) (ret := (some .boolean)) (own := RX0) (Qq := fun A => mQi D (mTY cI cC cT) out A (W_C cI cC cT h0 h1 h2 h3 h4 h5 h6 h7 h8 h9 mn oc os sd tg nr pf ks vs wg ts)) (by decide) rfl rfl (Nat.le_of_ble_eq_true rfl) ?_
  intro p e s m below meth c A ls H locs hx hb hr hml hlocks hown hts hN hA hP hK hD hS hl
  have hl : lv_has ls 2 [(0, .ref h0), (1, .int p0)] := hl
  unfold f_X0_isThere at hf
  refine lv_aload_n hx hb dX0_isThere_0 rfl (lv_at hl 0 rfl) ?_
  refine lv_iload_n hx hb dX0_isThere_1 rfl (lv_at hl 1 rfl) ?_
  obtain ⟨r_1, q_2, hf⟩ := bnd hf
  refine mGoi (w2 := (W_C cI cC cT h0 h1 h2 h3 h4 h5 h6 h7 h8 h9 mn oc os sd tg nr pf ks vs wg ts)) (va_runV (As := [.int p0]) (rest := []) ⟨hx, hb, hml, hown, hts⟩ (c_X0_optionsOf l D cI cC cT h0 h1 h2 h3 h4 h5 h6 h7 h8 h9 mn oc os sd tg nr pf ks vs wg ts H.size p0 r_1 q_2) (cwV 1 hts gX0_isThere_X0_optionsOf rfl rfl rfl (by decide +kernel) ⟨Nat.le_of_ble_eq_true rfl, Nat.le_of_ble_eq_true rfl⟩) (mPreV hP hD hK hN [0, 1, 2, 3, 4, 5, 6, 7, 8, 9] rfl (by decide) (va_recv hK hP (ci := 0) (q0 := 0) rfl rfl)) rfl rfl hl.1 rfl (lv_room (Nat.le_of_ble_eq_true rfl)) dX0_isThere_2 ⟨Nat.zero_le _, Nat.zero_le _⟩) hP hD hS hA [0, 1, 2, 3, 4, 5, 6, 7, 8, 9] rfl rfl rfl rfl (fun H locs hP hD hS => ?_)
  refine lv_if_le (tgt := 12) hx hb dX0_isThere_5 (by decide) (fun c_3 => ?_) (fun c_3 => ?_)
  · have hf := ite_t hf c_3
    refine lv_iconst (v := 0) hx hb dX0_isThere_12 (by decide) ?_
    cases hf
    exact mZret hx hb hr rfl hlocks hP hD hK hS dX0_isThere_13
  · have hf := ite_f hf c_3
    refine lv_iconst (v := 1) hx hb dX0_isThere_8 (by decide) ?_
    refine lv_goto (tgt := 13) hx hb dX0_isThere_9 (by decide) ?_
    cases hf
    exact mZret hx hb hr rfl hlocks hP hD hK hS dX0_isThere_13
def f_X0_option (os : Nat → Int32) (p0 : Int32) (p1 : Int32) : Option (Int32) := (Option.bind (f_X5_at os ((p0 * 20) + p1) 200) (fun r_1 => some r_1))
abbrev rm_X0_option : Room := { frames := 1, cells := 0, slots := 0, locals := 21 }
set_option maxHeartbeats 4000000 in
set_option maxRecDepth 100000 in
theorem c_X0_option (l : Launch) (D : va_G) (cI cC cT : ClassId) (h0 h1 h2 h3 h4 h5 h6 h7 h8 h9 : Nat) (mn : Int32) (oc : Nat → Int32) (os : Nat → Int32) (sd : Nat → Int32) (tg : Nat → Int32) (nr : Int32) (pf : Int32) (ks : Nat → Int32) (vs : Nat → Int32) (wg : Nat → Int32) (ts : Nat → Int32) (sz : Nat) (p0 : Int32) (p1 : Int32) (out : Int32) (hf : f_X0_option os p0 p1 = some out) : Met l yX0_option wsX0_option rm_X0_option (mP D (mTY cI cC cT) [.ref h0, .int p0, .int p1] (W_C cI cC cT h0 h1 h2 h3 h4 h5 h6 h7 h8 h9 mn oc os sd tg nr pf ks vs wg ts) sz) (mQi D (mTY cI cC cT) out (va_A (W_C cI cC cT h0 h1 h2 h3 h4 h5 h6 h7 h8 h9 mn oc os sd tg nr pf ks vs wg ts) sz) (W_C cI cC cT h0 h1 h2 h3 h4 h5 h6 h7 h8 h9 mn oc os sd tg nr pf ks vs wg ts)) 0 0 (va_A (W_C cI cC cT h0 h1 h2 h3 h4 h5 h6 h7 h8 h9 mn oc os sd tg nr pf ks vs wg ts) sz) := by
  refine mEnt (cc := cX0_option) (maxL := 3) (ret := (some .int)) (own := RX0) (Qq := fun A => mQi D (mTY cI cC cT) out A (W_C cI cC cT h0 h1 h2 h3 h4 h5 h6 h7 h8 h9 mn oc os sd tg nr pf ks vs wg ts)) (by decide) rfl rfl (Nat.le_of_ble_eq_true rfl) ?_
  intro p e s m below meth c A ls H locs hx hb hr hml hlocks hown hts hN hA hP hK hD hS hl
  have hin_X0 : ∀ w ∈ u_ws RX0 TX0 6, w ∈ wsX0_option := by decide +kernel
  have fl_15 := hts (.fieldLink RX0 15 "SureMendings$Choices" "optionRows" "[I") (by decide +kernel)
  have hl : lv_has ls 3 [(0, .ref h0), (1, .int p0), (2, .int p1)] := hl
  unfold f_X0_option at hf
  refine lv_aload_n hx hb dX0_option_0 rfl (lv_at hl 0 rfl) ?_
  refine va_get (D := D) (ci := 0) (v := .ref h2) (C := RX0) (T := TX0) (N := 6) hx hb hts hin_X0 hown hK hP 0 rfl rfl 2 (by decide) fl_15 (fun _ h9 => h9) rfl dX0_option_1 ?_
  refine lv_iload_n hx hb dX0_option_4 rfl (lv_at hl 1 rfl) ?_
  refine lv_bipush (v := 20) hx hb dX0_option_5 (by decide) ?_
  refine lv_imul hx hb dX0_option_7 ?_
  refine lv_iload_n hx hb dX0_option_8 rfl (lv_at hl 2 rfl) ?_
  refine lv_iadd hx hb dX0_option_9 ?_
  obtain ⟨r_1, q_2, hf⟩ := bnd hf
  refine mGoi (w2 := (W_C cI cC cT h0 h1 h2 h3 h4 h5 h6 h7 h8 h9 mn oc os sd tg nr pf ks vs wg ts)) (va_runSN (As := [.ref h2, .int ((p0 * 20) + p1)]) (rest := []) ⟨hx, hb, hml, hown, hts⟩ (c_X5_at l D cI cC cT 200 h2 os H.size ((p0 * 20) + p1) r_1 q_2) ⟨va_cnB 2 hts gX0_option_X5_at_n66 rfl rfl rfl (nW_at hN 7 rfl) (hts (.initialized RX5) (by decide +kernel)) (by decide +kernel) ⟨Nat.le_of_ble_eq_true rfl, Nat.le_of_ble_eq_true rfl⟩, hts (.static yX5_at) (by decide +kernel), trivial⟩ (mPreS hP hD hK hN [2] rfl (by decide)) rfl rfl hl.1 rfl (lv_room (Nat.le_of_ble_eq_true rfl)) dX0_option_10 ⟨Nat.zero_le _, Nat.zero_le _⟩) hP hD hS hA [2] rfl rfl rfl rfl (fun H locs hP hD hS => ?_)
  cases hf
  exact mIret hx hb hr hlocks hP hD hK hS dX0_option_13
def b_X0_optionsWith_1 (oc : Nat → Int32) (os : Nat → Int32) (vs : Nat → Int32) (p0 : Int32) (p1 : Int32) (z : Int32 × Int32) : Option ((Int32 × Int32) ⊕ (Int32)) := match z with
  | (v3_1, v4_2) => (Option.bind (f_X0_optionsOf oc p0) (fun r_4 => (if r_4 ≤ v4_2 then some (.inr v3_1) else (Option.bind (f_X0_option os p0 v4_2) (fun r_7 => (Option.bind (f_X3_valueAt vs r_7) (fun r_9 => (Option.bind (α := Int32) ((if r_9 = p1 then some (v3_1 + 1) else some v3_1)) (fun x_11 => some (.inl ((x_11, v4_2 + 1))))))))))))
def f_X0_optionsWith (oc : Nat → Int32) (os : Nat → Int32) (vs : Nat → Int32) (p0 : Int32) (p1 : Int32) : Option (Int32) := iter fuel (b_X0_optionsWith_1 oc os vs p0 p1) ((0, 0))
abbrev rm_X0_optionsWith : Room := { frames := 2, cells := 0, slots := 0, locals := 43 }
set_option maxHeartbeats 4000000 in
set_option maxRecDepth 100000 in
theorem c_X0_optionsWith (l : Launch) (D : va_G) (cI cC cT : ClassId) (h0 h1 h2 h3 h4 h5 h6 h7 h8 h9 : Nat) (mn : Int32) (oc : Nat → Int32) (os : Nat → Int32) (sd : Nat → Int32) (tg : Nat → Int32) (nr : Int32) (pf : Int32) (ks : Nat → Int32) (vs : Nat → Int32) (wg : Nat → Int32) (ts : Nat → Int32) (sz : Nat) (p0 : Int32) (p1 : Int32) (out : Int32) (hf : f_X0_optionsWith oc os vs p0 p1 = some out) : Met l yX0_optionsWith wsX0_optionsWith rm_X0_optionsWith (mP D (mTY cI cC cT) [.ref h0, .int p0, .int p1] (W_C cI cC cT h0 h1 h2 h3 h4 h5 h6 h7 h8 h9 mn oc os sd tg nr pf ks vs wg ts) sz) (mQi D (mTY cI cC cT) out (va_A (W_C cI cC cT h0 h1 h2 h3 h4 h5 h6 h7 h8 h9 mn oc os sd tg nr pf ks vs wg ts) sz) (W_C cI cC cT h0 h1 h2 h3 h4 h5 h6 h7 h8 h9 mn oc os sd tg nr pf ks vs wg ts)) 0 0 (va_A (W_C cI cC cT h0 h1 h2 h3 h4 h5 h6 h7 h8 h9 mn oc os sd tg nr pf ks vs wg ts) sz) := by
  refine mEnt (cc := cX0_optionsWith) (maxL := 5) (ret := (some .int)) (own := RX0) (Qq := fun A => mQi D (mTY cI cC cT) out A (W_C cI cC cT h0 h1 h2 h3 h4 h5 h6 h7 h8 h9 mn oc os sd tg nr pf ks vs wg ts)) (by decide) rfl rfl (Nat.le_of_ble_eq_true rfl) ?_
  intro p e s m below meth c A ls H locs hx hb hr hml hlocks hown hts hN hA hP hK hD hS hl
  have hin_X0 : ∀ w ∈ u_ws RX0 TX0 6, w ∈ wsX0_optionsWith := by decide +kernel
  have fl_24 := hts (.fieldLink RX0 24 "SureMendings$Choices" "table" "LSureMendings$Table;") (by decide +kernel)
  have hl : lv_has ls 5 [(0, .ref h0), (1, .int p0), (2, .int p1)] := hl
  unfold f_X0_optionsWith at hf
  refine lv_iconst (v := 0) hx hb dX0_optionsWith_0 (by decide) ?_
  refine lv_istore_n (lv' := [(3, .int 0), (0, .ref h0), (1, .int p0), (2, .int p1)]) hx hb dX0_optionsWith_1 rfl hl (by decide) rfl (fun ls hl => ?_)
  refine lv_iconst (v := 0) hx hb dX0_optionsWith_2 (by decide) ?_
  refine lv_istore (lv' := [(4, .int 0), (3, .int 0), (0, .ref h0), (1, .int p0), (2, .int p1)]) hx hb dX0_optionsWith_3 hl (by decide) rfl (fun ls hl => ?_)
  have LP_3 : ∀ (n_3 : Nat) (v3_1 : Int32) (v4_2 : Int32), iter n_3 (b_X0_optionsWith_1 oc os vs p0 p1) ((v3_1, v4_2)) = some out → ∀ (H : Heap) (locs : List Loc), va_P D vwCl (W_C cI cC cT h0 h1 h2 h3 h4 h5 h6 h7 h8 h9 mn oc os sd tg nr pf ks vs wg ts) H → va_D A (W_C cI cC cT h0 h1 h2 h3 h4 h5 h6 h7 h8 h9 mn oc os sd tg nr pf ks vs wg ts) → va_S A s.heap H locs → ∀ (ls : Array Slot), lv_has ls 5 [(0, .ref h0), (1, .int p0), (2, .int p1), (3, .int v3_1), (4, .int v4_2)] → W p l e rm_X0_optionsWith s m ([.ref h0, .int p0, .int p1] : List Value).toArray below meth c H locs 0 0 (MQ below (mQi D (mTY cI cC cT) out A (W_C cI cC cT h0 h1 h2 h3 h4 h5 h6 h7 h8 h9 mn oc os sd tg nr pf ks vs wg ts)) ([.ref h0, .int p0, .int p1] : List Value).toArray s 0 0 A) (F0 m 5 ls []) := by
    intro n_3
    induction n_3 with
    | zero => intro v3_1 v4_2 hf; exact (iter_zero hf).elim
    | succ n_3 ih_3 =>
      intro v3_1 v4_2 hf H locs hP hD hS ls hl
      obtain ⟨o_3, hf, ho_3⟩ := iter_succ hf
      dsimp only [b_X0_optionsWith_1] at hf
      refine lv_iload hx hb dX0_optionsWith_5 (lv_at hl 4 rfl) ?_
      refine lv_aload_n hx hb dX0_optionsWith_7 rfl (lv_at hl 0 rfl) ?_
      refine lv_iload_n hx hb dX0_optionsWith_8 rfl (lv_at hl 1 rfl) ?_
      obtain ⟨r_4, q_5, hf⟩ := bnd hf
      refine mGoi (w2 := (W_C cI cC cT h0 h1 h2 h3 h4 h5 h6 h7 h8 h9 mn oc os sd tg nr pf ks vs wg ts)) (va_runV (As := [.int p0]) (rest := [.int v4_2]) ⟨hx, hb, hml, hown, hts⟩ (c_X0_optionsOf l D cI cC cT h0 h1 h2 h3 h4 h5 h6 h7 h8 h9 mn oc os sd tg nr pf ks vs wg ts H.size p0 r_4 q_5) (cwV 1 hts gX0_optionsWith_X0_optionsOf rfl rfl rfl (by decide +kernel) ⟨Nat.le_of_ble_eq_true rfl, Nat.le_of_ble_eq_true rfl⟩) (mPreV hP hD hK hN [0, 1, 2, 3, 4, 5, 6, 7, 8, 9] rfl (by decide) (va_recv hK hP (ci := 0) (q0 := 0) rfl rfl)) rfl rfl hl.1 rfl (lv_room (Nat.le_of_ble_eq_true rfl)) dX0_optionsWith_9 ⟨Nat.zero_le _, Nat.zero_le _⟩) hP hD hS hA [0, 1, 2, 3, 4, 5, 6, 7, 8, 9] rfl rfl rfl rfl (fun H locs hP hD hS => ?_)
      refine lv_icmp_ge (tgt := 42) hx hb dX0_optionsWith_12 (by decide) (fun c_6 => ?_) (fun c_6 => ?_)
      · have hf := ite_t hf c_6
        refine lv_iload_n hx hb dX0_optionsWith_42 rfl (lv_at hl 3 rfl) ?_
        cases hf
        have hf := ho_3.2 _ rfl
        cases hf
        exact mIret hx hb hr hlocks hP hD hK hS dX0_optionsWith_43
      · have hf := ite_f hf c_6
        refine lv_aload_n hx hb dX0_optionsWith_15 rfl (lv_at hl 0 rfl) ?_
        refine va_get (D := D) (ci := 0) (v := .ref h5) (C := RX0) (T := TX0) (N := 6) hx hb hts hin_X0 hown hK hP 0 rfl rfl 0 (by decide) fl_24 (fun _ h9 => h9) rfl dX0_optionsWith_16 ?_
        refine lv_aload_n hx hb dX0_optionsWith_19 rfl (lv_at hl 0 rfl) ?_
        refine lv_iload_n hx hb dX0_optionsWith_20 rfl (lv_at hl 1 rfl) ?_
        refine lv_iload hx hb dX0_optionsWith_21 (lv_at hl 4 rfl) ?_
        obtain ⟨r_7, q_8, hf⟩ := bnd hf
        refine mGoi (w2 := (W_C cI cC cT h0 h1 h2 h3 h4 h5 h6 h7 h8 h9 mn oc os sd tg nr pf ks vs wg ts)) (va_runV (As := [.int p0, .int v4_2]) (rest := [.ref h5]) ⟨hx, hb, hml, hown, hts⟩ (c_X0_option l D cI cC cT h0 h1 h2 h3 h4 h5 h6 h7 h8 h9 mn oc os sd tg nr pf ks vs wg ts H.size p0 v4_2 r_7 q_8) (cwV 2 hts gX0_optionsWith_X0_option rfl rfl rfl (by decide +kernel) ⟨Nat.le_of_ble_eq_true rfl, Nat.le_of_ble_eq_true rfl⟩) (mPreV hP hD hK hN [0, 1, 2, 3, 4, 5, 6, 7, 8, 9] rfl (by decide) (va_recv hK hP (ci := 0) (q0 := 0) rfl rfl)) rfl rfl hl.1 rfl (lv_room (Nat.le_of_ble_eq_true rfl)) dX0_optionsWith_23 ⟨Nat.zero_le _, Nat.zero_le _⟩) hP hD hS hA [0, 1, 2, 3, 4, 5, 6, 7, 8, 9] rfl rfl rfl rfl (fun H locs hP hD hS => ?_)
        obtain ⟨r_9, q_10, hf⟩ := bnd hf
        refine mGoi (w2 := (W_C cI cC cT h0 h1 h2 h3 h4 h5 h6 h7 h8 h9 mn oc os sd tg nr pf ks vs wg ts)) (va_runV (As := [.int r_7]) (rest := []) ⟨hx, hb, hml, hown, hts⟩ (c_X3_valueAt l D cI cC cT h5 h6 h7 h8 h9 nr pf ks vs wg ts H.size r_7 r_9 q_10) (cwV 1 hts gX0_optionsWith_X3_valueAt rfl rfl rfl (by decide +kernel) ⟨Nat.le_of_ble_eq_true rfl, Nat.le_of_ble_eq_true rfl⟩) (mPreV hP hD hK hN [5, 6, 7, 8, 9] rfl (by decide) (va_recv hK hP (ci := 3) (q0 := 5) rfl rfl)) rfl rfl hl.1 rfl (lv_room (Nat.le_of_ble_eq_true rfl)) dX0_optionsWith_26 ⟨Nat.zero_le _, Nat.zero_le _⟩) hP hD hS hA [5, 6, 7, 8, 9] rfl rfl rfl rfl (fun H locs hP hD hS => ?_)
        refine lv_iload_n hx hb dX0_optionsWith_29 rfl (lv_at hl 2 rfl) ?_
        obtain ⟨x_11, q_13, hf⟩ := bnd hf
        have K_12 : ∀ (H : Heap) (locs : List Loc), va_P D vwCl (W_C cI cC cT h0 h1 h2 h3 h4 h5 h6 h7 h8 h9 mn oc os sd tg nr pf ks vs wg ts) H → va_D A (W_C cI cC cT h0 h1 h2 h3 h4 h5 h6 h7 h8 h9 mn oc os sd tg nr pf ks vs wg ts) → va_S A s.heap H locs → ∀ (ls : Array Slot), lv_has ls 5 [(0, .ref h0), (1, .int p0), (2, .int p1), (3, .int x_11), (4, .int v4_2)] → W p l e rm_X0_optionsWith s m ([.ref h0, .int p0, .int p1] : List Value).toArray below meth c H locs 0 0 (MQ below (mQi D (mTY cI cC cT) out A (W_C cI cC cT h0 h1 h2 h3 h4 h5 h6 h7 h8 h9 mn oc os sd tg nr pf ks vs wg ts)) ([.ref h0, .int p0, .int p1] : List Value).toArray s 0 0 A) (F0 m 36 ls []) := by
          intro H locs hP hD hS ls hl
          refine lv_iinc (v := v4_2 + 1) (lv' := [(4, .int (v4_2 + 1)), (0, .ref h0), (1, .int p0), (2, .int p1), (3, .int x_11)]) hx hb dX0_optionsWith_36 hl (k := 4) rfl rfl (by decide) rfl (fun ls hl => ?_)
          refine lv_goto (tgt := 5) hx hb dX0_optionsWith_39 (by decide) ?_
          cases hf
          have hf := ho_3.1 _ rfl
          exact ih_3 _ _ hf _ _ hP hD hS _ (lv_sub hl [1, 2, 3, 4, 0] rfl)
        have hf := q_13
        refine lv_icmp_ne (tgt := 36) hx hb dX0_optionsWith_30 (by decide) (fun c_14 => ?_) (fun c_14 => ?_)
        · have hf := ite_f hf c_14
          cases hf
          exact K_12 _ _ hP hD hS _ (lv_sub hl [0, 1, 2, 3, 4] rfl)
        · have hf := ite_t hf c_14
          refine lv_iinc (v := v3_1 + 1) (lv' := [(3, .int (v3_1 + 1)), (0, .ref h0), (1, .int p0), (2, .int p1), (4, .int v4_2)]) hx hb dX0_optionsWith_33 hl (k := 3) rfl rfl (by decide) rfl (fun ls hl => ?_)
          cases hf
          exact K_12 _ _ hP hD hS _ (lv_sub hl [1, 2, 3, 0, 4] rfl)
  exact LP_3 _ _ _ hf _ _ hP hD hS _ (lv_sub hl [2, 3, 4, 1, 0] rfl)
def b_X0_fewestKeptWith_1 (oc : Nat → Int32) (os : Nat → Int32) (vs : Nat → Int32) (p0 : Int32) (z : Int32 × Int32) : Option ((Int32 × Int32) ⊕ (Int32)) := match z with
  | (v2_1, v3_2) => (if 10 ≤ v3_2 then some (.inr v2_1) else (Option.bind (f_X0_isThere oc v3_2) (fun r_5 => (Option.bind (α := Int32) ((if r_5 = 0 then some v2_1 else (Option.bind (f_X0_optionsWith oc os vs v3_2 p0) (fun r_11 => (Option.bind (f_X0_optionsOf oc v3_2) (fun r_13 => (if r_11 = r_13 then some (v2_1 + 1) else some v2_1))))))) (fun x_7 => some (.inl ((x_7, v3_2 + 1))))))))
def f_X0_fewestKeptWith (oc : Nat → Int32) (os : Nat → Int32) (vs : Nat → Int32) (p0 : Int32) : Option (Int32) := iter fuel (b_X0_fewestKeptWith_1 oc os vs p0) ((0, 0))
abbrev rm_X0_fewestKeptWith : Room := { frames := 3, cells := 0, slots := 0, locals := 67 }
set_option maxHeartbeats 4000000 in
set_option maxRecDepth 100000 in
theorem c_X0_fewestKeptWith (l : Launch) (D : va_G) (cI cC cT : ClassId) (h0 h1 h2 h3 h4 h5 h6 h7 h8 h9 : Nat) (mn : Int32) (oc : Nat → Int32) (os : Nat → Int32) (sd : Nat → Int32) (tg : Nat → Int32) (nr : Int32) (pf : Int32) (ks : Nat → Int32) (vs : Nat → Int32) (wg : Nat → Int32) (ts : Nat → Int32) (sz : Nat) (p0 : Int32) (out : Int32) (hf : f_X0_fewestKeptWith oc os vs p0 = some out) : Met l yX0_fewestKeptWith wsX0_fewestKeptWith rm_X0_fewestKeptWith (mP D (mTY cI cC cT) [.ref h0, .int p0] (W_C cI cC cT h0 h1 h2 h3 h4 h5 h6 h7 h8 h9 mn oc os sd tg nr pf ks vs wg ts) sz) (mQi D (mTY cI cC cT) out (va_A (W_C cI cC cT h0 h1 h2 h3 h4 h5 h6 h7 h8 h9 mn oc os sd tg nr pf ks vs wg ts) sz) (W_C cI cC cT h0 h1 h2 h3 h4 h5 h6 h7 h8 h9 mn oc os sd tg nr pf ks vs wg ts)) 0 0 (va_A (W_C cI cC cT h0 h1 h2 h3 h4 h5 h6 h7 h8 h9 mn oc os sd tg nr pf ks vs wg ts) sz) := by
  refine mEnt (cc := cX0_fewestKeptWith) (maxL := 4) (ret := (some .int)) (own := RX0) (Qq := fun A => mQi D (mTY cI cC cT) out A (W_C cI cC cT h0 h1 h2 h3 h4 h5 h6 h7 h8 h9 mn oc os sd tg nr pf ks vs wg ts)) (by decide) rfl rfl (Nat.le_of_ble_eq_true rfl) ?_
  intro p e s m below meth c A ls H locs hx hb hr hml hlocks hown hts hN hA hP hK hD hS hl
  have hl : lv_has ls 4 [(0, .ref h0), (1, .int p0)] := hl
  unfold f_X0_fewestKeptWith at hf
  refine lv_iconst (v := 0) hx hb dX0_fewestKeptWith_0 (by decide) ?_
  refine lv_istore_n (lv' := [(2, .int 0), (0, .ref h0), (1, .int p0)]) hx hb dX0_fewestKeptWith_1 rfl hl (by decide) rfl (fun ls hl => ?_)
  refine lv_iconst (v := 0) hx hb dX0_fewestKeptWith_2 (by decide) ?_
  refine lv_istore_n (lv' := [(3, .int 0), (2, .int 0), (0, .ref h0), (1, .int p0)]) hx hb dX0_fewestKeptWith_3 rfl hl (by decide) rfl (fun ls hl => ?_)
  have LP_3 : ∀ (n_3 : Nat) (v2_1 : Int32) (v3_2 : Int32), iter n_3 (b_X0_fewestKeptWith_1 oc os vs p0) ((v2_1, v3_2)) = some out → ∀ (H : Heap) (locs : List Loc), va_P D vwCl (W_C cI cC cT h0 h1 h2 h3 h4 h5 h6 h7 h8 h9 mn oc os sd tg nr pf ks vs wg ts) H → va_D A (W_C cI cC cT h0 h1 h2 h3 h4 h5 h6 h7 h8 h9 mn oc os sd tg nr pf ks vs wg ts) → va_S A s.heap H locs → ∀ (ls : Array Slot), lv_has ls 4 [(0, .ref h0), (1, .int p0), (2, .int v2_1), (3, .int v3_2)] → W p l e rm_X0_fewestKeptWith s m ([.ref h0, .int p0] : List Value).toArray below meth c H locs 0 0 (MQ below (mQi D (mTY cI cC cT) out A (W_C cI cC cT h0 h1 h2 h3 h4 h5 h6 h7 h8 h9 mn oc os sd tg nr pf ks vs wg ts)) ([.ref h0, .int p0] : List Value).toArray s 0 0 A) (F0 m 4 ls []) := by
    intro n_3
    induction n_3 with
    | zero => intro v2_1 v3_2 hf; exact (iter_zero hf).elim
    | succ n_3 ih_3 =>
      intro v2_1 v3_2 hf H locs hP hD hS ls hl
      obtain ⟨o_3, hf, ho_3⟩ := iter_succ hf
      dsimp only [b_X0_fewestKeptWith_1] at hf
      refine lv_iload_n hx hb dX0_fewestKeptWith_4 rfl (lv_at hl 3 rfl) ?_
      refine lv_bipush (v := 10) hx hb dX0_fewestKeptWith_5 (by decide) ?_
      refine lv_icmp_ge (tgt := 41) hx hb dX0_fewestKeptWith_7 (by decide) (fun c_4 => ?_) (fun c_4 => ?_)
      · have hf := ite_t hf c_4
        refine lv_iload_n hx hb dX0_fewestKeptWith_41 rfl (lv_at hl 2 rfl) ?_
        cases hf
        have hf := ho_3.2 _ rfl
        cases hf
        exact mIret hx hb hr hlocks hP hD hK hS dX0_fewestKeptWith_42
      · have hf := ite_f hf c_4
        refine lv_aload_n hx hb dX0_fewestKeptWith_10 rfl (lv_at hl 0 rfl) ?_
        refine lv_iload_n hx hb dX0_fewestKeptWith_11 rfl (lv_at hl 3 rfl) ?_
        obtain ⟨r_5, q_6, hf⟩ := bnd hf
        refine mGoi (w2 := (W_C cI cC cT h0 h1 h2 h3 h4 h5 h6 h7 h8 h9 mn oc os sd tg nr pf ks vs wg ts)) (va_runV (As := [.int v3_2]) (rest := []) ⟨hx, hb, hml, hown, hts⟩ (c_X0_isThere l D cI cC cT h0 h1 h2 h3 h4 h5 h6 h7 h8 h9 mn oc os sd tg nr pf ks vs wg ts H.size v3_2 r_5 q_6) (cwV 1 hts gX0_fewestKeptWith_X0_isThere rfl rfl rfl (by decide +kernel) ⟨Nat.le_of_ble_eq_true rfl, Nat.le_of_ble_eq_true rfl⟩) (mPreV hP hD hK hN [0, 1, 2, 3, 4, 5, 6, 7, 8, 9] rfl (by decide) (va_recv hK hP (ci := 0) (q0 := 0) rfl rfl)) rfl rfl hl.1 rfl (lv_room (Nat.le_of_ble_eq_true rfl)) dX0_fewestKeptWith_12 ⟨Nat.zero_le _, Nat.zero_le _⟩) hP hD hS hA [0, 1, 2, 3, 4, 5, 6, 7, 8, 9] rfl rfl rfl rfl (fun H locs hP hD hS => ?_)
        obtain ⟨x_7, q_9, hf⟩ := bnd hf
        have K_8 : ∀ (H : Heap) (locs : List Loc), va_P D vwCl (W_C cI cC cT h0 h1 h2 h3 h4 h5 h6 h7 h8 h9 mn oc os sd tg nr pf ks vs wg ts) H → va_D A (W_C cI cC cT h0 h1 h2 h3 h4 h5 h6 h7 h8 h9 mn oc os sd tg nr pf ks vs wg ts) → va_S A s.heap H locs → ∀ (ls : Array Slot), lv_has ls 4 [(0, .ref h0), (1, .int p0), (2, .int x_7), (3, .int v3_2)] → W p l e rm_X0_fewestKeptWith s m ([.ref h0, .int p0] : List Value).toArray below meth c H locs 0 0 (MQ below (mQi D (mTY cI cC cT) out A (W_C cI cC cT h0 h1 h2 h3 h4 h5 h6 h7 h8 h9 mn oc os sd tg nr pf ks vs wg ts)) ([.ref h0, .int p0] : List Value).toArray s 0 0 A) (F0 m 35 ls []) := by
          intro H locs hP hD hS ls hl
          refine lv_iinc (v := v3_2 + 1) (lv' := [(3, .int (v3_2 + 1)), (0, .ref h0), (1, .int p0), (2, .int x_7)]) hx hb dX0_fewestKeptWith_35 hl (k := 3) rfl rfl (by decide) rfl (fun ls hl => ?_)
          refine lv_goto (tgt := 4) hx hb dX0_fewestKeptWith_38 (by decide) ?_
          cases hf
          have hf := ho_3.1 _ rfl
          exact ih_3 _ _ hf _ _ hP hD hS _ (lv_sub hl [1, 2, 3, 0] rfl)
        have hf := q_9
        refine lv_if_eq (tgt := 35) hx hb dX0_fewestKeptWith_15 (by decide) (fun c_10 => ?_) (fun c_10 => ?_)
        · have hf := ite_t hf c_10
          cases hf
          exact K_8 _ _ hP hD hS _ (lv_sub hl [0, 1, 2, 3] rfl)
        · have hf := ite_f hf c_10
          refine lv_aload_n hx hb dX0_fewestKeptWith_18 rfl (lv_at hl 0 rfl) ?_
          refine lv_iload_n hx hb dX0_fewestKeptWith_19 rfl (lv_at hl 3 rfl) ?_
          refine lv_iload_n hx hb dX0_fewestKeptWith_20 rfl (lv_at hl 1 rfl) ?_
          obtain ⟨r_11, q_12, hf⟩ := bnd hf
          refine mGoi (w2 := (W_C cI cC cT h0 h1 h2 h3 h4 h5 h6 h7 h8 h9 mn oc os sd tg nr pf ks vs wg ts)) (va_runV (As := [.int v3_2, .int p0]) (rest := []) ⟨hx, hb, hml, hown, hts⟩ (c_X0_optionsWith l D cI cC cT h0 h1 h2 h3 h4 h5 h6 h7 h8 h9 mn oc os sd tg nr pf ks vs wg ts H.size v3_2 p0 r_11 q_12) (cwV 2 hts gX0_fewestKeptWith_X0_optionsWith rfl rfl rfl (by decide +kernel) ⟨Nat.le_of_ble_eq_true rfl, Nat.le_of_ble_eq_true rfl⟩) (mPreV hP hD hK hN [0, 1, 2, 3, 4, 5, 6, 7, 8, 9] rfl (by decide) (va_recv hK hP (ci := 0) (q0 := 0) rfl rfl)) rfl rfl hl.1 rfl (lv_room (Nat.le_of_ble_eq_true rfl)) dX0_fewestKeptWith_21 ⟨Nat.zero_le _, Nat.zero_le _⟩) hP hD hS hA [0, 1, 2, 3, 4, 5, 6, 7, 8, 9] rfl rfl rfl rfl (fun H locs hP hD hS => ?_)
          refine lv_aload_n hx hb dX0_fewestKeptWith_24 rfl (lv_at hl 0 rfl) ?_
          refine lv_iload_n hx hb dX0_fewestKeptWith_25 rfl (lv_at hl 3 rfl) ?_
          obtain ⟨r_13, q_14, hf⟩ := bnd hf
          refine mGoi (w2 := (W_C cI cC cT h0 h1 h2 h3 h4 h5 h6 h7 h8 h9 mn oc os sd tg nr pf ks vs wg ts)) (va_runV (As := [.int v3_2]) (rest := [.int r_11]) ⟨hx, hb, hml, hown, hts⟩ (c_X0_optionsOf l D cI cC cT h0 h1 h2 h3 h4 h5 h6 h7 h8 h9 mn oc os sd tg nr pf ks vs wg ts H.size v3_2 r_13 q_14) (cwV 1 hts gX0_fewestKeptWith_X0_optionsOf rfl rfl rfl (by decide +kernel) ⟨Nat.le_of_ble_eq_true rfl, Nat.le_of_ble_eq_true rfl⟩) (mPreV hP hD hK hN [0, 1, 2, 3, 4, 5, 6, 7, 8, 9] rfl (by decide) (va_recv hK hP (ci := 0) (q0 := 0) rfl rfl)) rfl rfl hl.1 rfl (lv_room (Nat.le_of_ble_eq_true rfl)) dX0_fewestKeptWith_26 ⟨Nat.zero_le _, Nat.zero_le _⟩) hP hD hS hA [0, 1, 2, 3, 4, 5, 6, 7, 8, 9] rfl rfl rfl rfl (fun H locs hP hD hS => ?_)
          refine lv_icmp_ne (tgt := 35) hx hb dX0_fewestKeptWith_29 (by decide) (fun c_15 => ?_) (fun c_15 => ?_)
          · have hf := ite_f hf c_15
            cases hf
            exact K_8 _ _ hP hD hS _ (lv_sub hl [0, 1, 2, 3] rfl)
          · have hf := ite_t hf c_15
            refine lv_iinc (v := v2_1 + 1) (lv' := [(2, .int (v2_1 + 1)), (0, .ref h0), (1, .int p0), (3, .int v3_2)]) hx hb dX0_fewestKeptWith_32 hl (k := 2) rfl rfl (by decide) rfl (fun ls hl => ?_)
            cases hf
            exact K_8 _ _ hP hD hS _ (lv_sub hl [1, 2, 0, 3] rfl)
  exact LP_3 _ _ _ hf _ _ hP hD hS _ (lv_sub hl [2, 3, 1, 0] rfl)
def f_X0_setOf (oc : Nat → Int32) (p0 : Int32) : Option (Int32) := (Option.bind (f_X0_isThere oc p0) (fun r_1 => (if r_1 = 0 then some 0 else some (1 <<< (p0 &&& 31)))))
abbrev rm_X0_setOf : Room := { frames := 3, cells := 0, slots := 0, locals := 63 }
set_option maxHeartbeats 4000000 in
set_option maxRecDepth 100000 in
theorem c_X0_setOf (l : Launch) (D : va_G) (cI cC cT : ClassId) (h0 h1 h2 h3 h4 h5 h6 h7 h8 h9 : Nat) (mn : Int32) (oc : Nat → Int32) (os : Nat → Int32) (sd : Nat → Int32) (tg : Nat → Int32) (nr : Int32) (pf : Int32) (ks : Nat → Int32) (vs : Nat → Int32) (wg : Nat → Int32) (ts : Nat → Int32) (sz : Nat) (p0 : Int32) (out : Int32) (hf : f_X0_setOf oc p0 = some out) : Met l yX0_setOf wsX0_setOf rm_X0_setOf (mP D (mTY cI cC cT) [.ref h0, .int p0] (W_C cI cC cT h0 h1 h2 h3 h4 h5 h6 h7 h8 h9 mn oc os sd tg nr pf ks vs wg ts) sz) (mQi D (mTY cI cC cT) out (va_A (W_C cI cC cT h0 h1 h2 h3 h4 h5 h6 h7 h8 h9 mn oc os sd tg nr pf ks vs wg ts) sz) (W_C cI cC cT h0 h1 h2 h3 h4 h5 h6 h7 h8 h9 mn oc os sd tg nr pf ks vs wg ts)) 0 0 (va_A (W_C cI cC cT h0 h1 h2 h3 h4 h5 h6 h7 h8 h9 mn oc os sd tg nr pf ks vs wg ts) sz) := by
  refine mEnt (cc := cX0_setOf) (maxL := 2) (ret := (some .int)) (own := RX0) (Qq := fun A => mQi D (mTY cI cC cT) out A (W_C cI cC cT h0 h1 h2 h3 h4 h5 h6 h7 h8 h9 mn oc os sd tg nr pf ks vs wg ts)) (by decide) rfl rfl (Nat.le_of_ble_eq_true rfl) ?_
  intro p e s m below meth c A ls H locs hx hb hr hml hlocks hown hts hN hA hP hK hD hS hl
  have hl : lv_has ls 2 [(0, .ref h0), (1, .int p0)] := hl
  unfold f_X0_setOf at hf
  refine lv_aload_n hx hb dX0_setOf_0 rfl (lv_at hl 0 rfl) ?_
  refine lv_iload_n hx hb dX0_setOf_1 rfl (lv_at hl 1 rfl) ?_
  obtain ⟨r_1, q_2, hf⟩ := bnd hf
  refine mGoi (w2 := (W_C cI cC cT h0 h1 h2 h3 h4 h5 h6 h7 h8 h9 mn oc os sd tg nr pf ks vs wg ts)) (va_runV (As := [.int p0]) (rest := []) ⟨hx, hb, hml, hown, hts⟩ (c_X0_isThere l D cI cC cT h0 h1 h2 h3 h4 h5 h6 h7 h8 h9 mn oc os sd tg nr pf ks vs wg ts H.size p0 r_1 q_2) (cwV 1 hts gX0_setOf_X0_isThere rfl rfl rfl (by decide +kernel) ⟨Nat.le_of_ble_eq_true rfl, Nat.le_of_ble_eq_true rfl⟩) (mPreV hP hD hK hN [0, 1, 2, 3, 4, 5, 6, 7, 8, 9] rfl (by decide) (va_recv hK hP (ci := 0) (q0 := 0) rfl rfl)) rfl rfl hl.1 rfl (lv_room (Nat.le_of_ble_eq_true rfl)) dX0_setOf_2 ⟨Nat.zero_le _, Nat.zero_le _⟩) hP hD hS hA [0, 1, 2, 3, 4, 5, 6, 7, 8, 9] rfl rfl rfl rfl (fun H locs hP hD hS => ?_)
  refine lv_if_eq (tgt := 14) hx hb dX0_setOf_5 (by decide) (fun c_3 => ?_) (fun c_3 => ?_)
  · have hf := ite_t hf c_3
    refine lv_iconst (v := 0) hx hb dX0_setOf_14 (by decide) ?_
    cases hf
    exact mIret hx hb hr hlocks hP hD hK hS dX0_setOf_15
  · have hf := ite_f hf c_3
    refine lv_iconst (v := 1) hx hb dX0_setOf_8 (by decide) ?_
    refine lv_iload_n hx hb dX0_setOf_9 rfl (lv_at hl 1 rfl) ?_
    refine lv_ishl hx hb dX0_setOf_10 ?_
    refine lv_goto (tgt := 15) hx hb dX0_setOf_11 (by decide) ?_
    cases hf
    exact mIret hx hb hr hlocks hP hD hK hS dX0_setOf_15
def b_X0_keysThatCanPointInto_1 (tg : Nat → Int32) (p0 : Int32) (z : Int32 × Int32) : Option ((Int32 × Int32) ⊕ (Int32)) := match z with
  | (v2_1, v3_2) => (if 10 ≤ v3_2 then some (.inr v2_1) else (Option.bind (f_X5_at tg v3_2 10) (fun r_5 => (Option.bind (α := Int32) ((if (r_5 &&& p0) = 0 then some v2_1 else some (v2_1 ||| (1 <<< (v3_2 &&& 31))))) (fun x_7 => some (.inl ((x_7, v3_2 + 1))))))))
def f_X0_keysThatCanPointInto (tg : Nat → Int32) (p0 : Int32) : Option (Int32) := iter fuel (b_X0_keysThatCanPointInto_1 tg p0) ((0, 0))
abbrev rm_X0_keysThatCanPointInto : Room := { frames := 1, cells := 0, slots := 0, locals := 21 }
set_option maxHeartbeats 4000000 in
set_option maxRecDepth 100000 in
theorem c_X0_keysThatCanPointInto (l : Launch) (D : va_G) (cI cC cT : ClassId) (h0 h1 h2 h3 h4 h5 h6 h7 h8 h9 : Nat) (mn : Int32) (oc : Nat → Int32) (os : Nat → Int32) (sd : Nat → Int32) (tg : Nat → Int32) (nr : Int32) (pf : Int32) (ks : Nat → Int32) (vs : Nat → Int32) (wg : Nat → Int32) (ts : Nat → Int32) (sz : Nat) (p0 : Int32) (out : Int32) (hf : f_X0_keysThatCanPointInto tg p0 = some out) : Met l yX0_keysThatCanPointInto wsX0_keysThatCanPointInto rm_X0_keysThatCanPointInto (mP D (mTY cI cC cT) [.ref h0, .int p0] (W_C cI cC cT h0 h1 h2 h3 h4 h5 h6 h7 h8 h9 mn oc os sd tg nr pf ks vs wg ts) sz) (mQi D (mTY cI cC cT) out (va_A (W_C cI cC cT h0 h1 h2 h3 h4 h5 h6 h7 h8 h9 mn oc os sd tg nr pf ks vs wg ts) sz) (W_C cI cC cT h0 h1 h2 h3 h4 h5 h6 h7 h8 h9 mn oc os sd tg nr pf ks vs wg ts)) 0 0 (va_A (W_C cI cC cT h0 h1 h2 h3 h4 h5 h6 h7 h8 h9 mn oc os sd tg nr pf ks vs wg ts) sz) := by
  refine mEnt (cc := cX0_keysThatCanPointInto) (maxL := 4) (ret := (some .int)) (own := RX0) (Qq := fun A => mQi D (mTY cI cC cT) out A (W_C cI cC cT h0 h1 h2 h3 h4 h5 h6 h7 h8 h9 mn oc os sd tg nr pf ks vs wg ts)) (by decide) rfl rfl (Nat.le_of_ble_eq_true rfl) ?_
  intro p e s m below meth c A ls H locs hx hb hr hml hlocks hown hts hN hA hP hK hD hS hl
  have hin_X0 : ∀ w ∈ u_ws RX0 TX0 6, w ∈ wsX0_keysThatCanPointInto := by decide +kernel
  have fl_21 := hts (.fieldLink RX0 21 "SureMendings$Choices" "targetSets" "[I") (by decide +kernel)
  have hl : lv_has ls 4 [(0, .ref h0), (1, .int p0)] := hl
  unfold f_X0_keysThatCanPointInto at hf
  refine lv_iconst (v := 0) hx hb dX0_keysThatCanPointInto_0 (by decide) ?_
  refine lv_istore_n (lv' := [(2, .int 0), (0, .ref h0), (1, .int p0)]) hx hb dX0_keysThatCanPointInto_1 rfl hl (by decide) rfl (fun ls hl => ?_)
  refine lv_iconst (v := 0) hx hb dX0_keysThatCanPointInto_2 (by decide) ?_
  refine lv_istore_n (lv' := [(3, .int 0), (2, .int 0), (0, .ref h0), (1, .int p0)]) hx hb dX0_keysThatCanPointInto_3 rfl hl (by decide) rfl (fun ls hl => ?_)
  have LP_3 : ∀ (n_3 : Nat) (v2_1 : Int32) (v3_2 : Int32), iter n_3 (b_X0_keysThatCanPointInto_1 tg p0) ((v2_1, v3_2)) = some out → ∀ (H : Heap) (locs : List Loc), va_P D vwCl (W_C cI cC cT h0 h1 h2 h3 h4 h5 h6 h7 h8 h9 mn oc os sd tg nr pf ks vs wg ts) H → va_D A (W_C cI cC cT h0 h1 h2 h3 h4 h5 h6 h7 h8 h9 mn oc os sd tg nr pf ks vs wg ts) → va_S A s.heap H locs → ∀ (ls : Array Slot), lv_has ls 4 [(0, .ref h0), (1, .int p0), (2, .int v2_1), (3, .int v3_2)] → W p l e rm_X0_keysThatCanPointInto s m ([.ref h0, .int p0] : List Value).toArray below meth c H locs 0 0 (MQ below (mQi D (mTY cI cC cT) out A (W_C cI cC cT h0 h1 h2 h3 h4 h5 h6 h7 h8 h9 mn oc os sd tg nr pf ks vs wg ts)) ([.ref h0, .int p0] : List Value).toArray s 0 0 A) (F0 m 4 ls []) := by
    intro n_3
    induction n_3 with
    | zero => intro v2_1 v3_2 hf; exact (iter_zero hf).elim
    | succ n_3 ih_3 =>
      intro v2_1 v3_2 hf H locs hP hD hS ls hl
      obtain ⟨o_3, hf, ho_3⟩ := iter_succ hf
      dsimp only [b_X0_keysThatCanPointInto_1] at hf
      refine lv_iload_n hx hb dX0_keysThatCanPointInto_4 rfl (lv_at hl 3 rfl) ?_
      refine lv_bipush (v := 10) hx hb dX0_keysThatCanPointInto_5 (by decide) ?_
      refine lv_icmp_ge (tgt := 35) hx hb dX0_keysThatCanPointInto_7 (by decide) (fun c_4 => ?_) (fun c_4 => ?_)
      · have hf := ite_t hf c_4
        refine lv_iload_n hx hb dX0_keysThatCanPointInto_35 rfl (lv_at hl 2 rfl) ?_
        cases hf
        have hf := ho_3.2 _ rfl
        cases hf
        exact mIret hx hb hr hlocks hP hD hK hS dX0_keysThatCanPointInto_36
      · have hf := ite_f hf c_4
        refine lv_aload_n hx hb dX0_keysThatCanPointInto_10 rfl (lv_at hl 0 rfl) ?_
        refine va_get (D := D) (ci := 0) (v := .ref h4) (C := RX0) (T := TX0) (N := 6) hx hb hts hin_X0 hown hK hP 0 rfl rfl 4 (by decide) fl_21 (fun _ h9 => h9) rfl dX0_keysThatCanPointInto_11 ?_
        refine lv_iload_n hx hb dX0_keysThatCanPointInto_14 rfl (lv_at hl 3 rfl) ?_
        obtain ⟨r_5, q_6, hf⟩ := bnd hf
        refine mGoi (w2 := (W_C cI cC cT h0 h1 h2 h3 h4 h5 h6 h7 h8 h9 mn oc os sd tg nr pf ks vs wg ts)) (va_runSN (As := [.ref h4, .int v3_2]) (rest := []) ⟨hx, hb, hml, hown, hts⟩ (c_X5_at l D cI cC cT 10 h4 tg H.size v3_2 r_5 q_6) ⟨va_cnB 2 hts gX0_keysThatCanPointInto_X5_at_n66 rfl rfl rfl (nW_at hN 7 rfl) (hts (.initialized RX5) (by decide +kernel)) (by decide +kernel) ⟨Nat.le_of_ble_eq_true rfl, Nat.le_of_ble_eq_true rfl⟩, hts (.static yX5_at) (by decide +kernel), trivial⟩ (mPreS hP hD hK hN [4] rfl (by decide)) rfl rfl hl.1 rfl (lv_room (Nat.le_of_ble_eq_true rfl)) dX0_keysThatCanPointInto_15 ⟨Nat.zero_le _, Nat.zero_le _⟩) hP hD hS hA [4] rfl rfl rfl rfl (fun H locs hP hD hS => ?_)
        refine lv_iload_n hx hb dX0_keysThatCanPointInto_18 rfl (lv_at hl 1 rfl) ?_
        refine lv_iand hx hb dX0_keysThatCanPointInto_19 ?_
        obtain ⟨x_7, q_9, hf⟩ := bnd hf
        have K_8 : ∀ (H : Heap) (locs : List Loc), va_P D vwCl (W_C cI cC cT h0 h1 h2 h3 h4 h5 h6 h7 h8 h9 mn oc os sd tg nr pf ks vs wg ts) H → va_D A (W_C cI cC cT h0 h1 h2 h3 h4 h5 h6 h7 h8 h9 mn oc os sd tg nr pf ks vs wg ts) → va_S A s.heap H locs → ∀ (ls : Array Slot), lv_has ls 4 [(0, .ref h0), (1, .int p0), (2, .int x_7), (3, .int v3_2)] → W p l e rm_X0_keysThatCanPointInto s m ([.ref h0, .int p0] : List Value).toArray below meth c H locs 0 0 (MQ below (mQi D (mTY cI cC cT) out A (W_C cI cC cT h0 h1 h2 h3 h4 h5 h6 h7 h8 h9 mn oc os sd tg nr pf ks vs wg ts)) ([.ref h0, .int p0] : List Value).toArray s 0 0 A) (F0 m 29 ls []) := by
          intro H locs hP hD hS ls hl
          refine lv_iinc (v := v3_2 + 1) (lv' := [(3, .int (v3_2 + 1)), (0, .ref h0), (1, .int p0), (2, .int x_7)]) hx hb dX0_keysThatCanPointInto_29 hl (k := 3) rfl rfl (by decide) rfl (fun ls hl => ?_)
          refine lv_goto (tgt := 4) hx hb dX0_keysThatCanPointInto_32 (by decide) ?_
          cases hf
          have hf := ho_3.1 _ rfl
          exact ih_3 _ _ hf _ _ hP hD hS _ (lv_sub hl [1, 2, 3, 0] rfl)
        have hf := q_9
        refine lv_if_eq (tgt := 29) hx hb dX0_keysThatCanPointInto_20 (by decide) (fun c_10 => ?_) (fun c_10 => ?_)
        · have hf := ite_t hf c_10
          cases hf
          exact K_8 _ _ hP hD hS _ (lv_sub hl [0, 1, 2, 3] rfl)
        · have hf := ite_f hf c_10
          refine lv_iload_n hx hb dX0_keysThatCanPointInto_23 rfl (lv_at hl 2 rfl) ?_
          refine lv_iconst (v := 1) hx hb dX0_keysThatCanPointInto_24 (by decide) ?_
          refine lv_iload_n hx hb dX0_keysThatCanPointInto_25 rfl (lv_at hl 3 rfl) ?_
          refine lv_ishl hx hb dX0_keysThatCanPointInto_26 ?_
          refine lv_ior hx hb dX0_keysThatCanPointInto_27 ?_
          refine lv_istore_n (lv' := [(2, .int (v2_1 ||| (1 <<< (v3_2 &&& 31)))), (0, .ref h0), (1, .int p0), (3, .int v3_2)]) hx hb dX0_keysThatCanPointInto_28 rfl hl (by decide) rfl (fun ls hl => ?_)
          cases hf
          exact K_8 _ _ hP hD hS _ (lv_sub hl [1, 2, 0, 3] rfl)
  exact LP_3 _ _ _ hf _ _ hP hD hS _ (lv_sub hl [2, 3, 1, 0] rfl)
def b_X0_fewestPointers_1 (tg : Nat → Int32) (p0 : Int32) (z : Int32 × Int32) : Option ((Int32 × Int32) ⊕ (Int32)) := match z with
  | (v3_3, v4_4) => (if 10 ≤ v4_4 then some (.inr (-5)) else (Option.bind (f_X0_contains v3_3 p0) (fun r_7 => (if r_7 = 0 then (Option.bind (f_X0_keysThatCanPointInto tg v3_3) (fun r_10 => some (.inl ((v3_3 ||| r_10, v4_4 + 1))))) else some (.inr v4_4)))))
def f_X0_fewestPointers (oc : Nat → Int32) (tg : Nat → Int32) (p0 : Int32) (p1 : Int32) : Option (Int32) := (Option.bind (f_X0_setOf oc p1) (fun r_1 => iter fuel (b_X0_fewestPointers_1 tg p0) ((r_1, 0))))
abbrev rm_X0_fewestPointers : Room := { frames := 4, cells := 0, slots := 0, locals := 84 }
set_option maxHeartbeats 4000000 in
set_option maxRecDepth 100000 in
theorem c_X0_fewestPointers (l : Launch) (D : va_G) (cI cC cT : ClassId) (h0 h1 h2 h3 h4 h5 h6 h7 h8 h9 : Nat) (mn : Int32) (oc : Nat → Int32) (os : Nat → Int32) (sd : Nat → Int32) (tg : Nat → Int32) (nr : Int32) (pf : Int32) (ks : Nat → Int32) (vs : Nat → Int32) (wg : Nat → Int32) (ts : Nat → Int32) (sz : Nat) (p0 : Int32) (p1 : Int32) (out : Int32) (hf : f_X0_fewestPointers oc tg p0 p1 = some out) : Met l yX0_fewestPointers wsX0_fewestPointers rm_X0_fewestPointers (mP D (mTY cI cC cT) [.ref h0, .int p0, .int p1] (W_C cI cC cT h0 h1 h2 h3 h4 h5 h6 h7 h8 h9 mn oc os sd tg nr pf ks vs wg ts) sz) (mQi D (mTY cI cC cT) out (va_A (W_C cI cC cT h0 h1 h2 h3 h4 h5 h6 h7 h8 h9 mn oc os sd tg nr pf ks vs wg ts) sz) (W_C cI cC cT h0 h1 h2 h3 h4 h5 h6 h7 h8 h9 mn oc os sd tg nr pf ks vs wg ts)) 0 0 (va_A (W_C cI cC cT h0 h1 h2 h3 h4 h5 h6 h7 h8 h9 mn oc os sd tg nr pf ks vs wg ts) sz) := by
  refine mEnt (cc := cX0_fewestPointers) (maxL := 5) (ret := (some .int)) (own := RX0) (Qq := fun A => mQi D (mTY cI cC cT) out A (W_C cI cC cT h0 h1 h2 h3 h4 h5 h6 h7 h8 h9 mn oc os sd tg nr pf ks vs wg ts)) (by decide) rfl rfl (Nat.le_of_ble_eq_true rfl) ?_
  intro p e s m below meth c A ls H locs hx hb hr hml hlocks hown hts hN hA hP hK hD hS hl
  have hl : lv_has ls 5 [(0, .ref h0), (1, .int p0), (2, .int p1)] := hl
  unfold f_X0_fewestPointers at hf
  refine lv_aload_n hx hb dX0_fewestPointers_0 rfl (lv_at hl 0 rfl) ?_
  refine lv_iload_n hx hb dX0_fewestPointers_1 rfl (lv_at hl 2 rfl) ?_
  obtain ⟨r_1, q_2, hf⟩ := bnd hf
  refine mGoi (w2 := (W_C cI cC cT h0 h1 h2 h3 h4 h5 h6 h7 h8 h9 mn oc os sd tg nr pf ks vs wg ts)) (va_runV (As := [.int p1]) (rest := []) ⟨hx, hb, hml, hown, hts⟩ (c_X0_setOf l D cI cC cT h0 h1 h2 h3 h4 h5 h6 h7 h8 h9 mn oc os sd tg nr pf ks vs wg ts H.size p1 r_1 q_2) (cwV 1 hts gX0_fewestPointers_X0_setOf rfl rfl rfl (by decide +kernel) ⟨Nat.le_of_ble_eq_true rfl, Nat.le_of_ble_eq_true rfl⟩) (mPreV hP hD hK hN [0, 1, 2, 3, 4, 5, 6, 7, 8, 9] rfl (by decide) (va_recv hK hP (ci := 0) (q0 := 0) rfl rfl)) rfl rfl hl.1 rfl (lv_room (Nat.le_of_ble_eq_true rfl)) dX0_fewestPointers_2 ⟨Nat.zero_le _, Nat.zero_le _⟩) hP hD hS hA [0, 1, 2, 3, 4, 5, 6, 7, 8, 9] rfl rfl rfl rfl (fun H locs hP hD hS => ?_)
  refine lv_istore_n (lv' := [(3, .int r_1), (0, .ref h0), (1, .int p0), (2, .int p1)]) hx hb dX0_fewestPointers_5 rfl hl (by decide) rfl (fun ls hl => ?_)
  refine lv_iconst (v := 0) hx hb dX0_fewestPointers_6 (by decide) ?_
  refine lv_istore (lv' := [(4, .int 0), (3, .int r_1), (0, .ref h0), (1, .int p0), (2, .int p1)]) hx hb dX0_fewestPointers_7 hl (by decide) rfl (fun ls hl => ?_)
  have LP_5 : ∀ (n_5 : Nat) (v3_3 : Int32) (v4_4 : Int32), iter n_5 (b_X0_fewestPointers_1 tg p0) ((v3_3, v4_4)) = some out → ∀ (H : Heap) (locs : List Loc), va_P D vwCl (W_C cI cC cT h0 h1 h2 h3 h4 h5 h6 h7 h8 h9 mn oc os sd tg nr pf ks vs wg ts) H → va_D A (W_C cI cC cT h0 h1 h2 h3 h4 h5 h6 h7 h8 h9 mn oc os sd tg nr pf ks vs wg ts) → va_S A s.heap H locs → ∀ (ls : Array Slot), lv_has ls 5 [(0, .ref h0), (1, .int p0), (3, .int v3_3), (4, .int v4_4)] → W p l e rm_X0_fewestPointers s m ([.ref h0, .int p0, .int p1] : List Value).toArray below meth c H locs 0 0 (MQ below (mQi D (mTY cI cC cT) out A (W_C cI cC cT h0 h1 h2 h3 h4 h5 h6 h7 h8 h9 mn oc os sd tg nr pf ks vs wg ts)) ([.ref h0, .int p0, .int p1] : List Value).toArray s 0 0 A) (F0 m 9 ls []) := by
    intro n_5
    induction n_5 with
    | zero => intro v3_3 v4_4 hf; exact (iter_zero hf).elim
    | succ n_5 ih_5 =>
      intro v3_3 v4_4 hf H locs hP hD hS ls hl
      obtain ⟨o_5, hf, ho_5⟩ := iter_succ hf
      dsimp only [b_X0_fewestPointers_1] at hf
      refine lv_iload hx hb dX0_fewestPointers_9 (lv_at hl 3 rfl) ?_
      refine lv_bipush (v := 10) hx hb dX0_fewestPointers_11 (by decide) ?_
      refine lv_icmp_ge (tgt := 41) hx hb dX0_fewestPointers_13 (by decide) (fun c_6 => ?_) (fun c_6 => ?_)
      · have hf := ite_t hf c_6
        refine lv_bipush (v := -5) hx hb dX0_fewestPointers_41 (by decide) ?_
        cases hf
        have hf := ho_5.2 _ rfl
        cases hf
        exact mIret hx hb hr hlocks hP hD hK hS dX0_fewestPointers_43
      · have hf := ite_f hf c_6
        refine lv_iload_n hx hb dX0_fewestPointers_16 rfl (lv_at hl 2 rfl) ?_
        refine lv_iload_n hx hb dX0_fewestPointers_17 rfl (lv_at hl 1 rfl) ?_
        obtain ⟨r_7, q_8, hf⟩ := bnd hf
        refine mGoi (w2 := (W_C cI cC cT h0 h1 h2 h3 h4 h5 h6 h7 h8 h9 mn oc os sd tg nr pf ks vs wg ts)) (va_runS (As := [.int v3_3, .int p0]) (rest := []) ⟨hx, hb, hml, hown, hts⟩ (c_X0_contains l D cI cC cT H.size v3_3 p0 r_7 q_8) (va_cwS 2 hts gX0_fewestPointers_X0_contains rfl rfl rfl (by decide +kernel) ⟨Nat.le_of_ble_eq_true rfl, Nat.le_of_ble_eq_true rfl⟩) (mPreS hP hD hK hN [] rfl (by decide)) rfl rfl hl.1 rfl (lv_room (Nat.le_of_ble_eq_true rfl)) dX0_fewestPointers_18 ⟨Nat.zero_le _, Nat.zero_le _⟩) hP hD hS hA [] rfl rfl rfl rfl (fun H locs hP hD hS => ?_)
        refine lv_if_eq (tgt := 27) hx hb dX0_fewestPointers_21 (by decide) (fun c_9 => ?_) (fun c_9 => ?_)
        · have hf := ite_t hf c_9
          refine lv_iload_n hx hb dX0_fewestPointers_27 rfl (lv_at hl 2 rfl) ?_
          refine lv_aload_n hx hb dX0_fewestPointers_28 rfl (lv_at hl 0 rfl) ?_
          refine lv_iload_n hx hb dX0_fewestPointers_29 rfl (lv_at hl 2 rfl) ?_
          obtain ⟨r_10, q_11, hf⟩ := bnd hf
          refine mGoi (w2 := (W_C cI cC cT h0 h1 h2 h3 h4 h5 h6 h7 h8 h9 mn oc os sd tg nr pf ks vs wg ts)) (va_runV (As := [.int v3_3]) (rest := [.int v3_3]) ⟨hx, hb, hml, hown, hts⟩ (c_X0_keysThatCanPointInto l D cI cC cT h0 h1 h2 h3 h4 h5 h6 h7 h8 h9 mn oc os sd tg nr pf ks vs wg ts H.size v3_3 r_10 q_11) (cwV 1 hts gX0_fewestPointers_X0_keysThatCanPointInto rfl rfl rfl (by decide +kernel) ⟨Nat.le_of_ble_eq_true rfl, Nat.le_of_ble_eq_true rfl⟩) (mPreV hP hD hK hN [0, 1, 2, 3, 4, 5, 6, 7, 8, 9] rfl (by decide) (va_recv hK hP (ci := 0) (q0 := 0) rfl rfl)) rfl rfl hl.1 rfl (lv_room (Nat.le_of_ble_eq_true rfl)) dX0_fewestPointers_30 ⟨Nat.zero_le _, Nat.zero_le _⟩) hP hD hS hA [0, 1, 2, 3, 4, 5, 6, 7, 8, 9] rfl rfl rfl rfl (fun H locs hP hD hS => ?_)
          refine lv_ior hx hb dX0_fewestPointers_33 ?_
          refine lv_istore_n (lv' := [(3, .int (v3_3 ||| r_10)), (0, .ref h0), (1, .int p0), (4, .int v4_4)]) hx hb dX0_fewestPointers_34 rfl hl (by decide) rfl (fun ls hl => ?_)
          refine lv_iinc (v := v4_4 + 1) (lv' := [(4, .int (v4_4 + 1)), (3, .int (v3_3 ||| r_10)), (0, .ref h0), (1, .int p0)]) hx hb dX0_fewestPointers_35 hl (k := 3) rfl rfl (by decide) rfl (fun ls hl => ?_)
          refine lv_goto (tgt := 9) hx hb dX0_fewestPointers_38 (by decide) ?_
          cases hf
          have hf := ho_5.1 _ rfl
          exact ih_5 _ _ hf _ _ hP hD hS _ (lv_sub hl [2, 3, 1, 0] rfl)
        · have hf := ite_f hf c_9
          refine lv_iload hx hb dX0_fewestPointers_24 (lv_at hl 3 rfl) ?_
          cases hf
          have hf := ho_5.2 _ rfl
          cases hf
          exact mIret hx hb hr hlocks hP hD hK hS dX0_fewestPointers_26
  exact LP_5 _ _ _ hf _ _ hP hD hS _ (lv_sub hl [2, 3, 1, 0] rfl)
def f_X0_optionWeight (os : Nat → Int32) (wg : Nat → Int32) (p0 : Int32) (p1 : Int32) : Option (Int32) := (Option.bind (f_X0_option os p0 p1) (fun r_1 => (Option.bind (f_X3_weightAt wg r_1) (fun r_3 => some r_3))))
abbrev rm_X0_optionWeight : Room := { frames := 2, cells := 0, slots := 0, locals := 43 }
set_option maxHeartbeats 4000000 in
set_option maxRecDepth 100000 in
theorem c_X0_optionWeight (l : Launch) (D : va_G) (cI cC cT : ClassId) (h0 h1 h2 h3 h4 h5 h6 h7 h8 h9 : Nat) (mn : Int32) (oc : Nat → Int32) (os : Nat → Int32) (sd : Nat → Int32) (tg : Nat → Int32) (nr : Int32) (pf : Int32) (ks : Nat → Int32) (vs : Nat → Int32) (wg : Nat → Int32) (ts : Nat → Int32) (sz : Nat) (p0 : Int32) (p1 : Int32) (out : Int32) (hf : f_X0_optionWeight os wg p0 p1 = some out) : Met l yX0_optionWeight wsX0_optionWeight rm_X0_optionWeight (mP D (mTY cI cC cT) [.ref h0, .int p0, .int p1] (W_C cI cC cT h0 h1 h2 h3 h4 h5 h6 h7 h8 h9 mn oc os sd tg nr pf ks vs wg ts) sz) (mQi D (mTY cI cC cT) out (va_A (W_C cI cC cT h0 h1 h2 h3 h4 h5 h6 h7 h8 h9 mn oc os sd tg nr pf ks vs wg ts) sz) (W_C cI cC cT h0 h1 h2 h3 h4 h5 h6 h7 h8 h9 mn oc os sd tg nr pf ks vs wg ts)) 0 0 (va_A (W_C cI cC cT h0 h1 h2 h3 h4 h5 h6 h7 h8 h9 mn oc os sd tg nr pf ks vs wg ts) sz) := by
  refine mEnt (cc := cX0_optionWeight) (maxL := 3) (ret := (some .int)) (own := RX0) (Qq := fun A => mQi D (mTY cI cC cT) out A (W_C cI cC cT h0 h1 h2 h3 h4 h5 h6 h7 h8 h9 mn oc os sd tg nr pf ks vs wg ts)) (by decide) rfl rfl (Nat.le_of_ble_eq_true rfl) ?_
  intro p e s m below meth c A ls H locs hx hb hr hml hlocks hown hts hN hA hP hK hD hS hl
  have hin_X0 : ∀ w ∈ u_ws RX0 TX0 6, w ∈ wsX0_optionWeight := by decide +kernel
  have fl_24 := hts (.fieldLink RX0 24 "SureMendings$Choices" "table" "LSureMendings$Table;") (by decide +kernel)
  have hl : lv_has ls 3 [(0, .ref h0), (1, .int p0), (2, .int p1)] := hl
  unfold f_X0_optionWeight at hf
  refine lv_aload_n hx hb dX0_optionWeight_0 rfl (lv_at hl 0 rfl) ?_
  refine va_get (D := D) (ci := 0) (v := .ref h5) (C := RX0) (T := TX0) (N := 6) hx hb hts hin_X0 hown hK hP 0 rfl rfl 0 (by decide) fl_24 (fun _ h9 => h9) rfl dX0_optionWeight_1 ?_
  refine lv_aload_n hx hb dX0_optionWeight_4 rfl (lv_at hl 0 rfl) ?_
  refine lv_iload_n hx hb dX0_optionWeight_5 rfl (lv_at hl 1 rfl) ?_
  refine lv_iload_n hx hb dX0_optionWeight_6 rfl (lv_at hl 2 rfl) ?_
  obtain ⟨r_1, q_2, hf⟩ := bnd hf
  refine mGoi (w2 := (W_C cI cC cT h0 h1 h2 h3 h4 h5 h6 h7 h8 h9 mn oc os sd tg nr pf ks vs wg ts)) (va_runV (As := [.int p0, .int p1]) (rest := [.ref h5]) ⟨hx, hb, hml, hown, hts⟩ (c_X0_option l D cI cC cT h0 h1 h2 h3 h4 h5 h6 h7 h8 h9 mn oc os sd tg nr pf ks vs wg ts H.size p0 p1 r_1 q_2) (cwV 2 hts gX0_optionWeight_X0_option rfl rfl rfl (by decide +kernel) ⟨Nat.le_of_ble_eq_true rfl, Nat.le_of_ble_eq_true rfl⟩) (mPreV hP hD hK hN [0, 1, 2, 3, 4, 5, 6, 7, 8, 9] rfl (by decide) (va_recv hK hP (ci := 0) (q0 := 0) rfl rfl)) rfl rfl hl.1 rfl (lv_room (Nat.le_of_ble_eq_true rfl)) dX0_optionWeight_7 ⟨Nat.zero_le _, Nat.zero_le _⟩) hP hD hS hA [0, 1, 2, 3, 4, 5, 6, 7, 8, 9] rfl rfl rfl rfl (fun H locs hP hD hS => ?_)
  obtain ⟨r_3, q_4, hf⟩ := bnd hf
  refine mGoi (w2 := (W_C cI cC cT h0 h1 h2 h3 h4 h5 h6 h7 h8 h9 mn oc os sd tg nr pf ks vs wg ts)) (va_runV (As := [.int r_1]) (rest := []) ⟨hx, hb, hml, hown, hts⟩ (c_X3_weightAt l D cI cC cT h5 h6 h7 h8 h9 nr pf ks vs wg ts H.size r_1 r_3 q_4) (cwV 1 hts gX0_optionWeight_X3_weightAt rfl rfl rfl (by decide +kernel) ⟨Nat.le_of_ble_eq_true rfl, Nat.le_of_ble_eq_true rfl⟩) (mPreV hP hD hK hN [5, 6, 7, 8, 9] rfl (by decide) (va_recv hK hP (ci := 3) (q0 := 5) rfl rfl)) rfl rfl hl.1 rfl (lv_room (Nat.le_of_ble_eq_true rfl)) dX0_optionWeight_10 ⟨Nat.zero_le _, Nat.zero_le _⟩) hP hD hS hA [5, 6, 7, 8, 9] rfl rfl rfl rfl (fun H locs hP hD hS => ?_)
  cases hf
  exact mIret hx hb hr hlocks hP hD hK hS dX0_optionWeight_13
def b_X0_firstMendingByWeight_1 (oc : Nat → Int32) (os : Nat → Int32) (sd : Nat → Int32) (wg : Nat → Int32) (p0 : Int32) (v3_2 : Int32) (v2_1 : Int32) (z : Int32 × Int32) : Option ((Int32 × Int32) ⊕ ((Int32 × Int32) ⊕ (Int32))) := match z with
  | (v4_5, v5_6) => (Option.bind (f_X0_optionsOf oc v3_2) (fun r_8 => (if r_8 ≤ v5_6 then (Option.bind (f_X5_at sd v3_2 10) (fun r_11 => some (.inr (.inl ((v2_1 + (v4_5 * r_11), v3_2 + 1)))))) else (Option.bind (f_X0_optionWeight os wg v3_2 v5_6) (fun r_13 => (Option.bind (f_X0_optionWeight os wg v3_2 v4_5) (fun r_15 => (Option.bind (α := Int32) ((if (p0 * r_13) ≤ (p0 * r_15) then some v4_5 else some v5_6)) (fun x_17 => some (.inl ((x_17, v5_6 + 1))))))))))))
def b_X0_firstMendingByWeight_2 (oc : Nat → Int32) (os : Nat → Int32) (sd : Nat → Int32) (wg : Nat → Int32) (p0 : Int32) (z : Int32 × Int32) : Option ((Int32 × Int32) ⊕ (Int32)) := match z with
  | (v2_1, v3_2) => (if 10 ≤ v3_2 then some (.inr v2_1) else iter fuel (b_X0_firstMendingByWeight_1 oc os sd wg p0 v3_2 v2_1) ((0, 1)))
def f_X0_firstMendingByWeight (oc : Nat → Int32) (os : Nat → Int32) (sd : Nat → Int32) (wg : Nat → Int32) (p0 : Int32) : Option (Int32) := iter fuel (b_X0_firstMendingByWeight_2 oc os sd wg p0) ((0, 0))
abbrev rm_X0_firstMendingByWeight : Room := { frames := 3, cells := 0, slots := 0, locals := 65 }
set_option maxHeartbeats 4000000 in
set_option maxRecDepth 100000 in
theorem c_X0_firstMendingByWeight (l : Launch) (D : va_G) (cI cC cT : ClassId) (h0 h1 h2 h3 h4 h5 h6 h7 h8 h9 : Nat) (mn : Int32) (oc : Nat → Int32) (os : Nat → Int32) (sd : Nat → Int32) (tg : Nat → Int32) (nr : Int32) (pf : Int32) (ks : Nat → Int32) (vs : Nat → Int32) (wg : Nat → Int32) (ts : Nat → Int32) (sz : Nat) (p0 : Int32) (out : Int32) (hf : f_X0_firstMendingByWeight oc os sd wg p0 = some out) : Met l yX0_firstMendingByWeight wsX0_firstMendingByWeight rm_X0_firstMendingByWeight (mP D (mTY cI cC cT) [.ref h0, .int p0] (W_C cI cC cT h0 h1 h2 h3 h4 h5 h6 h7 h8 h9 mn oc os sd tg nr pf ks vs wg ts) sz) (mQi D (mTY cI cC cT) out (va_A (W_C cI cC cT h0 h1 h2 h3 h4 h5 h6 h7 h8 h9 mn oc os sd tg nr pf ks vs wg ts) sz) (W_C cI cC cT h0 h1 h2 h3 h4 h5 h6 h7 h8 h9 mn oc os sd tg nr pf ks vs wg ts)) 0 0 (va_A (W_C cI cC cT h0 h1 h2 h3 h4 h5 h6 h7 h8 h9 mn oc os sd tg nr pf ks vs wg ts) sz) := by
  refine mEnt (cc := cX0_firstMendingByWeight) (maxL := 6) (ret := (some .int)) (own := RX0) (Qq := fun A => mQi D (mTY cI cC cT) out A (W_C cI cC cT h0 h1 h2 h3 h4 h5 h6 h7 h8 h9 mn oc os sd tg nr pf ks vs wg ts)) (by decide) rfl rfl (Nat.le_of_ble_eq_true rfl) ?_
  intro p e s m below meth c A ls H locs hx hb hr hml hlocks hown hts hN hA hP hK hD hS hl
  have hin_X0 : ∀ w ∈ u_ws RX0 TX0 6, w ∈ wsX0_firstMendingByWeight := by decide +kernel
  have fl_18 := hts (.fieldLink RX0 18 "SureMendings$Choices" "strides" "[I") (by decide +kernel)
  have hl : lv_has ls 6 [(0, .ref h0), (1, .int p0)] := hl
  unfold f_X0_firstMendingByWeight at hf
  refine lv_iconst (v := 0) hx hb dX0_firstMendingByWeight_0 (by decide) ?_
  refine lv_istore_n (lv' := [(2, .int 0), (0, .ref h0), (1, .int p0)]) hx hb dX0_firstMendingByWeight_1 rfl hl (by decide) rfl (fun ls hl => ?_)
  refine lv_iconst (v := 0) hx hb dX0_firstMendingByWeight_2 (by decide) ?_
  refine lv_istore_n (lv' := [(3, .int 0), (2, .int 0), (0, .ref h0), (1, .int p0)]) hx hb dX0_firstMendingByWeight_3 rfl hl (by decide) rfl (fun ls hl => ?_)
  have LP_3 : ∀ (n_3 : Nat) (v2_1 : Int32) (v3_2 : Int32), iter n_3 (b_X0_firstMendingByWeight_2 oc os sd wg p0) ((v2_1, v3_2)) = some out → ∀ (H : Heap) (locs : List Loc), va_P D vwCl (W_C cI cC cT h0 h1 h2 h3 h4 h5 h6 h7 h8 h9 mn oc os sd tg nr pf ks vs wg ts) H → va_D A (W_C cI cC cT h0 h1 h2 h3 h4 h5 h6 h7 h8 h9 mn oc os sd tg nr pf ks vs wg ts) → va_S A s.heap H locs → ∀ (ls : Array Slot), lv_has ls 6 [(0, .ref h0), (1, .int p0), (2, .int v2_1), (3, .int v3_2)] → W p l e rm_X0_firstMendingByWeight s m ([.ref h0, .int p0] : List Value).toArray below meth c H locs 0 0 (MQ below (mQi D (mTY cI cC cT) out A (W_C cI cC cT h0 h1 h2 h3 h4 h5 h6 h7 h8 h9 mn oc os sd tg nr pf ks vs wg ts)) ([.ref h0, .int p0] : List Value).toArray s 0 0 A) (F0 m 4 ls []) := by
    intro n_3
    induction n_3 with
    | zero => intro v2_1 v3_2 hf; exact (iter_zero hf).elim
    | succ n_3 ih_3 =>
      intro v2_1 v3_2 hf H locs hP hD hS ls hl
      obtain ⟨o_3, hf, ho_3⟩ := iter_succ hf
      dsimp only [b_X0_firstMendingByWeight_2] at hf
      refine lv_iload_n hx hb dX0_firstMendingByWeight_4 rfl (lv_at hl 3 rfl) ?_
      refine lv_bipush (v := 10) hx hb dX0_firstMendingByWeight_5 (by decide) ?_
      refine lv_icmp_ge (tgt := 77) hx hb dX0_firstMendingByWeight_7 (by decide) (fun c_4 => ?_) (fun c_4 => ?_)
      · have hf := ite_t hf c_4
        refine lv_iload_n hx hb dX0_firstMendingByWeight_77 rfl (lv_at hl 2 rfl) ?_
        cases hf
        have hf := ho_3.2 _ rfl
        cases hf
        exact mIret hx hb hr hlocks hP hD hK hS dX0_firstMendingByWeight_78
      · have hf := ite_f hf c_4
        refine lv_iconst (v := 0) hx hb dX0_firstMendingByWeight_10 (by decide) ?_
        refine lv_istore (lv' := [(4, .int 0), (0, .ref h0), (1, .int p0), (2, .int v2_1), (3, .int v3_2)]) hx hb dX0_firstMendingByWeight_11 hl (by decide) rfl (fun ls hl => ?_)
        refine lv_iconst (v := 1) hx hb dX0_firstMendingByWeight_13 (by decide) ?_
        refine lv_istore (lv' := [(5, .int 1), (4, .int 0), (0, .ref h0), (1, .int p0), (2, .int v2_1), (3, .int v3_2)]) hx hb dX0_firstMendingByWeight_14 hl (by decide) rfl (fun ls hl => ?_)
        have LP_7 : ∀ (n_7 : Nat) (v4_5 : Int32) (v5_6 : Int32), iter n_7 (b_X0_firstMendingByWeight_1 oc os sd wg p0 v3_2 v2_1) ((v4_5, v5_6)) = some o_3 → ∀ (H : Heap) (locs : List Loc), va_P D vwCl (W_C cI cC cT h0 h1 h2 h3 h4 h5 h6 h7 h8 h9 mn oc os sd tg nr pf ks vs wg ts) H → va_D A (W_C cI cC cT h0 h1 h2 h3 h4 h5 h6 h7 h8 h9 mn oc os sd tg nr pf ks vs wg ts) → va_S A s.heap H locs → ∀ (ls : Array Slot), lv_has ls 6 [(0, .ref h0), (1, .int p0), (2, .int v2_1), (3, .int v3_2), (4, .int v4_5), (5, .int v5_6)] → W p l e rm_X0_firstMendingByWeight s m ([.ref h0, .int p0] : List Value).toArray below meth c H locs 0 0 (MQ below (mQi D (mTY cI cC cT) out A (W_C cI cC cT h0 h1 h2 h3 h4 h5 h6 h7 h8 h9 mn oc os sd tg nr pf ks vs wg ts)) ([.ref h0, .int p0] : List Value).toArray s 0 0 A) (F0 m 16 ls []) := by
          intro n_7
          induction n_7 with
          | zero => intro v4_5 v5_6 hf; exact (iter_zero hf).elim
          | succ n_7 ih_7 =>
            intro v4_5 v5_6 hf H locs hP hD hS ls hl
            obtain ⟨o_7, hf, ho_7⟩ := iter_succ hf
            dsimp only [b_X0_firstMendingByWeight_1] at hf
            refine lv_iload hx hb dX0_firstMendingByWeight_16 (lv_at hl 5 rfl) ?_
            refine lv_aload_n hx hb dX0_firstMendingByWeight_18 rfl (lv_at hl 0 rfl) ?_
            refine lv_iload_n hx hb dX0_firstMendingByWeight_19 rfl (lv_at hl 3 rfl) ?_
            obtain ⟨r_8, q_9, hf⟩ := bnd hf
            refine mGoi (w2 := (W_C cI cC cT h0 h1 h2 h3 h4 h5 h6 h7 h8 h9 mn oc os sd tg nr pf ks vs wg ts)) (va_runV (As := [.int v3_2]) (rest := [.int v5_6]) ⟨hx, hb, hml, hown, hts⟩ (c_X0_optionsOf l D cI cC cT h0 h1 h2 h3 h4 h5 h6 h7 h8 h9 mn oc os sd tg nr pf ks vs wg ts H.size v3_2 r_8 q_9) (cwV 1 hts gX0_firstMendingByWeight_X0_optionsOf rfl rfl rfl (by decide +kernel) ⟨Nat.le_of_ble_eq_true rfl, Nat.le_of_ble_eq_true rfl⟩) (mPreV hP hD hK hN [0, 1, 2, 3, 4, 5, 6, 7, 8, 9] rfl (by decide) (va_recv hK hP (ci := 0) (q0 := 0) rfl rfl)) rfl rfl hl.1 rfl (lv_room (Nat.le_of_ble_eq_true rfl)) dX0_firstMendingByWeight_20 ⟨Nat.zero_le _, Nat.zero_le _⟩) hP hD hS hA [0, 1, 2, 3, 4, 5, 6, 7, 8, 9] rfl rfl rfl rfl (fun H locs hP hD hS => ?_)
            refine lv_icmp_ge (tgt := 57) hx hb dX0_firstMendingByWeight_23 (by decide) (fun c_10 => ?_) (fun c_10 => ?_)
            · have hf := ite_t hf c_10
              refine lv_iload_n hx hb dX0_firstMendingByWeight_57 rfl (lv_at hl 2 rfl) ?_
              refine lv_iload hx hb dX0_firstMendingByWeight_58 (lv_at hl 4 rfl) ?_
              refine lv_aload_n hx hb dX0_firstMendingByWeight_60 rfl (lv_at hl 0 rfl) ?_
              refine va_get (D := D) (ci := 0) (v := .ref h3) (C := RX0) (T := TX0) (N := 6) hx hb hts hin_X0 hown hK hP 0 rfl rfl 3 (by decide) fl_18 (fun _ h9 => h9) rfl dX0_firstMendingByWeight_61 ?_
              refine lv_iload_n hx hb dX0_firstMendingByWeight_64 rfl (lv_at hl 3 rfl) ?_
              obtain ⟨r_11, q_12, hf⟩ := bnd hf
              refine mGoi (w2 := (W_C cI cC cT h0 h1 h2 h3 h4 h5 h6 h7 h8 h9 mn oc os sd tg nr pf ks vs wg ts)) (va_runSN (As := [.ref h3, .int v3_2]) (rest := [.int v4_5, .int v2_1]) ⟨hx, hb, hml, hown, hts⟩ (c_X5_at l D cI cC cT 10 h3 sd H.size v3_2 r_11 q_12) ⟨va_cnB 2 hts gX0_firstMendingByWeight_X5_at_n66 rfl rfl rfl (nW_at hN 7 rfl) (hts (.initialized RX5) (by decide +kernel)) (by decide +kernel) ⟨Nat.le_of_ble_eq_true rfl, Nat.le_of_ble_eq_true rfl⟩, hts (.static yX5_at) (by decide +kernel), trivial⟩ (mPreS hP hD hK hN [3] rfl (by decide)) rfl rfl hl.1 rfl (lv_room (Nat.le_of_ble_eq_true rfl)) dX0_firstMendingByWeight_65 ⟨Nat.zero_le _, Nat.zero_le _⟩) hP hD hS hA [3] rfl rfl rfl rfl (fun H locs hP hD hS => ?_)
              refine lv_imul hx hb dX0_firstMendingByWeight_68 ?_
              refine lv_iadd hx hb dX0_firstMendingByWeight_69 ?_
              refine lv_istore_n (lv' := [(2, .int (v2_1 + (v4_5 * r_11))), (0, .ref h0), (1, .int p0), (3, .int v3_2), (4, .int v4_5), (5, .int v5_6)]) hx hb dX0_firstMendingByWeight_70 rfl hl (by decide) rfl (fun ls hl => ?_)
              refine lv_iinc (v := v3_2 + 1) (lv' := [(3, .int (v3_2 + 1)), (2, .int (v2_1 + (v4_5 * r_11))), (0, .ref h0), (1, .int p0), (4, .int v4_5), (5, .int v5_6)]) hx hb dX0_firstMendingByWeight_71 hl (k := 3) rfl rfl (by decide) rfl (fun ls hl => ?_)
              refine lv_goto (tgt := 4) hx hb dX0_firstMendingByWeight_74 (by decide) ?_
              cases hf
              have hf := ho_7.2 _ rfl
              cases hf
              have hf := ho_3.1 _ rfl
              exact ih_3 _ _ hf _ _ hP hD hS _ (lv_sub hl [2, 3, 1, 0] rfl)
            · have hf := ite_f hf c_10
              refine lv_iload_n hx hb dX0_firstMendingByWeight_26 rfl (lv_at hl 1 rfl) ?_
              refine lv_aload_n hx hb dX0_firstMendingByWeight_27 rfl (lv_at hl 0 rfl) ?_
              refine lv_iload_n hx hb dX0_firstMendingByWeight_28 rfl (lv_at hl 3 rfl) ?_
              refine lv_iload hx hb dX0_firstMendingByWeight_29 (lv_at hl 5 rfl) ?_
              obtain ⟨r_13, q_14, hf⟩ := bnd hf
              refine mGoi (w2 := (W_C cI cC cT h0 h1 h2 h3 h4 h5 h6 h7 h8 h9 mn oc os sd tg nr pf ks vs wg ts)) (va_runV (As := [.int v3_2, .int v5_6]) (rest := [.int p0]) ⟨hx, hb, hml, hown, hts⟩ (c_X0_optionWeight l D cI cC cT h0 h1 h2 h3 h4 h5 h6 h7 h8 h9 mn oc os sd tg nr pf ks vs wg ts H.size v3_2 v5_6 r_13 q_14) (cwV 2 hts gX0_firstMendingByWeight_X0_optionWeight rfl rfl rfl (by decide +kernel) ⟨Nat.le_of_ble_eq_true rfl, Nat.le_of_ble_eq_true rfl⟩) (mPreV hP hD hK hN [0, 1, 2, 3, 4, 5, 6, 7, 8, 9] rfl (by decide) (va_recv hK hP (ci := 0) (q0 := 0) rfl rfl)) rfl rfl hl.1 rfl (lv_room (Nat.le_of_ble_eq_true rfl)) dX0_firstMendingByWeight_31 ⟨Nat.zero_le _, Nat.zero_le _⟩) hP hD hS hA [0, 1, 2, 3, 4, 5, 6, 7, 8, 9] rfl rfl rfl rfl (fun H locs hP hD hS => ?_)
              refine lv_imul hx hb dX0_firstMendingByWeight_34 ?_
              refine lv_iload_n hx hb dX0_firstMendingByWeight_35 rfl (lv_at hl 1 rfl) ?_
              refine lv_aload_n hx hb dX0_firstMendingByWeight_36 rfl (lv_at hl 0 rfl) ?_
              refine lv_iload_n hx hb dX0_firstMendingByWeight_37 rfl (lv_at hl 3 rfl) ?_
              refine lv_iload hx hb dX0_firstMendingByWeight_38 (lv_at hl 4 rfl) ?_
              obtain ⟨r_15, q_16, hf⟩ := bnd hf
              refine mGoi (w2 := (W_C cI cC cT h0 h1 h2 h3 h4 h5 h6 h7 h8 h9 mn oc os sd tg nr pf ks vs wg ts)) (va_runV (As := [.int v3_2, .int v4_5]) (rest := [.int p0, .int (p0 * r_13)]) ⟨hx, hb, hml, hown, hts⟩ (c_X0_optionWeight l D cI cC cT h0 h1 h2 h3 h4 h5 h6 h7 h8 h9 mn oc os sd tg nr pf ks vs wg ts H.size v3_2 v4_5 r_15 q_16) (cwV 2 hts gX0_firstMendingByWeight_X0_optionWeight rfl rfl rfl (by decide +kernel) ⟨Nat.le_of_ble_eq_true rfl, Nat.le_of_ble_eq_true rfl⟩) (mPreV hP hD hK hN [0, 1, 2, 3, 4, 5, 6, 7, 8, 9] rfl (by decide) (va_recv hK hP (ci := 0) (q0 := 0) rfl rfl)) rfl rfl hl.1 rfl (lv_room (Nat.le_of_ble_eq_true rfl)) dX0_firstMendingByWeight_40 ⟨Nat.zero_le _, Nat.zero_le _⟩) hP hD hS hA [0, 1, 2, 3, 4, 5, 6, 7, 8, 9] rfl rfl rfl rfl (fun H locs hP hD hS => ?_)
              refine lv_imul hx hb dX0_firstMendingByWeight_43 ?_
              obtain ⟨x_17, q_19, hf⟩ := bnd hf
              have K_18 : ∀ (H : Heap) (locs : List Loc), va_P D vwCl (W_C cI cC cT h0 h1 h2 h3 h4 h5 h6 h7 h8 h9 mn oc os sd tg nr pf ks vs wg ts) H → va_D A (W_C cI cC cT h0 h1 h2 h3 h4 h5 h6 h7 h8 h9 mn oc os sd tg nr pf ks vs wg ts) → va_S A s.heap H locs → ∀ (ls : Array Slot), lv_has ls 6 [(0, .ref h0), (1, .int p0), (2, .int v2_1), (3, .int v3_2), (4, .int x_17), (5, .int v5_6)] → W p l e rm_X0_firstMendingByWeight s m ([.ref h0, .int p0] : List Value).toArray below meth c H locs 0 0 (MQ below (mQi D (mTY cI cC cT) out A (W_C cI cC cT h0 h1 h2 h3 h4 h5 h6 h7 h8 h9 mn oc os sd tg nr pf ks vs wg ts)) ([.ref h0, .int p0] : List Value).toArray s 0 0 A) (F0 m 51 ls []) := by
                intro H locs hP hD hS ls hl
                refine lv_iinc (v := v5_6 + 1) (lv' := [(5, .int (v5_6 + 1)), (0, .ref h0), (1, .int p0), (2, .int v2_1), (3, .int v3_2), (4, .int x_17)]) hx hb dX0_firstMendingByWeight_51 hl (k := 5) rfl rfl (by decide) rfl (fun ls hl => ?_)
                refine lv_goto (tgt := 16) hx hb dX0_firstMendingByWeight_54 (by decide) ?_
                cases hf
                have hf := ho_7.1 _ rfl
                exact ih_7 _ _ hf _ _ hP hD hS _ (lv_sub hl [1, 2, 3, 4, 5, 0] rfl)
              have hf := q_19
              refine lv_icmp_le (tgt := 51) hx hb dX0_firstMendingByWeight_44 (by decide) (fun c_20 => ?_) (fun c_20 => ?_)
              · have hf := ite_t hf c_20
                cases hf
                exact K_18 _ _ hP hD hS _ (lv_sub hl [0, 1, 2, 3, 4, 5] rfl)
              · have hf := ite_f hf c_20
                refine lv_iload hx hb dX0_firstMendingByWeight_47 (lv_at hl 5 rfl) ?_
                refine lv_istore (lv' := [(4, .int v5_6), (0, .ref h0), (1, .int p0), (2, .int v2_1), (3, .int v3_2), (5, .int v5_6)]) hx hb dX0_firstMendingByWeight_49 hl (by decide) rfl (fun ls hl => ?_)
                cases hf
                exact K_18 _ _ hP hD hS _ (lv_sub hl [1, 2, 3, 4, 0, 5] rfl)
        exact LP_7 _ _ _ hf _ _ hP hD hS _ (lv_sub hl [2, 3, 4, 5, 1, 0] rfl)
  exact LP_3 _ _ _ hf _ _ hP hD hS _ (lv_sub hl [2, 3, 1, 0] rfl)
def f_X0_firstHeaviestMending (oc : Nat → Int32) (os : Nat → Int32) (sd : Nat → Int32) (wg : Nat → Int32) : Option (Int32) := (Option.bind (f_X0_firstMendingByWeight oc os sd wg 1) (fun r_1 => some r_1))
abbrev rm_X0_firstHeaviestMending : Room := { frames := 4, cells := 0, slots := 0, locals := 90 }
set_option maxHeartbeats 4000000 in
set_option maxRecDepth 100000 in
theorem c_X0_firstHeaviestMending (l : Launch) (D : va_G) (cI cC cT : ClassId) (h0 h1 h2 h3 h4 h5 h6 h7 h8 h9 : Nat) (mn : Int32) (oc : Nat → Int32) (os : Nat → Int32) (sd : Nat → Int32) (tg : Nat → Int32) (nr : Int32) (pf : Int32) (ks : Nat → Int32) (vs : Nat → Int32) (wg : Nat → Int32) (ts : Nat → Int32) (sz : Nat) (out : Int32) (hf : f_X0_firstHeaviestMending oc os sd wg = some out) : Met l yX0_firstHeaviestMending wsX0_firstHeaviestMending rm_X0_firstHeaviestMending (mP D (mTY cI cC cT) [.ref h0] (W_C cI cC cT h0 h1 h2 h3 h4 h5 h6 h7 h8 h9 mn oc os sd tg nr pf ks vs wg ts) sz) (mQi D (mTY cI cC cT) out (va_A (W_C cI cC cT h0 h1 h2 h3 h4 h5 h6 h7 h8 h9 mn oc os sd tg nr pf ks vs wg ts) sz) (W_C cI cC cT h0 h1 h2 h3 h4 h5 h6 h7 h8 h9 mn oc os sd tg nr pf ks vs wg ts)) 0 0 (va_A (W_C cI cC cT h0 h1 h2 h3 h4 h5 h6 h7 h8 h9 mn oc os sd tg nr pf ks vs wg ts) sz) := by
  refine mEnt (cc := cX0_firstHeaviestMending) (maxL := 1) (ret := (some .int)) (own := RX0) (Qq := fun A => mQi D (mTY cI cC cT) out A (W_C cI cC cT h0 h1 h2 h3 h4 h5 h6 h7 h8 h9 mn oc os sd tg nr pf ks vs wg ts)) (by decide) rfl rfl (Nat.le_of_ble_eq_true rfl) ?_
  intro p e s m below meth c A ls H locs hx hb hr hml hlocks hown hts hN hA hP hK hD hS hl
  have hl : lv_has ls 1 [(0, .ref h0)] := hl
  unfold f_X0_firstHeaviestMending at hf
  refine lv_aload_n hx hb dX0_firstHeaviestMending_0 rfl (lv_at hl 0 rfl) ?_
  refine lv_iconst (v := 1) hx hb dX0_firstHeaviestMending_1 (by decide) ?_
  obtain ⟨r_1, q_2, hf⟩ := bnd hf
  refine mGoi (w2 := (W_C cI cC cT h0 h1 h2 h3 h4 h5 h6 h7 h8 h9 mn oc os sd tg nr pf ks vs wg ts)) (va_runV (As := [.int 1]) (rest := []) ⟨hx, hb, hml, hown, hts⟩ (c_X0_firstMendingByWeight l D cI cC cT h0 h1 h2 h3 h4 h5 h6 h7 h8 h9 mn oc os sd tg nr pf ks vs wg ts H.size 1 r_1 q_2) (cwV 1 hts gX0_firstHeaviestMending_X0_firstMendingByWeight rfl rfl rfl (by decide +kernel) ⟨Nat.le_of_ble_eq_true rfl, Nat.le_of_ble_eq_true rfl⟩) (mPreV hP hD hK hN [0, 1, 2, 3, 4, 5, 6, 7, 8, 9] rfl (by decide) (va_recv hK hP (ci := 0) (q0 := 0) rfl rfl)) rfl rfl hl.1 rfl (lv_room (Nat.le_of_ble_eq_true rfl)) dX0_firstHeaviestMending_2 ⟨Nat.zero_le _, Nat.zero_le _⟩) hP hD hS hA [0, 1, 2, 3, 4, 5, 6, 7, 8, 9] rfl rfl rfl rfl (fun H locs hP hD hS => ?_)
  cases hf
  exact mIret hx hb hr hlocks hP hD hK hS dX0_firstHeaviestMending_5
def f_X0_firstLightestMending (oc : Nat → Int32) (os : Nat → Int32) (sd : Nat → Int32) (wg : Nat → Int32) : Option (Int32) := (Option.bind (f_X0_firstMendingByWeight oc os sd wg (-1)) (fun r_1 => some r_1))
abbrev rm_X0_firstLightestMending : Room := { frames := 4, cells := 0, slots := 0, locals := 90 }
set_option maxHeartbeats 4000000 in
set_option maxRecDepth 100000 in
theorem c_X0_firstLightestMending (l : Launch) (D : va_G) (cI cC cT : ClassId) (h0 h1 h2 h3 h4 h5 h6 h7 h8 h9 : Nat) (mn : Int32) (oc : Nat → Int32) (os : Nat → Int32) (sd : Nat → Int32) (tg : Nat → Int32) (nr : Int32) (pf : Int32) (ks : Nat → Int32) (vs : Nat → Int32) (wg : Nat → Int32) (ts : Nat → Int32) (sz : Nat) (out : Int32) (hf : f_X0_firstLightestMending oc os sd wg = some out) : Met l yX0_firstLightestMending wsX0_firstLightestMending rm_X0_firstLightestMending (mP D (mTY cI cC cT) [.ref h0] (W_C cI cC cT h0 h1 h2 h3 h4 h5 h6 h7 h8 h9 mn oc os sd tg nr pf ks vs wg ts) sz) (mQi D (mTY cI cC cT) out (va_A (W_C cI cC cT h0 h1 h2 h3 h4 h5 h6 h7 h8 h9 mn oc os sd tg nr pf ks vs wg ts) sz) (W_C cI cC cT h0 h1 h2 h3 h4 h5 h6 h7 h8 h9 mn oc os sd tg nr pf ks vs wg ts)) 0 0 (va_A (W_C cI cC cT h0 h1 h2 h3 h4 h5 h6 h7 h8 h9 mn oc os sd tg nr pf ks vs wg ts) sz) := by
  refine mEnt (cc := cX0_firstLightestMending) (maxL := 1) (ret := (some .int)) (own := RX0) (Qq := fun A => mQi D (mTY cI cC cT) out A (W_C cI cC cT h0 h1 h2 h3 h4 h5 h6 h7 h8 h9 mn oc os sd tg nr pf ks vs wg ts)) (by decide) rfl rfl (Nat.le_of_ble_eq_true rfl) ?_
  intro p e s m below meth c A ls H locs hx hb hr hml hlocks hown hts hN hA hP hK hD hS hl
  have hl : lv_has ls 1 [(0, .ref h0)] := hl
  unfold f_X0_firstLightestMending at hf
  refine lv_aload_n hx hb dX0_firstLightestMending_0 rfl (lv_at hl 0 rfl) ?_
  refine lv_iconst (v := -1) hx hb dX0_firstLightestMending_1 (by decide) ?_
  obtain ⟨r_1, q_2, hf⟩ := bnd hf
  refine mGoi (w2 := (W_C cI cC cT h0 h1 h2 h3 h4 h5 h6 h7 h8 h9 mn oc os sd tg nr pf ks vs wg ts)) (va_runV (As := [.int (-1)]) (rest := []) ⟨hx, hb, hml, hown, hts⟩ (c_X0_firstMendingByWeight l D cI cC cT h0 h1 h2 h3 h4 h5 h6 h7 h8 h9 mn oc os sd tg nr pf ks vs wg ts H.size (-1) r_1 q_2) (cwV 1 hts gX0_firstLightestMending_X0_firstMendingByWeight rfl rfl rfl (by decide +kernel) ⟨Nat.le_of_ble_eq_true rfl, Nat.le_of_ble_eq_true rfl⟩) (mPreV hP hD hK hN [0, 1, 2, 3, 4, 5, 6, 7, 8, 9] rfl (by decide) (va_recv hK hP (ci := 0) (q0 := 0) rfl rfl)) rfl rfl hl.1 rfl (lv_room (Nat.le_of_ble_eq_true rfl)) dX0_firstLightestMending_2 ⟨Nat.zero_le _, Nat.zero_le _⟩) hP hD hS hA [0, 1, 2, 3, 4, 5, 6, 7, 8, 9] rfl rfl rfl rfl (fun H locs hP hD hS => ?_)
  cases hf
  exact mIret hx hb hr hlocks hP hD hK hS dX0_firstLightestMending_5
def f_X0_rowKeptBy (oc : Nat → Int32) (os : Nat → Int32) (sd : Nat → Int32) (p0 : Int32) (p1 : Int32) : Option (Int32) := (Option.bind (f_X0_optionsOf oc p1) (fun r_1 => (Option.bind (f_X5_at sd p1 10) (fun r_3 => (if r_1 < 1 then some (-5) else (if 1 ≤ r_3 then (if ¬ r_3 = 0 then (if ¬ r_1 = 0 then (Option.bind (f_X0_option os p1 ((p0 / r_3) - (p0 / r_3) / r_1 * r_1)) (fun r_9 => some r_9)) else none) else none) else some (-5)))))))
abbrev rm_X0_rowKeptBy : Room := { frames := 2, cells := 0, slots := 0, locals := 43 }
set_option maxHeartbeats 4000000 in
set_option maxRecDepth 100000 in
theorem c_X0_rowKeptBy (l : Launch) (D : va_G) (cI cC cT : ClassId) (h0 h1 h2 h3 h4 h5 h6 h7 h8 h9 : Nat) (mn : Int32) (oc : Nat → Int32) (os : Nat → Int32) (sd : Nat → Int32) (tg : Nat → Int32) (nr : Int32) (pf : Int32) (ks : Nat → Int32) (vs : Nat → Int32) (wg : Nat → Int32) (ts : Nat → Int32) (sz : Nat) (p0 : Int32) (p1 : Int32) (out : Int32) (hf : f_X0_rowKeptBy oc os sd p0 p1 = some out) : Met l yX0_rowKeptBy wsX0_rowKeptBy rm_X0_rowKeptBy (mP D (mTY cI cC cT) [.ref h0, .int p0, .int p1] (W_C cI cC cT h0 h1 h2 h3 h4 h5 h6 h7 h8 h9 mn oc os sd tg nr pf ks vs wg ts) sz) (mQi D (mTY cI cC cT) out (va_A (W_C cI cC cT h0 h1 h2 h3 h4 h5 h6 h7 h8 h9 mn oc os sd tg nr pf ks vs wg ts) sz) (W_C cI cC cT h0 h1 h2 h3 h4 h5 h6 h7 h8 h9 mn oc os sd tg nr pf ks vs wg ts)) 0 0 (va_A (W_C cI cC cT h0 h1 h2 h3 h4 h5 h6 h7 h8 h9 mn oc os sd tg nr pf ks vs wg ts) sz) := by
  refine mEnt (cc := cX0_rowKeptBy) (maxL := 5) (ret := (some .int)) (own := RX0) (Qq := fun A => mQi D (mTY cI cC cT) out A (W_C cI cC cT h0 h1 h2 h3 h4 h5 h6 h7 h8 h9 mn oc os sd tg nr pf ks vs wg ts)) (by decide) rfl rfl (Nat.le_of_ble_eq_true rfl) ?_
  intro p e s m below meth c A ls H locs hx hb hr hml hlocks hown hts hN hA hP hK hD hS hl
  have hin_X0 : ∀ w ∈ u_ws RX0 TX0 6, w ∈ wsX0_rowKeptBy := by decide +kernel
  have fl_18 := hts (.fieldLink RX0 18 "SureMendings$Choices" "strides" "[I") (by decide +kernel)
  have hl : lv_has ls 5 [(0, .ref h0), (1, .int p0), (2, .int p1)] := hl
  unfold f_X0_rowKeptBy at hf
  refine lv_aload_n hx hb dX0_rowKeptBy_0 rfl (lv_at hl 0 rfl) ?_
  refine lv_iload_n hx hb dX0_rowKeptBy_1 rfl (lv_at hl 2 rfl) ?_
  obtain ⟨r_1, q_2, hf⟩ := bnd hf
  refine mGoi (w2 := (W_C cI cC cT h0 h1 h2 h3 h4 h5 h6 h7 h8 h9 mn oc os sd tg nr pf ks vs wg ts)) (va_runV (As := [.int p1]) (rest := []) ⟨hx, hb, hml, hown, hts⟩ (c_X0_optionsOf l D cI cC cT h0 h1 h2 h3 h4 h5 h6 h7 h8 h9 mn oc os sd tg nr pf ks vs wg ts H.size p1 r_1 q_2) (cwV 1 hts gX0_rowKeptBy_X0_optionsOf rfl rfl rfl (by decide +kernel) ⟨Nat.le_of_ble_eq_true rfl, Nat.le_of_ble_eq_true rfl⟩) (mPreV hP hD hK hN [0, 1, 2, 3, 4, 5, 6, 7, 8, 9] rfl (by decide) (va_recv hK hP (ci := 0) (q0 := 0) rfl rfl)) rfl rfl hl.1 rfl (lv_room (Nat.le_of_ble_eq_true rfl)) dX0_rowKeptBy_2 ⟨Nat.zero_le _, Nat.zero_le _⟩) hP hD hS hA [0, 1, 2, 3, 4, 5, 6, 7, 8, 9] rfl rfl rfl rfl (fun H locs hP hD hS => ?_)
  refine lv_istore_n (lv' := [(3, .int r_1), (0, .ref h0), (1, .int p0), (2, .int p1)]) hx hb dX0_rowKeptBy_5 rfl hl (by decide) rfl (fun ls hl => ?_)
  refine lv_aload_n hx hb dX0_rowKeptBy_6 rfl (lv_at hl 1 rfl) ?_
  refine va_get (D := D) (ci := 0) (v := .ref h3) (C := RX0) (T := TX0) (N := 6) hx hb hts hin_X0 hown hK hP 0 rfl rfl 3 (by decide) fl_18 (fun _ h9 => h9) rfl dX0_rowKeptBy_7 ?_
  refine lv_iload_n hx hb dX0_rowKeptBy_10 rfl (lv_at hl 3 rfl) ?_
  obtain ⟨r_3, q_4, hf⟩ := bnd hf
  refine mGoi (w2 := (W_C cI cC cT h0 h1 h2 h3 h4 h5 h6 h7 h8 h9 mn oc os sd tg nr pf ks vs wg ts)) (va_runSN (As := [.ref h3, .int p1]) (rest := []) ⟨hx, hb, hml, hown, hts⟩ (c_X5_at l D cI cC cT 10 h3 sd H.size p1 r_3 q_4) ⟨va_cnB 2 hts gX0_rowKeptBy_X5_at_n66 rfl rfl rfl (nW_at hN 7 rfl) (hts (.initialized RX5) (by decide +kernel)) (by decide +kernel) ⟨Nat.le_of_ble_eq_true rfl, Nat.le_of_ble_eq_true rfl⟩, hts (.static yX5_at) (by decide +kernel), trivial⟩ (mPreS hP hD hK hN [3] rfl (by decide)) rfl rfl hl.1 rfl (lv_room (Nat.le_of_ble_eq_true rfl)) dX0_rowKeptBy_11 ⟨Nat.zero_le _, Nat.zero_le _⟩) hP hD hS hA [3] rfl rfl rfl rfl (fun H locs hP hD hS => ?_)
  refine lv_istore (lv' := [(4, .int r_3), (3, .int r_1), (0, .ref h0), (1, .int p0), (2, .int p1)]) hx hb dX0_rowKeptBy_14 hl (by decide) rfl (fun ls hl => ?_)
  refine lv_iload_n hx hb dX0_rowKeptBy_16 rfl (lv_at hl 1 rfl) ?_
  refine lv_iconst (v := 1) hx hb dX0_rowKeptBy_17 (by decide) ?_
  refine lv_icmp_lt (tgt := 27) hx hb dX0_rowKeptBy_18 (by decide) (fun c_5 => ?_) (fun c_5 => ?_)
  · have hf := ite_t hf c_5
    refine lv_bipush (v := -5) hx hb dX0_rowKeptBy_27 (by decide) ?_
    cases hf
    exact mIret hx hb hr hlocks hP hD hK hS dX0_rowKeptBy_29
  · have hf := ite_f hf c_5
    refine lv_iload hx hb dX0_rowKeptBy_21 (lv_at hl 0 rfl) ?_
    refine lv_iconst (v := 1) hx hb dX0_rowKeptBy_23 (by decide) ?_
    refine lv_icmp_ge (tgt := 30) hx hb dX0_rowKeptBy_24 (by decide) (fun c_6 => ?_) (fun c_6 => ?_)
    · have hf := ite_t hf c_6
      refine lv_aload_n hx hb dX0_rowKeptBy_30 rfl (lv_at hl 2 rfl) ?_
      refine lv_iload_n hx hb dX0_rowKeptBy_31 rfl (lv_at hl 4 rfl) ?_
      refine lv_iload_n hx hb dX0_rowKeptBy_32 rfl (lv_at hl 3 rfl) ?_
      refine lv_iload hx hb dX0_rowKeptBy_33 (lv_at hl 0 rfl) ?_
      obtain ⟨h_7, hf⟩ := grd hf
      refine lv_idiv hx hb dX0_rowKeptBy_35 h_7 ?_
      refine lv_iload_n hx hb dX0_rowKeptBy_36 rfl (lv_at hl 1 rfl) ?_
      obtain ⟨h_8, hf⟩ := grd hf
      refine lv_irem hx hb dX0_rowKeptBy_37 h_8 ?_
      obtain ⟨r_9, q_10, hf⟩ := bnd hf
      refine mGoi (w2 := (W_C cI cC cT h0 h1 h2 h3 h4 h5 h6 h7 h8 h9 mn oc os sd tg nr pf ks vs wg ts)) (va_runV (As := [.int p1, .int ((p0 / r_3) - (p0 / r_3) / r_1 * r_1)]) (rest := []) ⟨hx, hb, hml, hown, hts⟩ (c_X0_option l D cI cC cT h0 h1 h2 h3 h4 h5 h6 h7 h8 h9 mn oc os sd tg nr pf ks vs wg ts H.size p1 ((p0 / r_3) - (p0 / r_3) / r_1 * r_1) r_9 q_10) (cwV 2 hts gX0_rowKeptBy_X0_option rfl rfl rfl (by decide +kernel) ⟨Nat.le_of_ble_eq_true rfl, Nat.le_of_ble_eq_true rfl⟩) (mPreV hP hD hK hN [0, 1, 2, 3, 4, 5, 6, 7, 8, 9] rfl (by decide) (va_recv hK hP (ci := 0) (q0 := 0) rfl rfl)) rfl rfl hl.1 rfl (lv_room (Nat.le_of_ble_eq_true rfl)) dX0_rowKeptBy_38 ⟨Nat.zero_le _, Nat.zero_le _⟩) hP hD hS hA [0, 1, 2, 3, 4, 5, 6, 7, 8, 9] rfl rfl rfl rfl (fun H locs hP hD hS => ?_)
      cases hf
      exact mIret hx hb hr hlocks hP hD hK hS dX0_rowKeptBy_41
    · have hf := ite_f hf c_6
      refine lv_bipush (v := -5) hx hb dX0_rowKeptBy_27 (by decide) ?_
      cases hf
      exact mIret hx hb hr hlocks hP hD hK hS dX0_rowKeptBy_29
def b_X0_holdsIn_1 (oc : Nat → Int32) (os : Nat → Int32) (sd : Nat → Int32) (ts : Nat → Int32) (p0 : Int32) (p2 : Int32) (z : Int32 × Int32) : Option ((Int32 × Int32) ⊕ (Int32)) := match z with
  | (v4_1, v5_2) => (if 10 ≤ v5_2 then some (.inr 0) else (Option.bind (f_X0_isThere oc v4_1) (fun r_5 => (if r_5 = 0 then some (.inr 0) else (if v4_1 = p2 then some (.inr 1) else (Option.bind (f_X0_rowKeptBy oc os sd p0 v4_1) (fun r_9 => (Option.bind (f_X3_targetAt ts r_9) (fun r_11 => some (.inl ((r_11, v5_2 + 1))))))))))))
def f_X0_holdsIn (oc : Nat → Int32) (os : Nat → Int32) (sd : Nat → Int32) (ts : Nat → Int32) (p0 : Int32) (p1 : Int32) (p2 : Int32) : Option (Int32) := iter fuel (b_X0_holdsIn_1 oc os sd ts p0 p2) ((p1, 0))
abbrev rm_X0_holdsIn : Room := { frames := 3, cells := 0, slots := 0, locals := 67 }
set_option maxHeartbeats 4000000 in
set_option maxRecDepth 100000 in
theorem c_X0_holdsIn (l : Launch) (D : va_G) (cI cC cT : ClassId) (h0 h1 h2 h3 h4 h5 h6 h7 h8 h9 : Nat) (mn : Int32) (oc : Nat → Int32) (os : Nat → Int32) (sd : Nat → Int32) (tg : Nat → Int32) (nr : Int32) (pf : Int32) (ks : Nat → Int32) (vs : Nat → Int32) (wg : Nat → Int32) (ts : Nat → Int32) (sz : Nat) (p0 : Int32) (p1 : Int32) (p2 : Int32) (out : Int32) (hf : f_X0_holdsIn oc os sd ts p0 p1 p2 = some out) : Met l yX0_holdsIn wsX0_holdsIn rm_X0_holdsIn (mP D (mTY cI cC cT) [.ref h0, .int p0, .int p1, .int p2] (W_C cI cC cT h0 h1 h2 h3 h4 h5 h6 h7 h8 h9 mn oc os sd tg nr pf ks vs wg ts) sz) (mQi D (mTY cI cC cT) out (va_A (W_C cI cC cT h0 h1 h2 h3 h4 h5 h6 h7 h8 h9 mn oc os sd tg nr pf ks vs wg ts) sz) (W_C cI cC cT h0 h1 h2 h3 h4 h5 h6 h7 h8 h9 mn oc os sd tg nr pf ks vs wg ts)) 0 0 (va_A (W_C cI cC cT h0 h1 h2 h3 h4 h5 h6 h7 h8 h9 mn oc os sd tg nr pf ks vs wg ts) sz) := by
  refine mEnt (cc := cX0_holdsIn) (maxL := 6) (ret := (some .boolean)) (own := RX0) (Qq := fun A => mQi D (mTY cI cC cT) out A (W_C cI cC cT h0 h1 h2 h3 h4 h5 h6 h7 h8 h9 mn oc os sd tg nr pf ks vs wg ts)) (by decide) rfl rfl (Nat.le_of_ble_eq_true rfl) ?_
  intro p e s m below meth c A ls H locs hx hb hr hml hlocks hown hts hN hA hP hK hD hS hl
  have hin_X0 : ∀ w ∈ u_ws RX0 TX0 6, w ∈ wsX0_holdsIn := by decide +kernel
  have fl_24 := hts (.fieldLink RX0 24 "SureMendings$Choices" "table" "LSureMendings$Table;") (by decide +kernel)
  have hl : lv_has ls 6 [(0, .ref h0), (1, .int p0), (2, .int p1), (3, .int p2)] := hl
  unfold f_X0_holdsIn at hf
  refine lv_iload_n hx hb dX0_holdsIn_0 rfl (lv_at hl 2 rfl) ?_
  refine lv_istore (lv' := [(4, .int p1), (0, .ref h0), (1, .int p0), (2, .int p1), (3, .int p2)]) hx hb dX0_holdsIn_1 hl (by decide) rfl (fun ls hl => ?_)
  refine lv_iconst (v := 0) hx hb dX0_holdsIn_3 (by decide) ?_
  refine lv_istore (lv' := [(5, .int 0), (4, .int p1), (0, .ref h0), (1, .int p0), (2, .int p1), (3, .int p2)]) hx hb dX0_holdsIn_4 hl (by decide) rfl (fun ls hl => ?_)
  have LP_3 : ∀ (n_3 : Nat) (v4_1 : Int32) (v5_2 : Int32), iter n_3 (b_X0_holdsIn_1 oc os sd ts p0 p2) ((v4_1, v5_2)) = some out → ∀ (H : Heap) (locs : List Loc), va_P D vwCl (W_C cI cC cT h0 h1 h2 h3 h4 h5 h6 h7 h8 h9 mn oc os sd tg nr pf ks vs wg ts) H → va_D A (W_C cI cC cT h0 h1 h2 h3 h4 h5 h6 h7 h8 h9 mn oc os sd tg nr pf ks vs wg ts) → va_S A s.heap H locs → ∀ (ls : Array Slot), lv_has ls 6 [(0, .ref h0), (1, .int p0), (3, .int p2), (4, .int v4_1), (5, .int v5_2)] → W p l e rm_X0_holdsIn s m ([.ref h0, .int p0, .int p1, .int p2] : List Value).toArray below meth c H locs 0 0 (MQ below (mQi D (mTY cI cC cT) out A (W_C cI cC cT h0 h1 h2 h3 h4 h5 h6 h7 h8 h9 mn oc os sd tg nr pf ks vs wg ts)) ([.ref h0, .int p0, .int p1, .int p2] : List Value).toArray s 0 0 A) (F0 m 6 ls []) := by
    intro n_3
    induction n_3 with
    | zero => intro v4_1 v5_2 hf; exact (iter_zero hf).elim
    | succ n_3 ih_3 =>
      intro v4_1 v5_2 hf H locs hP hD hS ls hl
      obtain ⟨o_3, hf, ho_3⟩ := iter_succ hf
      dsimp only [b_X0_holdsIn_1] at hf
      refine lv_iload hx hb dX0_holdsIn_6 (lv_at hl 4 rfl) ?_
      refine lv_bipush (v := 10) hx hb dX0_holdsIn_8 (by decide) ?_
      refine lv_icmp_ge (tgt := 54) hx hb dX0_holdsIn_10 (by decide) (fun c_4 => ?_) (fun c_4 => ?_)
      · have hf := ite_t hf c_4
        refine lv_iconst (v := 0) hx hb dX0_holdsIn_54 (by decide) ?_
        cases hf
        have hf := ho_3.2 _ rfl
        cases hf
        exact mZret hx hb hr rfl hlocks hP hD hK hS dX0_holdsIn_55
      · have hf := ite_f hf c_4
        refine lv_aload_n hx hb dX0_holdsIn_13 rfl (lv_at hl 0 rfl) ?_
        refine lv_iload hx hb dX0_holdsIn_14 (lv_at hl 3 rfl) ?_
        obtain ⟨r_5, q_6, hf⟩ := bnd hf
        refine mGoi (w2 := (W_C cI cC cT h0 h1 h2 h3 h4 h5 h6 h7 h8 h9 mn oc os sd tg nr pf ks vs wg ts)) (va_runV (As := [.int v4_1]) (rest := []) ⟨hx, hb, hml, hown, hts⟩ (c_X0_isThere l D cI cC cT h0 h1 h2 h3 h4 h5 h6 h7 h8 h9 mn oc os sd tg nr pf ks vs wg ts H.size v4_1 r_5 q_6) (cwV 1 hts gX0_holdsIn_X0_isThere rfl rfl rfl (by decide +kernel) ⟨Nat.le_of_ble_eq_true rfl, Nat.le_of_ble_eq_true rfl⟩) (mPreV hP hD hK hN [0, 1, 2, 3, 4, 5, 6, 7, 8, 9] rfl (by decide) (va_recv hK hP (ci := 0) (q0 := 0) rfl rfl)) rfl rfl hl.1 rfl (lv_room (Nat.le_of_ble_eq_true rfl)) dX0_holdsIn_16 ⟨Nat.zero_le _, Nat.zero_le _⟩) hP hD hS hA [0, 1, 2, 3, 4, 5, 6, 7, 8, 9] rfl rfl rfl rfl (fun H locs hP hD hS => ?_)
        refine lv_if_ne (tgt := 24) hx hb dX0_holdsIn_19 (by decide) (fun c_7 => ?_) (fun c_7 => ?_)
        · have hf := ite_f hf c_7
          refine lv_iload hx hb dX0_holdsIn_24 (lv_at hl 3 rfl) ?_
          refine lv_iload_n hx hb dX0_holdsIn_26 rfl (lv_at hl 2 rfl) ?_
          refine lv_icmp_ne (tgt := 32) hx hb dX0_holdsIn_27 (by decide) (fun c_8 => ?_) (fun c_8 => ?_)
          · have hf := ite_f hf c_8
            refine lv_aload_n hx hb dX0_holdsIn_32 rfl (lv_at hl 0 rfl) ?_
            refine va_get (D := D) (ci := 0) (v := .ref h5) (C := RX0) (T := TX0) (N := 6) hx hb hts hin_X0 hown hK hP 0 rfl rfl 0 (by decide) fl_24 (fun _ h9 => h9) rfl dX0_holdsIn_33 ?_
            refine lv_aload_n hx hb dX0_holdsIn_36 rfl (lv_at hl 0 rfl) ?_
            refine lv_iload_n hx hb dX0_holdsIn_37 rfl (lv_at hl 1 rfl) ?_
            refine lv_iload hx hb dX0_holdsIn_38 (lv_at hl 3 rfl) ?_
            obtain ⟨r_9, q_10, hf⟩ := bnd hf
            refine mGoi (w2 := (W_C cI cC cT h0 h1 h2 h3 h4 h5 h6 h7 h8 h9 mn oc os sd tg nr pf ks vs wg ts)) (va_runV (As := [.int p0, .int v4_1]) (rest := [.ref h5]) ⟨hx, hb, hml, hown, hts⟩ (c_X0_rowKeptBy l D cI cC cT h0 h1 h2 h3 h4 h5 h6 h7 h8 h9 mn oc os sd tg nr pf ks vs wg ts H.size p0 v4_1 r_9 q_10) (cwV 2 hts gX0_holdsIn_X0_rowKeptBy rfl rfl rfl (by decide +kernel) ⟨Nat.le_of_ble_eq_true rfl, Nat.le_of_ble_eq_true rfl⟩) (mPreV hP hD hK hN [0, 1, 2, 3, 4, 5, 6, 7, 8, 9] rfl (by decide) (va_recv hK hP (ci := 0) (q0 := 0) rfl rfl)) rfl rfl hl.1 rfl (lv_room (Nat.le_of_ble_eq_true rfl)) dX0_holdsIn_40 ⟨Nat.zero_le _, Nat.zero_le _⟩) hP hD hS hA [0, 1, 2, 3, 4, 5, 6, 7, 8, 9] rfl rfl rfl rfl (fun H locs hP hD hS => ?_)
            obtain ⟨r_11, q_12, hf⟩ := bnd hf
            refine mGoi (w2 := (W_C cI cC cT h0 h1 h2 h3 h4 h5 h6 h7 h8 h9 mn oc os sd tg nr pf ks vs wg ts)) (va_runV (As := [.int r_9]) (rest := []) ⟨hx, hb, hml, hown, hts⟩ (c_X3_targetAt l D cI cC cT h5 h6 h7 h8 h9 nr pf ks vs wg ts H.size r_9 r_11 q_12) (cwV 1 hts gX0_holdsIn_X3_targetAt rfl rfl rfl (by decide +kernel) ⟨Nat.le_of_ble_eq_true rfl, Nat.le_of_ble_eq_true rfl⟩) (mPreV hP hD hK hN [5, 6, 7, 8, 9] rfl (by decide) (va_recv hK hP (ci := 3) (q0 := 5) rfl rfl)) rfl rfl hl.1 rfl (lv_room (Nat.le_of_ble_eq_true rfl)) dX0_holdsIn_43 ⟨Nat.zero_le _, Nat.zero_le _⟩) hP hD hS hA [5, 6, 7, 8, 9] rfl rfl rfl rfl (fun H locs hP hD hS => ?_)
            refine lv_istore (lv' := [(4, .int r_11), (0, .ref h0), (1, .int p0), (3, .int p2), (5, .int v5_2)]) hx hb dX0_holdsIn_46 hl (by decide) rfl (fun ls hl => ?_)
            refine lv_iinc (v := v5_2 + 1) (lv' := [(5, .int (v5_2 + 1)), (4, .int r_11), (0, .ref h0), (1, .int p0), (3, .int p2)]) hx hb dX0_holdsIn_48 hl (k := 4) rfl rfl (by decide) rfl (fun ls hl => ?_)
            refine lv_goto (tgt := 6) hx hb dX0_holdsIn_51 (by decide) ?_
            cases hf
            have hf := ho_3.1 _ rfl
            exact ih_3 _ _ hf _ _ hP hD hS _ (lv_sub hl [2, 3, 4, 1, 0] rfl)
          · have hf := ite_t hf c_8
            refine lv_iconst (v := 1) hx hb dX0_holdsIn_30 (by decide) ?_
            cases hf
            have hf := ho_3.2 _ rfl
            cases hf
            exact mZret hx hb hr rfl hlocks hP hD hK hS dX0_holdsIn_31
        · have hf := ite_t hf c_7
          refine lv_iconst (v := 0) hx hb dX0_holdsIn_22 (by decide) ?_
          cases hf
          have hf := ho_3.2 _ rfl
          cases hf
          exact mZret hx hb hr rfl hlocks hP hD hK hS dX0_holdsIn_23
  exact LP_3 _ _ _ hf _ _ hP hD hS _ (lv_sub hl [2, 3, 5, 1, 0] rfl)
def b_X0_firstMendingWithoutWay_1 (mn : Int32) (oc : Nat → Int32) (os : Nat → Int32) (sd : Nat → Int32) (ts : Nat → Int32) (p0 : Int32) (p1 : Int32) (z : Int32) : Option ((Int32) ⊕ (Int32)) := match z with
  | v3_1 => (if mn ≤ v3_1 then some (.inr (-5)) else (Option.bind (f_X0_holdsIn oc os sd ts v3_1 p0 p1) (fun r_4 => (if r_4 = 0 then some (.inr v3_1) else some (.inl (v3_1 + 1))))))
def f_X0_firstMendingWithoutWay (mn : Int32) (oc : Nat → Int32) (os : Nat → Int32) (sd : Nat → Int32) (ts : Nat → Int32) (p0 : Int32) (p1 : Int32) : Option (Int32) := iter fuel (b_X0_firstMendingWithoutWay_1 mn oc os sd ts p0 p1) 0
abbrev rm_X0_firstMendingWithoutWay : Room := { frames := 4, cells := 0, slots := 0, locals := 92 }
set_option maxHeartbeats 4000000 in
set_option maxRecDepth 100000 in
theorem c_X0_firstMendingWithoutWay (l : Launch) (D : va_G) (cI cC cT : ClassId) (h0 h1 h2 h3 h4 h5 h6 h7 h8 h9 : Nat) (mn : Int32) (oc : Nat → Int32) (os : Nat → Int32) (sd : Nat → Int32) (tg : Nat → Int32) (nr : Int32) (pf : Int32) (ks : Nat → Int32) (vs : Nat → Int32) (wg : Nat → Int32) (ts : Nat → Int32) (sz : Nat) (p0 : Int32) (p1 : Int32) (out : Int32) (hf : f_X0_firstMendingWithoutWay mn oc os sd ts p0 p1 = some out) : Met l yX0_firstMendingWithoutWay wsX0_firstMendingWithoutWay rm_X0_firstMendingWithoutWay (mP D (mTY cI cC cT) [.ref h0, .int p0, .int p1] (W_C cI cC cT h0 h1 h2 h3 h4 h5 h6 h7 h8 h9 mn oc os sd tg nr pf ks vs wg ts) sz) (mQi D (mTY cI cC cT) out (va_A (W_C cI cC cT h0 h1 h2 h3 h4 h5 h6 h7 h8 h9 mn oc os sd tg nr pf ks vs wg ts) sz) (W_C cI cC cT h0 h1 h2 h3 h4 h5 h6 h7 h8 h9 mn oc os sd tg nr pf ks vs wg ts)) 0 0 (va_A (W_C cI cC cT h0 h1 h2 h3 h4 h5 h6 h7 h8 h9 mn oc os sd tg nr pf ks vs wg ts) sz) := by
  refine mEnt (cc := cX0_firstMendingWithoutWay) (maxL := 4) (ret := (some .int)) (own := RX0) (Qq := fun A => mQi D (mTY cI cC cT) out A (W_C cI cC cT h0 h1 h2 h3 h4 h5 h6 h7 h8 h9 mn oc os sd tg nr pf ks vs wg ts)) (by decide) rfl rfl (Nat.le_of_ble_eq_true rfl) ?_
  intro p e s m below meth c A ls H locs hx hb hr hml hlocks hown hts hN hA hP hK hD hS hl
  have hin_X0 : ∀ w ∈ u_ws RX0 TX0 6, w ∈ wsX0_firstMendingWithoutWay := by decide +kernel
  have fl_52 := hts (.fieldLink RX0 52 "SureMendings$Choices" "mendings" "I") (by decide +kernel)
  have hl : lv_has ls 4 [(0, .ref h0), (1, .int p0), (2, .int p1)] := hl
  unfold f_X0_firstMendingWithoutWay at hf
  refine lv_iconst (v := 0) hx hb dX0_firstMendingWithoutWay_0 (by decide) ?_
  refine lv_istore_n (lv' := [(3, .int 0), (0, .ref h0), (1, .int p0), (2, .int p1)]) hx hb dX0_firstMendingWithoutWay_1 rfl hl (by decide) rfl (fun ls hl => ?_)
  have LP_2 : ∀ (n_2 : Nat) (v3_1 : Int32), iter n_2 (b_X0_firstMendingWithoutWay_1 mn oc os sd ts p0 p1) v3_1 = some out → ∀ (H : Heap) (locs : List Loc), va_P D vwCl (W_C cI cC cT h0 h1 h2 h3 h4 h5 h6 h7 h8 h9 mn oc os sd tg nr pf ks vs wg ts) H → va_D A (W_C cI cC cT h0 h1 h2 h3 h4 h5 h6 h7 h8 h9 mn oc os sd tg nr pf ks vs wg ts) → va_S A s.heap H locs → ∀ (ls : Array Slot), lv_has ls 4 [(0, .ref h0), (1, .int p0), (2, .int p1), (3, .int v3_1)] → W p l e rm_X0_firstMendingWithoutWay s m ([.ref h0, .int p0, .int p1] : List Value).toArray below meth c H locs 0 0 (MQ below (mQi D (mTY cI cC cT) out A (W_C cI cC cT h0 h1 h2 h3 h4 h5 h6 h7 h8 h9 mn oc os sd tg nr pf ks vs wg ts)) ([.ref h0, .int p0, .int p1] : List Value).toArray s 0 0 A) (F0 m 2 ls []) := by
    intro n_2
    induction n_2 with
    | zero => intro v3_1 hf; exact (iter_zero hf).elim
    | succ n_2 ih_2 =>
      intro v3_1 hf H locs hP hD hS ls hl
      obtain ⟨o_2, hf, ho_2⟩ := iter_succ hf
      dsimp only [b_X0_firstMendingWithoutWay_1] at hf
      refine lv_iload_n hx hb dX0_firstMendingWithoutWay_2 rfl (lv_at hl 3 rfl) ?_
      refine lv_aload_n hx hb dX0_firstMendingWithoutWay_3 rfl (lv_at hl 0 rfl) ?_
      refine va_get (D := D) (ci := 0) (v := .int mn) (C := RX0) (T := TX0) (N := 6) hx hb hts hin_X0 hown hK hP 0 rfl rfl 5 (by decide) fl_52 (fun _ h9 => h9) rfl dX0_firstMendingWithoutWay_4 ?_
      refine lv_icmp_ge (tgt := 28) hx hb dX0_firstMendingWithoutWay_7 (by decide) (fun c_3 => ?_) (fun c_3 => ?_)
      · have hf := ite_t hf c_3
        refine lv_bipush (v := -5) hx hb dX0_firstMendingWithoutWay_28 (by decide) ?_
        cases hf
        have hf := ho_2.2 _ rfl
        cases hf
        exact mIret hx hb hr hlocks hP hD hK hS dX0_firstMendingWithoutWay_30
      · have hf := ite_f hf c_3
        refine lv_aload_n hx hb dX0_firstMendingWithoutWay_10 rfl (lv_at hl 0 rfl) ?_
        refine lv_iload_n hx hb dX0_firstMendingWithoutWay_11 rfl (lv_at hl 3 rfl) ?_
        refine lv_iload_n hx hb dX0_firstMendingWithoutWay_12 rfl (lv_at hl 1 rfl) ?_
        refine lv_iload_n hx hb dX0_firstMendingWithoutWay_13 rfl (lv_at hl 2 rfl) ?_
        obtain ⟨r_4, q_5, hf⟩ := bnd hf
        refine mGoi (w2 := (W_C cI cC cT h0 h1 h2 h3 h4 h5 h6 h7 h8 h9 mn oc os sd tg nr pf ks vs wg ts)) (va_runV (As := [.int v3_1, .int p0, .int p1]) (rest := []) ⟨hx, hb, hml, hown, hts⟩ (c_X0_holdsIn l D cI cC cT h0 h1 h2 h3 h4 h5 h6 h7 h8 h9 mn oc os sd tg nr pf ks vs wg ts H.size v3_1 p0 p1 r_4 q_5) (cwV 3 hts gX0_firstMendingWithoutWay_X0_holdsIn rfl rfl rfl (by decide +kernel) ⟨Nat.le_of_ble_eq_true rfl, Nat.le_of_ble_eq_true rfl⟩) (mPreV hP hD hK hN [0, 1, 2, 3, 4, 5, 6, 7, 8, 9] rfl (by decide) (va_recv hK hP (ci := 0) (q0 := 0) rfl rfl)) rfl rfl hl.1 rfl (lv_room (Nat.le_of_ble_eq_true rfl)) dX0_firstMendingWithoutWay_14 ⟨Nat.zero_le _, Nat.zero_le _⟩) hP hD hS hA [0, 1, 2, 3, 4, 5, 6, 7, 8, 9] rfl rfl rfl rfl (fun H locs hP hD hS => ?_)
        refine lv_if_ne (tgt := 22) hx hb dX0_firstMendingWithoutWay_17 (by decide) (fun c_6 => ?_) (fun c_6 => ?_)
        · have hf := ite_f hf c_6
          refine lv_iinc (v := v3_1 + 1) (lv' := [(3, .int (v3_1 + 1)), (0, .ref h0), (1, .int p0), (2, .int p1)]) hx hb dX0_firstMendingWithoutWay_22 hl (k := 3) rfl rfl (by decide) rfl (fun ls hl => ?_)
          refine lv_goto (tgt := 2) hx hb dX0_firstMendingWithoutWay_25 (by decide) ?_
          cases hf
          have hf := ho_2.1 _ rfl
          exact ih_2 _ hf _ _ hP hD hS _ (lv_sub hl [1, 2, 3, 0] rfl)
        · have hf := ite_t hf c_6
          refine lv_iload_n hx hb dX0_firstMendingWithoutWay_20 rfl (lv_at hl 3 rfl) ?_
          cases hf
          have hf := ho_2.2 _ rfl
          cases hf
          exact mIret hx hb hr hlocks hP hD hK hS dX0_firstMendingWithoutWay_21
  exact LP_2 _ _ hf _ _ hP hD hS _ (lv_sub hl [1, 2, 3, 0] rfl)
def f_X0_isSureRow (oc : Nat → Int32) (nr : Int32) (pf : Int32) (ks : Nat → Int32) (wg : Nat → Int32) (p0 : Int32) : Option (Int32) := (Option.bind (f_X3_canBeKept nr pf ks wg p0) (fun r_1 => (if r_1 = 0 then some 0 else (Option.bind (f_X3_keyAt ks p0) (fun r_4 => (Option.bind (f_X0_optionsOf oc r_4) (fun r_6 => (if r_6 = 1 then some 1 else some 0))))))))
abbrev rm_X0_isSureRow : Room := { frames := 4, cells := 0, slots := 0, locals := 86 }
set_option maxHeartbeats 4000000 in
set_option maxRecDepth 100000 in
theorem c_X0_isSureRow (l : Launch) (D : va_G) (cI cC cT : ClassId) (h0 h1 h2 h3 h4 h5 h6 h7 h8 h9 : Nat) (mn : Int32) (oc : Nat → Int32) (os : Nat → Int32) (sd : Nat → Int32) (tg : Nat → Int32) (nr : Int32) (pf : Int32) (ks : Nat → Int32) (vs : Nat → Int32) (wg : Nat → Int32) (ts : Nat → Int32) (sz : Nat) (p0 : Int32) (out : Int32) (hf : f_X0_isSureRow oc nr pf ks wg p0 = some out) : Met l yX0_isSureRow wsX0_isSureRow rm_X0_isSureRow (mP D (mTY cI cC cT) [.ref h0, .int p0] (W_C cI cC cT h0 h1 h2 h3 h4 h5 h6 h7 h8 h9 mn oc os sd tg nr pf ks vs wg ts) sz) (mQi D (mTY cI cC cT) out (va_A (W_C cI cC cT h0 h1 h2 h3 h4 h5 h6 h7 h8 h9 mn oc os sd tg nr pf ks vs wg ts) sz) (W_C cI cC cT h0 h1 h2 h3 h4 h5 h6 h7 h8 h9 mn oc os sd tg nr pf ks vs wg ts)) 0 0 (va_A (W_C cI cC cT h0 h1 h2 h3 h4 h5 h6 h7 h8 h9 mn oc os sd tg nr pf ks vs wg ts) sz) := by
  refine mEnt (cc := cX0_isSureRow) (maxL := 2) (ret := (some .boolean)) (own := RX0) (Qq := fun A => mQi D (mTY cI cC cT) out A (W_C cI cC cT h0 h1 h2 h3 h4 h5 h6 h7 h8 h9 mn oc os sd tg nr pf ks vs wg ts)) (by decide) rfl rfl (Nat.le_of_ble_eq_true rfl) ?_
  intro p e s m below meth c A ls H locs hx hb hr hml hlocks hown hts hN hA hP hK hD hS hl
  have hin_X0 : ∀ w ∈ u_ws RX0 TX0 6, w ∈ wsX0_isSureRow := by decide +kernel
  have fl_24 := hts (.fieldLink RX0 24 "SureMendings$Choices" "table" "LSureMendings$Table;") (by decide +kernel)
  have hl : lv_has ls 2 [(0, .ref h0), (1, .int p0)] := hl
  unfold f_X0_isSureRow at hf
  refine lv_aload_n hx hb dX0_isSureRow_0 rfl (lv_at hl 0 rfl) ?_
  refine va_get (D := D) (ci := 0) (v := .ref h5) (C := RX0) (T := TX0) (N := 6) hx hb hts hin_X0 hown hK hP 0 rfl rfl 0 (by decide) fl_24 (fun _ h9 => h9) rfl dX0_isSureRow_1 ?_
  refine lv_iload_n hx hb dX0_isSureRow_4 rfl (lv_at hl 1 rfl) ?_
  obtain ⟨r_1, q_2, hf⟩ := bnd hf
  refine mGoi (w2 := (W_C cI cC cT h0 h1 h2 h3 h4 h5 h6 h7 h8 h9 mn oc os sd tg nr pf ks vs wg ts)) (va_runV (As := [.int p0]) (rest := []) ⟨hx, hb, hml, hown, hts⟩ (c_X3_canBeKept l D cI cC cT h5 h6 h7 h8 h9 nr pf ks vs wg ts H.size p0 r_1 q_2) (cwV 1 hts gX0_isSureRow_X3_canBeKept rfl rfl rfl (by decide +kernel) ⟨Nat.le_of_ble_eq_true rfl, Nat.le_of_ble_eq_true rfl⟩) (mPreV hP hD hK hN [5, 6, 7, 8, 9] rfl (by decide) (va_recv hK hP (ci := 3) (q0 := 5) rfl rfl)) rfl rfl hl.1 rfl (lv_room (Nat.le_of_ble_eq_true rfl)) dX0_isSureRow_5 ⟨Nat.zero_le _, Nat.zero_le _⟩) hP hD hS hA [5, 6, 7, 8, 9] rfl rfl rfl rfl (fun H locs hP hD hS => ?_)
  refine lv_if_eq (tgt := 31) hx hb dX0_isSureRow_8 (by decide) (fun c_3 => ?_) (fun c_3 => ?_)
  · have hf := ite_t hf c_3
    refine lv_iconst (v := 0) hx hb dX0_isSureRow_31 (by decide) ?_
    cases hf
    exact mZret hx hb hr rfl hlocks hP hD hK hS dX0_isSureRow_32
  · have hf := ite_f hf c_3
    refine lv_aload_n hx hb dX0_isSureRow_11 rfl (lv_at hl 0 rfl) ?_
    refine lv_aload_n hx hb dX0_isSureRow_12 rfl (lv_at hl 0 rfl) ?_
    refine va_get (D := D) (ci := 0) (v := .ref h5) (C := RX0) (T := TX0) (N := 6) hx hb hts hin_X0 hown hK hP 0 rfl rfl 0 (by decide) fl_24 (fun _ h9 => h9) rfl dX0_isSureRow_13 ?_
    refine lv_iload_n hx hb dX0_isSureRow_16 rfl (lv_at hl 1 rfl) ?_
    obtain ⟨r_4, q_5, hf⟩ := bnd hf
    refine mGoi (w2 := (W_C cI cC cT h0 h1 h2 h3 h4 h5 h6 h7 h8 h9 mn oc os sd tg nr pf ks vs wg ts)) (va_runV (As := [.int p0]) (rest := [.ref h0]) ⟨hx, hb, hml, hown, hts⟩ (c_X3_keyAt l D cI cC cT h5 h6 h7 h8 h9 nr pf ks vs wg ts H.size p0 r_4 q_5) (cwV 1 hts gX0_isSureRow_X3_keyAt rfl rfl rfl (by decide +kernel) ⟨Nat.le_of_ble_eq_true rfl, Nat.le_of_ble_eq_true rfl⟩) (mPreV hP hD hK hN [5, 6, 7, 8, 9] rfl (by decide) (va_recv hK hP (ci := 3) (q0 := 5) rfl rfl)) rfl rfl hl.1 rfl (lv_room (Nat.le_of_ble_eq_true rfl)) dX0_isSureRow_17 ⟨Nat.zero_le _, Nat.zero_le _⟩) hP hD hS hA [5, 6, 7, 8, 9] rfl rfl rfl rfl (fun H locs hP hD hS => ?_)
    obtain ⟨r_6, q_7, hf⟩ := bnd hf
    refine mGoi (w2 := (W_C cI cC cT h0 h1 h2 h3 h4 h5 h6 h7 h8 h9 mn oc os sd tg nr pf ks vs wg ts)) (va_runV (As := [.int r_4]) (rest := []) ⟨hx, hb, hml, hown, hts⟩ (c_X0_optionsOf l D cI cC cT h0 h1 h2 h3 h4 h5 h6 h7 h8 h9 mn oc os sd tg nr pf ks vs wg ts H.size r_4 r_6 q_7) (cwV 1 hts gX0_isSureRow_X0_optionsOf rfl rfl rfl (by decide +kernel) ⟨Nat.le_of_ble_eq_true rfl, Nat.le_of_ble_eq_true rfl⟩) (mPreV hP hD hK hN [0, 1, 2, 3, 4, 5, 6, 7, 8, 9] rfl (by decide) (va_recv hK hP (ci := 0) (q0 := 0) rfl rfl)) rfl rfl hl.1 rfl (lv_room (Nat.le_of_ble_eq_true rfl)) dX0_isSureRow_20 ⟨Nat.zero_le _, Nat.zero_le _⟩) hP hD hS hA [0, 1, 2, 3, 4, 5, 6, 7, 8, 9] rfl rfl rfl rfl (fun H locs hP hD hS => ?_)
    refine lv_iconst (v := 1) hx hb dX0_isSureRow_23 (by decide) ?_
    refine lv_icmp_ne (tgt := 31) hx hb dX0_isSureRow_24 (by decide) (fun c_8 => ?_) (fun c_8 => ?_)
    · have hf := ite_f hf c_8
      refine lv_iconst (v := 0) hx hb dX0_isSureRow_31 (by decide) ?_
      cases hf
      exact mZret hx hb hr rfl hlocks hP hD hK hS dX0_isSureRow_32
    · have hf := ite_t hf c_8
      refine lv_iconst (v := 1) hx hb dX0_isSureRow_27 (by decide) ?_
      refine lv_goto (tgt := 32) hx hb dX0_isSureRow_28 (by decide) ?_
      cases hf
      exact mZret hx hb hr rfl hlocks hP hD hK hS dX0_isSureRow_32
def b_X0_keysThatMustPointInto_1 (tg : Nat → Int32) (p0 : Int32) (z : Int32 × Int32) : Option ((Int32 × Int32) ⊕ (Int32)) := match z with
  | (v2_1, v3_2) => (if 10 ≤ v3_2 then some (.inr v2_1) else (Option.bind (f_X5_at tg v3_2 10) (fun r_5 => (Option.bind (α := Int32) ((if r_5 = 0 then some v2_1 else (if (r_5 &&& (p0 ^^^ (-1))) = 0 then some (v2_1 ||| (1 <<< (v3_2 &&& 31))) else some v2_1))) (fun x_7 => some (.inl ((x_7, v3_2 + 1))))))))
def f_X0_keysThatMustPointInto (tg : Nat → Int32) (p0 : Int32) : Option (Int32) := iter fuel (b_X0_keysThatMustPointInto_1 tg p0) ((0, 0))
abbrev rm_X0_keysThatMustPointInto : Room := { frames := 1, cells := 0, slots := 0, locals := 21 }
set_option maxHeartbeats 4000000 in
set_option maxRecDepth 100000 in
theorem c_X0_keysThatMustPointInto (l : Launch) (D : va_G) (cI cC cT : ClassId) (h0 h1 h2 h3 h4 h5 h6 h7 h8 h9 : Nat) (mn : Int32) (oc : Nat → Int32) (os : Nat → Int32) (sd : Nat → Int32) (tg : Nat → Int32) (nr : Int32) (pf : Int32) (ks : Nat → Int32) (vs : Nat → Int32) (wg : Nat → Int32) (ts : Nat → Int32) (sz : Nat) (p0 : Int32) (out : Int32) (hf : f_X0_keysThatMustPointInto tg p0 = some out) : Met l yX0_keysThatMustPointInto wsX0_keysThatMustPointInto rm_X0_keysThatMustPointInto (mP D (mTY cI cC cT) [.ref h0, .int p0] (W_C cI cC cT h0 h1 h2 h3 h4 h5 h6 h7 h8 h9 mn oc os sd tg nr pf ks vs wg ts) sz) (mQi D (mTY cI cC cT) out (va_A (W_C cI cC cT h0 h1 h2 h3 h4 h5 h6 h7 h8 h9 mn oc os sd tg nr pf ks vs wg ts) sz) (W_C cI cC cT h0 h1 h2 h3 h4 h5 h6 h7 h8 h9 mn oc os sd tg nr pf ks vs wg ts)) 0 0 (va_A (W_C cI cC cT h0 h1 h2 h3 h4 h5 h6 h7 h8 h9 mn oc os sd tg nr pf ks vs wg ts) sz) := by
  refine mEnt (cc := cX0_keysThatMustPointInto) (maxL := 5) (ret := (some .int)) (own := RX0) (Qq := fun A => mQi D (mTY cI cC cT) out A (W_C cI cC cT h0 h1 h2 h3 h4 h5 h6 h7 h8 h9 mn oc os sd tg nr pf ks vs wg ts)) (by decide) rfl rfl (Nat.le_of_ble_eq_true rfl) ?_
  intro p e s m below meth c A ls H locs hx hb hr hml hlocks hown hts hN hA hP hK hD hS hl
  have hin_X0 : ∀ w ∈ u_ws RX0 TX0 6, w ∈ wsX0_keysThatMustPointInto := by decide +kernel
  have fl_21 := hts (.fieldLink RX0 21 "SureMendings$Choices" "targetSets" "[I") (by decide +kernel)
  have hl : lv_has ls 5 [(0, .ref h0), (1, .int p0)] := hl
  unfold f_X0_keysThatMustPointInto at hf
  refine lv_iconst (v := 0) hx hb dX0_keysThatMustPointInto_0 (by decide) ?_
  refine lv_istore_n (lv' := [(2, .int 0), (0, .ref h0), (1, .int p0)]) hx hb dX0_keysThatMustPointInto_1 rfl hl (by decide) rfl (fun ls hl => ?_)
  refine lv_iconst (v := 0) hx hb dX0_keysThatMustPointInto_2 (by decide) ?_
  refine lv_istore_n (lv' := [(3, .int 0), (2, .int 0), (0, .ref h0), (1, .int p0)]) hx hb dX0_keysThatMustPointInto_3 rfl hl (by decide) rfl (fun ls hl => ?_)
  have LP_3 : ∀ (n_3 : Nat) (v2_1 : Int32) (v3_2 : Int32), iter n_3 (b_X0_keysThatMustPointInto_1 tg p0) ((v2_1, v3_2)) = some out → ∀ (H : Heap) (locs : List Loc), va_P D vwCl (W_C cI cC cT h0 h1 h2 h3 h4 h5 h6 h7 h8 h9 mn oc os sd tg nr pf ks vs wg ts) H → va_D A (W_C cI cC cT h0 h1 h2 h3 h4 h5 h6 h7 h8 h9 mn oc os sd tg nr pf ks vs wg ts) → va_S A s.heap H locs → ∀ (ls : Array Slot), lv_has ls 5 [(0, .ref h0), (1, .int p0), (2, .int v2_1), (3, .int v3_2)] → W p l e rm_X0_keysThatMustPointInto s m ([.ref h0, .int p0] : List Value).toArray below meth c H locs 0 0 (MQ below (mQi D (mTY cI cC cT) out A (W_C cI cC cT h0 h1 h2 h3 h4 h5 h6 h7 h8 h9 mn oc os sd tg nr pf ks vs wg ts)) ([.ref h0, .int p0] : List Value).toArray s 0 0 A) (F0 m 4 ls []) := by
    intro n_3
    induction n_3 with
    | zero => intro v2_1 v3_2 hf; exact (iter_zero hf).elim
    | succ n_3 ih_3 =>
      intro v2_1 v3_2 hf H locs hP hD hS ls hl
      obtain ⟨o_3, hf, ho_3⟩ := iter_succ hf
      dsimp only [b_X0_keysThatMustPointInto_1] at hf
      refine lv_iload_n hx hb dX0_keysThatMustPointInto_4 rfl (lv_at hl 3 rfl) ?_
      refine lv_bipush (v := 10) hx hb dX0_keysThatMustPointInto_5 (by decide) ?_
      refine lv_icmp_ge (tgt := 46) hx hb dX0_keysThatMustPointInto_7 (by decide) (fun c_4 => ?_) (fun c_4 => ?_)
      · have hf := ite_t hf c_4
        refine lv_iload_n hx hb dX0_keysThatMustPointInto_46 rfl (lv_at hl 2 rfl) ?_
        cases hf
        have hf := ho_3.2 _ rfl
        cases hf
        exact mIret hx hb hr hlocks hP hD hK hS dX0_keysThatMustPointInto_47
      · have hf := ite_f hf c_4
        refine lv_aload_n hx hb dX0_keysThatMustPointInto_10 rfl (lv_at hl 0 rfl) ?_
        refine va_get (D := D) (ci := 0) (v := .ref h4) (C := RX0) (T := TX0) (N := 6) hx hb hts hin_X0 hown hK hP 0 rfl rfl 4 (by decide) fl_21 (fun _ h9 => h9) rfl dX0_keysThatMustPointInto_11 ?_
        refine lv_iload_n hx hb dX0_keysThatMustPointInto_14 rfl (lv_at hl 3 rfl) ?_
        obtain ⟨r_5, q_6, hf⟩ := bnd hf
        refine mGoi (w2 := (W_C cI cC cT h0 h1 h2 h3 h4 h5 h6 h7 h8 h9 mn oc os sd tg nr pf ks vs wg ts)) (va_runSN (As := [.ref h4, .int v3_2]) (rest := []) ⟨hx, hb, hml, hown, hts⟩ (c_X5_at l D cI cC cT 10 h4 tg H.size v3_2 r_5 q_6) ⟨va_cnB 2 hts gX0_keysThatMustPointInto_X5_at_n66 rfl rfl rfl (nW_at hN 7 rfl) (hts (.initialized RX5) (by decide +kernel)) (by decide +kernel) ⟨Nat.le_of_ble_eq_true rfl, Nat.le_of_ble_eq_true rfl⟩, hts (.static yX5_at) (by decide +kernel), trivial⟩ (mPreS hP hD hK hN [4] rfl (by decide)) rfl rfl hl.1 rfl (lv_room (Nat.le_of_ble_eq_true rfl)) dX0_keysThatMustPointInto_15 ⟨Nat.zero_le _, Nat.zero_le _⟩) hP hD hS hA [4] rfl rfl rfl rfl (fun H locs hP hD hS => ?_)
        refine lv_istore (lv' := [(4, .int r_5), (0, .ref h0), (1, .int p0), (2, .int v2_1), (3, .int v3_2)]) hx hb dX0_keysThatMustPointInto_18 hl (by decide) rfl (fun ls hl => ?_)
        refine lv_iload hx hb dX0_keysThatMustPointInto_20 (lv_at hl 0 rfl) ?_
        obtain ⟨x_7, q_9, hf⟩ := bnd hf
        have K_8 : ∀ (H : Heap) (locs : List Loc), va_P D vwCl (W_C cI cC cT h0 h1 h2 h3 h4 h5 h6 h7 h8 h9 mn oc os sd tg nr pf ks vs wg ts) H → va_D A (W_C cI cC cT h0 h1 h2 h3 h4 h5 h6 h7 h8 h9 mn oc os sd tg nr pf ks vs wg ts) → va_S A s.heap H locs → ∀ (ls : Array Slot), lv_has ls 5 [(0, .ref h0), (1, .int p0), (2, .int x_7), (3, .int v3_2)] → W p l e rm_X0_keysThatMustPointInto s m ([.ref h0, .int p0] : List Value).toArray below meth c H locs 0 0 (MQ below (mQi D (mTY cI cC cT) out A (W_C cI cC cT h0 h1 h2 h3 h4 h5 h6 h7 h8 h9 mn oc os sd tg nr pf ks vs wg ts)) ([.ref h0, .int p0] : List Value).toArray s 0 0 A) (F0 m 40 ls []) := by
          intro H locs hP hD hS ls hl
          refine lv_iinc (v := v3_2 + 1) (lv' := [(3, .int (v3_2 + 1)), (0, .ref h0), (1, .int p0), (2, .int x_7)]) hx hb dX0_keysThatMustPointInto_40 hl (k := 3) rfl rfl (by decide) rfl (fun ls hl => ?_)
          refine lv_goto (tgt := 4) hx hb dX0_keysThatMustPointInto_43 (by decide) ?_
          cases hf
          have hf := ho_3.1 _ rfl
          exact ih_3 _ _ hf _ _ hP hD hS _ (lv_sub hl [1, 2, 3, 0] rfl)
        have hf := q_9
        refine lv_if_eq (tgt := 40) hx hb dX0_keysThatMustPointInto_22 (by decide) (fun c_10 => ?_) (fun c_10 => ?_)
        · have hf := ite_t hf c_10
          cases hf
          exact K_8 _ _ hP hD hS _ (lv_sub hl [1, 2, 3, 4] rfl)
        · have hf := ite_f hf c_10
          refine lv_iload hx hb dX0_keysThatMustPointInto_25 (lv_at hl 0 rfl) ?_
          refine lv_iload_n hx hb dX0_keysThatMustPointInto_27 rfl (lv_at hl 2 rfl) ?_
          refine lv_iconst (v := -1) hx hb dX0_keysThatMustPointInto_28 (by decide) ?_
          refine lv_ixor hx hb dX0_keysThatMustPointInto_29 ?_
          refine lv_iand hx hb dX0_keysThatMustPointInto_30 ?_
          refine lv_if_ne (tgt := 40) hx hb dX0_keysThatMustPointInto_31 (by decide) (fun c_11 => ?_) (fun c_11 => ?_)
          · have hf := ite_f hf c_11
            cases hf
            exact K_8 _ _ hP hD hS _ (lv_sub hl [1, 2, 3, 4] rfl)
          · have hf := ite_t hf c_11
            refine lv_iload_n hx hb dX0_keysThatMustPointInto_34 rfl (lv_at hl 3 rfl) ?_
            refine lv_iconst (v := 1) hx hb dX0_keysThatMustPointInto_35 (by decide) ?_
            refine lv_iload_n hx hb dX0_keysThatMustPointInto_36 rfl (lv_at hl 4 rfl) ?_
            refine lv_ishl hx hb dX0_keysThatMustPointInto_37 ?_
            refine lv_ior hx hb dX0_keysThatMustPointInto_38 ?_
            refine lv_istore_n (lv' := [(2, .int (v2_1 ||| (1 <<< (v3_2 &&& 31)))), (4, .int r_5), (0, .ref h0), (1, .int p0), (3, .int v3_2)]) hx hb dX0_keysThatMustPointInto_39 rfl hl (by decide) rfl (fun ls hl => ?_)
            cases hf
            exact K_8 _ _ hP hD hS _ (lv_sub hl [2, 3, 0, 4] rfl)
  exact LP_3 _ _ _ hf _ _ hP hD hS _ (lv_sub hl [2, 3, 1, 0] rfl)
def b_X0_keysSureToReach_1 (tg : Nat → Int32) (z : Int32 × Int32) : Option ((Int32 × Int32) ⊕ (Int32)) := match z with
  | (v2_3, v3_4) => (if 10 ≤ v3_4 then some (.inr v2_3) else (Option.bind (f_X0_keysThatMustPointInto tg v2_3) (fun r_7 => some (.inl ((v2_3 ||| r_7, v3_4 + 1))))))
def f_X0_keysSureToReach (oc : Nat → Int32) (tg : Nat → Int32) (p0 : Int32) : Option (Int32) := (Option.bind (f_X0_setOf oc p0) (fun r_1 => iter fuel (b_X0_keysSureToReach_1 tg) ((r_1, 1))))
abbrev rm_X0_keysSureToReach : Room := { frames := 4, cells := 0, slots := 0, locals := 84 }
set_option maxHeartbeats 4000000 in
set_option maxRecDepth 100000 in
theorem c_X0_keysSureToReach (l : Launch) (D : va_G) (cI cC cT : ClassId) (h0 h1 h2 h3 h4 h5 h6 h7 h8 h9 : Nat) (mn : Int32) (oc : Nat → Int32) (os : Nat → Int32) (sd : Nat → Int32) (tg : Nat → Int32) (nr : Int32) (pf : Int32) (ks : Nat → Int32) (vs : Nat → Int32) (wg : Nat → Int32) (ts : Nat → Int32) (sz : Nat) (p0 : Int32) (out : Int32) (hf : f_X0_keysSureToReach oc tg p0 = some out) : Met l yX0_keysSureToReach wsX0_keysSureToReach rm_X0_keysSureToReach (mP D (mTY cI cC cT) [.ref h0, .int p0] (W_C cI cC cT h0 h1 h2 h3 h4 h5 h6 h7 h8 h9 mn oc os sd tg nr pf ks vs wg ts) sz) (mQi D (mTY cI cC cT) out (va_A (W_C cI cC cT h0 h1 h2 h3 h4 h5 h6 h7 h8 h9 mn oc os sd tg nr pf ks vs wg ts) sz) (W_C cI cC cT h0 h1 h2 h3 h4 h5 h6 h7 h8 h9 mn oc os sd tg nr pf ks vs wg ts)) 0 0 (va_A (W_C cI cC cT h0 h1 h2 h3 h4 h5 h6 h7 h8 h9 mn oc os sd tg nr pf ks vs wg ts) sz) := by
  refine mEnt (cc := cX0_keysSureToReach) (maxL := 4) (ret := (some .int)) (own := RX0) (Qq := fun A => mQi D (mTY cI cC cT) out A (W_C cI cC cT h0 h1 h2 h3 h4 h5 h6 h7 h8 h9 mn oc os sd tg nr pf ks vs wg ts)) (by decide) rfl rfl (Nat.le_of_ble_eq_true rfl) ?_
  intro p e s m below meth c A ls H locs hx hb hr hml hlocks hown hts hN hA hP hK hD hS hl
  have hl : lv_has ls 4 [(0, .ref h0), (1, .int p0)] := hl
  unfold f_X0_keysSureToReach at hf
  refine lv_aload_n hx hb dX0_keysSureToReach_0 rfl (lv_at hl 0 rfl) ?_
  refine lv_iload_n hx hb dX0_keysSureToReach_1 rfl (lv_at hl 1 rfl) ?_
  obtain ⟨r_1, q_2, hf⟩ := bnd hf
  refine mGoi (w2 := (W_C cI cC cT h0 h1 h2 h3 h4 h5 h6 h7 h8 h9 mn oc os sd tg nr pf ks vs wg ts)) (va_runV (As := [.int p0]) (rest := []) ⟨hx, hb, hml, hown, hts⟩ (c_X0_setOf l D cI cC cT h0 h1 h2 h3 h4 h5 h6 h7 h8 h9 mn oc os sd tg nr pf ks vs wg ts H.size p0 r_1 q_2) (cwV 1 hts gX0_keysSureToReach_X0_setOf rfl rfl rfl (by decide +kernel) ⟨Nat.le_of_ble_eq_true rfl, Nat.le_of_ble_eq_true rfl⟩) (mPreV hP hD hK hN [0, 1, 2, 3, 4, 5, 6, 7, 8, 9] rfl (by decide) (va_recv hK hP (ci := 0) (q0 := 0) rfl rfl)) rfl rfl hl.1 rfl (lv_room (Nat.le_of_ble_eq_true rfl)) dX0_keysSureToReach_2 ⟨Nat.zero_le _, Nat.zero_le _⟩) hP hD hS hA [0, 1, 2, 3, 4, 5, 6, 7, 8, 9] rfl rfl rfl rfl (fun H locs hP hD hS => ?_)
  refine lv_istore_n (lv' := [(2, .int r_1), (0, .ref h0), (1, .int p0)]) hx hb dX0_keysSureToReach_5 rfl hl (by decide) rfl (fun ls hl => ?_)
  refine lv_iconst (v := 1) hx hb dX0_keysSureToReach_6 (by decide) ?_
  refine lv_istore_n (lv' := [(3, .int 1), (2, .int r_1), (0, .ref h0), (1, .int p0)]) hx hb dX0_keysSureToReach_7 rfl hl (by decide) rfl (fun ls hl => ?_)
  have LP_5 : ∀ (n_5 : Nat) (v2_3 : Int32) (v3_4 : Int32), iter n_5 (b_X0_keysSureToReach_1 tg) ((v2_3, v3_4)) = some out → ∀ (H : Heap) (locs : List Loc), va_P D vwCl (W_C cI cC cT h0 h1 h2 h3 h4 h5 h6 h7 h8 h9 mn oc os sd tg nr pf ks vs wg ts) H → va_D A (W_C cI cC cT h0 h1 h2 h3 h4 h5 h6 h7 h8 h9 mn oc os sd tg nr pf ks vs wg ts) → va_S A s.heap H locs → ∀ (ls : Array Slot), lv_has ls 4 [(0, .ref h0), (2, .int v2_3), (3, .int v3_4)] → W p l e rm_X0_keysSureToReach s m ([.ref h0, .int p0] : List Value).toArray below meth c H locs 0 0 (MQ below (mQi D (mTY cI cC cT) out A (W_C cI cC cT h0 h1 h2 h3 h4 h5 h6 h7 h8 h9 mn oc os sd tg nr pf ks vs wg ts)) ([.ref h0, .int p0] : List Value).toArray s 0 0 A) (F0 m 8 ls []) := by
    intro n_5
    induction n_5 with
    | zero => intro v2_3 v3_4 hf; exact (iter_zero hf).elim
    | succ n_5 ih_5 =>
      intro v2_3 v3_4 hf H locs hP hD hS ls hl
      obtain ⟨o_5, hf, ho_5⟩ := iter_succ hf
      dsimp only [b_X0_keysSureToReach_1] at hf
      refine lv_iload_n hx hb dX0_keysSureToReach_8 rfl (lv_at hl 2 rfl) ?_
      refine lv_bipush (v := 10) hx hb dX0_keysSureToReach_9 (by decide) ?_
      refine lv_icmp_ge (tgt := 28) hx hb dX0_keysSureToReach_11 (by decide) (fun c_6 => ?_) (fun c_6 => ?_)
      · have hf := ite_t hf c_6
        refine lv_iload_n hx hb dX0_keysSureToReach_28 rfl (lv_at hl 1 rfl) ?_
        cases hf
        have hf := ho_5.2 _ rfl
        cases hf
        exact mIret hx hb hr hlocks hP hD hK hS dX0_keysSureToReach_29
      · have hf := ite_f hf c_6
        refine lv_iload_n hx hb dX0_keysSureToReach_14 rfl (lv_at hl 1 rfl) ?_
        refine lv_aload_n hx hb dX0_keysSureToReach_15 rfl (lv_at hl 0 rfl) ?_
        refine lv_iload_n hx hb dX0_keysSureToReach_16 rfl (lv_at hl 1 rfl) ?_
        obtain ⟨r_7, q_8, hf⟩ := bnd hf
        refine mGoi (w2 := (W_C cI cC cT h0 h1 h2 h3 h4 h5 h6 h7 h8 h9 mn oc os sd tg nr pf ks vs wg ts)) (va_runV (As := [.int v2_3]) (rest := [.int v2_3]) ⟨hx, hb, hml, hown, hts⟩ (c_X0_keysThatMustPointInto l D cI cC cT h0 h1 h2 h3 h4 h5 h6 h7 h8 h9 mn oc os sd tg nr pf ks vs wg ts H.size v2_3 r_7 q_8) (cwV 1 hts gX0_keysSureToReach_X0_keysThatMustPointInto rfl rfl rfl (by decide +kernel) ⟨Nat.le_of_ble_eq_true rfl, Nat.le_of_ble_eq_true rfl⟩) (mPreV hP hD hK hN [0, 1, 2, 3, 4, 5, 6, 7, 8, 9] rfl (by decide) (va_recv hK hP (ci := 0) (q0 := 0) rfl rfl)) rfl rfl hl.1 rfl (lv_room (Nat.le_of_ble_eq_true rfl)) dX0_keysSureToReach_17 ⟨Nat.zero_le _, Nat.zero_le _⟩) hP hD hS hA [0, 1, 2, 3, 4, 5, 6, 7, 8, 9] rfl rfl rfl rfl (fun H locs hP hD hS => ?_)
        refine lv_ior hx hb dX0_keysSureToReach_20 ?_
        refine lv_istore_n (lv' := [(2, .int (v2_3 ||| r_7)), (0, .ref h0), (3, .int v3_4)]) hx hb dX0_keysSureToReach_21 rfl hl (by decide) rfl (fun ls hl => ?_)
        refine lv_iinc (v := v3_4 + 1) (lv' := [(3, .int (v3_4 + 1)), (2, .int (v2_3 ||| r_7)), (0, .ref h0)]) hx hb dX0_keysSureToReach_22 hl (k := 2) rfl rfl (by decide) rfl (fun ls hl => ?_)
        refine lv_goto (tgt := 8) hx hb dX0_keysSureToReach_25 (by decide) ?_
        cases hf
        have hf := ho_5.1 _ rfl
        exact ih_5 _ _ hf _ _ hP hD hS _ (lv_sub hl [2, 1, 0] rfl)
  exact LP_5 _ _ _ hf _ _ hP hD hS _ (lv_sub hl [2, 1, 0] rfl)
def f_X0_isSureWay (oc : Nat → Int32) (tg : Nat → Int32) (p0 : Int32) (p1 : Int32) : Option (Int32) := (Option.bind (f_X0_keysSureToReach oc tg p1) (fun r_1 => (Option.bind (f_X0_contains r_1 p0) (fun r_3 => (if isB r_3 then some r_3 else none)))))
abbrev rm_X0_isSureWay : Room := { frames := 5, cells := 0, slots := 0, locals := 107 }
set_option maxHeartbeats 4000000 in
set_option maxRecDepth 100000 in
theorem c_X0_isSureWay (l : Launch) (D : va_G) (cI cC cT : ClassId) (h0 h1 h2 h3 h4 h5 h6 h7 h8 h9 : Nat) (mn : Int32) (oc : Nat → Int32) (os : Nat → Int32) (sd : Nat → Int32) (tg : Nat → Int32) (nr : Int32) (pf : Int32) (ks : Nat → Int32) (vs : Nat → Int32) (wg : Nat → Int32) (ts : Nat → Int32) (sz : Nat) (p0 : Int32) (p1 : Int32) (out : Int32) (hf : f_X0_isSureWay oc tg p0 p1 = some out) : Met l yX0_isSureWay wsX0_isSureWay rm_X0_isSureWay (mP D (mTY cI cC cT) [.ref h0, .int p0, .int p1] (W_C cI cC cT h0 h1 h2 h3 h4 h5 h6 h7 h8 h9 mn oc os sd tg nr pf ks vs wg ts) sz) (mQi D (mTY cI cC cT) out (va_A (W_C cI cC cT h0 h1 h2 h3 h4 h5 h6 h7 h8 h9 mn oc os sd tg nr pf ks vs wg ts) sz) (W_C cI cC cT h0 h1 h2 h3 h4 h5 h6 h7 h8 h9 mn oc os sd tg nr pf ks vs wg ts)) 0 0 (va_A (W_C cI cC cT h0 h1 h2 h3 h4 h5 h6 h7 h8 h9 mn oc os sd tg nr pf ks vs wg ts) sz) := by
  refine mEnt (cc := cX0_isSureWay) (maxL := 3) (ret := (some .boolean)) (own := RX0) (Qq := fun A => mQi D (mTY cI cC cT) out A (W_C cI cC cT h0 h1 h2 h3 h4 h5 h6 h7 h8 h9 mn oc os sd tg nr pf ks vs wg ts)) (by decide) rfl rfl (Nat.le_of_ble_eq_true rfl) ?_
  intro p e s m below meth c A ls H locs hx hb hr hml hlocks hown hts hN hA hP hK hD hS hl
  have hl : lv_has ls 3 [(0, .ref h0), (1, .int p0), (2, .int p1)] := hl
  unfold f_X0_isSureWay at hf
  refine lv_aload_n hx hb dX0_isSureWay_0 rfl (lv_at hl 0 rfl) ?_
  refine lv_iload_n hx hb dX0_isSureWay_1 rfl (lv_at hl 2 rfl) ?_
  obtain ⟨r_1, q_2, hf⟩ := bnd hf
  refine mGoi (w2 := (W_C cI cC cT h0 h1 h2 h3 h4 h5 h6 h7 h8 h9 mn oc os sd tg nr pf ks vs wg ts)) (va_runV (As := [.int p1]) (rest := []) ⟨hx, hb, hml, hown, hts⟩ (c_X0_keysSureToReach l D cI cC cT h0 h1 h2 h3 h4 h5 h6 h7 h8 h9 mn oc os sd tg nr pf ks vs wg ts H.size p1 r_1 q_2) (cwV 1 hts gX0_isSureWay_X0_keysSureToReach rfl rfl rfl (by decide +kernel) ⟨Nat.le_of_ble_eq_true rfl, Nat.le_of_ble_eq_true rfl⟩) (mPreV hP hD hK hN [0, 1, 2, 3, 4, 5, 6, 7, 8, 9] rfl (by decide) (va_recv hK hP (ci := 0) (q0 := 0) rfl rfl)) rfl rfl hl.1 rfl (lv_room (Nat.le_of_ble_eq_true rfl)) dX0_isSureWay_2 ⟨Nat.zero_le _, Nat.zero_le _⟩) hP hD hS hA [0, 1, 2, 3, 4, 5, 6, 7, 8, 9] rfl rfl rfl rfl (fun H locs hP hD hS => ?_)
  refine lv_iload_n hx hb dX0_isSureWay_5 rfl (lv_at hl 1 rfl) ?_
  obtain ⟨r_3, q_4, hf⟩ := bnd hf
  refine mGoi (w2 := (W_C cI cC cT h0 h1 h2 h3 h4 h5 h6 h7 h8 h9 mn oc os sd tg nr pf ks vs wg ts)) (va_runS (As := [.int r_1, .int p0]) (rest := []) ⟨hx, hb, hml, hown, hts⟩ (c_X0_contains l D cI cC cT H.size r_1 p0 r_3 q_4) (va_cwS 2 hts gX0_isSureWay_X0_contains rfl rfl rfl (by decide +kernel) ⟨Nat.le_of_ble_eq_true rfl, Nat.le_of_ble_eq_true rfl⟩) (mPreS hP hD hK hN [] rfl (by decide)) rfl rfl hl.1 rfl (lv_room (Nat.le_of_ble_eq_true rfl)) dX0_isSureWay_6 ⟨Nat.zero_le _, Nat.zero_le _⟩) hP hD hS hA [] rfl rfl rfl rfl (fun H locs hP hD hS => ?_)
  obtain ⟨h_5, hf⟩ := grd hf
  cases hf
  exact mZret hx hb hr (isB_narrow h_5) hlocks hP hD hK hS dX0_isSureWay_9
def f_X0_isSureWayOnceMended (oc : Nat → Int32) (tg : Nat → Int32) (ts : Nat → Int32) (p0 : Int32) (p1 : Int32) (p2 : Int32) (p3 : Int32) : Option (Int32 × (Nat → Int32)) := (Option.bind (f_X5_at tg p0 10) (fun r_1 => (Option.bind (f_X0_targetBit ts p1) (fun r_3 => (Option.bind (f_X5_put tg p0 r_3 10) (fun u0_5 => (Option.bind (f_X0_keysSureToReach oc u0_5 p3) (fun r_7 => (Option.bind (f_X0_contains r_7 p2) (fun r_9 => (Option.bind (f_X5_put u0_5 p0 r_1 10) (fun u0_11 => (if isB r_9 then some ((r_9, u0_11)) else none)))))))))))))
abbrev rm_X0_isSureWayOnceMended : Room := { frames := 5, cells := 0, slots := 0, locals := 107 }
set_option maxHeartbeats 4000000 in
set_option maxRecDepth 100000 in
theorem c_X0_isSureWayOnceMended (l : Launch) (D : va_G) (cI cC cT : ClassId) (h0 h1 h2 h3 h4 h5 h6 h7 h8 h9 : Nat) (mn : Int32) (oc : Nat → Int32) (os : Nat → Int32) (sd : Nat → Int32) (tg : Nat → Int32) (nr : Int32) (pf : Int32) (ks : Nat → Int32) (vs : Nat → Int32) (wg : Nat → Int32) (ts : Nat → Int32) (sz : Nat) (p0 : Int32) (p1 : Int32) (p2 : Int32) (p3 : Int32) (out : Int32) (o_tg : Nat → Int32) (hf : f_X0_isSureWayOnceMended oc tg ts p0 p1 p2 p3 = some ((out, o_tg))) : Met l yX0_isSureWayOnceMended wsX0_isSureWayOnceMended rm_X0_isSureWayOnceMended (mP D (mTY cI cC cT) [.ref h0, .int p0, .int p1, .int p2, .int p3] (W_C cI cC cT h0 h1 h2 h3 h4 h5 h6 h7 h8 h9 mn oc os sd tg nr pf ks vs wg ts) sz) (mQi D (mTY cI cC cT) out (va_A (W_C cI cC cT h0 h1 h2 h3 h4 h5 h6 h7 h8 h9 mn oc os sd tg nr pf ks vs wg ts) sz) (W_C cI cC cT h0 h1 h2 h3 h4 h5 h6 h7 h8 h9 mn oc os sd o_tg nr pf ks vs wg ts)) 0 0 (va_A (W_C cI cC cT h0 h1 h2 h3 h4 h5 h6 h7 h8 h9 mn oc os sd tg nr pf ks vs wg ts) sz) := by
  refine mEnt (cc := cX0_isSureWayOnceMended) (maxL := 7) (ret := (some .boolean)) (own := RX0) (Qq := fun A => mQi D (mTY cI cC cT) out A (W_C cI cC cT h0 h1 h2 h3 h4 h5 h6 h7 h8 h9 mn oc os sd o_tg nr pf ks vs wg ts)) (by decide) rfl rfl (Nat.le_of_ble_eq_true rfl) ?_
  intro p e s m below meth c A ls H locs hx hb hr hml hlocks hown hts hN hA hP hK hD hS hl
  have hin_X0 : ∀ w ∈ u_ws RX0 TX0 6, w ∈ wsX0_isSureWayOnceMended := by decide +kernel
  have fl_21 := hts (.fieldLink RX0 21 "SureMendings$Choices" "targetSets" "[I") (by decide +kernel)
  have hl : lv_has ls 7 [(0, .ref h0), (1, .int p0), (2, .int p1), (3, .int p2), (4, .int p3)] := hl
  unfold f_X0_isSureWayOnceMended at hf
  refine lv_aload_n hx hb dX0_isSureWayOnceMended_0 rfl (lv_at hl 0 rfl) ?_
  refine va_get (D := D) (ci := 0) (v := .ref h4) (C := RX0) (T := TX0) (N := 6) hx hb hts hin_X0 hown hK hP 0 rfl rfl 4 (by decide) fl_21 (fun _ h9 => h9) rfl dX0_isSureWayOnceMended_1 ?_
  refine lv_iload_n hx hb dX0_isSureWayOnceMended_4 rfl (lv_at hl 1 rfl) ?_
  obtain ⟨r_1, q_2, hf⟩ := bnd hf
  refine mGoi (w2 := (W_C cI cC cT h0 h1 h2 h3 h4 h5 h6 h7 h8 h9 mn oc os sd tg nr pf ks vs wg ts)) (va_runSN (As := [.ref h4, .int p0]) (rest := []) ⟨hx, hb, hml, hown, hts⟩ (c_X5_at l D cI cC cT 10 h4 tg H.size p0 r_1 q_2) ⟨va_cnB 2 hts gX0_isSureWayOnceMended_X5_at_n66 rfl rfl rfl (nW_at hN 7 rfl) (hts (.initialized RX5) (by decide +kernel)) (by decide +kernel) ⟨Nat.le_of_ble_eq_true rfl, Nat.le_of_ble_eq_true rfl⟩, hts (.static yX5_at) (by decide +kernel), trivial⟩ (mPreS hP hD hK hN [4] rfl (by decide)) rfl rfl hl.1 rfl (lv_room (Nat.le_of_ble_eq_true rfl)) dX0_isSureWayOnceMended_5 ⟨Nat.zero_le _, Nat.zero_le _⟩) hP hD hS hA [4] rfl rfl rfl rfl (fun H locs hP hD hS => ?_)
  refine lv_istore (lv' := [(5, .int r_1), (0, .ref h0), (1, .int p0), (2, .int p1), (3, .int p2), (4, .int p3)]) hx hb dX0_isSureWayOnceMended_8 hl (by decide) rfl (fun ls hl => ?_)
  refine lv_aload_n hx hb dX0_isSureWayOnceMended_10 rfl (lv_at hl 1 rfl) ?_
  refine va_get (D := D) (ci := 0) (v := .ref h4) (C := RX0) (T := TX0) (N := 6) hx hb hts hin_X0 hown hK hP 0 rfl rfl 4 (by decide) fl_21 (fun _ h9 => h9) rfl dX0_isSureWayOnceMended_11 ?_
  refine lv_iload_n hx hb dX0_isSureWayOnceMended_14 rfl (lv_at hl 2 rfl) ?_
  refine lv_aload_n hx hb dX0_isSureWayOnceMended_15 rfl (lv_at hl 1 rfl) ?_
  refine lv_iload_n hx hb dX0_isSureWayOnceMended_16 rfl (lv_at hl 3 rfl) ?_
  obtain ⟨r_3, q_4, hf⟩ := bnd hf
  refine mGoi (w2 := (W_C cI cC cT h0 h1 h2 h3 h4 h5 h6 h7 h8 h9 mn oc os sd tg nr pf ks vs wg ts)) (va_runV (As := [.int p1]) (rest := [.int p0, .ref h4]) ⟨hx, hb, hml, hown, hts⟩ (c_X0_targetBit l D cI cC cT h0 h1 h2 h3 h4 h5 h6 h7 h8 h9 mn oc os sd tg nr pf ks vs wg ts H.size p1 r_3 q_4) (cwV 1 hts gX0_isSureWayOnceMended_X0_targetBit rfl rfl rfl (by decide +kernel) ⟨Nat.le_of_ble_eq_true rfl, Nat.le_of_ble_eq_true rfl⟩) (mPreV hP hD hK hN [0, 1, 2, 3, 4, 5, 6, 7, 8, 9] rfl (by decide) (va_recv hK hP (ci := 0) (q0 := 0) rfl rfl)) rfl rfl hl.1 rfl (lv_room (Nat.le_of_ble_eq_true rfl)) dX0_isSureWayOnceMended_17 ⟨Nat.zero_le _, Nat.zero_le _⟩) hP hD hS hA [0, 1, 2, 3, 4, 5, 6, 7, 8, 9] rfl rfl rfl rfl (fun H locs hP hD hS => ?_)
  obtain ⟨u0_5, q_6, hf⟩ := bnd hf
  refine mGov (w2 := (W_C cI cC cT h0 h1 h2 h3 h4 h5 h6 h7 h8 h9 mn oc os sd u0_5 nr pf ks vs wg ts)) (va_runSN (As := [.ref h4, .int p0, .int r_3]) (rest := []) ⟨hx, hb, hml, hown, hts⟩ (c_X5_put l D cI cC cT 10 h4 tg H.size p0 r_3 u0_5 q_6) ⟨va_cnB 3 hts gX0_isSureWayOnceMended_X5_put_n56 rfl rfl rfl (nW_at hN 8 rfl) (hts (.initialized RX5) (by decide +kernel)) (by decide +kernel) ⟨Nat.le_of_ble_eq_true rfl, Nat.le_of_ble_eq_true rfl⟩, hts (.static yX5_put) (by decide +kernel), trivial⟩ (mPreS hP hD hK hN [4] rfl (by decide)) rfl rfl hl.1 rfl (lv_room (Nat.le_of_ble_eq_true rfl)) dX0_isSureWayOnceMended_20 ⟨Nat.zero_le _, Nat.zero_le _⟩) hP hD hS hA [4] rfl rfl rfl rfl (fun H locs hP hD hS => ?_)
  refine lv_aload_n hx hb dX0_isSureWayOnceMended_23 rfl (lv_at hl 1 rfl) ?_
  refine lv_iload hx hb dX0_isSureWayOnceMended_24 (lv_at hl 5 rfl) ?_
  obtain ⟨r_7, q_8, hf⟩ := bnd hf
  refine mGoi (w2 := (W_C cI cC cT h0 h1 h2 h3 h4 h5 h6 h7 h8 h9 mn oc os sd u0_5 nr pf ks vs wg ts)) (va_runV (As := [.int p3]) (rest := []) ⟨hx, hb, hml, hown, hts⟩ (c_X0_keysSureToReach l D cI cC cT h0 h1 h2 h3 h4 h5 h6 h7 h8 h9 mn oc os sd u0_5 nr pf ks vs wg ts H.size p3 r_7 q_8) (cwV 1 hts gX0_isSureWayOnceMended_X0_keysSureToReach rfl rfl rfl (by decide +kernel) ⟨Nat.le_of_ble_eq_true rfl, Nat.le_of_ble_eq_true rfl⟩) (mPreV hP hD hK hN [0, 1, 2, 3, 4, 5, 6, 7, 8, 9] rfl (by decide) (va_recv hK hP (ci := 0) (q0 := 0) rfl rfl)) rfl rfl hl.1 rfl (lv_room (Nat.le_of_ble_eq_true rfl)) dX0_isSureWayOnceMended_26 ⟨Nat.zero_le _, Nat.zero_le _⟩) hP hD hS hA [0, 1, 2, 3, 4, 5, 6, 7, 8, 9] rfl rfl rfl rfl (fun H locs hP hD hS => ?_)
  refine lv_iload_n hx hb dX0_isSureWayOnceMended_29 rfl (lv_at hl 4 rfl) ?_
  obtain ⟨r_9, q_10, hf⟩ := bnd hf
  refine mGoi (w2 := (W_C cI cC cT h0 h1 h2 h3 h4 h5 h6 h7 h8 h9 mn oc os sd u0_5 nr pf ks vs wg ts)) (va_runS (As := [.int r_7, .int p2]) (rest := []) ⟨hx, hb, hml, hown, hts⟩ (c_X0_contains l D cI cC cT H.size r_7 p2 r_9 q_10) (va_cwS 2 hts gX0_isSureWayOnceMended_X0_contains rfl rfl rfl (by decide +kernel) ⟨Nat.le_of_ble_eq_true rfl, Nat.le_of_ble_eq_true rfl⟩) (mPreS hP hD hK hN [] rfl (by decide)) rfl rfl hl.1 rfl (lv_room (Nat.le_of_ble_eq_true rfl)) dX0_isSureWayOnceMended_30 ⟨Nat.zero_le _, Nat.zero_le _⟩) hP hD hS hA [] rfl rfl rfl rfl (fun H locs hP hD hS => ?_)
  refine lv_istore (lv' := [(6, .int r_9), (5, .int r_1), (0, .ref h0), (1, .int p0), (2, .int p1), (3, .int p2), (4, .int p3)]) hx hb dX0_isSureWayOnceMended_33 hl (by decide) rfl (fun ls hl => ?_)
  refine lv_aload_n hx hb dX0_isSureWayOnceMended_35 rfl (lv_at hl 2 rfl) ?_
  refine va_get (D := D) (ci := 0) (v := .ref h4) (C := RX0) (T := TX0) (N := 6) hx hb hts hin_X0 hown hK hP 0 rfl rfl 4 (by decide) fl_21 (fun _ h9 => h9) rfl dX0_isSureWayOnceMended_36 ?_
  refine lv_iload_n hx hb dX0_isSureWayOnceMended_39 rfl (lv_at hl 3 rfl) ?_
  refine lv_iload hx hb dX0_isSureWayOnceMended_40 (lv_at hl 1 rfl) ?_
  obtain ⟨u0_11, q_12, hf⟩ := bnd hf
  refine mGov (w2 := (W_C cI cC cT h0 h1 h2 h3 h4 h5 h6 h7 h8 h9 mn oc os sd u0_11 nr pf ks vs wg ts)) (va_runSN (As := [.ref h4, .int p0, .int r_1]) (rest := []) ⟨hx, hb, hml, hown, hts⟩ (c_X5_put l D cI cC cT 10 h4 u0_5 H.size p0 r_1 u0_11 q_12) ⟨va_cnB 3 hts gX0_isSureWayOnceMended_X5_put_n56 rfl rfl rfl (nW_at hN 8 rfl) (hts (.initialized RX5) (by decide +kernel)) (by decide +kernel) ⟨Nat.le_of_ble_eq_true rfl, Nat.le_of_ble_eq_true rfl⟩, hts (.static yX5_put) (by decide +kernel), trivial⟩ (mPreS hP hD hK hN [4] rfl (by decide)) rfl rfl hl.1 rfl (lv_room (Nat.le_of_ble_eq_true rfl)) dX0_isSureWayOnceMended_42 ⟨Nat.zero_le _, Nat.zero_le _⟩) hP hD hS hA [4] rfl rfl rfl rfl (fun H locs hP hD hS => ?_)
  refine lv_iload hx hb dX0_isSureWayOnceMended_45 (lv_at hl 0 rfl) ?_
  obtain ⟨h_13, hf⟩ := grd hf
  cases hf
  exact mZret hx hb hr (isB_narrow h_13) hlocks hP hD hK hS dX0_isSureWayOnceMended_47
def b_X0_keysThatCanReach_1 (tg : Nat → Int32) (z : Int32 × Int32) : Option ((Int32 × Int32) ⊕ (Int32)) := match z with
  | (v2_3, v3_4) => (if 10 ≤ v3_4 then some (.inr v2_3) else (Option.bind (f_X0_keysThatCanPointInto tg v2_3) (fun r_7 => some (.inl ((v2_3 ||| r_7, v3_4 + 1))))))
def f_X0_keysThatCanReach (oc : Nat → Int32) (tg : Nat → Int32) (p0 : Int32) : Option (Int32) := (Option.bind (f_X0_setOf oc p0) (fun r_1 => iter fuel (b_X0_keysThatCanReach_1 tg) ((r_1, 1))))
abbrev rm_X0_keysThatCanReach : Room := { frames := 4, cells := 0, slots := 0, locals := 84 }
set_option maxHeartbeats 4000000 in
set_option maxRecDepth 100000 in
theorem c_X0_keysThatCanReach (l : Launch) (D : va_G) (cI cC cT : ClassId) (h0 h1 h2 h3 h4 h5 h6 h7 h8 h9 : Nat) (mn : Int32) (oc : Nat → Int32) (os : Nat → Int32) (sd : Nat → Int32) (tg : Nat → Int32) (nr : Int32) (pf : Int32) (ks : Nat → Int32) (vs : Nat → Int32) (wg : Nat → Int32) (ts : Nat → Int32) (sz : Nat) (p0 : Int32) (out : Int32) (hf : f_X0_keysThatCanReach oc tg p0 = some out) : Met l yX0_keysThatCanReach wsX0_keysThatCanReach rm_X0_keysThatCanReach (mP D (mTY cI cC cT) [.ref h0, .int p0] (W_C cI cC cT h0 h1 h2 h3 h4 h5 h6 h7 h8 h9 mn oc os sd tg nr pf ks vs wg ts) sz) (mQi D (mTY cI cC cT) out (va_A (W_C cI cC cT h0 h1 h2 h3 h4 h5 h6 h7 h8 h9 mn oc os sd tg nr pf ks vs wg ts) sz) (W_C cI cC cT h0 h1 h2 h3 h4 h5 h6 h7 h8 h9 mn oc os sd tg nr pf ks vs wg ts)) 0 0 (va_A (W_C cI cC cT h0 h1 h2 h3 h4 h5 h6 h7 h8 h9 mn oc os sd tg nr pf ks vs wg ts) sz) := by
  refine mEnt (cc := cX0_keysThatCanReach) (maxL := 4) (ret := (some .int)) (own := RX0) (Qq := fun A => mQi D (mTY cI cC cT) out A (W_C cI cC cT h0 h1 h2 h3 h4 h5 h6 h7 h8 h9 mn oc os sd tg nr pf ks vs wg ts)) (by decide) rfl rfl (Nat.le_of_ble_eq_true rfl) ?_
  intro p e s m below meth c A ls H locs hx hb hr hml hlocks hown hts hN hA hP hK hD hS hl
  have hl : lv_has ls 4 [(0, .ref h0), (1, .int p0)] := hl
  unfold f_X0_keysThatCanReach at hf
  refine lv_aload_n hx hb dX0_keysThatCanReach_0 rfl (lv_at hl 0 rfl) ?_
  refine lv_iload_n hx hb dX0_keysThatCanReach_1 rfl (lv_at hl 1 rfl) ?_
  obtain ⟨r_1, q_2, hf⟩ := bnd hf
  refine mGoi (w2 := (W_C cI cC cT h0 h1 h2 h3 h4 h5 h6 h7 h8 h9 mn oc os sd tg nr pf ks vs wg ts)) (va_runV (As := [.int p0]) (rest := []) ⟨hx, hb, hml, hown, hts⟩ (c_X0_setOf l D cI cC cT h0 h1 h2 h3 h4 h5 h6 h7 h8 h9 mn oc os sd tg nr pf ks vs wg ts H.size p0 r_1 q_2) (cwV 1 hts gX0_keysThatCanReach_X0_setOf rfl rfl rfl (by decide +kernel) ⟨Nat.le_of_ble_eq_true rfl, Nat.le_of_ble_eq_true rfl⟩) (mPreV hP hD hK hN [0, 1, 2, 3, 4, 5, 6, 7, 8, 9] rfl (by decide) (va_recv hK hP (ci := 0) (q0 := 0) rfl rfl)) rfl rfl hl.1 rfl (lv_room (Nat.le_of_ble_eq_true rfl)) dX0_keysThatCanReach_2 ⟨Nat.zero_le _, Nat.zero_le _⟩) hP hD hS hA [0, 1, 2, 3, 4, 5, 6, 7, 8, 9] rfl rfl rfl rfl (fun H locs hP hD hS => ?_)
  refine lv_istore_n (lv' := [(2, .int r_1), (0, .ref h0), (1, .int p0)]) hx hb dX0_keysThatCanReach_5 rfl hl (by decide) rfl (fun ls hl => ?_)
  refine lv_iconst (v := 1) hx hb dX0_keysThatCanReach_6 (by decide) ?_
  refine lv_istore_n (lv' := [(3, .int 1), (2, .int r_1), (0, .ref h0), (1, .int p0)]) hx hb dX0_keysThatCanReach_7 rfl hl (by decide) rfl (fun ls hl => ?_)
  have LP_5 : ∀ (n_5 : Nat) (v2_3 : Int32) (v3_4 : Int32), iter n_5 (b_X0_keysThatCanReach_1 tg) ((v2_3, v3_4)) = some out → ∀ (H : Heap) (locs : List Loc), va_P D vwCl (W_C cI cC cT h0 h1 h2 h3 h4 h5 h6 h7 h8 h9 mn oc os sd tg nr pf ks vs wg ts) H → va_D A (W_C cI cC cT h0 h1 h2 h3 h4 h5 h6 h7 h8 h9 mn oc os sd tg nr pf ks vs wg ts) → va_S A s.heap H locs → ∀ (ls : Array Slot), lv_has ls 4 [(0, .ref h0), (2, .int v2_3), (3, .int v3_4)] → W p l e rm_X0_keysThatCanReach s m ([.ref h0, .int p0] : List Value).toArray below meth c H locs 0 0 (MQ below (mQi D (mTY cI cC cT) out A (W_C cI cC cT h0 h1 h2 h3 h4 h5 h6 h7 h8 h9 mn oc os sd tg nr pf ks vs wg ts)) ([.ref h0, .int p0] : List Value).toArray s 0 0 A) (F0 m 8 ls []) := by
    intro n_5
    induction n_5 with
    | zero => intro v2_3 v3_4 hf; exact (iter_zero hf).elim
    | succ n_5 ih_5 =>
      intro v2_3 v3_4 hf H locs hP hD hS ls hl
      obtain ⟨o_5, hf, ho_5⟩ := iter_succ hf
      dsimp only [b_X0_keysThatCanReach_1] at hf
      refine lv_iload_n hx hb dX0_keysThatCanReach_8 rfl (lv_at hl 2 rfl) ?_
      refine lv_bipush (v := 10) hx hb dX0_keysThatCanReach_9 (by decide) ?_
      refine lv_icmp_ge (tgt := 28) hx hb dX0_keysThatCanReach_11 (by decide) (fun c_6 => ?_) (fun c_6 => ?_)
      · have hf := ite_t hf c_6
        refine lv_iload_n hx hb dX0_keysThatCanReach_28 rfl (lv_at hl 1 rfl) ?_
        cases hf
        have hf := ho_5.2 _ rfl
        cases hf
        exact mIret hx hb hr hlocks hP hD hK hS dX0_keysThatCanReach_29
      · have hf := ite_f hf c_6
        refine lv_iload_n hx hb dX0_keysThatCanReach_14 rfl (lv_at hl 1 rfl) ?_
        refine lv_aload_n hx hb dX0_keysThatCanReach_15 rfl (lv_at hl 0 rfl) ?_
        refine lv_iload_n hx hb dX0_keysThatCanReach_16 rfl (lv_at hl 1 rfl) ?_
        obtain ⟨r_7, q_8, hf⟩ := bnd hf
        refine mGoi (w2 := (W_C cI cC cT h0 h1 h2 h3 h4 h5 h6 h7 h8 h9 mn oc os sd tg nr pf ks vs wg ts)) (va_runV (As := [.int v2_3]) (rest := [.int v2_3]) ⟨hx, hb, hml, hown, hts⟩ (c_X0_keysThatCanPointInto l D cI cC cT h0 h1 h2 h3 h4 h5 h6 h7 h8 h9 mn oc os sd tg nr pf ks vs wg ts H.size v2_3 r_7 q_8) (cwV 1 hts gX0_keysThatCanReach_X0_keysThatCanPointInto rfl rfl rfl (by decide +kernel) ⟨Nat.le_of_ble_eq_true rfl, Nat.le_of_ble_eq_true rfl⟩) (mPreV hP hD hK hN [0, 1, 2, 3, 4, 5, 6, 7, 8, 9] rfl (by decide) (va_recv hK hP (ci := 0) (q0 := 0) rfl rfl)) rfl rfl hl.1 rfl (lv_room (Nat.le_of_ble_eq_true rfl)) dX0_keysThatCanReach_17 ⟨Nat.zero_le _, Nat.zero_le _⟩) hP hD hS hA [0, 1, 2, 3, 4, 5, 6, 7, 8, 9] rfl rfl rfl rfl (fun H locs hP hD hS => ?_)
        refine lv_ior hx hb dX0_keysThatCanReach_20 ?_
        refine lv_istore_n (lv' := [(2, .int (v2_3 ||| r_7)), (0, .ref h0), (3, .int v3_4)]) hx hb dX0_keysThatCanReach_21 rfl hl (by decide) rfl (fun ls hl => ?_)
        refine lv_iinc (v := v3_4 + 1) (lv' := [(3, .int (v3_4 + 1)), (2, .int (v2_3 ||| r_7)), (0, .ref h0)]) hx hb dX0_keysThatCanReach_22 hl (k := 2) rfl rfl (by decide) rfl (fun ls hl => ?_)
        refine lv_goto (tgt := 8) hx hb dX0_keysThatCanReach_25 (by decide) ?_
        cases hf
        have hf := ho_5.1 _ rfl
        exact ih_5 _ _ hf _ _ hP hD hS _ (lv_sub hl [2, 1, 0] rfl)
  exact LP_5 _ _ _ hf _ _ hP hD hS _ (lv_sub hl [2, 1, 0] rfl)
def f_X0_mendings (mn : Int32) : Option (Int32) := some mn
abbrev rm_X0_mendings : Room := { frames := 0, cells := 0, slots := 0, locals := 0 }
set_option maxHeartbeats 4000000 in
set_option maxRecDepth 100000 in
theorem c_X0_mendings (l : Launch) (D : va_G) (cI cC cT : ClassId) (h0 h1 h2 h3 h4 h5 h6 h7 h8 h9 : Nat) (mn : Int32) (oc : Nat → Int32) (os : Nat → Int32) (sd : Nat → Int32) (tg : Nat → Int32) (nr : Int32) (pf : Int32) (ks : Nat → Int32) (vs : Nat → Int32) (wg : Nat → Int32) (ts : Nat → Int32) (sz : Nat) (out : Int32) (hf : f_X0_mendings mn = some out) : Met l yX0_mendings wsX0_mendings rm_X0_mendings (mP D (mTY cI cC cT) [.ref h0] (W_C cI cC cT h0 h1 h2 h3 h4 h5 h6 h7 h8 h9 mn oc os sd tg nr pf ks vs wg ts) sz) (mQi D (mTY cI cC cT) out (va_A (W_C cI cC cT h0 h1 h2 h3 h4 h5 h6 h7 h8 h9 mn oc os sd tg nr pf ks vs wg ts) sz) (W_C cI cC cT h0 h1 h2 h3 h4 h5 h6 h7 h8 h9 mn oc os sd tg nr pf ks vs wg ts)) 0 0 (va_A (W_C cI cC cT h0 h1 h2 h3 h4 h5 h6 h7 h8 h9 mn oc os sd tg nr pf ks vs wg ts) sz) := by
  refine mEnt (cc := cX0_mendings) (maxL := 1) (ret := (some .int)) (own := RX0) (Qq := fun A => mQi D (mTY cI cC cT) out A (W_C cI cC cT h0 h1 h2 h3 h4 h5 h6 h7 h8 h9 mn oc os sd tg nr pf ks vs wg ts)) (by decide) rfl rfl (Nat.le_of_ble_eq_true rfl) ?_
  intro p e s m below meth c A ls H locs hx hb hr hml hlocks hown hts hN hA hP hK hD hS hl
  have hin_X0 : ∀ w ∈ u_ws RX0 TX0 6, w ∈ wsX0_mendings := by decide +kernel
  have fl_52 := hts (.fieldLink RX0 52 "SureMendings$Choices" "mendings" "I") (by decide +kernel)
  have hl : lv_has ls 1 [(0, .ref h0)] := hl
  unfold f_X0_mendings at hf
  refine lv_aload_n hx hb dX0_mendings_0 rfl (lv_at hl 0 rfl) ?_
  refine va_get (D := D) (ci := 0) (v := .int mn) (C := RX0) (T := TX0) (N := 6) hx hb hts hin_X0 hown hK hP 0 rfl rfl 5 (by decide) fl_52 (fun _ h9 => h9) rfl dX0_mendings_1 ?_
  cases hf
  exact mIret hx hb hr hlocks hP hD hK hS dX0_mendings_4
def b_X0_mendingsWithWay_1 (mn : Int32) (oc : Nat → Int32) (os : Nat → Int32) (sd : Nat → Int32) (ts : Nat → Int32) (p0 : Int32) (p1 : Int32) (z : Int32 × Int32) : Option ((Int32 × Int32) ⊕ (Int32)) := match z with
  | (v3_1, v4_2) => (if mn ≤ v4_2 then some (.inr v3_1) else (Option.bind (f_X0_holdsIn oc os sd ts v4_2 p0 p1) (fun r_5 => (Option.bind (α := Int32) ((if r_5 = 0 then some v3_1 else some (v3_1 + 1))) (fun x_7 => some (.inl ((x_7, v4_2 + 1))))))))
def f_X0_mendingsWithWay (mn : Int32) (oc : Nat → Int32) (os : Nat → Int32) (sd : Nat → Int32) (ts : Nat → Int32) (p0 : Int32) (p1 : Int32) : Option (Int32) := iter fuel (b_X0_mendingsWithWay_1 mn oc os sd ts p0 p1) ((0, 0))
abbrev rm_X0_mendingsWithWay : Room := { frames := 4, cells := 0, slots := 0, locals := 92 }
set_option maxHeartbeats 4000000 in
set_option maxRecDepth 100000 in
theorem c_X0_mendingsWithWay (l : Launch) (D : va_G) (cI cC cT : ClassId) (h0 h1 h2 h3 h4 h5 h6 h7 h8 h9 : Nat) (mn : Int32) (oc : Nat → Int32) (os : Nat → Int32) (sd : Nat → Int32) (tg : Nat → Int32) (nr : Int32) (pf : Int32) (ks : Nat → Int32) (vs : Nat → Int32) (wg : Nat → Int32) (ts : Nat → Int32) (sz : Nat) (p0 : Int32) (p1 : Int32) (out : Int32) (hf : f_X0_mendingsWithWay mn oc os sd ts p0 p1 = some out) : Met l yX0_mendingsWithWay wsX0_mendingsWithWay rm_X0_mendingsWithWay (mP D (mTY cI cC cT) [.ref h0, .int p0, .int p1] (W_C cI cC cT h0 h1 h2 h3 h4 h5 h6 h7 h8 h9 mn oc os sd tg nr pf ks vs wg ts) sz) (mQi D (mTY cI cC cT) out (va_A (W_C cI cC cT h0 h1 h2 h3 h4 h5 h6 h7 h8 h9 mn oc os sd tg nr pf ks vs wg ts) sz) (W_C cI cC cT h0 h1 h2 h3 h4 h5 h6 h7 h8 h9 mn oc os sd tg nr pf ks vs wg ts)) 0 0 (va_A (W_C cI cC cT h0 h1 h2 h3 h4 h5 h6 h7 h8 h9 mn oc os sd tg nr pf ks vs wg ts) sz) := by
  refine mEnt (cc := cX0_mendingsWithWay) (maxL := 5) (ret := (some .int)) (own := RX0) (Qq := fun A => mQi D (mTY cI cC cT) out A (W_C cI cC cT h0 h1 h2 h3 h4 h5 h6 h7 h8 h9 mn oc os sd tg nr pf ks vs wg ts)) (by decide) rfl rfl (Nat.le_of_ble_eq_true rfl) ?_
  intro p e s m below meth c A ls H locs hx hb hr hml hlocks hown hts hN hA hP hK hD hS hl
  have hin_X0 : ∀ w ∈ u_ws RX0 TX0 6, w ∈ wsX0_mendingsWithWay := by decide +kernel
  have fl_52 := hts (.fieldLink RX0 52 "SureMendings$Choices" "mendings" "I") (by decide +kernel)
  have hl : lv_has ls 5 [(0, .ref h0), (1, .int p0), (2, .int p1)] := hl
  unfold f_X0_mendingsWithWay at hf
  refine lv_iconst (v := 0) hx hb dX0_mendingsWithWay_0 (by decide) ?_
  refine lv_istore_n (lv' := [(3, .int 0), (0, .ref h0), (1, .int p0), (2, .int p1)]) hx hb dX0_mendingsWithWay_1 rfl hl (by decide) rfl (fun ls hl => ?_)
  refine lv_iconst (v := 0) hx hb dX0_mendingsWithWay_2 (by decide) ?_
  refine lv_istore (lv' := [(4, .int 0), (3, .int 0), (0, .ref h0), (1, .int p0), (2, .int p1)]) hx hb dX0_mendingsWithWay_3 hl (by decide) rfl (fun ls hl => ?_)
  have LP_3 : ∀ (n_3 : Nat) (v3_1 : Int32) (v4_2 : Int32), iter n_3 (b_X0_mendingsWithWay_1 mn oc os sd ts p0 p1) ((v3_1, v4_2)) = some out → ∀ (H : Heap) (locs : List Loc), va_P D vwCl (W_C cI cC cT h0 h1 h2 h3 h4 h5 h6 h7 h8 h9 mn oc os sd tg nr pf ks vs wg ts) H → va_D A (W_C cI cC cT h0 h1 h2 h3 h4 h5 h6 h7 h8 h9 mn oc os sd tg nr pf ks vs wg ts) → va_S A s.heap H locs → ∀ (ls : Array Slot), lv_has ls 5 [(0, .ref h0), (1, .int p0), (2, .int p1), (3, .int v3_1), (4, .int v4_2)] → W p l e rm_X0_mendingsWithWay s m ([.ref h0, .int p0, .int p1] : List Value).toArray below meth c H locs 0 0 (MQ below (mQi D (mTY cI cC cT) out A (W_C cI cC cT h0 h1 h2 h3 h4 h5 h6 h7 h8 h9 mn oc os sd tg nr pf ks vs wg ts)) ([.ref h0, .int p0, .int p1] : List Value).toArray s 0 0 A) (F0 m 5 ls []) := by
    intro n_3
    induction n_3 with
    | zero => intro v3_1 v4_2 hf; exact (iter_zero hf).elim
    | succ n_3 ih_3 =>
      intro v3_1 v4_2 hf H locs hP hD hS ls hl
      obtain ⟨o_3, hf, ho_3⟩ := iter_succ hf
      dsimp only [b_X0_mendingsWithWay_1] at hf
      refine lv_iload hx hb dX0_mendingsWithWay_5 (lv_at hl 4 rfl) ?_
      refine lv_aload_n hx hb dX0_mendingsWithWay_7 rfl (lv_at hl 0 rfl) ?_
      refine va_get (D := D) (ci := 0) (v := .int mn) (C := RX0) (T := TX0) (N := 6) hx hb hts hin_X0 hown hK hP 0 rfl rfl 5 (by decide) fl_52 (fun _ h9 => h9) rfl dX0_mendingsWithWay_8 ?_
      refine lv_icmp_ge (tgt := 34) hx hb dX0_mendingsWithWay_11 (by decide) (fun c_4 => ?_) (fun c_4 => ?_)
      · have hf := ite_t hf c_4
        refine lv_iload_n hx hb dX0_mendingsWithWay_34 rfl (lv_at hl 3 rfl) ?_
        cases hf
        have hf := ho_3.2 _ rfl
        cases hf
        exact mIret hx hb hr hlocks hP hD hK hS dX0_mendingsWithWay_35
      · have hf := ite_f hf c_4
        refine lv_aload_n hx hb dX0_mendingsWithWay_14 rfl (lv_at hl 0 rfl) ?_
        refine lv_iload hx hb dX0_mendingsWithWay_15 (lv_at hl 4 rfl) ?_
        refine lv_iload_n hx hb dX0_mendingsWithWay_17 rfl (lv_at hl 1 rfl) ?_
        refine lv_iload_n hx hb dX0_mendingsWithWay_18 rfl (lv_at hl 2 rfl) ?_
        obtain ⟨r_5, q_6, hf⟩ := bnd hf
        refine mGoi (w2 := (W_C cI cC cT h0 h1 h2 h3 h4 h5 h6 h7 h8 h9 mn oc os sd tg nr pf ks vs wg ts)) (va_runV (As := [.int v4_2, .int p0, .int p1]) (rest := []) ⟨hx, hb, hml, hown, hts⟩ (c_X0_holdsIn l D cI cC cT h0 h1 h2 h3 h4 h5 h6 h7 h8 h9 mn oc os sd tg nr pf ks vs wg ts H.size v4_2 p0 p1 r_5 q_6) (cwV 3 hts gX0_mendingsWithWay_X0_holdsIn rfl rfl rfl (by decide +kernel) ⟨Nat.le_of_ble_eq_true rfl, Nat.le_of_ble_eq_true rfl⟩) (mPreV hP hD hK hN [0, 1, 2, 3, 4, 5, 6, 7, 8, 9] rfl (by decide) (va_recv hK hP (ci := 0) (q0 := 0) rfl rfl)) rfl rfl hl.1 rfl (lv_room (Nat.le_of_ble_eq_true rfl)) dX0_mendingsWithWay_19 ⟨Nat.zero_le _, Nat.zero_le _⟩) hP hD hS hA [0, 1, 2, 3, 4, 5, 6, 7, 8, 9] rfl rfl rfl rfl (fun H locs hP hD hS => ?_)
        obtain ⟨x_7, q_9, hf⟩ := bnd hf
        have K_8 : ∀ (H : Heap) (locs : List Loc), va_P D vwCl (W_C cI cC cT h0 h1 h2 h3 h4 h5 h6 h7 h8 h9 mn oc os sd tg nr pf ks vs wg ts) H → va_D A (W_C cI cC cT h0 h1 h2 h3 h4 h5 h6 h7 h8 h9 mn oc os sd tg nr pf ks vs wg ts) → va_S A s.heap H locs → ∀ (ls : Array Slot), lv_has ls 5 [(0, .ref h0), (1, .int p0), (2, .int p1), (3, .int x_7), (4, .int v4_2)] → W p l e rm_X0_mendingsWithWay s m ([.ref h0, .int p0, .int p1] : List Value).toArray below meth c H locs 0 0 (MQ below (mQi D (mTY cI cC cT) out A (W_C cI cC cT h0 h1 h2 h3 h4 h5 h6 h7 h8 h9 mn oc os sd tg nr pf ks vs wg ts)) ([.ref h0, .int p0, .int p1] : List Value).toArray s 0 0 A) (F0 m 28 ls []) := by
          intro H locs hP hD hS ls hl
          refine lv_iinc (v := v4_2 + 1) (lv' := [(4, .int (v4_2 + 1)), (0, .ref h0), (1, .int p0), (2, .int p1), (3, .int x_7)]) hx hb dX0_mendingsWithWay_28 hl (k := 4) rfl rfl (by decide) rfl (fun ls hl => ?_)
          refine lv_goto (tgt := 5) hx hb dX0_mendingsWithWay_31 (by decide) ?_
          cases hf
          have hf := ho_3.1 _ rfl
          exact ih_3 _ _ hf _ _ hP hD hS _ (lv_sub hl [1, 2, 3, 4, 0] rfl)
        have hf := q_9
        refine lv_if_eq (tgt := 28) hx hb dX0_mendingsWithWay_22 (by decide) (fun c_10 => ?_) (fun c_10 => ?_)
        · have hf := ite_t hf c_10
          cases hf
          exact K_8 _ _ hP hD hS _ (lv_sub hl [0, 1, 2, 3, 4] rfl)
        · have hf := ite_f hf c_10
          refine lv_iinc (v := v3_1 + 1) (lv' := [(3, .int (v3_1 + 1)), (0, .ref h0), (1, .int p0), (2, .int p1), (4, .int v4_2)]) hx hb dX0_mendingsWithWay_25 hl (k := 3) rfl rfl (by decide) rfl (fun ls hl => ?_)
          cases hf
          exact K_8 _ _ hP hD hS _ (lv_sub hl [1, 2, 3, 0, 4] rfl)
  exact LP_3 _ _ _ hf _ _ hP hD hS _ (lv_sub hl [2, 3, 4, 1, 0] rfl)
def b_X0_mendingsWithout_1 (oc : Nat → Int32) (os : Nat → Int32) (vs : Nat → Int32) (p0 : Int32) (z : Int32 × Int32) : Option ((Int32 × Int32) ⊕ (Int32)) := match z with
  | (v2_1, v3_2) => (if 10 ≤ v3_2 then some (.inr v2_1) else (Option.bind (f_X0_isThere oc v3_2) (fun r_5 => (Option.bind (α := Int32) ((if r_5 = 0 then some v2_1 else (Option.bind (f_X0_optionsOf oc v3_2) (fun r_11 => (Option.bind (f_X0_optionsWith oc os vs v3_2 p0) (fun r_13 => some (v2_1 * (r_11 - r_13)))))))) (fun x_7 => some (.inl ((x_7, v3_2 + 1))))))))
def f_X0_mendingsWithout (oc : Nat → Int32) (os : Nat → Int32) (vs : Nat → Int32) (p0 : Int32) : Option (Int32) := iter fuel (b_X0_mendingsWithout_1 oc os vs p0) ((1, 0))
abbrev rm_X0_mendingsWithout : Room := { frames := 3, cells := 0, slots := 0, locals := 67 }
set_option maxHeartbeats 4000000 in
set_option maxRecDepth 100000 in
theorem c_X0_mendingsWithout (l : Launch) (D : va_G) (cI cC cT : ClassId) (h0 h1 h2 h3 h4 h5 h6 h7 h8 h9 : Nat) (mn : Int32) (oc : Nat → Int32) (os : Nat → Int32) (sd : Nat → Int32) (tg : Nat → Int32) (nr : Int32) (pf : Int32) (ks : Nat → Int32) (vs : Nat → Int32) (wg : Nat → Int32) (ts : Nat → Int32) (sz : Nat) (p0 : Int32) (out : Int32) (hf : f_X0_mendingsWithout oc os vs p0 = some out) : Met l yX0_mendingsWithout wsX0_mendingsWithout rm_X0_mendingsWithout (mP D (mTY cI cC cT) [.ref h0, .int p0] (W_C cI cC cT h0 h1 h2 h3 h4 h5 h6 h7 h8 h9 mn oc os sd tg nr pf ks vs wg ts) sz) (mQi D (mTY cI cC cT) out (va_A (W_C cI cC cT h0 h1 h2 h3 h4 h5 h6 h7 h8 h9 mn oc os sd tg nr pf ks vs wg ts) sz) (W_C cI cC cT h0 h1 h2 h3 h4 h5 h6 h7 h8 h9 mn oc os sd tg nr pf ks vs wg ts)) 0 0 (va_A (W_C cI cC cT h0 h1 h2 h3 h4 h5 h6 h7 h8 h9 mn oc os sd tg nr pf ks vs wg ts) sz) := by
  refine mEnt (cc := cX0_mendingsWithout) (maxL := 4) (ret := (some .int)) (own := RX0) (Qq := fun A => mQi D (mTY cI cC cT) out A (W_C cI cC cT h0 h1 h2 h3 h4 h5 h6 h7 h8 h9 mn oc os sd tg nr pf ks vs wg ts)) (by decide) rfl rfl (Nat.le_of_ble_eq_true rfl) ?_
  intro p e s m below meth c A ls H locs hx hb hr hml hlocks hown hts hN hA hP hK hD hS hl
  have hl : lv_has ls 4 [(0, .ref h0), (1, .int p0)] := hl
  unfold f_X0_mendingsWithout at hf
  refine lv_iconst (v := 1) hx hb dX0_mendingsWithout_0 (by decide) ?_
  refine lv_istore_n (lv' := [(2, .int 1), (0, .ref h0), (1, .int p0)]) hx hb dX0_mendingsWithout_1 rfl hl (by decide) rfl (fun ls hl => ?_)
  refine lv_iconst (v := 0) hx hb dX0_mendingsWithout_2 (by decide) ?_
  refine lv_istore_n (lv' := [(3, .int 0), (2, .int 1), (0, .ref h0), (1, .int p0)]) hx hb dX0_mendingsWithout_3 rfl hl (by decide) rfl (fun ls hl => ?_)
  have LP_3 : ∀ (n_3 : Nat) (v2_1 : Int32) (v3_2 : Int32), iter n_3 (b_X0_mendingsWithout_1 oc os vs p0) ((v2_1, v3_2)) = some out → ∀ (H : Heap) (locs : List Loc), va_P D vwCl (W_C cI cC cT h0 h1 h2 h3 h4 h5 h6 h7 h8 h9 mn oc os sd tg nr pf ks vs wg ts) H → va_D A (W_C cI cC cT h0 h1 h2 h3 h4 h5 h6 h7 h8 h9 mn oc os sd tg nr pf ks vs wg ts) → va_S A s.heap H locs → ∀ (ls : Array Slot), lv_has ls 4 [(0, .ref h0), (1, .int p0), (2, .int v2_1), (3, .int v3_2)] → W p l e rm_X0_mendingsWithout s m ([.ref h0, .int p0] : List Value).toArray below meth c H locs 0 0 (MQ below (mQi D (mTY cI cC cT) out A (W_C cI cC cT h0 h1 h2 h3 h4 h5 h6 h7 h8 h9 mn oc os sd tg nr pf ks vs wg ts)) ([.ref h0, .int p0] : List Value).toArray s 0 0 A) (F0 m 4 ls []) := by
    intro n_3
    induction n_3 with
    | zero => intro v2_1 v3_2 hf; exact (iter_zero hf).elim
    | succ n_3 ih_3 =>
      intro v2_1 v3_2 hf H locs hP hD hS ls hl
      obtain ⟨o_3, hf, ho_3⟩ := iter_succ hf
      dsimp only [b_X0_mendingsWithout_1] at hf
      refine lv_iload_n hx hb dX0_mendingsWithout_4 rfl (lv_at hl 3 rfl) ?_
      refine lv_bipush (v := 10) hx hb dX0_mendingsWithout_5 (by decide) ?_
      refine lv_icmp_ge (tgt := 39) hx hb dX0_mendingsWithout_7 (by decide) (fun c_4 => ?_) (fun c_4 => ?_)
      · have hf := ite_t hf c_4
        refine lv_iload_n hx hb dX0_mendingsWithout_39 rfl (lv_at hl 2 rfl) ?_
        cases hf
        have hf := ho_3.2 _ rfl
        cases hf
        exact mIret hx hb hr hlocks hP hD hK hS dX0_mendingsWithout_40
      · have hf := ite_f hf c_4
        refine lv_aload_n hx hb dX0_mendingsWithout_10 rfl (lv_at hl 0 rfl) ?_
        refine lv_iload_n hx hb dX0_mendingsWithout_11 rfl (lv_at hl 3 rfl) ?_
        obtain ⟨r_5, q_6, hf⟩ := bnd hf
        refine mGoi (w2 := (W_C cI cC cT h0 h1 h2 h3 h4 h5 h6 h7 h8 h9 mn oc os sd tg nr pf ks vs wg ts)) (va_runV (As := [.int v3_2]) (rest := []) ⟨hx, hb, hml, hown, hts⟩ (c_X0_isThere l D cI cC cT h0 h1 h2 h3 h4 h5 h6 h7 h8 h9 mn oc os sd tg nr pf ks vs wg ts H.size v3_2 r_5 q_6) (cwV 1 hts gX0_mendingsWithout_X0_isThere rfl rfl rfl (by decide +kernel) ⟨Nat.le_of_ble_eq_true rfl, Nat.le_of_ble_eq_true rfl⟩) (mPreV hP hD hK hN [0, 1, 2, 3, 4, 5, 6, 7, 8, 9] rfl (by decide) (va_recv hK hP (ci := 0) (q0 := 0) rfl rfl)) rfl rfl hl.1 rfl (lv_room (Nat.le_of_ble_eq_true rfl)) dX0_mendingsWithout_12 ⟨Nat.zero_le _, Nat.zero_le _⟩) hP hD hS hA [0, 1, 2, 3, 4, 5, 6, 7, 8, 9] rfl rfl rfl rfl (fun H locs hP hD hS => ?_)
        obtain ⟨x_7, q_9, hf⟩ := bnd hf
        have K_8 : ∀ (H : Heap) (locs : List Loc), va_P D vwCl (W_C cI cC cT h0 h1 h2 h3 h4 h5 h6 h7 h8 h9 mn oc os sd tg nr pf ks vs wg ts) H → va_D A (W_C cI cC cT h0 h1 h2 h3 h4 h5 h6 h7 h8 h9 mn oc os sd tg nr pf ks vs wg ts) → va_S A s.heap H locs → ∀ (ls : Array Slot), lv_has ls 4 [(0, .ref h0), (1, .int p0), (2, .int x_7), (3, .int v3_2)] → W p l e rm_X0_mendingsWithout s m ([.ref h0, .int p0] : List Value).toArray below meth c H locs 0 0 (MQ below (mQi D (mTY cI cC cT) out A (W_C cI cC cT h0 h1 h2 h3 h4 h5 h6 h7 h8 h9 mn oc os sd tg nr pf ks vs wg ts)) ([.ref h0, .int p0] : List Value).toArray s 0 0 A) (F0 m 33 ls []) := by
          intro H locs hP hD hS ls hl
          refine lv_iinc (v := v3_2 + 1) (lv' := [(3, .int (v3_2 + 1)), (0, .ref h0), (1, .int p0), (2, .int x_7)]) hx hb dX0_mendingsWithout_33 hl (k := 3) rfl rfl (by decide) rfl (fun ls hl => ?_)
          refine lv_goto (tgt := 4) hx hb dX0_mendingsWithout_36 (by decide) ?_
          cases hf
          have hf := ho_3.1 _ rfl
          exact ih_3 _ _ hf _ _ hP hD hS _ (lv_sub hl [1, 2, 3, 0] rfl)
        have hf := q_9
        refine lv_if_eq (tgt := 33) hx hb dX0_mendingsWithout_15 (by decide) (fun c_10 => ?_) (fun c_10 => ?_)
        · have hf := ite_t hf c_10
          cases hf
          exact K_8 _ _ hP hD hS _ (lv_sub hl [0, 1, 2, 3] rfl)
        · have hf := ite_f hf c_10
          refine lv_iload_n hx hb dX0_mendingsWithout_18 rfl (lv_at hl 2 rfl) ?_
          refine lv_aload_n hx hb dX0_mendingsWithout_19 rfl (lv_at hl 0 rfl) ?_
          refine lv_iload_n hx hb dX0_mendingsWithout_20 rfl (lv_at hl 3 rfl) ?_
          obtain ⟨r_11, q_12, hf⟩ := bnd hf
          refine mGoi (w2 := (W_C cI cC cT h0 h1 h2 h3 h4 h5 h6 h7 h8 h9 mn oc os sd tg nr pf ks vs wg ts)) (va_runV (As := [.int v3_2]) (rest := [.int v2_1]) ⟨hx, hb, hml, hown, hts⟩ (c_X0_optionsOf l D cI cC cT h0 h1 h2 h3 h4 h5 h6 h7 h8 h9 mn oc os sd tg nr pf ks vs wg ts H.size v3_2 r_11 q_12) (cwV 1 hts gX0_mendingsWithout_X0_optionsOf rfl rfl rfl (by decide +kernel) ⟨Nat.le_of_ble_eq_true rfl, Nat.le_of_ble_eq_true rfl⟩) (mPreV hP hD hK hN [0, 1, 2, 3, 4, 5, 6, 7, 8, 9] rfl (by decide) (va_recv hK hP (ci := 0) (q0 := 0) rfl rfl)) rfl rfl hl.1 rfl (lv_room (Nat.le_of_ble_eq_true rfl)) dX0_mendingsWithout_21 ⟨Nat.zero_le _, Nat.zero_le _⟩) hP hD hS hA [0, 1, 2, 3, 4, 5, 6, 7, 8, 9] rfl rfl rfl rfl (fun H locs hP hD hS => ?_)
          refine lv_aload_n hx hb dX0_mendingsWithout_24 rfl (lv_at hl 0 rfl) ?_
          refine lv_iload_n hx hb dX0_mendingsWithout_25 rfl (lv_at hl 3 rfl) ?_
          refine lv_iload_n hx hb dX0_mendingsWithout_26 rfl (lv_at hl 1 rfl) ?_
          obtain ⟨r_13, q_14, hf⟩ := bnd hf
          refine mGoi (w2 := (W_C cI cC cT h0 h1 h2 h3 h4 h5 h6 h7 h8 h9 mn oc os sd tg nr pf ks vs wg ts)) (va_runV (As := [.int v3_2, .int p0]) (rest := [.int r_11, .int v2_1]) ⟨hx, hb, hml, hown, hts⟩ (c_X0_optionsWith l D cI cC cT h0 h1 h2 h3 h4 h5 h6 h7 h8 h9 mn oc os sd tg nr pf ks vs wg ts H.size v3_2 p0 r_13 q_14) (cwV 2 hts gX0_mendingsWithout_X0_optionsWith rfl rfl rfl (by decide +kernel) ⟨Nat.le_of_ble_eq_true rfl, Nat.le_of_ble_eq_true rfl⟩) (mPreV hP hD hK hN [0, 1, 2, 3, 4, 5, 6, 7, 8, 9] rfl (by decide) (va_recv hK hP (ci := 0) (q0 := 0) rfl rfl)) rfl rfl hl.1 rfl (lv_room (Nat.le_of_ble_eq_true rfl)) dX0_mendingsWithout_27 ⟨Nat.zero_le _, Nat.zero_le _⟩) hP hD hS hA [0, 1, 2, 3, 4, 5, 6, 7, 8, 9] rfl rfl rfl rfl (fun H locs hP hD hS => ?_)
          refine lv_isub hx hb dX0_mendingsWithout_30 ?_
          refine lv_imul hx hb dX0_mendingsWithout_31 ?_
          refine lv_istore_n (lv' := [(2, .int (v2_1 * (r_11 - r_13))), (0, .ref h0), (1, .int p0), (3, .int v3_2)]) hx hb dX0_mendingsWithout_32 rfl hl (by decide) rfl (fun ls hl => ?_)
          cases hf
          exact K_8 _ _ hP hD hS _ (lv_sub hl [1, 2, 0, 3] rfl)
  exact LP_3 _ _ _ hf _ _ hP hD hS _ (lv_sub hl [2, 3, 1, 0] rfl)
def b_X0_mostKeptWith_1 (oc : Nat → Int32) (os : Nat → Int32) (vs : Nat → Int32) (p0 : Int32) (z : Int32 × Int32) : Option ((Int32 × Int32) ⊕ (Int32)) := match z with
  | (v2_1, v3_2) => (if 10 ≤ v3_2 then some (.inr v2_1) else (Option.bind (f_X0_optionsWith oc os vs v3_2 p0) (fun r_5 => (Option.bind (α := Int32) ((if r_5 ≤ 0 then some v2_1 else some (v2_1 + 1))) (fun x_7 => some (.inl ((x_7, v3_2 + 1))))))))
def f_X0_mostKeptWith (oc : Nat → Int32) (os : Nat → Int32) (vs : Nat → Int32) (p0 : Int32) : Option (Int32) := iter fuel (b_X0_mostKeptWith_1 oc os vs p0) ((0, 0))
abbrev rm_X0_mostKeptWith : Room := { frames := 3, cells := 0, slots := 0, locals := 67 }
set_option maxHeartbeats 4000000 in
set_option maxRecDepth 100000 in
theorem c_X0_mostKeptWith (l : Launch) (D : va_G) (cI cC cT : ClassId) (h0 h1 h2 h3 h4 h5 h6 h7 h8 h9 : Nat) (mn : Int32) (oc : Nat → Int32) (os : Nat → Int32) (sd : Nat → Int32) (tg : Nat → Int32) (nr : Int32) (pf : Int32) (ks : Nat → Int32) (vs : Nat → Int32) (wg : Nat → Int32) (ts : Nat → Int32) (sz : Nat) (p0 : Int32) (out : Int32) (hf : f_X0_mostKeptWith oc os vs p0 = some out) : Met l yX0_mostKeptWith wsX0_mostKeptWith rm_X0_mostKeptWith (mP D (mTY cI cC cT) [.ref h0, .int p0] (W_C cI cC cT h0 h1 h2 h3 h4 h5 h6 h7 h8 h9 mn oc os sd tg nr pf ks vs wg ts) sz) (mQi D (mTY cI cC cT) out (va_A (W_C cI cC cT h0 h1 h2 h3 h4 h5 h6 h7 h8 h9 mn oc os sd tg nr pf ks vs wg ts) sz) (W_C cI cC cT h0 h1 h2 h3 h4 h5 h6 h7 h8 h9 mn oc os sd tg nr pf ks vs wg ts)) 0 0 (va_A (W_C cI cC cT h0 h1 h2 h3 h4 h5 h6 h7 h8 h9 mn oc os sd tg nr pf ks vs wg ts) sz) := by
  refine mEnt (cc := cX0_mostKeptWith) (maxL := 4) (ret := (some .int)) (own := RX0) (Qq := fun A => mQi D (mTY cI cC cT) out A (W_C cI cC cT h0 h1 h2 h3 h4 h5 h6 h7 h8 h9 mn oc os sd tg nr pf ks vs wg ts)) (by decide) rfl rfl (Nat.le_of_ble_eq_true rfl) ?_
  intro p e s m below meth c A ls H locs hx hb hr hml hlocks hown hts hN hA hP hK hD hS hl
  have hl : lv_has ls 4 [(0, .ref h0), (1, .int p0)] := hl
  unfold f_X0_mostKeptWith at hf
  refine lv_iconst (v := 0) hx hb dX0_mostKeptWith_0 (by decide) ?_
  refine lv_istore_n (lv' := [(2, .int 0), (0, .ref h0), (1, .int p0)]) hx hb dX0_mostKeptWith_1 rfl hl (by decide) rfl (fun ls hl => ?_)
  refine lv_iconst (v := 0) hx hb dX0_mostKeptWith_2 (by decide) ?_
  refine lv_istore_n (lv' := [(3, .int 0), (2, .int 0), (0, .ref h0), (1, .int p0)]) hx hb dX0_mostKeptWith_3 rfl hl (by decide) rfl (fun ls hl => ?_)
  have LP_3 : ∀ (n_3 : Nat) (v2_1 : Int32) (v3_2 : Int32), iter n_3 (b_X0_mostKeptWith_1 oc os vs p0) ((v2_1, v3_2)) = some out → ∀ (H : Heap) (locs : List Loc), va_P D vwCl (W_C cI cC cT h0 h1 h2 h3 h4 h5 h6 h7 h8 h9 mn oc os sd tg nr pf ks vs wg ts) H → va_D A (W_C cI cC cT h0 h1 h2 h3 h4 h5 h6 h7 h8 h9 mn oc os sd tg nr pf ks vs wg ts) → va_S A s.heap H locs → ∀ (ls : Array Slot), lv_has ls 4 [(0, .ref h0), (1, .int p0), (2, .int v2_1), (3, .int v3_2)] → W p l e rm_X0_mostKeptWith s m ([.ref h0, .int p0] : List Value).toArray below meth c H locs 0 0 (MQ below (mQi D (mTY cI cC cT) out A (W_C cI cC cT h0 h1 h2 h3 h4 h5 h6 h7 h8 h9 mn oc os sd tg nr pf ks vs wg ts)) ([.ref h0, .int p0] : List Value).toArray s 0 0 A) (F0 m 4 ls []) := by
    intro n_3
    induction n_3 with
    | zero => intro v2_1 v3_2 hf; exact (iter_zero hf).elim
    | succ n_3 ih_3 =>
      intro v2_1 v3_2 hf H locs hP hD hS ls hl
      obtain ⟨o_3, hf, ho_3⟩ := iter_succ hf
      dsimp only [b_X0_mostKeptWith_1] at hf
      refine lv_iload_n hx hb dX0_mostKeptWith_4 rfl (lv_at hl 3 rfl) ?_
      refine lv_bipush (v := 10) hx hb dX0_mostKeptWith_5 (by decide) ?_
      refine lv_icmp_ge (tgt := 28) hx hb dX0_mostKeptWith_7 (by decide) (fun c_4 => ?_) (fun c_4 => ?_)
      · have hf := ite_t hf c_4
        refine lv_iload_n hx hb dX0_mostKeptWith_28 rfl (lv_at hl 2 rfl) ?_
        cases hf
        have hf := ho_3.2 _ rfl
        cases hf
        exact mIret hx hb hr hlocks hP hD hK hS dX0_mostKeptWith_29
      · have hf := ite_f hf c_4
        refine lv_aload_n hx hb dX0_mostKeptWith_10 rfl (lv_at hl 0 rfl) ?_
        refine lv_iload_n hx hb dX0_mostKeptWith_11 rfl (lv_at hl 3 rfl) ?_
        refine lv_iload_n hx hb dX0_mostKeptWith_12 rfl (lv_at hl 1 rfl) ?_
        obtain ⟨r_5, q_6, hf⟩ := bnd hf
        refine mGoi (w2 := (W_C cI cC cT h0 h1 h2 h3 h4 h5 h6 h7 h8 h9 mn oc os sd tg nr pf ks vs wg ts)) (va_runV (As := [.int v3_2, .int p0]) (rest := []) ⟨hx, hb, hml, hown, hts⟩ (c_X0_optionsWith l D cI cC cT h0 h1 h2 h3 h4 h5 h6 h7 h8 h9 mn oc os sd tg nr pf ks vs wg ts H.size v3_2 p0 r_5 q_6) (cwV 2 hts gX0_mostKeptWith_X0_optionsWith rfl rfl rfl (by decide +kernel) ⟨Nat.le_of_ble_eq_true rfl, Nat.le_of_ble_eq_true rfl⟩) (mPreV hP hD hK hN [0, 1, 2, 3, 4, 5, 6, 7, 8, 9] rfl (by decide) (va_recv hK hP (ci := 0) (q0 := 0) rfl rfl)) rfl rfl hl.1 rfl (lv_room (Nat.le_of_ble_eq_true rfl)) dX0_mostKeptWith_13 ⟨Nat.zero_le _, Nat.zero_le _⟩) hP hD hS hA [0, 1, 2, 3, 4, 5, 6, 7, 8, 9] rfl rfl rfl rfl (fun H locs hP hD hS => ?_)
        obtain ⟨x_7, q_9, hf⟩ := bnd hf
        have K_8 : ∀ (H : Heap) (locs : List Loc), va_P D vwCl (W_C cI cC cT h0 h1 h2 h3 h4 h5 h6 h7 h8 h9 mn oc os sd tg nr pf ks vs wg ts) H → va_D A (W_C cI cC cT h0 h1 h2 h3 h4 h5 h6 h7 h8 h9 mn oc os sd tg nr pf ks vs wg ts) → va_S A s.heap H locs → ∀ (ls : Array Slot), lv_has ls 4 [(0, .ref h0), (1, .int p0), (2, .int x_7), (3, .int v3_2)] → W p l e rm_X0_mostKeptWith s m ([.ref h0, .int p0] : List Value).toArray below meth c H locs 0 0 (MQ below (mQi D (mTY cI cC cT) out A (W_C cI cC cT h0 h1 h2 h3 h4 h5 h6 h7 h8 h9 mn oc os sd tg nr pf ks vs wg ts)) ([.ref h0, .int p0] : List Value).toArray s 0 0 A) (F0 m 22 ls []) := by
          intro H locs hP hD hS ls hl
          refine lv_iinc (v := v3_2 + 1) (lv' := [(3, .int (v3_2 + 1)), (0, .ref h0), (1, .int p0), (2, .int x_7)]) hx hb dX0_mostKeptWith_22 hl (k := 3) rfl rfl (by decide) rfl (fun ls hl => ?_)
          refine lv_goto (tgt := 4) hx hb dX0_mostKeptWith_25 (by decide) ?_
          cases hf
          have hf := ho_3.1 _ rfl
          exact ih_3 _ _ hf _ _ hP hD hS _ (lv_sub hl [1, 2, 3, 0] rfl)
        have hf := q_9
        refine lv_if_le (tgt := 22) hx hb dX0_mostKeptWith_16 (by decide) (fun c_10 => ?_) (fun c_10 => ?_)
        · have hf := ite_t hf c_10
          cases hf
          exact K_8 _ _ hP hD hS _ (lv_sub hl [0, 1, 2, 3] rfl)
        · have hf := ite_f hf c_10
          refine lv_iinc (v := v2_1 + 1) (lv' := [(2, .int (v2_1 + 1)), (0, .ref h0), (1, .int p0), (3, .int v3_2)]) hx hb dX0_mostKeptWith_19 hl (k := 2) rfl rfl (by decide) rfl (fun ls hl => ?_)
          cases hf
          exact K_8 _ _ hP hD hS _ (lv_sub hl [1, 2, 0, 3] rfl)
  exact LP_3 _ _ _ hf _ _ hP hD hS _ (lv_sub hl [2, 3, 1, 0] rfl)
def b_X0_possibleValues_1 (oc : Nat → Int32) (os : Nat → Int32) (vs : Nat → Int32) (z : Int32 × Int32) : Option ((Int32 × Int32) ⊕ (Int32)) := match z with
  | (v1_1, v2_2) => (if 104 < v2_2 then some (.inr v1_1) else (Option.bind (f_X0_mostKeptWith oc os vs v2_2) (fun r_5 => (Option.bind (α := Int32) ((if r_5 ≤ 0 then some v1_1 else some (v1_1 + 1))) (fun x_7 => some (.inl ((x_7, v2_2 + 1))))))))
def f_X0_possibleValues (oc : Nat → Int32) (os : Nat → Int32) (vs : Nat → Int32) : Option (Int32) := iter fuel (b_X0_possibleValues_1 oc os vs) ((0, 97))
abbrev rm_X0_possibleValues : Room := { frames := 4, cells := 0, slots := 0, locals := 90 }
set_option maxHeartbeats 4000000 in
set_option maxRecDepth 100000 in
theorem c_X0_possibleValues (l : Launch) (D : va_G) (cI cC cT : ClassId) (h0 h1 h2 h3 h4 h5 h6 h7 h8 h9 : Nat) (mn : Int32) (oc : Nat → Int32) (os : Nat → Int32) (sd : Nat → Int32) (tg : Nat → Int32) (nr : Int32) (pf : Int32) (ks : Nat → Int32) (vs : Nat → Int32) (wg : Nat → Int32) (ts : Nat → Int32) (sz : Nat) (out : Int32) (hf : f_X0_possibleValues oc os vs = some out) : Met l yX0_possibleValues wsX0_possibleValues rm_X0_possibleValues (mP D (mTY cI cC cT) [.ref h0] (W_C cI cC cT h0 h1 h2 h3 h4 h5 h6 h7 h8 h9 mn oc os sd tg nr pf ks vs wg ts) sz) (mQi D (mTY cI cC cT) out (va_A (W_C cI cC cT h0 h1 h2 h3 h4 h5 h6 h7 h8 h9 mn oc os sd tg nr pf ks vs wg ts) sz) (W_C cI cC cT h0 h1 h2 h3 h4 h5 h6 h7 h8 h9 mn oc os sd tg nr pf ks vs wg ts)) 0 0 (va_A (W_C cI cC cT h0 h1 h2 h3 h4 h5 h6 h7 h8 h9 mn oc os sd tg nr pf ks vs wg ts) sz) := by
  refine mEnt (cc := cX0_possibleValues) (maxL := 3) (ret := (some .int)) (own := RX0) (Qq := fun A => mQi D (mTY cI cC cT) out A (W_C cI cC cT h0 h1 h2 h3 h4 h5 h6 h7 h8 h9 mn oc os sd tg nr pf ks vs wg ts)) (by decide) rfl rfl (Nat.le_of_ble_eq_true rfl) ?_
  intro p e s m below meth c A ls H locs hx hb hr hml hlocks hown hts hN hA hP hK hD hS hl
  have hl : lv_has ls 3 [(0, .ref h0)] := hl
  unfold f_X0_possibleValues at hf
  refine lv_iconst (v := 0) hx hb dX0_possibleValues_0 (by decide) ?_
  refine lv_istore_n (lv' := [(1, .int 0), (0, .ref h0)]) hx hb dX0_possibleValues_1 rfl hl (by decide) rfl (fun ls hl => ?_)
  refine lv_bipush (v := 97) hx hb dX0_possibleValues_2 (by decide) ?_
  refine lv_istore_n (lv' := [(2, .int 97), (1, .int 0), (0, .ref h0)]) hx hb dX0_possibleValues_4 rfl hl (by decide) rfl (fun ls hl => ?_)
  have LP_3 : ∀ (n_3 : Nat) (v1_1 : Int32) (v2_2 : Int32), iter n_3 (b_X0_possibleValues_1 oc os vs) ((v1_1, v2_2)) = some out → ∀ (H : Heap) (locs : List Loc), va_P D vwCl (W_C cI cC cT h0 h1 h2 h3 h4 h5 h6 h7 h8 h9 mn oc os sd tg nr pf ks vs wg ts) H → va_D A (W_C cI cC cT h0 h1 h2 h3 h4 h5 h6 h7 h8 h9 mn oc os sd tg nr pf ks vs wg ts) → va_S A s.heap H locs → ∀ (ls : Array Slot), lv_has ls 3 [(0, .ref h0), (1, .int v1_1), (2, .int v2_2)] → W p l e rm_X0_possibleValues s m ([.ref h0] : List Value).toArray below meth c H locs 0 0 (MQ below (mQi D (mTY cI cC cT) out A (W_C cI cC cT h0 h1 h2 h3 h4 h5 h6 h7 h8 h9 mn oc os sd tg nr pf ks vs wg ts)) ([.ref h0] : List Value).toArray s 0 0 A) (F0 m 5 ls []) := by
    intro n_3
    induction n_3 with
    | zero => intro v1_1 v2_2 hf; exact (iter_zero hf).elim
    | succ n_3 ih_3 =>
      intro v1_1 v2_2 hf H locs hP hD hS ls hl
      obtain ⟨o_3, hf, ho_3⟩ := iter_succ hf
      dsimp only [b_X0_possibleValues_1] at hf
      refine lv_iload_n hx hb dX0_possibleValues_5 rfl (lv_at hl 2 rfl) ?_
      refine lv_bipush (v := 104) hx hb dX0_possibleValues_6 (by decide) ?_
      refine lv_icmp_gt (tgt := 28) hx hb dX0_possibleValues_8 (by decide) (fun c_4 => ?_) (fun c_4 => ?_)
      · have hf := ite_t hf c_4
        refine lv_iload_n hx hb dX0_possibleValues_28 rfl (lv_at hl 1 rfl) ?_
        cases hf
        have hf := ho_3.2 _ rfl
        cases hf
        exact mIret hx hb hr hlocks hP hD hK hS dX0_possibleValues_29
      · have hf := ite_f hf c_4
        refine lv_aload_n hx hb dX0_possibleValues_11 rfl (lv_at hl 0 rfl) ?_
        refine lv_iload_n hx hb dX0_possibleValues_12 rfl (lv_at hl 2 rfl) ?_
        obtain ⟨r_5, q_6, hf⟩ := bnd hf
        refine mGoi (w2 := (W_C cI cC cT h0 h1 h2 h3 h4 h5 h6 h7 h8 h9 mn oc os sd tg nr pf ks vs wg ts)) (va_runV (As := [.int v2_2]) (rest := []) ⟨hx, hb, hml, hown, hts⟩ (c_X0_mostKeptWith l D cI cC cT h0 h1 h2 h3 h4 h5 h6 h7 h8 h9 mn oc os sd tg nr pf ks vs wg ts H.size v2_2 r_5 q_6) (cwV 1 hts gX0_possibleValues_X0_mostKeptWith rfl rfl rfl (by decide +kernel) ⟨Nat.le_of_ble_eq_true rfl, Nat.le_of_ble_eq_true rfl⟩) (mPreV hP hD hK hN [0, 1, 2, 3, 4, 5, 6, 7, 8, 9] rfl (by decide) (va_recv hK hP (ci := 0) (q0 := 0) rfl rfl)) rfl rfl hl.1 rfl (lv_room (Nat.le_of_ble_eq_true rfl)) dX0_possibleValues_13 ⟨Nat.zero_le _, Nat.zero_le _⟩) hP hD hS hA [0, 1, 2, 3, 4, 5, 6, 7, 8, 9] rfl rfl rfl rfl (fun H locs hP hD hS => ?_)
        obtain ⟨x_7, q_9, hf⟩ := bnd hf
        have K_8 : ∀ (H : Heap) (locs : List Loc), va_P D vwCl (W_C cI cC cT h0 h1 h2 h3 h4 h5 h6 h7 h8 h9 mn oc os sd tg nr pf ks vs wg ts) H → va_D A (W_C cI cC cT h0 h1 h2 h3 h4 h5 h6 h7 h8 h9 mn oc os sd tg nr pf ks vs wg ts) → va_S A s.heap H locs → ∀ (ls : Array Slot), lv_has ls 3 [(0, .ref h0), (1, .int x_7), (2, .int v2_2)] → W p l e rm_X0_possibleValues s m ([.ref h0] : List Value).toArray below meth c H locs 0 0 (MQ below (mQi D (mTY cI cC cT) out A (W_C cI cC cT h0 h1 h2 h3 h4 h5 h6 h7 h8 h9 mn oc os sd tg nr pf ks vs wg ts)) ([.ref h0] : List Value).toArray s 0 0 A) (F0 m 22 ls []) := by
          intro H locs hP hD hS ls hl
          refine lv_iinc (v := v2_2 + 1) (lv' := [(2, .int (v2_2 + 1)), (0, .ref h0), (1, .int x_7)]) hx hb dX0_possibleValues_22 hl (k := 2) rfl rfl (by decide) rfl (fun ls hl => ?_)
          refine lv_goto (tgt := 5) hx hb dX0_possibleValues_25 (by decide) ?_
          cases hf
          have hf := ho_3.1 _ rfl
          exact ih_3 _ _ hf _ _ hP hD hS _ (lv_sub hl [1, 2, 0] rfl)
        have hf := q_9
        refine lv_if_le (tgt := 22) hx hb dX0_possibleValues_16 (by decide) (fun c_10 => ?_) (fun c_10 => ?_)
        · have hf := ite_t hf c_10
          cases hf
          exact K_8 _ _ hP hD hS _ (lv_sub hl [0, 1, 2] rfl)
        · have hf := ite_f hf c_10
          refine lv_iinc (v := v1_1 + 1) (lv' := [(1, .int (v1_1 + 1)), (0, .ref h0), (2, .int v2_2)]) hx hb dX0_possibleValues_19 hl (k := 1) rfl rfl (by decide) rfl (fun ls hl => ?_)
          cases hf
          exact K_8 _ _ hP hD hS _ (lv_sub hl [1, 0, 2] rfl)
  exact LP_3 _ _ _ hf _ _ hP hD hS _ (lv_sub hl [2, 1, 0] rfl)
def b_X0_possibleWays_1 (oc : Nat → Int32) (tg : Nat → Int32) (z : Int32 × Int32) : Option ((Int32 × Int32) ⊕ (Int32)) := match z with
  | (v1_1, v2_2) => (if 10 ≤ v2_2 then some (.inr v1_1) else (Option.bind (f_X0_keysThatCanReach oc tg v2_2) (fun r_5 => (Option.bind (f_J6_bitCount_0f7a4 r_5) (fun r_7 => some (.inl ((v1_1 + r_7, v2_2 + 1))))))))
def f_X0_possibleWays (oc : Nat → Int32) (tg : Nat → Int32) : Option (Int32) := iter fuel (b_X0_possibleWays_1 oc tg) ((0, 0))
abbrev rm_X0_possibleWays : Room := { frames := 5, cells := 0, slots := 0, locals := 107 }
set_option maxHeartbeats 4000000 in
set_option maxRecDepth 100000 in
theorem c_X0_possibleWays (l : Launch) (D : va_G) (cI cC cT : ClassId) (h0 h1 h2 h3 h4 h5 h6 h7 h8 h9 : Nat) (mn : Int32) (oc : Nat → Int32) (os : Nat → Int32) (sd : Nat → Int32) (tg : Nat → Int32) (nr : Int32) (pf : Int32) (ks : Nat → Int32) (vs : Nat → Int32) (wg : Nat → Int32) (ts : Nat → Int32) (sz : Nat) (out : Int32) (hf : f_X0_possibleWays oc tg = some out) : Met l yX0_possibleWays wsX0_possibleWays rm_X0_possibleWays (mP D (mTY cI cC cT) [.ref h0] (W_C cI cC cT h0 h1 h2 h3 h4 h5 h6 h7 h8 h9 mn oc os sd tg nr pf ks vs wg ts) sz) (mQi D (mTY cI cC cT) out (va_A (W_C cI cC cT h0 h1 h2 h3 h4 h5 h6 h7 h8 h9 mn oc os sd tg nr pf ks vs wg ts) sz) (W_C cI cC cT h0 h1 h2 h3 h4 h5 h6 h7 h8 h9 mn oc os sd tg nr pf ks vs wg ts)) 0 0 (va_A (W_C cI cC cT h0 h1 h2 h3 h4 h5 h6 h7 h8 h9 mn oc os sd tg nr pf ks vs wg ts) sz) := by
  refine mEnt (cc := cX0_possibleWays) (maxL := 3) (ret := (some .int)) (own := RX0) (Qq := fun A => mQi D (mTY cI cC cT) out A (W_C cI cC cT h0 h1 h2 h3 h4 h5 h6 h7 h8 h9 mn oc os sd tg nr pf ks vs wg ts)) (by decide) rfl rfl (Nat.le_of_ble_eq_true rfl) ?_
  intro p e s m below meth c A ls H locs hx hb hr hml hlocks hown hts hN hA hP hK hD hS hl
  have hl : lv_has ls 3 [(0, .ref h0)] := hl
  unfold f_X0_possibleWays at hf
  refine lv_iconst (v := 0) hx hb dX0_possibleWays_0 (by decide) ?_
  refine lv_istore_n (lv' := [(1, .int 0), (0, .ref h0)]) hx hb dX0_possibleWays_1 rfl hl (by decide) rfl (fun ls hl => ?_)
  refine lv_iconst (v := 0) hx hb dX0_possibleWays_2 (by decide) ?_
  refine lv_istore_n (lv' := [(2, .int 0), (1, .int 0), (0, .ref h0)]) hx hb dX0_possibleWays_3 rfl hl (by decide) rfl (fun ls hl => ?_)
  have LP_3 : ∀ (n_3 : Nat) (v1_1 : Int32) (v2_2 : Int32), iter n_3 (b_X0_possibleWays_1 oc tg) ((v1_1, v2_2)) = some out → ∀ (H : Heap) (locs : List Loc), va_P D vwCl (W_C cI cC cT h0 h1 h2 h3 h4 h5 h6 h7 h8 h9 mn oc os sd tg nr pf ks vs wg ts) H → va_D A (W_C cI cC cT h0 h1 h2 h3 h4 h5 h6 h7 h8 h9 mn oc os sd tg nr pf ks vs wg ts) → va_S A s.heap H locs → ∀ (ls : Array Slot), lv_has ls 3 [(0, .ref h0), (1, .int v1_1), (2, .int v2_2)] → W p l e rm_X0_possibleWays s m ([.ref h0] : List Value).toArray below meth c H locs 0 0 (MQ below (mQi D (mTY cI cC cT) out A (W_C cI cC cT h0 h1 h2 h3 h4 h5 h6 h7 h8 h9 mn oc os sd tg nr pf ks vs wg ts)) ([.ref h0] : List Value).toArray s 0 0 A) (F0 m 4 ls []) := by
    intro n_3
    induction n_3 with
    | zero => intro v1_1 v2_2 hf; exact (iter_zero hf).elim
    | succ n_3 ih_3 =>
      intro v1_1 v2_2 hf H locs hP hD hS ls hl
      obtain ⟨o_3, hf, ho_3⟩ := iter_succ hf
      dsimp only [b_X0_possibleWays_1] at hf
      refine lv_iload_n hx hb dX0_possibleWays_4 rfl (lv_at hl 2 rfl) ?_
      refine lv_bipush (v := 10) hx hb dX0_possibleWays_5 (by decide) ?_
      refine lv_icmp_ge (tgt := 27) hx hb dX0_possibleWays_7 (by decide) (fun c_4 => ?_) (fun c_4 => ?_)
      · have hf := ite_t hf c_4
        refine lv_iload_n hx hb dX0_possibleWays_27 rfl (lv_at hl 1 rfl) ?_
        cases hf
        have hf := ho_3.2 _ rfl
        cases hf
        exact mIret hx hb hr hlocks hP hD hK hS dX0_possibleWays_28
      · have hf := ite_f hf c_4
        refine lv_iload_n hx hb dX0_possibleWays_10 rfl (lv_at hl 1 rfl) ?_
        refine lv_aload_n hx hb dX0_possibleWays_11 rfl (lv_at hl 0 rfl) ?_
        refine lv_iload_n hx hb dX0_possibleWays_12 rfl (lv_at hl 2 rfl) ?_
        obtain ⟨r_5, q_6, hf⟩ := bnd hf
        refine mGoi (w2 := (W_C cI cC cT h0 h1 h2 h3 h4 h5 h6 h7 h8 h9 mn oc os sd tg nr pf ks vs wg ts)) (va_runV (As := [.int v2_2]) (rest := [.int v1_1]) ⟨hx, hb, hml, hown, hts⟩ (c_X0_keysThatCanReach l D cI cC cT h0 h1 h2 h3 h4 h5 h6 h7 h8 h9 mn oc os sd tg nr pf ks vs wg ts H.size v2_2 r_5 q_6) (cwV 1 hts gX0_possibleWays_X0_keysThatCanReach rfl rfl rfl (by decide +kernel) ⟨Nat.le_of_ble_eq_true rfl, Nat.le_of_ble_eq_true rfl⟩) (mPreV hP hD hK hN [0, 1, 2, 3, 4, 5, 6, 7, 8, 9] rfl (by decide) (va_recv hK hP (ci := 0) (q0 := 0) rfl rfl)) rfl rfl hl.1 rfl (lv_room (Nat.le_of_ble_eq_true rfl)) dX0_possibleWays_13 ⟨Nat.zero_le _, Nat.zero_le _⟩) hP hD hS hA [0, 1, 2, 3, 4, 5, 6, 7, 8, 9] rfl rfl rfl rfl (fun H locs hP hD hS => ?_)
        obtain ⟨r_7, q_8, hf⟩ := bnd hf
        refine mGoi (w2 := (W_C cI cC cT h0 h1 h2 h3 h4 h5 h6 h7 h8 h9 mn oc os sd tg nr pf ks vs wg ts)) (va_runS (As := [.int r_5]) (rest := [.int v1_1]) ⟨hx, hb, hml, hown, hts⟩ (c_J6_bitCount_0f7a4 l D cI cC cT H.size r_5 r_7 q_8) (va_cwS 1 hts gX0_possibleWays_J6_bitCount_0f7a4 rfl rfl rfl (by decide +kernel) ⟨Nat.le_of_ble_eq_true rfl, Nat.le_of_ble_eq_true rfl⟩) (mPreS hP hD hK hN [] rfl (by decide)) rfl rfl hl.1 rfl (lv_room (Nat.le_of_ble_eq_true rfl)) dX0_possibleWays_16 ⟨Nat.zero_le _, Nat.zero_le _⟩) hP hD hS hA [] rfl rfl rfl rfl (fun H locs hP hD hS => ?_)
        refine lv_iadd hx hb dX0_possibleWays_19 ?_
        refine lv_istore_n (lv' := [(1, .int (v1_1 + r_7)), (0, .ref h0), (2, .int v2_2)]) hx hb dX0_possibleWays_20 rfl hl (by decide) rfl (fun ls hl => ?_)
        refine lv_iinc (v := v2_2 + 1) (lv' := [(2, .int (v2_2 + 1)), (1, .int (v1_1 + r_7)), (0, .ref h0)]) hx hb dX0_possibleWays_21 hl (k := 2) rfl rfl (by decide) rfl (fun ls hl => ?_)
        refine lv_goto (tgt := 4) hx hb dX0_possibleWays_24 (by decide) ?_
        cases hf
        have hf := ho_3.1 _ rfl
        exact ih_3 _ _ hf _ _ hP hD hS _ (lv_sub hl [2, 1, 0] rfl)
  exact LP_3 _ _ _ hf _ _ hP hD hS _ (lv_sub hl [2, 1, 0] rfl)
def b_X0_rowThatMakesSure_1 (oc : Nat → Int32) (os : Nat → Int32) (ts : Nat → Int32) (p0 : Int32) (p1 : Int32) (v3_4 : Int32) (z : Int32 × (Nat → Int32)) : Option ((Int32 × (Nat → Int32)) ⊕ ((Int32 × (Nat → Int32)) ⊕ (Int32 × (Nat → Int32)))) := match z with
  | (v4_8, tg_9) => (Option.bind (f_X0_optionsOf oc v3_4) (fun r_11 => (if r_11 ≤ v4_8 then some (.inr (.inl ((v3_4 + 1, tg_9)))) else (Option.bind (f_X0_option os v3_4 v4_8) (fun r_14 => (Option.bind (f_X0_isSureWayOnceMended oc tg_9 ts v3_4 r_14 p0 p1) (fun (r_16, tg_17) => (if r_16 = 0 then some (.inl ((v4_8 + 1, tg_17))) else some (.inr (.inr ((r_14, tg_17))))))))))))
def b_X0_rowThatMakesSure_2 (oc : Nat → Int32) (os : Nat → Int32) (ts : Nat → Int32) (p0 : Int32) (p1 : Int32) (z : Int32 × (Nat → Int32)) : Option ((Int32 × (Nat → Int32)) ⊕ (Int32 × (Nat → Int32))) := match z with
  | (v3_4, tg_5) => (if 10 ≤ v3_4 then some (.inr ((-5, tg_5))) else iter fuel (b_X0_rowThatMakesSure_1 oc os ts p0 p1 v3_4) ((0, tg_5)))
def f_X0_rowThatMakesSure (oc : Nat → Int32) (os : Nat → Int32) (tg : Nat → Int32) (ts : Nat → Int32) (p0 : Int32) (p1 : Int32) : Option (Int32 × (Nat → Int32)) := (Option.bind (f_X0_isSureWay oc tg p0 p1) (fun r_1 => (if r_1 = 0 then iter fuel (b_X0_rowThatMakesSure_2 oc os ts p0 p1) ((0, tg)) else some ((-5, tg)))))
abbrev rm_X0_rowThatMakesSure : Room := { frames := 6, cells := 0, slots := 0, locals := 133 }
set_option maxHeartbeats 4000000 in
set_option maxRecDepth 100000 in
theorem c_X0_rowThatMakesSure (l : Launch) (D : va_G) (cI cC cT : ClassId) (h0 h1 h2 h3 h4 h5 h6 h7 h8 h9 : Nat) (mn : Int32) (oc : Nat → Int32) (os : Nat → Int32) (sd : Nat → Int32) (tg : Nat → Int32) (nr : Int32) (pf : Int32) (ks : Nat → Int32) (vs : Nat → Int32) (wg : Nat → Int32) (ts : Nat → Int32) (sz : Nat) (p0 : Int32) (p1 : Int32) (out : Int32) (o_tg : Nat → Int32) (hf : f_X0_rowThatMakesSure oc os tg ts p0 p1 = some ((out, o_tg))) : Met l yX0_rowThatMakesSure wsX0_rowThatMakesSure rm_X0_rowThatMakesSure (mP D (mTY cI cC cT) [.ref h0, .int p0, .int p1] (W_C cI cC cT h0 h1 h2 h3 h4 h5 h6 h7 h8 h9 mn oc os sd tg nr pf ks vs wg ts) sz) (mQi D (mTY cI cC cT) out (va_A (W_C cI cC cT h0 h1 h2 h3 h4 h5 h6 h7 h8 h9 mn oc os sd tg nr pf ks vs wg ts) sz) (W_C cI cC cT h0 h1 h2 h3 h4 h5 h6 h7 h8 h9 mn oc os sd o_tg nr pf ks vs wg ts)) 0 0 (va_A (W_C cI cC cT h0 h1 h2 h3 h4 h5 h6 h7 h8 h9 mn oc os sd tg nr pf ks vs wg ts) sz) := by
  refine mEnt (cc := cX0_rowThatMakesSure) (maxL := 6) (ret := (some .int)) (own := RX0) (Qq := fun A => mQi D (mTY cI cC cT) out A (W_C cI cC cT h0 h1 h2 h3 h4 h5 h6 h7 h8 h9 mn oc os sd o_tg nr pf ks vs wg ts)) (by decide) rfl rfl (Nat.le_of_ble_eq_true rfl) ?_
  intro p e s m below meth c A ls H locs hx hb hr hml hlocks hown hts hN hA hP hK hD hS hl
  have hl : lv_has ls 6 [(0, .ref h0), (1, .int p0), (2, .int p1)] := hl
  unfold f_X0_rowThatMakesSure at hf
  refine lv_aload_n hx hb dX0_rowThatMakesSure_0 rfl (lv_at hl 0 rfl) ?_
  refine lv_iload_n hx hb dX0_rowThatMakesSure_1 rfl (lv_at hl 1 rfl) ?_
  refine lv_iload_n hx hb dX0_rowThatMakesSure_2 rfl (lv_at hl 2 rfl) ?_
  obtain ⟨r_1, q_2, hf⟩ := bnd hf
  refine mGoi (w2 := (W_C cI cC cT h0 h1 h2 h3 h4 h5 h6 h7 h8 h9 mn oc os sd tg nr pf ks vs wg ts)) (va_runV (As := [.int p0, .int p1]) (rest := []) ⟨hx, hb, hml, hown, hts⟩ (c_X0_isSureWay l D cI cC cT h0 h1 h2 h3 h4 h5 h6 h7 h8 h9 mn oc os sd tg nr pf ks vs wg ts H.size p0 p1 r_1 q_2) (cwV 2 hts gX0_rowThatMakesSure_X0_isSureWay rfl rfl rfl (by decide +kernel) ⟨Nat.le_of_ble_eq_true rfl, Nat.le_of_ble_eq_true rfl⟩) (mPreV hP hD hK hN [0, 1, 2, 3, 4, 5, 6, 7, 8, 9] rfl (by decide) (va_recv hK hP (ci := 0) (q0 := 0) rfl rfl)) rfl rfl hl.1 rfl (lv_room (Nat.le_of_ble_eq_true rfl)) dX0_rowThatMakesSure_3 ⟨Nat.zero_le _, Nat.zero_le _⟩) hP hD hS hA [0, 1, 2, 3, 4, 5, 6, 7, 8, 9] rfl rfl rfl rfl (fun H locs hP hD hS => ?_)
  refine lv_if_eq (tgt := 12) hx hb dX0_rowThatMakesSure_6 (by decide) (fun c_3 => ?_) (fun c_3 => ?_)
  · have hf := ite_t hf c_3
    refine lv_iconst (v := 0) hx hb dX0_rowThatMakesSure_12 (by decide) ?_
    refine lv_istore_n (lv' := [(3, .int 0), (0, .ref h0), (1, .int p0), (2, .int p1)]) hx hb dX0_rowThatMakesSure_13 rfl hl (by decide) rfl (fun ls hl => ?_)
    have LP_6 : ∀ (n_6 : Nat) (v3_4 : Int32) (tg_5 : Nat → Int32), iter n_6 (b_X0_rowThatMakesSure_2 oc os ts p0 p1) ((v3_4, tg_5)) = some ((out, o_tg)) → ∀ (H : Heap) (locs : List Loc), va_P D vwCl (W_C cI cC cT h0 h1 h2 h3 h4 h5 h6 h7 h8 h9 mn oc os sd tg_5 nr pf ks vs wg ts) H → va_D A (W_C cI cC cT h0 h1 h2 h3 h4 h5 h6 h7 h8 h9 mn oc os sd tg_5 nr pf ks vs wg ts) → va_S A s.heap H locs → ∀ (ls : Array Slot), lv_has ls 6 [(0, .ref h0), (1, .int p0), (2, .int p1), (3, .int v3_4)] → W p l e rm_X0_rowThatMakesSure s m ([.ref h0, .int p0, .int p1] : List Value).toArray below meth c H locs 0 0 (MQ below (mQi D (mTY cI cC cT) out A (W_C cI cC cT h0 h1 h2 h3 h4 h5 h6 h7 h8 h9 mn oc os sd o_tg nr pf ks vs wg ts)) ([.ref h0, .int p0, .int p1] : List Value).toArray s 0 0 A) (F0 m 14 ls []) := by
      intro n_6
      induction n_6 with
      | zero => intro v3_4 tg_5 hf; exact (iter_zero hf).elim
      | succ n_6 ih_6 =>
        intro v3_4 tg_5 hf H locs hP hD hS ls hl
        obtain ⟨o_6, hf, ho_6⟩ := iter_succ hf
        dsimp only [b_X0_rowThatMakesSure_2] at hf
        refine lv_iload_n hx hb dX0_rowThatMakesSure_14 rfl (lv_at hl 3 rfl) ?_
        refine lv_bipush (v := 10) hx hb dX0_rowThatMakesSure_15 (by decide) ?_
        refine lv_icmp_ge (tgt := 69) hx hb dX0_rowThatMakesSure_17 (by decide) (fun c_7 => ?_) (fun c_7 => ?_)
        · have hf := ite_t hf c_7
          refine lv_bipush (v := -5) hx hb dX0_rowThatMakesSure_69 (by decide) ?_
          cases hf
          have hf := ho_6.2 _ rfl
          cases hf
          exact mIret hx hb hr hlocks hP hD hK hS dX0_rowThatMakesSure_71
        · have hf := ite_f hf c_7
          refine lv_iconst (v := 0) hx hb dX0_rowThatMakesSure_20 (by decide) ?_
          refine lv_istore (lv' := [(4, .int 0), (0, .ref h0), (1, .int p0), (2, .int p1), (3, .int v3_4)]) hx hb dX0_rowThatMakesSure_21 hl (by decide) rfl (fun ls hl => ?_)
          have LP_10 : ∀ (n_10 : Nat) (v4_8 : Int32) (tg_9 : Nat → Int32), iter n_10 (b_X0_rowThatMakesSure_1 oc os ts p0 p1 v3_4) ((v4_8, tg_9)) = some o_6 → ∀ (H : Heap) (locs : List Loc), va_P D vwCl (W_C cI cC cT h0 h1 h2 h3 h4 h5 h6 h7 h8 h9 mn oc os sd tg_9 nr pf ks vs wg ts) H → va_D A (W_C cI cC cT h0 h1 h2 h3 h4 h5 h6 h7 h8 h9 mn oc os sd tg_9 nr pf ks vs wg ts) → va_S A s.heap H locs → ∀ (ls : Array Slot), lv_has ls 6 [(0, .ref h0), (1, .int p0), (2, .int p1), (3, .int v3_4), (4, .int v4_8)] → W p l e rm_X0_rowThatMakesSure s m ([.ref h0, .int p0, .int p1] : List Value).toArray below meth c H locs 0 0 (MQ below (mQi D (mTY cI cC cT) out A (W_C cI cC cT h0 h1 h2 h3 h4 h5 h6 h7 h8 h9 mn oc os sd o_tg nr pf ks vs wg ts)) ([.ref h0, .int p0, .int p1] : List Value).toArray s 0 0 A) (F0 m 23 ls []) := by
            intro n_10
            induction n_10 with
            | zero => intro v4_8 tg_9 hf; exact (iter_zero hf).elim
            | succ n_10 ih_10 =>
              intro v4_8 tg_9 hf H locs hP hD hS ls hl
              obtain ⟨o_10, hf, ho_10⟩ := iter_succ hf
              dsimp only [b_X0_rowThatMakesSure_1] at hf
              refine lv_iload hx hb dX0_rowThatMakesSure_23 (lv_at hl 4 rfl) ?_
              refine lv_aload_n hx hb dX0_rowThatMakesSure_25 rfl (lv_at hl 0 rfl) ?_
              refine lv_iload_n hx hb dX0_rowThatMakesSure_26 rfl (lv_at hl 3 rfl) ?_
              obtain ⟨r_11, q_12, hf⟩ := bnd hf
              refine mGoi (w2 := (W_C cI cC cT h0 h1 h2 h3 h4 h5 h6 h7 h8 h9 mn oc os sd tg_9 nr pf ks vs wg ts)) (va_runV (As := [.int v3_4]) (rest := [.int v4_8]) ⟨hx, hb, hml, hown, hts⟩ (c_X0_optionsOf l D cI cC cT h0 h1 h2 h3 h4 h5 h6 h7 h8 h9 mn oc os sd tg_9 nr pf ks vs wg ts H.size v3_4 r_11 q_12) (cwV 1 hts gX0_rowThatMakesSure_X0_optionsOf rfl rfl rfl (by decide +kernel) ⟨Nat.le_of_ble_eq_true rfl, Nat.le_of_ble_eq_true rfl⟩) (mPreV hP hD hK hN [0, 1, 2, 3, 4, 5, 6, 7, 8, 9] rfl (by decide) (va_recv hK hP (ci := 0) (q0 := 0) rfl rfl)) rfl rfl hl.1 rfl (lv_room (Nat.le_of_ble_eq_true rfl)) dX0_rowThatMakesSure_27 ⟨Nat.zero_le _, Nat.zero_le _⟩) hP hD hS hA [0, 1, 2, 3, 4, 5, 6, 7, 8, 9] rfl rfl rfl rfl (fun H locs hP hD hS => ?_)
              refine lv_icmp_ge (tgt := 63) hx hb dX0_rowThatMakesSure_30 (by decide) (fun c_13 => ?_) (fun c_13 => ?_)
              · have hf := ite_t hf c_13
                refine lv_iinc (v := v3_4 + 1) (lv' := [(3, .int (v3_4 + 1)), (0, .ref h0), (1, .int p0), (2, .int p1), (4, .int v4_8)]) hx hb dX0_rowThatMakesSure_63 hl (k := 3) rfl rfl (by decide) rfl (fun ls hl => ?_)
                refine lv_goto (tgt := 14) hx hb dX0_rowThatMakesSure_66 (by decide) ?_
                cases hf
                have hf := ho_10.2 _ rfl
                cases hf
                have hf := ho_6.1 _ rfl
                exact ih_6 _ _ hf _ _ hP hD hS _ (lv_sub hl [1, 2, 3, 0] rfl)
              · have hf := ite_f hf c_13
                refine lv_aload_n hx hb dX0_rowThatMakesSure_33 rfl (lv_at hl 0 rfl) ?_
                refine lv_iload_n hx hb dX0_rowThatMakesSure_34 rfl (lv_at hl 3 rfl) ?_
                refine lv_iload hx hb dX0_rowThatMakesSure_35 (lv_at hl 4 rfl) ?_
                obtain ⟨r_14, q_15, hf⟩ := bnd hf
                refine mGoi (w2 := (W_C cI cC cT h0 h1 h2 h3 h4 h5 h6 h7 h8 h9 mn oc os sd tg_9 nr pf ks vs wg ts)) (va_runV (As := [.int v3_4, .int v4_8]) (rest := []) ⟨hx, hb, hml, hown, hts⟩ (c_X0_option l D cI cC cT h0 h1 h2 h3 h4 h5 h6 h7 h8 h9 mn oc os sd tg_9 nr pf ks vs wg ts H.size v3_4 v4_8 r_14 q_15) (cwV 2 hts gX0_rowThatMakesSure_X0_option rfl rfl rfl (by decide +kernel) ⟨Nat.le_of_ble_eq_true rfl, Nat.le_of_ble_eq_true rfl⟩) (mPreV hP hD hK hN [0, 1, 2, 3, 4, 5, 6, 7, 8, 9] rfl (by decide) (va_recv hK hP (ci := 0) (q0 := 0) rfl rfl)) rfl rfl hl.1 rfl (lv_room (Nat.le_of_ble_eq_true rfl)) dX0_rowThatMakesSure_37 ⟨Nat.zero_le _, Nat.zero_le _⟩) hP hD hS hA [0, 1, 2, 3, 4, 5, 6, 7, 8, 9] rfl rfl rfl rfl (fun H locs hP hD hS => ?_)
                refine lv_istore (lv' := [(5, .int r_14), (0, .ref h0), (1, .int p0), (2, .int p1), (3, .int v3_4), (4, .int v4_8)]) hx hb dX0_rowThatMakesSure_40 hl (by decide) rfl (fun ls hl => ?_)
                refine lv_aload_n hx hb dX0_rowThatMakesSure_42 rfl (lv_at hl 1 rfl) ?_
                refine lv_iload_n hx hb dX0_rowThatMakesSure_43 rfl (lv_at hl 4 rfl) ?_
                refine lv_iload hx hb dX0_rowThatMakesSure_44 (lv_at hl 0 rfl) ?_
                refine lv_iload_n hx hb dX0_rowThatMakesSure_46 rfl (lv_at hl 2 rfl) ?_
                refine lv_iload_n hx hb dX0_rowThatMakesSure_47 rfl (lv_at hl 3 rfl) ?_
                obtain ⟨⟨r_16, tg_17⟩, q_18, hf⟩ := bnd hf
                refine mGoi (w2 := (W_C cI cC cT h0 h1 h2 h3 h4 h5 h6 h7 h8 h9 mn oc os sd tg_17 nr pf ks vs wg ts)) (va_runV (As := [.int v3_4, .int r_14, .int p0, .int p1]) (rest := []) ⟨hx, hb, hml, hown, hts⟩ (c_X0_isSureWayOnceMended l D cI cC cT h0 h1 h2 h3 h4 h5 h6 h7 h8 h9 mn oc os sd tg_9 nr pf ks vs wg ts H.size v3_4 r_14 p0 p1 r_16 tg_17 q_18) (cwV 4 hts gX0_rowThatMakesSure_X0_isSureWayOnceMended rfl rfl rfl (by decide +kernel) ⟨Nat.le_of_ble_eq_true rfl, Nat.le_of_ble_eq_true rfl⟩) (mPreV hP hD hK hN [0, 1, 2, 3, 4, 5, 6, 7, 8, 9] rfl (by decide) (va_recv hK hP (ci := 0) (q0 := 0) rfl rfl)) rfl rfl hl.1 rfl (lv_room (Nat.le_of_ble_eq_true rfl)) dX0_rowThatMakesSure_48 ⟨Nat.zero_le _, Nat.zero_le _⟩) hP hD hS hA [0, 1, 2, 3, 4, 5, 6, 7, 8, 9] rfl rfl rfl rfl (fun H locs hP hD hS => ?_)
                refine lv_if_eq (tgt := 57) hx hb dX0_rowThatMakesSure_51 (by decide) (fun c_19 => ?_) (fun c_19 => ?_)
                · have hf := ite_t hf c_19
                  refine lv_iinc (v := v4_8 + 1) (lv' := [(4, .int (v4_8 + 1)), (5, .int r_14), (0, .ref h0), (1, .int p0), (2, .int p1), (3, .int v3_4)]) hx hb dX0_rowThatMakesSure_57 hl (k := 5) rfl rfl (by decide) rfl (fun ls hl => ?_)
                  refine lv_goto (tgt := 23) hx hb dX0_rowThatMakesSure_60 (by decide) ?_
                  cases hf
                  have hf := ho_10.1 _ rfl
                  exact ih_10 _ _ hf _ _ hP hD hS _ (lv_sub hl [2, 3, 4, 5, 0] rfl)
                · have hf := ite_f hf c_19
                  refine lv_iload hx hb dX0_rowThatMakesSure_54 (lv_at hl 0 rfl) ?_
                  cases hf
                  have hf := ho_10.2 _ rfl
                  cases hf
                  have hf := ho_6.2 _ rfl
                  cases hf
                  exact mIret hx hb hr hlocks hP hD hK hS dX0_rowThatMakesSure_56
          exact LP_10 _ _ _ hf _ _ hP hD hS _ (lv_sub hl [1, 2, 3, 4, 0] rfl)
    exact LP_6 _ _ _ hf _ _ hP hD hS _ (lv_sub hl [1, 2, 3, 0] rfl)
  · have hf := ite_f hf c_3
    refine lv_bipush (v := -5) hx hb dX0_rowThatMakesSure_9 (by decide) ?_
    cases hf
    exact mIret hx hb hr hlocks hP hD hK hS dX0_rowThatMakesSure_11
def b_X0_sumKeptBy_1 (oc : Nat → Int32) (os : Nat → Int32) (sd : Nat → Int32) (wg : Nat → Int32) (p0 : Int32) (z : Int32 × Int32) : Option ((Int32 × Int32) ⊕ (Int32)) := match z with
  | (v2_1, v3_2) => (if 10 ≤ v3_2 then some (.inr v2_1) else (Option.bind (f_X0_isThere oc v3_2) (fun r_5 => (Option.bind (α := Int32) ((if r_5 = 0 then some v2_1 else (Option.bind (f_X0_rowKeptBy oc os sd p0 v3_2) (fun r_11 => (Option.bind (f_X3_weightAt wg r_11) (fun r_13 => some (v2_1 + r_13))))))) (fun x_7 => some (.inl ((x_7, v3_2 + 1))))))))
def f_X0_sumKeptBy (oc : Nat → Int32) (os : Nat → Int32) (sd : Nat → Int32) (wg : Nat → Int32) (p0 : Int32) : Option (Int32) := iter fuel (b_X0_sumKeptBy_1 oc os sd wg p0) ((0, 0))
abbrev rm_X0_sumKeptBy : Room := { frames := 3, cells := 0, slots := 0, locals := 67 }
set_option maxHeartbeats 4000000 in
set_option maxRecDepth 100000 in
theorem c_X0_sumKeptBy (l : Launch) (D : va_G) (cI cC cT : ClassId) (h0 h1 h2 h3 h4 h5 h6 h7 h8 h9 : Nat) (mn : Int32) (oc : Nat → Int32) (os : Nat → Int32) (sd : Nat → Int32) (tg : Nat → Int32) (nr : Int32) (pf : Int32) (ks : Nat → Int32) (vs : Nat → Int32) (wg : Nat → Int32) (ts : Nat → Int32) (sz : Nat) (p0 : Int32) (out : Int32) (hf : f_X0_sumKeptBy oc os sd wg p0 = some out) : Met l yX0_sumKeptBy wsX0_sumKeptBy rm_X0_sumKeptBy (mP D (mTY cI cC cT) [.ref h0, .int p0] (W_C cI cC cT h0 h1 h2 h3 h4 h5 h6 h7 h8 h9 mn oc os sd tg nr pf ks vs wg ts) sz) (mQi D (mTY cI cC cT) out (va_A (W_C cI cC cT h0 h1 h2 h3 h4 h5 h6 h7 h8 h9 mn oc os sd tg nr pf ks vs wg ts) sz) (W_C cI cC cT h0 h1 h2 h3 h4 h5 h6 h7 h8 h9 mn oc os sd tg nr pf ks vs wg ts)) 0 0 (va_A (W_C cI cC cT h0 h1 h2 h3 h4 h5 h6 h7 h8 h9 mn oc os sd tg nr pf ks vs wg ts) sz) := by
  refine mEnt (cc := cX0_sumKeptBy) (maxL := 4) (ret := (some .int)) (own := RX0) (Qq := fun A => mQi D (mTY cI cC cT) out A (W_C cI cC cT h0 h1 h2 h3 h4 h5 h6 h7 h8 h9 mn oc os sd tg nr pf ks vs wg ts)) (by decide) rfl rfl (Nat.le_of_ble_eq_true rfl) ?_
  intro p e s m below meth c A ls H locs hx hb hr hml hlocks hown hts hN hA hP hK hD hS hl
  have hin_X0 : ∀ w ∈ u_ws RX0 TX0 6, w ∈ wsX0_sumKeptBy := by decide +kernel
  have fl_24 := hts (.fieldLink RX0 24 "SureMendings$Choices" "table" "LSureMendings$Table;") (by decide +kernel)
  have hl : lv_has ls 4 [(0, .ref h0), (1, .int p0)] := hl
  unfold f_X0_sumKeptBy at hf
  refine lv_iconst (v := 0) hx hb dX0_sumKeptBy_0 (by decide) ?_
  refine lv_istore_n (lv' := [(2, .int 0), (0, .ref h0), (1, .int p0)]) hx hb dX0_sumKeptBy_1 rfl hl (by decide) rfl (fun ls hl => ?_)
  refine lv_iconst (v := 0) hx hb dX0_sumKeptBy_2 (by decide) ?_
  refine lv_istore_n (lv' := [(3, .int 0), (2, .int 0), (0, .ref h0), (1, .int p0)]) hx hb dX0_sumKeptBy_3 rfl hl (by decide) rfl (fun ls hl => ?_)
  have LP_3 : ∀ (n_3 : Nat) (v2_1 : Int32) (v3_2 : Int32), iter n_3 (b_X0_sumKeptBy_1 oc os sd wg p0) ((v2_1, v3_2)) = some out → ∀ (H : Heap) (locs : List Loc), va_P D vwCl (W_C cI cC cT h0 h1 h2 h3 h4 h5 h6 h7 h8 h9 mn oc os sd tg nr pf ks vs wg ts) H → va_D A (W_C cI cC cT h0 h1 h2 h3 h4 h5 h6 h7 h8 h9 mn oc os sd tg nr pf ks vs wg ts) → va_S A s.heap H locs → ∀ (ls : Array Slot), lv_has ls 4 [(0, .ref h0), (1, .int p0), (2, .int v2_1), (3, .int v3_2)] → W p l e rm_X0_sumKeptBy s m ([.ref h0, .int p0] : List Value).toArray below meth c H locs 0 0 (MQ below (mQi D (mTY cI cC cT) out A (W_C cI cC cT h0 h1 h2 h3 h4 h5 h6 h7 h8 h9 mn oc os sd tg nr pf ks vs wg ts)) ([.ref h0, .int p0] : List Value).toArray s 0 0 A) (F0 m 4 ls []) := by
    intro n_3
    induction n_3 with
    | zero => intro v2_1 v3_2 hf; exact (iter_zero hf).elim
    | succ n_3 ih_3 =>
      intro v2_1 v3_2 hf H locs hP hD hS ls hl
      obtain ⟨o_3, hf, ho_3⟩ := iter_succ hf
      dsimp only [b_X0_sumKeptBy_1] at hf
      refine lv_iload_n hx hb dX0_sumKeptBy_4 rfl (lv_at hl 3 rfl) ?_
      refine lv_bipush (v := 10) hx hb dX0_sumKeptBy_5 (by decide) ?_
      refine lv_icmp_ge (tgt := 40) hx hb dX0_sumKeptBy_7 (by decide) (fun c_4 => ?_) (fun c_4 => ?_)
      · have hf := ite_t hf c_4
        refine lv_iload_n hx hb dX0_sumKeptBy_40 rfl (lv_at hl 2 rfl) ?_
        cases hf
        have hf := ho_3.2 _ rfl
        cases hf
        exact mIret hx hb hr hlocks hP hD hK hS dX0_sumKeptBy_41
      · have hf := ite_f hf c_4
        refine lv_aload_n hx hb dX0_sumKeptBy_10 rfl (lv_at hl 0 rfl) ?_
        refine lv_iload_n hx hb dX0_sumKeptBy_11 rfl (lv_at hl 3 rfl) ?_
        obtain ⟨r_5, q_6, hf⟩ := bnd hf
        refine mGoi (w2 := (W_C cI cC cT h0 h1 h2 h3 h4 h5 h6 h7 h8 h9 mn oc os sd tg nr pf ks vs wg ts)) (va_runV (As := [.int v3_2]) (rest := []) ⟨hx, hb, hml, hown, hts⟩ (c_X0_isThere l D cI cC cT h0 h1 h2 h3 h4 h5 h6 h7 h8 h9 mn oc os sd tg nr pf ks vs wg ts H.size v3_2 r_5 q_6) (cwV 1 hts gX0_sumKeptBy_X0_isThere rfl rfl rfl (by decide +kernel) ⟨Nat.le_of_ble_eq_true rfl, Nat.le_of_ble_eq_true rfl⟩) (mPreV hP hD hK hN [0, 1, 2, 3, 4, 5, 6, 7, 8, 9] rfl (by decide) (va_recv hK hP (ci := 0) (q0 := 0) rfl rfl)) rfl rfl hl.1 rfl (lv_room (Nat.le_of_ble_eq_true rfl)) dX0_sumKeptBy_12 ⟨Nat.zero_le _, Nat.zero_le _⟩) hP hD hS hA [0, 1, 2, 3, 4, 5, 6, 7, 8, 9] rfl rfl rfl rfl (fun H locs hP hD hS => ?_)
        obtain ⟨x_7, q_9, hf⟩ := bnd hf
        have K_8 : ∀ (H : Heap) (locs : List Loc), va_P D vwCl (W_C cI cC cT h0 h1 h2 h3 h4 h5 h6 h7 h8 h9 mn oc os sd tg nr pf ks vs wg ts) H → va_D A (W_C cI cC cT h0 h1 h2 h3 h4 h5 h6 h7 h8 h9 mn oc os sd tg nr pf ks vs wg ts) → va_S A s.heap H locs → ∀ (ls : Array Slot), lv_has ls 4 [(0, .ref h0), (1, .int p0), (2, .int x_7), (3, .int v3_2)] → W p l e rm_X0_sumKeptBy s m ([.ref h0, .int p0] : List Value).toArray below meth c H locs 0 0 (MQ below (mQi D (mTY cI cC cT) out A (W_C cI cC cT h0 h1 h2 h3 h4 h5 h6 h7 h8 h9 mn oc os sd tg nr pf ks vs wg ts)) ([.ref h0, .int p0] : List Value).toArray s 0 0 A) (F0 m 34 ls []) := by
          intro H locs hP hD hS ls hl
          refine lv_iinc (v := v3_2 + 1) (lv' := [(3, .int (v3_2 + 1)), (0, .ref h0), (1, .int p0), (2, .int x_7)]) hx hb dX0_sumKeptBy_34 hl (k := 3) rfl rfl (by decide) rfl (fun ls hl => ?_)
          refine lv_goto (tgt := 4) hx hb dX0_sumKeptBy_37 (by decide) ?_
          cases hf
          have hf := ho_3.1 _ rfl
          exact ih_3 _ _ hf _ _ hP hD hS _ (lv_sub hl [1, 2, 3, 0] rfl)
        have hf := q_9
        refine lv_if_eq (tgt := 34) hx hb dX0_sumKeptBy_15 (by decide) (fun c_10 => ?_) (fun c_10 => ?_)
        · have hf := ite_t hf c_10
          cases hf
          exact K_8 _ _ hP hD hS _ (lv_sub hl [0, 1, 2, 3] rfl)
        · have hf := ite_f hf c_10
          refine lv_iload_n hx hb dX0_sumKeptBy_18 rfl (lv_at hl 2 rfl) ?_
          refine lv_aload_n hx hb dX0_sumKeptBy_19 rfl (lv_at hl 0 rfl) ?_
          refine va_get (D := D) (ci := 0) (v := .ref h5) (C := RX0) (T := TX0) (N := 6) hx hb hts hin_X0 hown hK hP 0 rfl rfl 0 (by decide) fl_24 (fun _ h9 => h9) rfl dX0_sumKeptBy_20 ?_
          refine lv_aload_n hx hb dX0_sumKeptBy_23 rfl (lv_at hl 0 rfl) ?_
          refine lv_iload_n hx hb dX0_sumKeptBy_24 rfl (lv_at hl 1 rfl) ?_
          refine lv_iload_n hx hb dX0_sumKeptBy_25 rfl (lv_at hl 3 rfl) ?_
          obtain ⟨r_11, q_12, hf⟩ := bnd hf
          refine mGoi (w2 := (W_C cI cC cT h0 h1 h2 h3 h4 h5 h6 h7 h8 h9 mn oc os sd tg nr pf ks vs wg ts)) (va_runV (As := [.int p0, .int v3_2]) (rest := [.ref h5, .int v2_1]) ⟨hx, hb, hml, hown, hts⟩ (c_X0_rowKeptBy l D cI cC cT h0 h1 h2 h3 h4 h5 h6 h7 h8 h9 mn oc os sd tg nr pf ks vs wg ts H.size p0 v3_2 r_11 q_12) (cwV 2 hts gX0_sumKeptBy_X0_rowKeptBy rfl rfl rfl (by decide +kernel) ⟨Nat.le_of_ble_eq_true rfl, Nat.le_of_ble_eq_true rfl⟩) (mPreV hP hD hK hN [0, 1, 2, 3, 4, 5, 6, 7, 8, 9] rfl (by decide) (va_recv hK hP (ci := 0) (q0 := 0) rfl rfl)) rfl rfl hl.1 rfl (lv_room (Nat.le_of_ble_eq_true rfl)) dX0_sumKeptBy_26 ⟨Nat.zero_le _, Nat.zero_le _⟩) hP hD hS hA [0, 1, 2, 3, 4, 5, 6, 7, 8, 9] rfl rfl rfl rfl (fun H locs hP hD hS => ?_)
          obtain ⟨r_13, q_14, hf⟩ := bnd hf
          refine mGoi (w2 := (W_C cI cC cT h0 h1 h2 h3 h4 h5 h6 h7 h8 h9 mn oc os sd tg nr pf ks vs wg ts)) (va_runV (As := [.int r_11]) (rest := [.int v2_1]) ⟨hx, hb, hml, hown, hts⟩ (c_X3_weightAt l D cI cC cT h5 h6 h7 h8 h9 nr pf ks vs wg ts H.size r_11 r_13 q_14) (cwV 1 hts gX0_sumKeptBy_X3_weightAt rfl rfl rfl (by decide +kernel) ⟨Nat.le_of_ble_eq_true rfl, Nat.le_of_ble_eq_true rfl⟩) (mPreV hP hD hK hN [5, 6, 7, 8, 9] rfl (by decide) (va_recv hK hP (ci := 3) (q0 := 5) rfl rfl)) rfl rfl hl.1 rfl (lv_room (Nat.le_of_ble_eq_true rfl)) dX0_sumKeptBy_29 ⟨Nat.zero_le _, Nat.zero_le _⟩) hP hD hS hA [5, 6, 7, 8, 9] rfl rfl rfl rfl (fun H locs hP hD hS => ?_)
          refine lv_iadd hx hb dX0_sumKeptBy_32 ?_
          refine lv_istore_n (lv' := [(2, .int (v2_1 + r_13)), (0, .ref h0), (1, .int p0), (3, .int v3_2)]) hx hb dX0_sumKeptBy_33 rfl hl (by decide) rfl (fun ls hl => ?_)
          cases hf
          exact K_8 _ _ hP hD hS _ (lv_sub hl [1, 2, 0, 3] rfl)
  exact LP_3 _ _ _ hf _ _ hP hD hS _ (lv_sub hl [2, 3, 1, 0] rfl)
def b_X0_sureRows_1 (oc : Nat → Int32) (nr : Int32) (pf : Int32) (ks : Nat → Int32) (wg : Nat → Int32) (z : Int32 × Int32) : Option ((Int32 × Int32) ⊕ (Int32)) := match z with
  | (v1_1, v2_2) => (Option.bind (f_X3_size nr) (fun r_4 => (if r_4 ≤ v2_2 then some (.inr v1_1) else (Option.bind (f_X0_isSureRow oc nr pf ks wg v2_2) (fun r_7 => (Option.bind (α := Int32) ((if r_7 = 0 then some v1_1 else some (v1_1 + 1))) (fun x_9 => some (.inl ((x_9, v2_2 + 1))))))))))
def f_X0_sureRows (oc : Nat → Int32) (nr : Int32) (pf : Int32) (ks : Nat → Int32) (wg : Nat → Int32) : Option (Int32) := iter fuel (b_X0_sureRows_1 oc nr pf ks wg) ((0, 0))
abbrev rm_X0_sureRows : Room := { frames := 5, cells := 0, slots := 0, locals := 107 }
set_option maxHeartbeats 4000000 in
set_option maxRecDepth 100000 in
theorem c_X0_sureRows (l : Launch) (D : va_G) (cI cC cT : ClassId) (h0 h1 h2 h3 h4 h5 h6 h7 h8 h9 : Nat) (mn : Int32) (oc : Nat → Int32) (os : Nat → Int32) (sd : Nat → Int32) (tg : Nat → Int32) (nr : Int32) (pf : Int32) (ks : Nat → Int32) (vs : Nat → Int32) (wg : Nat → Int32) (ts : Nat → Int32) (sz : Nat) (out : Int32) (hf : f_X0_sureRows oc nr pf ks wg = some out) : Met l yX0_sureRows wsX0_sureRows rm_X0_sureRows (mP D (mTY cI cC cT) [.ref h0] (W_C cI cC cT h0 h1 h2 h3 h4 h5 h6 h7 h8 h9 mn oc os sd tg nr pf ks vs wg ts) sz) (mQi D (mTY cI cC cT) out (va_A (W_C cI cC cT h0 h1 h2 h3 h4 h5 h6 h7 h8 h9 mn oc os sd tg nr pf ks vs wg ts) sz) (W_C cI cC cT h0 h1 h2 h3 h4 h5 h6 h7 h8 h9 mn oc os sd tg nr pf ks vs wg ts)) 0 0 (va_A (W_C cI cC cT h0 h1 h2 h3 h4 h5 h6 h7 h8 h9 mn oc os sd tg nr pf ks vs wg ts) sz) := by
  refine mEnt (cc := cX0_sureRows) (maxL := 3) (ret := (some .int)) (own := RX0) (Qq := fun A => mQi D (mTY cI cC cT) out A (W_C cI cC cT h0 h1 h2 h3 h4 h5 h6 h7 h8 h9 mn oc os sd tg nr pf ks vs wg ts)) (by decide) rfl rfl (Nat.le_of_ble_eq_true rfl) ?_
  intro p e s m below meth c A ls H locs hx hb hr hml hlocks hown hts hN hA hP hK hD hS hl
  have hin_X0 : ∀ w ∈ u_ws RX0 TX0 6, w ∈ wsX0_sureRows := by decide +kernel
  have fl_24 := hts (.fieldLink RX0 24 "SureMendings$Choices" "table" "LSureMendings$Table;") (by decide +kernel)
  have hl : lv_has ls 3 [(0, .ref h0)] := hl
  unfold f_X0_sureRows at hf
  refine lv_iconst (v := 0) hx hb dX0_sureRows_0 (by decide) ?_
  refine lv_istore_n (lv' := [(1, .int 0), (0, .ref h0)]) hx hb dX0_sureRows_1 rfl hl (by decide) rfl (fun ls hl => ?_)
  refine lv_iconst (v := 0) hx hb dX0_sureRows_2 (by decide) ?_
  refine lv_istore_n (lv' := [(2, .int 0), (1, .int 0), (0, .ref h0)]) hx hb dX0_sureRows_3 rfl hl (by decide) rfl (fun ls hl => ?_)
  have LP_3 : ∀ (n_3 : Nat) (v1_1 : Int32) (v2_2 : Int32), iter n_3 (b_X0_sureRows_1 oc nr pf ks wg) ((v1_1, v2_2)) = some out → ∀ (H : Heap) (locs : List Loc), va_P D vwCl (W_C cI cC cT h0 h1 h2 h3 h4 h5 h6 h7 h8 h9 mn oc os sd tg nr pf ks vs wg ts) H → va_D A (W_C cI cC cT h0 h1 h2 h3 h4 h5 h6 h7 h8 h9 mn oc os sd tg nr pf ks vs wg ts) → va_S A s.heap H locs → ∀ (ls : Array Slot), lv_has ls 3 [(0, .ref h0), (1, .int v1_1), (2, .int v2_2)] → W p l e rm_X0_sureRows s m ([.ref h0] : List Value).toArray below meth c H locs 0 0 (MQ below (mQi D (mTY cI cC cT) out A (W_C cI cC cT h0 h1 h2 h3 h4 h5 h6 h7 h8 h9 mn oc os sd tg nr pf ks vs wg ts)) ([.ref h0] : List Value).toArray s 0 0 A) (F0 m 4 ls []) := by
    intro n_3
    induction n_3 with
    | zero => intro v1_1 v2_2 hf; exact (iter_zero hf).elim
    | succ n_3 ih_3 =>
      intro v1_1 v2_2 hf H locs hP hD hS ls hl
      obtain ⟨o_3, hf, ho_3⟩ := iter_succ hf
      dsimp only [b_X0_sureRows_1] at hf
      refine lv_iload_n hx hb dX0_sureRows_4 rfl (lv_at hl 2 rfl) ?_
      refine lv_aload_n hx hb dX0_sureRows_5 rfl (lv_at hl 0 rfl) ?_
      refine va_get (D := D) (ci := 0) (v := .ref h5) (C := RX0) (T := TX0) (N := 6) hx hb hts hin_X0 hown hK hP 0 rfl rfl 0 (by decide) fl_24 (fun _ h9 => h9) rfl dX0_sureRows_6 ?_
      obtain ⟨r_4, q_5, hf⟩ := bnd hf
      refine mGoi (w2 := (W_C cI cC cT h0 h1 h2 h3 h4 h5 h6 h7 h8 h9 mn oc os sd tg nr pf ks vs wg ts)) (va_runV (As := []) (rest := [.int v2_2]) ⟨hx, hb, hml, hown, hts⟩ (c_X3_size l D cI cC cT h5 h6 h7 h8 h9 nr pf ks vs wg ts H.size r_4 q_5) (cwV 0 hts gX0_sureRows_X3_size rfl rfl rfl (by decide +kernel) ⟨Nat.le_of_ble_eq_true rfl, Nat.le_of_ble_eq_true rfl⟩) (mPreV hP hD hK hN [5, 6, 7, 8, 9] rfl (by decide) (va_recv hK hP (ci := 3) (q0 := 5) rfl rfl)) rfl rfl hl.1 rfl (lv_room (Nat.le_of_ble_eq_true rfl)) dX0_sureRows_9 ⟨Nat.zero_le _, Nat.zero_le _⟩) hP hD hS hA [5, 6, 7, 8, 9] rfl rfl rfl rfl (fun H locs hP hD hS => ?_)
      refine lv_icmp_ge (tgt := 32) hx hb dX0_sureRows_12 (by decide) (fun c_6 => ?_) (fun c_6 => ?_)
      · have hf := ite_t hf c_6
        refine lv_iload_n hx hb dX0_sureRows_32 rfl (lv_at hl 1 rfl) ?_
        cases hf
        have hf := ho_3.2 _ rfl
        cases hf
        exact mIret hx hb hr hlocks hP hD hK hS dX0_sureRows_33
      · have hf := ite_f hf c_6
        refine lv_aload_n hx hb dX0_sureRows_15 rfl (lv_at hl 0 rfl) ?_
        refine lv_iload_n hx hb dX0_sureRows_16 rfl (lv_at hl 2 rfl) ?_
        obtain ⟨r_7, q_8, hf⟩ := bnd hf
        refine mGoi (w2 := (W_C cI cC cT h0 h1 h2 h3 h4 h5 h6 h7 h8 h9 mn oc os sd tg nr pf ks vs wg ts)) (va_runV (As := [.int v2_2]) (rest := []) ⟨hx, hb, hml, hown, hts⟩ (c_X0_isSureRow l D cI cC cT h0 h1 h2 h3 h4 h5 h6 h7 h8 h9 mn oc os sd tg nr pf ks vs wg ts H.size v2_2 r_7 q_8) (cwV 1 hts gX0_sureRows_X0_isSureRow rfl rfl rfl (by decide +kernel) ⟨Nat.le_of_ble_eq_true rfl, Nat.le_of_ble_eq_true rfl⟩) (mPreV hP hD hK hN [0, 1, 2, 3, 4, 5, 6, 7, 8, 9] rfl (by decide) (va_recv hK hP (ci := 0) (q0 := 0) rfl rfl)) rfl rfl hl.1 rfl (lv_room (Nat.le_of_ble_eq_true rfl)) dX0_sureRows_17 ⟨Nat.zero_le _, Nat.zero_le _⟩) hP hD hS hA [0, 1, 2, 3, 4, 5, 6, 7, 8, 9] rfl rfl rfl rfl (fun H locs hP hD hS => ?_)
        obtain ⟨x_9, q_11, hf⟩ := bnd hf
        have K_10 : ∀ (H : Heap) (locs : List Loc), va_P D vwCl (W_C cI cC cT h0 h1 h2 h3 h4 h5 h6 h7 h8 h9 mn oc os sd tg nr pf ks vs wg ts) H → va_D A (W_C cI cC cT h0 h1 h2 h3 h4 h5 h6 h7 h8 h9 mn oc os sd tg nr pf ks vs wg ts) → va_S A s.heap H locs → ∀ (ls : Array Slot), lv_has ls 3 [(0, .ref h0), (1, .int x_9), (2, .int v2_2)] → W p l e rm_X0_sureRows s m ([.ref h0] : List Value).toArray below meth c H locs 0 0 (MQ below (mQi D (mTY cI cC cT) out A (W_C cI cC cT h0 h1 h2 h3 h4 h5 h6 h7 h8 h9 mn oc os sd tg nr pf ks vs wg ts)) ([.ref h0] : List Value).toArray s 0 0 A) (F0 m 26 ls []) := by
          intro H locs hP hD hS ls hl
          refine lv_iinc (v := v2_2 + 1) (lv' := [(2, .int (v2_2 + 1)), (0, .ref h0), (1, .int x_9)]) hx hb dX0_sureRows_26 hl (k := 2) rfl rfl (by decide) rfl (fun ls hl => ?_)
          refine lv_goto (tgt := 4) hx hb dX0_sureRows_29 (by decide) ?_
          cases hf
          have hf := ho_3.1 _ rfl
          exact ih_3 _ _ hf _ _ hP hD hS _ (lv_sub hl [1, 2, 0] rfl)
        have hf := q_11
        refine lv_if_eq (tgt := 26) hx hb dX0_sureRows_20 (by decide) (fun c_12 => ?_) (fun c_12 => ?_)
        · have hf := ite_t hf c_12
          cases hf
          exact K_10 _ _ hP hD hS _ (lv_sub hl [0, 1, 2] rfl)
        · have hf := ite_f hf c_12
          refine lv_iinc (v := v1_1 + 1) (lv' := [(1, .int (v1_1 + 1)), (0, .ref h0), (2, .int v2_2)]) hx hb dX0_sureRows_23 hl (k := 1) rfl rfl (by decide) rfl (fun ls hl => ?_)
          cases hf
          exact K_10 _ _ hP hD hS _ (lv_sub hl [1, 0, 2] rfl)
  exact LP_3 _ _ _ hf _ _ hP hD hS _ (lv_sub hl [2, 1, 0] rfl)
def b_X0_sureValues_1 (oc : Nat → Int32) (os : Nat → Int32) (vs : Nat → Int32) (z : Int32 × Int32) : Option ((Int32 × Int32) ⊕ (Int32)) := match z with
  | (v1_1, v2_2) => (if 104 < v2_2 then some (.inr v1_1) else (Option.bind (f_X0_fewestKeptWith oc os vs v2_2) (fun r_5 => (Option.bind (α := Int32) ((if r_5 ≤ 0 then some v1_1 else some (v1_1 + 1))) (fun x_7 => some (.inl ((x_7, v2_2 + 1))))))))
def f_X0_sureValues (oc : Nat → Int32) (os : Nat → Int32) (vs : Nat → Int32) : Option (Int32) := iter fuel (b_X0_sureValues_1 oc os vs) ((0, 97))
abbrev rm_X0_sureValues : Room := { frames := 4, cells := 0, slots := 0, locals := 90 }
set_option maxHeartbeats 4000000 in
set_option maxRecDepth 100000 in
theorem c_X0_sureValues (l : Launch) (D : va_G) (cI cC cT : ClassId) (h0 h1 h2 h3 h4 h5 h6 h7 h8 h9 : Nat) (mn : Int32) (oc : Nat → Int32) (os : Nat → Int32) (sd : Nat → Int32) (tg : Nat → Int32) (nr : Int32) (pf : Int32) (ks : Nat → Int32) (vs : Nat → Int32) (wg : Nat → Int32) (ts : Nat → Int32) (sz : Nat) (out : Int32) (hf : f_X0_sureValues oc os vs = some out) : Met l yX0_sureValues wsX0_sureValues rm_X0_sureValues (mP D (mTY cI cC cT) [.ref h0] (W_C cI cC cT h0 h1 h2 h3 h4 h5 h6 h7 h8 h9 mn oc os sd tg nr pf ks vs wg ts) sz) (mQi D (mTY cI cC cT) out (va_A (W_C cI cC cT h0 h1 h2 h3 h4 h5 h6 h7 h8 h9 mn oc os sd tg nr pf ks vs wg ts) sz) (W_C cI cC cT h0 h1 h2 h3 h4 h5 h6 h7 h8 h9 mn oc os sd tg nr pf ks vs wg ts)) 0 0 (va_A (W_C cI cC cT h0 h1 h2 h3 h4 h5 h6 h7 h8 h9 mn oc os sd tg nr pf ks vs wg ts) sz) := by
  refine mEnt (cc := cX0_sureValues) (maxL := 3) (ret := (some .int)) (own := RX0) (Qq := fun A => mQi D (mTY cI cC cT) out A (W_C cI cC cT h0 h1 h2 h3 h4 h5 h6 h7 h8 h9 mn oc os sd tg nr pf ks vs wg ts)) (by decide) rfl rfl (Nat.le_of_ble_eq_true rfl) ?_
  intro p e s m below meth c A ls H locs hx hb hr hml hlocks hown hts hN hA hP hK hD hS hl
  have hl : lv_has ls 3 [(0, .ref h0)] := hl
  unfold f_X0_sureValues at hf
  refine lv_iconst (v := 0) hx hb dX0_sureValues_0 (by decide) ?_
  refine lv_istore_n (lv' := [(1, .int 0), (0, .ref h0)]) hx hb dX0_sureValues_1 rfl hl (by decide) rfl (fun ls hl => ?_)
  refine lv_bipush (v := 97) hx hb dX0_sureValues_2 (by decide) ?_
  refine lv_istore_n (lv' := [(2, .int 97), (1, .int 0), (0, .ref h0)]) hx hb dX0_sureValues_4 rfl hl (by decide) rfl (fun ls hl => ?_)
  have LP_3 : ∀ (n_3 : Nat) (v1_1 : Int32) (v2_2 : Int32), iter n_3 (b_X0_sureValues_1 oc os vs) ((v1_1, v2_2)) = some out → ∀ (H : Heap) (locs : List Loc), va_P D vwCl (W_C cI cC cT h0 h1 h2 h3 h4 h5 h6 h7 h8 h9 mn oc os sd tg nr pf ks vs wg ts) H → va_D A (W_C cI cC cT h0 h1 h2 h3 h4 h5 h6 h7 h8 h9 mn oc os sd tg nr pf ks vs wg ts) → va_S A s.heap H locs → ∀ (ls : Array Slot), lv_has ls 3 [(0, .ref h0), (1, .int v1_1), (2, .int v2_2)] → W p l e rm_X0_sureValues s m ([.ref h0] : List Value).toArray below meth c H locs 0 0 (MQ below (mQi D (mTY cI cC cT) out A (W_C cI cC cT h0 h1 h2 h3 h4 h5 h6 h7 h8 h9 mn oc os sd tg nr pf ks vs wg ts)) ([.ref h0] : List Value).toArray s 0 0 A) (F0 m 5 ls []) := by
    intro n_3
    induction n_3 with
    | zero => intro v1_1 v2_2 hf; exact (iter_zero hf).elim
    | succ n_3 ih_3 =>
      intro v1_1 v2_2 hf H locs hP hD hS ls hl
      obtain ⟨o_3, hf, ho_3⟩ := iter_succ hf
      dsimp only [b_X0_sureValues_1] at hf
      refine lv_iload_n hx hb dX0_sureValues_5 rfl (lv_at hl 2 rfl) ?_
      refine lv_bipush (v := 104) hx hb dX0_sureValues_6 (by decide) ?_
      refine lv_icmp_gt (tgt := 28) hx hb dX0_sureValues_8 (by decide) (fun c_4 => ?_) (fun c_4 => ?_)
      · have hf := ite_t hf c_4
        refine lv_iload_n hx hb dX0_sureValues_28 rfl (lv_at hl 1 rfl) ?_
        cases hf
        have hf := ho_3.2 _ rfl
        cases hf
        exact mIret hx hb hr hlocks hP hD hK hS dX0_sureValues_29
      · have hf := ite_f hf c_4
        refine lv_aload_n hx hb dX0_sureValues_11 rfl (lv_at hl 0 rfl) ?_
        refine lv_iload_n hx hb dX0_sureValues_12 rfl (lv_at hl 2 rfl) ?_
        obtain ⟨r_5, q_6, hf⟩ := bnd hf
        refine mGoi (w2 := (W_C cI cC cT h0 h1 h2 h3 h4 h5 h6 h7 h8 h9 mn oc os sd tg nr pf ks vs wg ts)) (va_runV (As := [.int v2_2]) (rest := []) ⟨hx, hb, hml, hown, hts⟩ (c_X0_fewestKeptWith l D cI cC cT h0 h1 h2 h3 h4 h5 h6 h7 h8 h9 mn oc os sd tg nr pf ks vs wg ts H.size v2_2 r_5 q_6) (cwV 1 hts gX0_sureValues_X0_fewestKeptWith rfl rfl rfl (by decide +kernel) ⟨Nat.le_of_ble_eq_true rfl, Nat.le_of_ble_eq_true rfl⟩) (mPreV hP hD hK hN [0, 1, 2, 3, 4, 5, 6, 7, 8, 9] rfl (by decide) (va_recv hK hP (ci := 0) (q0 := 0) rfl rfl)) rfl rfl hl.1 rfl (lv_room (Nat.le_of_ble_eq_true rfl)) dX0_sureValues_13 ⟨Nat.zero_le _, Nat.zero_le _⟩) hP hD hS hA [0, 1, 2, 3, 4, 5, 6, 7, 8, 9] rfl rfl rfl rfl (fun H locs hP hD hS => ?_)
        obtain ⟨x_7, q_9, hf⟩ := bnd hf
        have K_8 : ∀ (H : Heap) (locs : List Loc), va_P D vwCl (W_C cI cC cT h0 h1 h2 h3 h4 h5 h6 h7 h8 h9 mn oc os sd tg nr pf ks vs wg ts) H → va_D A (W_C cI cC cT h0 h1 h2 h3 h4 h5 h6 h7 h8 h9 mn oc os sd tg nr pf ks vs wg ts) → va_S A s.heap H locs → ∀ (ls : Array Slot), lv_has ls 3 [(0, .ref h0), (1, .int x_7), (2, .int v2_2)] → W p l e rm_X0_sureValues s m ([.ref h0] : List Value).toArray below meth c H locs 0 0 (MQ below (mQi D (mTY cI cC cT) out A (W_C cI cC cT h0 h1 h2 h3 h4 h5 h6 h7 h8 h9 mn oc os sd tg nr pf ks vs wg ts)) ([.ref h0] : List Value).toArray s 0 0 A) (F0 m 22 ls []) := by
          intro H locs hP hD hS ls hl
          refine lv_iinc (v := v2_2 + 1) (lv' := [(2, .int (v2_2 + 1)), (0, .ref h0), (1, .int x_7)]) hx hb dX0_sureValues_22 hl (k := 2) rfl rfl (by decide) rfl (fun ls hl => ?_)
          refine lv_goto (tgt := 5) hx hb dX0_sureValues_25 (by decide) ?_
          cases hf
          have hf := ho_3.1 _ rfl
          exact ih_3 _ _ hf _ _ hP hD hS _ (lv_sub hl [1, 2, 0] rfl)
        have hf := q_9
        refine lv_if_le (tgt := 22) hx hb dX0_sureValues_16 (by decide) (fun c_10 => ?_) (fun c_10 => ?_)
        · have hf := ite_t hf c_10
          cases hf
          exact K_8 _ _ hP hD hS _ (lv_sub hl [0, 1, 2] rfl)
        · have hf := ite_f hf c_10
          refine lv_iinc (v := v1_1 + 1) (lv' := [(1, .int (v1_1 + 1)), (0, .ref h0), (2, .int v2_2)]) hx hb dX0_sureValues_19 hl (k := 1) rfl rfl (by decide) rfl (fun ls hl => ?_)
          cases hf
          exact K_8 _ _ hP hD hS _ (lv_sub hl [1, 0, 2] rfl)
  exact LP_3 _ _ _ hf _ _ hP hD hS _ (lv_sub hl [2, 1, 0] rfl)
def b_X0_sureWays_1 (oc : Nat → Int32) (tg : Nat → Int32) (z : Int32 × Int32) : Option ((Int32 × Int32) ⊕ (Int32)) := match z with
  | (v1_1, v2_2) => (if 10 ≤ v2_2 then some (.inr v1_1) else (Option.bind (f_X0_keysSureToReach oc tg v2_2) (fun r_5 => (Option.bind (f_J6_bitCount_0f7a4 r_5) (fun r_7 => some (.inl ((v1_1 + r_7, v2_2 + 1))))))))
def f_X0_sureWays (oc : Nat → Int32) (tg : Nat → Int32) : Option (Int32) := iter fuel (b_X0_sureWays_1 oc tg) ((0, 0))
abbrev rm_X0_sureWays : Room := { frames := 5, cells := 0, slots := 0, locals := 107 }
set_option maxHeartbeats 4000000 in
set_option maxRecDepth 100000 in
theorem c_X0_sureWays (l : Launch) (D : va_G) (cI cC cT : ClassId) (h0 h1 h2 h3 h4 h5 h6 h7 h8 h9 : Nat) (mn : Int32) (oc : Nat → Int32) (os : Nat → Int32) (sd : Nat → Int32) (tg : Nat → Int32) (nr : Int32) (pf : Int32) (ks : Nat → Int32) (vs : Nat → Int32) (wg : Nat → Int32) (ts : Nat → Int32) (sz : Nat) (out : Int32) (hf : f_X0_sureWays oc tg = some out) : Met l yX0_sureWays wsX0_sureWays rm_X0_sureWays (mP D (mTY cI cC cT) [.ref h0] (W_C cI cC cT h0 h1 h2 h3 h4 h5 h6 h7 h8 h9 mn oc os sd tg nr pf ks vs wg ts) sz) (mQi D (mTY cI cC cT) out (va_A (W_C cI cC cT h0 h1 h2 h3 h4 h5 h6 h7 h8 h9 mn oc os sd tg nr pf ks vs wg ts) sz) (W_C cI cC cT h0 h1 h2 h3 h4 h5 h6 h7 h8 h9 mn oc os sd tg nr pf ks vs wg ts)) 0 0 (va_A (W_C cI cC cT h0 h1 h2 h3 h4 h5 h6 h7 h8 h9 mn oc os sd tg nr pf ks vs wg ts) sz) := by
  refine mEnt (cc := cX0_sureWays) (maxL := 3) (ret := (some .int)) (own := RX0) (Qq := fun A => mQi D (mTY cI cC cT) out A (W_C cI cC cT h0 h1 h2 h3 h4 h5 h6 h7 h8 h9 mn oc os sd tg nr pf ks vs wg ts)) (by decide) rfl rfl (Nat.le_of_ble_eq_true rfl) ?_
  intro p e s m below meth c A ls H locs hx hb hr hml hlocks hown hts hN hA hP hK hD hS hl
  have hl : lv_has ls 3 [(0, .ref h0)] := hl
  unfold f_X0_sureWays at hf
  refine lv_iconst (v := 0) hx hb dX0_sureWays_0 (by decide) ?_
  refine lv_istore_n (lv' := [(1, .int 0), (0, .ref h0)]) hx hb dX0_sureWays_1 rfl hl (by decide) rfl (fun ls hl => ?_)
  refine lv_iconst (v := 0) hx hb dX0_sureWays_2 (by decide) ?_
  refine lv_istore_n (lv' := [(2, .int 0), (1, .int 0), (0, .ref h0)]) hx hb dX0_sureWays_3 rfl hl (by decide) rfl (fun ls hl => ?_)
  have LP_3 : ∀ (n_3 : Nat) (v1_1 : Int32) (v2_2 : Int32), iter n_3 (b_X0_sureWays_1 oc tg) ((v1_1, v2_2)) = some out → ∀ (H : Heap) (locs : List Loc), va_P D vwCl (W_C cI cC cT h0 h1 h2 h3 h4 h5 h6 h7 h8 h9 mn oc os sd tg nr pf ks vs wg ts) H → va_D A (W_C cI cC cT h0 h1 h2 h3 h4 h5 h6 h7 h8 h9 mn oc os sd tg nr pf ks vs wg ts) → va_S A s.heap H locs → ∀ (ls : Array Slot), lv_has ls 3 [(0, .ref h0), (1, .int v1_1), (2, .int v2_2)] → W p l e rm_X0_sureWays s m ([.ref h0] : List Value).toArray below meth c H locs 0 0 (MQ below (mQi D (mTY cI cC cT) out A (W_C cI cC cT h0 h1 h2 h3 h4 h5 h6 h7 h8 h9 mn oc os sd tg nr pf ks vs wg ts)) ([.ref h0] : List Value).toArray s 0 0 A) (F0 m 4 ls []) := by
    intro n_3
    induction n_3 with
    | zero => intro v1_1 v2_2 hf; exact (iter_zero hf).elim
    | succ n_3 ih_3 =>
      intro v1_1 v2_2 hf H locs hP hD hS ls hl
      obtain ⟨o_3, hf, ho_3⟩ := iter_succ hf
      dsimp only [b_X0_sureWays_1] at hf
      refine lv_iload_n hx hb dX0_sureWays_4 rfl (lv_at hl 2 rfl) ?_
      refine lv_bipush (v := 10) hx hb dX0_sureWays_5 (by decide) ?_
      refine lv_icmp_ge (tgt := 27) hx hb dX0_sureWays_7 (by decide) (fun c_4 => ?_) (fun c_4 => ?_)
      · have hf := ite_t hf c_4
        refine lv_iload_n hx hb dX0_sureWays_27 rfl (lv_at hl 1 rfl) ?_
        cases hf
        have hf := ho_3.2 _ rfl
        cases hf
        exact mIret hx hb hr hlocks hP hD hK hS dX0_sureWays_28
      · have hf := ite_f hf c_4
        refine lv_iload_n hx hb dX0_sureWays_10 rfl (lv_at hl 1 rfl) ?_
        refine lv_aload_n hx hb dX0_sureWays_11 rfl (lv_at hl 0 rfl) ?_
        refine lv_iload_n hx hb dX0_sureWays_12 rfl (lv_at hl 2 rfl) ?_
        obtain ⟨r_5, q_6, hf⟩ := bnd hf
        refine mGoi (w2 := (W_C cI cC cT h0 h1 h2 h3 h4 h5 h6 h7 h8 h9 mn oc os sd tg nr pf ks vs wg ts)) (va_runV (As := [.int v2_2]) (rest := [.int v1_1]) ⟨hx, hb, hml, hown, hts⟩ (c_X0_keysSureToReach l D cI cC cT h0 h1 h2 h3 h4 h5 h6 h7 h8 h9 mn oc os sd tg nr pf ks vs wg ts H.size v2_2 r_5 q_6) (cwV 1 hts gX0_sureWays_X0_keysSureToReach rfl rfl rfl (by decide +kernel) ⟨Nat.le_of_ble_eq_true rfl, Nat.le_of_ble_eq_true rfl⟩) (mPreV hP hD hK hN [0, 1, 2, 3, 4, 5, 6, 7, 8, 9] rfl (by decide) (va_recv hK hP (ci := 0) (q0 := 0) rfl rfl)) rfl rfl hl.1 rfl (lv_room (Nat.le_of_ble_eq_true rfl)) dX0_sureWays_13 ⟨Nat.zero_le _, Nat.zero_le _⟩) hP hD hS hA [0, 1, 2, 3, 4, 5, 6, 7, 8, 9] rfl rfl rfl rfl (fun H locs hP hD hS => ?_)
        obtain ⟨r_7, q_8, hf⟩ := bnd hf
        refine mGoi (w2 := (W_C cI cC cT h0 h1 h2 h3 h4 h5 h6 h7 h8 h9 mn oc os sd tg nr pf ks vs wg ts)) (va_runS (As := [.int r_5]) (rest := [.int v1_1]) ⟨hx, hb, hml, hown, hts⟩ (c_J6_bitCount_0f7a4 l D cI cC cT H.size r_5 r_7 q_8) (va_cwS 1 hts gX0_sureWays_J6_bitCount_0f7a4 rfl rfl rfl (by decide +kernel) ⟨Nat.le_of_ble_eq_true rfl, Nat.le_of_ble_eq_true rfl⟩) (mPreS hP hD hK hN [] rfl (by decide)) rfl rfl hl.1 rfl (lv_room (Nat.le_of_ble_eq_true rfl)) dX0_sureWays_16 ⟨Nat.zero_le _, Nat.zero_le _⟩) hP hD hS hA [] rfl rfl rfl rfl (fun H locs hP hD hS => ?_)
        refine lv_iadd hx hb dX0_sureWays_19 ?_
        refine lv_istore_n (lv' := [(1, .int (v1_1 + r_7)), (0, .ref h0), (2, .int v2_2)]) hx hb dX0_sureWays_20 rfl hl (by decide) rfl (fun ls hl => ?_)
        refine lv_iinc (v := v2_2 + 1) (lv' := [(2, .int (v2_2 + 1)), (1, .int (v1_1 + r_7)), (0, .ref h0)]) hx hb dX0_sureWays_21 hl (k := 2) rfl rfl (by decide) rfl (fun ls hl => ?_)
        refine lv_goto (tgt := 4) hx hb dX0_sureWays_24 (by decide) ?_
        cases hf
        have hf := ho_3.1 _ rfl
        exact ih_3 _ _ hf _ _ hP hD hS _ (lv_sub hl [2, 1, 0] rfl)
  exact LP_3 _ _ _ hf _ _ hP hD hS _ (lv_sub hl [2, 1, 0] rfl)
def b_X0_update_1 (oc_6 : Nat → Int32) (os_7 : Nat → Int32) (tg_8 : Nat → Int32) (z : Int32 × Int32 × (Nat → Int32)) : Option ((Int32 × Int32 × (Nat → Int32)) ⊕ ((Int32 × (Nat → Int32) × (Nat → Int32) × (Nat → Int32)) ⊕ (Int32 × (Nat → Int32) × (Nat → Int32) × (Nat → Int32) × (Nat → Int32)))) := match z with
  | (v1_13, mn_14, sd_15) => (if 10 ≤ v1_13 then some (.inr (.inr ((mn_14, oc_6, os_7, sd_15, tg_8)))) else (Option.bind (f_X5_put sd_15 v1_13 mn_14 10) (fun u0_18 => (Option.bind (f_X0_isThere oc_6 v1_13) (fun r_20 => (Option.bind (α := Int32) ((if r_20 = 0 then some mn_14 else (Option.bind (f_X0_optionsOf oc_6 v1_13) (fun r_26 => some (mn_14 * r_26))))) (fun mn_22 => some (.inl ((v1_13 + 1, mn_22, u0_18))))))))))
def b_X0_update_2 (sd : Nat → Int32) (nr : Int32) (pf : Int32) (ks : Nat → Int32) (wg : Nat → Int32) (ts : Nat → Int32) (z : Int32 × (Nat → Int32) × (Nat → Int32) × (Nat → Int32)) : Option ((Int32 × (Nat → Int32) × (Nat → Int32) × (Nat → Int32)) ⊕ (Int32 × (Nat → Int32) × (Nat → Int32) × (Nat → Int32) × (Nat → Int32))) := match z with
  | (v1_5, oc_6, os_7, tg_8) => (Option.bind (f_X3_size nr) (fun r_10 => (if r_10 ≤ v1_5 then iter fuel (b_X0_update_1 oc_6 os_7 tg_8) ((0, 1, sd)) else (Option.bind (f_X3_canBeKept nr pf ks wg v1_5) (fun r_28 => (Option.bind (α := (Nat → Int32) × (Nat → Int32) × (Nat → Int32)) ((if r_28 = 0 then some ((oc_6, os_7, tg_8)) else (Option.bind (f_X3_keyAt ks v1_5) (fun r_36 => (Option.bind (f_X0_addOption oc_6 os_7 tg_8 ts r_36 v1_5) (fun (oc_38, os_39, tg_40) => some ((oc_38, os_39, tg_40)))))))) (fun (oc_30, os_31, tg_32) => some (.inl ((v1_5 + 1, oc_30, os_31, tg_32))))))))))
def f_X0_update (oc : Nat → Int32) (os : Nat → Int32) (sd : Nat → Int32) (tg : Nat → Int32) (nr : Int32) (pf : Int32) (ks : Nat → Int32) (wg : Nat → Int32) (ts : Nat → Int32) : Option (Int32 × (Nat → Int32) × (Nat → Int32) × (Nat → Int32) × (Nat → Int32)) := (Option.bind (f_J7_fill_53178 oc 0 10) (fun u0_1 => (Option.bind (f_J7_fill_53178 tg 0 10) (fun u0_3 => iter fuel (b_X0_update_2 sd nr pf ks wg ts) ((0, u0_1, os, u0_3))))))
abbrev rm_X0_update : Room := { frames := 4, cells := 0, slots := 0, locals := 87 }
set_option maxHeartbeats 4000000 in
set_option maxRecDepth 100000 in
theorem c_X0_update (l : Launch) (D : va_G) (cI cC cT : ClassId) (h0 h1 h2 h3 h4 h5 h6 h7 h8 h9 : Nat) (mn : Int32) (oc : Nat → Int32) (os : Nat → Int32) (sd : Nat → Int32) (tg : Nat → Int32) (nr : Int32) (pf : Int32) (ks : Nat → Int32) (vs : Nat → Int32) (wg : Nat → Int32) (ts : Nat → Int32) (sz : Nat) (o_mn : Int32) (o_oc : Nat → Int32) (o_os : Nat → Int32) (o_sd : Nat → Int32) (o_tg : Nat → Int32) (hf : f_X0_update oc os sd tg nr pf ks wg ts = some ((o_mn, o_oc, o_os, o_sd, o_tg))) : Met l yX0_update wsX0_update rm_X0_update (mP D (mTY cI cC cT) [.ref h0] (W_C cI cC cT h0 h1 h2 h3 h4 h5 h6 h7 h8 h9 mn oc os sd tg nr pf ks vs wg ts) sz) (mQv D (mTY cI cC cT) (va_A (W_C cI cC cT h0 h1 h2 h3 h4 h5 h6 h7 h8 h9 mn oc os sd tg nr pf ks vs wg ts) sz) (W_C cI cC cT h0 h1 h2 h3 h4 h5 h6 h7 h8 h9 o_mn o_oc o_os o_sd o_tg nr pf ks vs wg ts)) 0 0 (va_A (W_C cI cC cT h0 h1 h2 h3 h4 h5 h6 h7 h8 h9 mn oc os sd tg nr pf ks vs wg ts) sz) := by
  refine mEnt (cc := cX0_update) (maxL := 2) (ret := none) (own := RX0) (Qq := fun A => mQv D (mTY cI cC cT) A (W_C cI cC cT h0 h1 h2 h3 h4 h5 h6 h7 h8 h9 o_mn o_oc o_os o_sd o_tg nr pf ks vs wg ts)) (by decide) rfl rfl (Nat.le_of_ble_eq_true rfl) ?_
  intro p e s m below meth c A ls H locs hx hb hr hml hlocks hown hts hN hA hP hK hD hS hl
  have hin_X0 : ∀ w ∈ u_ws RX0 TX0 6, w ∈ wsX0_update := by decide +kernel
  have fl_9 := hts (.fieldLink RX0 9 "SureMendings$Choices" "optionCounts" "[I") (by decide +kernel)
  have fl_18 := hts (.fieldLink RX0 18 "SureMendings$Choices" "strides" "[I") (by decide +kernel)
  have fl_21 := hts (.fieldLink RX0 21 "SureMendings$Choices" "targetSets" "[I") (by decide +kernel)
  have fl_24 := hts (.fieldLink RX0 24 "SureMendings$Choices" "table" "LSureMendings$Table;") (by decide +kernel)
  have fl_52 := hts (.fieldLink RX0 52 "SureMendings$Choices" "mendings" "I") (by decide +kernel)
  have hl : lv_has ls 2 [(0, .ref h0)] := hl
  unfold f_X0_update at hf
  refine lv_aload_n hx hb dX0_update_0 rfl (lv_at hl 0 rfl) ?_
  refine va_get (D := D) (ci := 0) (v := .ref h1) (C := RX0) (T := TX0) (N := 6) hx hb hts hin_X0 hown hK hP 0 rfl rfl 1 (by decide) fl_9 (fun _ h9 => h9) rfl dX0_update_1 ?_
  refine lv_iconst (v := 0) hx hb dX0_update_4 (by decide) ?_
  obtain ⟨u0_1, q_2, hf⟩ := bnd hf
  refine mGov (w2 := (W_C cI cC cT h0 h1 h2 h3 h4 h5 h6 h7 h8 h9 mn u0_1 os sd tg nr pf ks vs wg ts)) (va_runS (As := [.ref h1, .int 0]) (rest := []) ⟨hx, hb, hml, hown, hts⟩ (c_J7_fill_53178 l D cI cC cT 10 h1 oc H.size 0 u0_1 q_2) (va_cwS 2 hts gX0_update_J7_fill_53178 rfl rfl rfl (by decide +kernel) ⟨Nat.le_of_ble_eq_true rfl, Nat.le_of_ble_eq_true rfl⟩) (mPreS hP hD hK hN [1] rfl (by decide)) rfl rfl hl.1 rfl (lv_room (Nat.le_of_ble_eq_true rfl)) dX0_update_5 ⟨Nat.zero_le _, Nat.zero_le _⟩) hP hD hS hA [1] rfl rfl rfl rfl (fun H locs hP hD hS => ?_)
  refine lv_aload_n hx hb dX0_update_8 rfl (lv_at hl 0 rfl) ?_
  refine va_get (D := D) (ci := 0) (v := .ref h4) (C := RX0) (T := TX0) (N := 6) hx hb hts hin_X0 hown hK hP 0 rfl rfl 4 (by decide) fl_21 (fun _ h9 => h9) rfl dX0_update_9 ?_
  refine lv_iconst (v := 0) hx hb dX0_update_12 (by decide) ?_
  obtain ⟨u0_3, q_4, hf⟩ := bnd hf
  refine mGov (w2 := (W_C cI cC cT h0 h1 h2 h3 h4 h5 h6 h7 h8 h9 mn u0_1 os sd u0_3 nr pf ks vs wg ts)) (va_runS (As := [.ref h4, .int 0]) (rest := []) ⟨hx, hb, hml, hown, hts⟩ (c_J7_fill_53178 l D cI cC cT 10 h4 tg H.size 0 u0_3 q_4) (va_cwS 2 hts gX0_update_J7_fill_53178 rfl rfl rfl (by decide +kernel) ⟨Nat.le_of_ble_eq_true rfl, Nat.le_of_ble_eq_true rfl⟩) (mPreS hP hD hK hN [4] rfl (by decide)) rfl rfl hl.1 rfl (lv_room (Nat.le_of_ble_eq_true rfl)) dX0_update_13 ⟨Nat.zero_le _, Nat.zero_le _⟩) hP hD hS hA [4] rfl rfl rfl rfl (fun H locs hP hD hS => ?_)
  refine lv_iconst (v := 0) hx hb dX0_update_16 (by decide) ?_
  refine lv_istore_n (lv' := [(1, .int 0), (0, .ref h0)]) hx hb dX0_update_17 rfl hl (by decide) rfl (fun ls hl => ?_)
  have LP_9 : ∀ (n_9 : Nat) (v1_5 : Int32) (oc_6 : Nat → Int32) (os_7 : Nat → Int32) (tg_8 : Nat → Int32), iter n_9 (b_X0_update_2 sd nr pf ks wg ts) ((v1_5, oc_6, os_7, tg_8)) = some ((o_mn, o_oc, o_os, o_sd, o_tg)) → ∀ (H : Heap) (locs : List Loc), va_P D vwCl (W_C cI cC cT h0 h1 h2 h3 h4 h5 h6 h7 h8 h9 mn oc_6 os_7 sd tg_8 nr pf ks vs wg ts) H → va_D A (W_C cI cC cT h0 h1 h2 h3 h4 h5 h6 h7 h8 h9 mn oc_6 os_7 sd tg_8 nr pf ks vs wg ts) → va_S A s.heap H locs → ∀ (ls : Array Slot), lv_has ls 2 [(0, .ref h0), (1, .int v1_5)] → W p l e rm_X0_update s m ([.ref h0] : List Value).toArray below meth c H locs 0 0 (MQ below (mQv D (mTY cI cC cT) A (W_C cI cC cT h0 h1 h2 h3 h4 h5 h6 h7 h8 h9 o_mn o_oc o_os o_sd o_tg nr pf ks vs wg ts)) ([.ref h0] : List Value).toArray s 0 0 A) (F0 m 18 ls []) := by
    intro n_9
    induction n_9 with
    | zero => intro v1_5 oc_6 os_7 tg_8 hf; exact (iter_zero hf).elim
    | succ n_9 ih_9 =>
      intro v1_5 oc_6 os_7 tg_8 hf H locs hP hD hS ls hl
      obtain ⟨o_9, hf, ho_9⟩ := iter_succ hf
      dsimp only [b_X0_update_2] at hf
      refine lv_iload_n hx hb dX0_update_18 rfl (lv_at hl 1 rfl) ?_
      refine lv_aload_n hx hb dX0_update_19 rfl (lv_at hl 0 rfl) ?_
      refine va_get (D := D) (ci := 0) (v := .ref h5) (C := RX0) (T := TX0) (N := 6) hx hb hts hin_X0 hown hK hP 0 rfl rfl 0 (by decide) fl_24 (fun _ h9 => h9) rfl dX0_update_20 ?_
      obtain ⟨r_10, q_11, hf⟩ := bnd hf
      refine mGoi (w2 := (W_C cI cC cT h0 h1 h2 h3 h4 h5 h6 h7 h8 h9 mn oc_6 os_7 sd tg_8 nr pf ks vs wg ts)) (va_runV (As := []) (rest := [.int v1_5]) ⟨hx, hb, hml, hown, hts⟩ (c_X3_size l D cI cC cT h5 h6 h7 h8 h9 nr pf ks vs wg ts H.size r_10 q_11) (cwV 0 hts gX0_update_X3_size rfl rfl rfl (by decide +kernel) ⟨Nat.le_of_ble_eq_true rfl, Nat.le_of_ble_eq_true rfl⟩) (mPreV hP hD hK hN [5, 6, 7, 8, 9] rfl (by decide) (va_recv hK hP (ci := 3) (q0 := 5) rfl rfl)) rfl rfl hl.1 rfl (lv_room (Nat.le_of_ble_eq_true rfl)) dX0_update_23 ⟨Nat.zero_le _, Nat.zero_le _⟩) hP hD hS hA [5, 6, 7, 8, 9] rfl rfl rfl rfl (fun H locs hP hD hS => ?_)
      refine lv_icmp_ge (tgt := 59) hx hb dX0_update_26 (by decide) (fun c_12 => ?_) (fun c_12 => ?_)
      · have hf := ite_t hf c_12
        refine lv_aload_n hx hb dX0_update_59 rfl (lv_at hl 0 rfl) ?_
        refine lv_iconst (v := 1) hx hb dX0_update_60 (by decide) ?_
        refine va_put (D := D) (ci := 0) (v := .int 1) (ty := .int) (C := RX0) (T := TX0) (N := 6) hx hb hts hin_X0 tyX0 tyX0_ok nmX0 hown hK hP hD hS 0 rfl rfl 5 (by decide) fl_52 (fun _ h9 => h9) rfl (by decide +kernel) rfl rfl (Nat.le_of_ble_eq_true rfl) dX0_update_61 (fun H locs hP hD hS => ?_)
        have hP : va_P D vwCl (W_C cI cC cT h0 h1 h2 h3 h4 h5 h6 h7 h8 h9 1 oc_6 os_7 sd tg_8 nr pf ks vs wg ts) H := hP
        have hD : va_D A (W_C cI cC cT h0 h1 h2 h3 h4 h5 h6 h7 h8 h9 1 oc_6 os_7 sd tg_8 nr pf ks vs wg ts) := hD
        refine lv_iconst (v := 0) hx hb dX0_update_64 (by decide) ?_
        refine lv_istore_n (lv' := [(1, .int 0), (0, .ref h0)]) hx hb dX0_update_65 rfl hl (by decide) rfl (fun ls hl => ?_)
        have LP_16 : ∀ (n_16 : Nat) (v1_13 : Int32) (mn_14 : Int32) (sd_15 : Nat → Int32), iter n_16 (b_X0_update_1 oc_6 os_7 tg_8) ((v1_13, mn_14, sd_15)) = some o_9 → ∀ (H : Heap) (locs : List Loc), va_P D vwCl (W_C cI cC cT h0 h1 h2 h3 h4 h5 h6 h7 h8 h9 mn_14 oc_6 os_7 sd_15 tg_8 nr pf ks vs wg ts) H → va_D A (W_C cI cC cT h0 h1 h2 h3 h4 h5 h6 h7 h8 h9 mn_14 oc_6 os_7 sd_15 tg_8 nr pf ks vs wg ts) → va_S A s.heap H locs → ∀ (ls : Array Slot), lv_has ls 2 [(0, .ref h0), (1, .int v1_13)] → W p l e rm_X0_update s m ([.ref h0] : List Value).toArray below meth c H locs 0 0 (MQ below (mQv D (mTY cI cC cT) A (W_C cI cC cT h0 h1 h2 h3 h4 h5 h6 h7 h8 h9 o_mn o_oc o_os o_sd o_tg nr pf ks vs wg ts)) ([.ref h0] : List Value).toArray s 0 0 A) (F0 m 66 ls []) := by
          intro n_16
          induction n_16 with
          | zero => intro v1_13 mn_14 sd_15 hf; exact (iter_zero hf).elim
          | succ n_16 ih_16 =>
            intro v1_13 mn_14 sd_15 hf H locs hP hD hS ls hl
            obtain ⟨o_16, hf, ho_16⟩ := iter_succ hf
            dsimp only [b_X0_update_1] at hf
            refine lv_iload_n hx hb dX0_update_66 rfl (lv_at hl 1 rfl) ?_
            refine lv_bipush (v := 10) hx hb dX0_update_67 (by decide) ?_
            refine lv_icmp_ge (tgt := 112) hx hb dX0_update_69 (by decide) (fun c_17 => ?_) (fun c_17 => ?_)
            · have hf := ite_t hf c_17
              cases hf
              have hf := ho_16.2 _ rfl
              cases hf
              have hf := ho_9.2 _ rfl
              cases hf
              exact mVret hx hb hr hlocks hP hD hK hS dX0_update_112
            · have hf := ite_f hf c_17
              refine lv_aload_n hx hb dX0_update_72 rfl (lv_at hl 0 rfl) ?_
              refine va_get (D := D) (ci := 0) (v := .ref h3) (C := RX0) (T := TX0) (N := 6) hx hb hts hin_X0 hown hK hP 0 rfl rfl 3 (by decide) fl_18 (fun _ h9 => h9) rfl dX0_update_73 ?_
              refine lv_iload_n hx hb dX0_update_76 rfl (lv_at hl 1 rfl) ?_
              refine lv_aload_n hx hb dX0_update_77 rfl (lv_at hl 0 rfl) ?_
              refine va_get (D := D) (ci := 0) (v := .int mn_14) (C := RX0) (T := TX0) (N := 6) hx hb hts hin_X0 hown hK hP 0 rfl rfl 5 (by decide) fl_52 (fun _ h9 => h9) rfl dX0_update_78 ?_
              obtain ⟨u0_18, q_19, hf⟩ := bnd hf
              refine mGov (w2 := (W_C cI cC cT h0 h1 h2 h3 h4 h5 h6 h7 h8 h9 mn_14 oc_6 os_7 u0_18 tg_8 nr pf ks vs wg ts)) (va_runSN (As := [.ref h3, .int v1_13, .int mn_14]) (rest := []) ⟨hx, hb, hml, hown, hts⟩ (c_X5_put l D cI cC cT 10 h3 sd_15 H.size v1_13 mn_14 u0_18 q_19) ⟨va_cnB 3 hts gX0_update_X5_put_n56 rfl rfl rfl (nW_at hN 8 rfl) (hts (.initialized RX5) (by decide +kernel)) (by decide +kernel) ⟨Nat.le_of_ble_eq_true rfl, Nat.le_of_ble_eq_true rfl⟩, hts (.static yX5_put) (by decide +kernel), trivial⟩ (mPreS hP hD hK hN [3] rfl (by decide)) rfl rfl hl.1 rfl (lv_room (Nat.le_of_ble_eq_true rfl)) dX0_update_81 ⟨Nat.zero_le _, Nat.zero_le _⟩) hP hD hS hA [3] rfl rfl rfl rfl (fun H locs hP hD hS => ?_)
              refine lv_aload_n hx hb dX0_update_84 rfl (lv_at hl 0 rfl) ?_
              refine lv_iload_n hx hb dX0_update_85 rfl (lv_at hl 1 rfl) ?_
              obtain ⟨r_20, q_21, hf⟩ := bnd hf
              refine mGoi (w2 := (W_C cI cC cT h0 h1 h2 h3 h4 h5 h6 h7 h8 h9 mn_14 oc_6 os_7 u0_18 tg_8 nr pf ks vs wg ts)) (va_runV (As := [.int v1_13]) (rest := []) ⟨hx, hb, hml, hown, hts⟩ (c_X0_isThere l D cI cC cT h0 h1 h2 h3 h4 h5 h6 h7 h8 h9 mn_14 oc_6 os_7 u0_18 tg_8 nr pf ks vs wg ts H.size v1_13 r_20 q_21) (cwV 1 hts gX0_update_X0_isThere rfl rfl rfl (by decide +kernel) ⟨Nat.le_of_ble_eq_true rfl, Nat.le_of_ble_eq_true rfl⟩) (mPreV hP hD hK hN [0, 1, 2, 3, 4, 5, 6, 7, 8, 9] rfl (by decide) (va_recv hK hP (ci := 0) (q0 := 0) rfl rfl)) rfl rfl hl.1 rfl (lv_room (Nat.le_of_ble_eq_true rfl)) dX0_update_86 ⟨Nat.zero_le _, Nat.zero_le _⟩) hP hD hS hA [0, 1, 2, 3, 4, 5, 6, 7, 8, 9] rfl rfl rfl rfl (fun H locs hP hD hS => ?_)
              obtain ⟨mn_22, q_24, hf⟩ := bnd hf
              have K_23 : ∀ (H : Heap) (locs : List Loc), va_P D vwCl (W_C cI cC cT h0 h1 h2 h3 h4 h5 h6 h7 h8 h9 mn_22 oc_6 os_7 u0_18 tg_8 nr pf ks vs wg ts) H → va_D A (W_C cI cC cT h0 h1 h2 h3 h4 h5 h6 h7 h8 h9 mn_22 oc_6 os_7 u0_18 tg_8 nr pf ks vs wg ts) → va_S A s.heap H locs → ∀ (ls : Array Slot), lv_has ls 2 [(0, .ref h0), (1, .int v1_13)] → W p l e rm_X0_update s m ([.ref h0] : List Value).toArray below meth c H locs 0 0 (MQ below (mQv D (mTY cI cC cT) A (W_C cI cC cT h0 h1 h2 h3 h4 h5 h6 h7 h8 h9 o_mn o_oc o_os o_sd o_tg nr pf ks vs wg ts)) ([.ref h0] : List Value).toArray s 0 0 A) (F0 m 106 ls []) := by
                intro H locs hP hD hS ls hl
                refine lv_iinc (v := v1_13 + 1) (lv' := [(1, .int (v1_13 + 1)), (0, .ref h0)]) hx hb dX0_update_106 hl (k := 1) rfl rfl (by decide) rfl (fun ls hl => ?_)
                refine lv_goto (tgt := 66) hx hb dX0_update_109 (by decide) ?_
                cases hf
                have hf := ho_16.1 _ rfl
                exact ih_16 _ _ _ hf _ _ hP hD hS _ (lv_sub hl [1, 0] rfl)
              have hf := q_24
              refine lv_if_eq (tgt := 106) hx hb dX0_update_89 (by decide) (fun c_25 => ?_) (fun c_25 => ?_)
              · have hf := ite_t hf c_25
                cases hf
                exact K_23 _ _ hP hD hS _ (lv_sub hl [0, 1] rfl)
              · have hf := ite_f hf c_25
                refine lv_aload_n hx hb dX0_update_92 rfl (lv_at hl 0 rfl) ?_
                refine lv_dup hx hb dX0_update_93 rfl ?_
                refine va_get (D := D) (ci := 0) (v := .int mn_14) (C := RX0) (T := TX0) (N := 6) hx hb hts hin_X0 hown hK hP 0 rfl rfl 5 (by decide) fl_52 (fun _ h9 => h9) rfl dX0_update_94 ?_
                refine lv_aload_n hx hb dX0_update_97 rfl (lv_at hl 0 rfl) ?_
                refine lv_iload_n hx hb dX0_update_98 rfl (lv_at hl 1 rfl) ?_
                obtain ⟨r_26, q_27, hf⟩ := bnd hf
                refine mGoi (w2 := (W_C cI cC cT h0 h1 h2 h3 h4 h5 h6 h7 h8 h9 mn_14 oc_6 os_7 u0_18 tg_8 nr pf ks vs wg ts)) (va_runV (As := [.int v1_13]) (rest := [.int mn_14, .ref h0]) ⟨hx, hb, hml, hown, hts⟩ (c_X0_optionsOf l D cI cC cT h0 h1 h2 h3 h4 h5 h6 h7 h8 h9 mn_14 oc_6 os_7 u0_18 tg_8 nr pf ks vs wg ts H.size v1_13 r_26 q_27) (cwV 1 hts gX0_update_X0_optionsOf rfl rfl rfl (by decide +kernel) ⟨Nat.le_of_ble_eq_true rfl, Nat.le_of_ble_eq_true rfl⟩) (mPreV hP hD hK hN [0, 1, 2, 3, 4, 5, 6, 7, 8, 9] rfl (by decide) (va_recv hK hP (ci := 0) (q0 := 0) rfl rfl)) rfl rfl hl.1 rfl (lv_room (Nat.le_of_ble_eq_true rfl)) dX0_update_99 ⟨Nat.zero_le _, Nat.zero_le _⟩) hP hD hS hA [0, 1, 2, 3, 4, 5, 6, 7, 8, 9] rfl rfl rfl rfl (fun H locs hP hD hS => ?_)
                refine lv_imul hx hb dX0_update_102 ?_
                refine va_put (D := D) (ci := 0) (v := .int (mn_14 * r_26)) (ty := .int) (C := RX0) (T := TX0) (N := 6) hx hb hts hin_X0 tyX0 tyX0_ok nmX0 hown hK hP hD hS 0 rfl rfl 5 (by decide) fl_52 (fun _ h9 => h9) rfl (by decide +kernel) rfl rfl (Nat.le_of_ble_eq_true rfl) dX0_update_103 (fun H locs hP hD hS => ?_)
                have hP : va_P D vwCl (W_C cI cC cT h0 h1 h2 h3 h4 h5 h6 h7 h8 h9 (mn_14 * r_26) oc_6 os_7 u0_18 tg_8 nr pf ks vs wg ts) H := hP
                have hD : va_D A (W_C cI cC cT h0 h1 h2 h3 h4 h5 h6 h7 h8 h9 (mn_14 * r_26) oc_6 os_7 u0_18 tg_8 nr pf ks vs wg ts) := hD
                cases hf
                exact K_23 _ _ hP hD hS _ (lv_sub hl [0, 1] rfl)
        exact LP_16 _ _ _ _ hf _ _ hP hD hS _ (lv_sub hl [1, 0] rfl)
      · have hf := ite_f hf c_12
        refine lv_aload_n hx hb dX0_update_29 rfl (lv_at hl 0 rfl) ?_
        refine va_get (D := D) (ci := 0) (v := .ref h5) (C := RX0) (T := TX0) (N := 6) hx hb hts hin_X0 hown hK hP 0 rfl rfl 0 (by decide) fl_24 (fun _ h9 => h9) rfl dX0_update_30 ?_
        refine lv_iload_n hx hb dX0_update_33 rfl (lv_at hl 1 rfl) ?_
        obtain ⟨r_28, q_29, hf⟩ := bnd hf
        refine mGoi (w2 := (W_C cI cC cT h0 h1 h2 h3 h4 h5 h6 h7 h8 h9 mn oc_6 os_7 sd tg_8 nr pf ks vs wg ts)) (va_runV (As := [.int v1_5]) (rest := []) ⟨hx, hb, hml, hown, hts⟩ (c_X3_canBeKept l D cI cC cT h5 h6 h7 h8 h9 nr pf ks vs wg ts H.size v1_5 r_28 q_29) (cwV 1 hts gX0_update_X3_canBeKept rfl rfl rfl (by decide +kernel) ⟨Nat.le_of_ble_eq_true rfl, Nat.le_of_ble_eq_true rfl⟩) (mPreV hP hD hK hN [5, 6, 7, 8, 9] rfl (by decide) (va_recv hK hP (ci := 3) (q0 := 5) rfl rfl)) rfl rfl hl.1 rfl (lv_room (Nat.le_of_ble_eq_true rfl)) dX0_update_34 ⟨Nat.zero_le _, Nat.zero_le _⟩) hP hD hS hA [5, 6, 7, 8, 9] rfl rfl rfl rfl (fun H locs hP hD hS => ?_)
        obtain ⟨⟨oc_30, os_31, tg_32⟩, q_34, hf⟩ := bnd hf
        have K_33 : ∀ (H : Heap) (locs : List Loc), va_P D vwCl (W_C cI cC cT h0 h1 h2 h3 h4 h5 h6 h7 h8 h9 mn oc_30 os_31 sd tg_32 nr pf ks vs wg ts) H → va_D A (W_C cI cC cT h0 h1 h2 h3 h4 h5 h6 h7 h8 h9 mn oc_30 os_31 sd tg_32 nr pf ks vs wg ts) → va_S A s.heap H locs → ∀ (ls : Array Slot), lv_has ls 2 [(0, .ref h0), (1, .int v1_5)] → W p l e rm_X0_update s m ([.ref h0] : List Value).toArray below meth c H locs 0 0 (MQ below (mQv D (mTY cI cC cT) A (W_C cI cC cT h0 h1 h2 h3 h4 h5 h6 h7 h8 h9 o_mn o_oc o_os o_sd o_tg nr pf ks vs wg ts)) ([.ref h0] : List Value).toArray s 0 0 A) (F0 m 53 ls []) := by
          intro H locs hP hD hS ls hl
          refine lv_iinc (v := v1_5 + 1) (lv' := [(1, .int (v1_5 + 1)), (0, .ref h0)]) hx hb dX0_update_53 hl (k := 1) rfl rfl (by decide) rfl (fun ls hl => ?_)
          refine lv_goto (tgt := 18) hx hb dX0_update_56 (by decide) ?_
          cases hf
          have hf := ho_9.1 _ rfl
          exact ih_9 _ _ _ _ hf _ _ hP hD hS _ (lv_sub hl [1, 0] rfl)
        have hf := q_34
        refine lv_if_eq (tgt := 53) hx hb dX0_update_37 (by decide) (fun c_35 => ?_) (fun c_35 => ?_)
        · have hf := ite_t hf c_35
          cases hf
          exact K_33 _ _ hP hD hS _ (lv_sub hl [0, 1] rfl)
        · have hf := ite_f hf c_35
          refine lv_aload_n hx hb dX0_update_40 rfl (lv_at hl 0 rfl) ?_
          refine lv_aload_n hx hb dX0_update_41 rfl (lv_at hl 0 rfl) ?_
          refine va_get (D := D) (ci := 0) (v := .ref h5) (C := RX0) (T := TX0) (N := 6) hx hb hts hin_X0 hown hK hP 0 rfl rfl 0 (by decide) fl_24 (fun _ h9 => h9) rfl dX0_update_42 ?_
          refine lv_iload_n hx hb dX0_update_45 rfl (lv_at hl 1 rfl) ?_
          obtain ⟨r_36, q_37, hf⟩ := bnd hf
          refine mGoi (w2 := (W_C cI cC cT h0 h1 h2 h3 h4 h5 h6 h7 h8 h9 mn oc_6 os_7 sd tg_8 nr pf ks vs wg ts)) (va_runV (As := [.int v1_5]) (rest := [.ref h0]) ⟨hx, hb, hml, hown, hts⟩ (c_X3_keyAt l D cI cC cT h5 h6 h7 h8 h9 nr pf ks vs wg ts H.size v1_5 r_36 q_37) (cwV 1 hts gX0_update_X3_keyAt rfl rfl rfl (by decide +kernel) ⟨Nat.le_of_ble_eq_true rfl, Nat.le_of_ble_eq_true rfl⟩) (mPreV hP hD hK hN [5, 6, 7, 8, 9] rfl (by decide) (va_recv hK hP (ci := 3) (q0 := 5) rfl rfl)) rfl rfl hl.1 rfl (lv_room (Nat.le_of_ble_eq_true rfl)) dX0_update_46 ⟨Nat.zero_le _, Nat.zero_le _⟩) hP hD hS hA [5, 6, 7, 8, 9] rfl rfl rfl rfl (fun H locs hP hD hS => ?_)
          refine lv_iload_n hx hb dX0_update_49 rfl (lv_at hl 1 rfl) ?_
          obtain ⟨⟨oc_38, os_39, tg_40⟩, q_41, hf⟩ := bnd hf
          refine mGov (w2 := (W_C cI cC cT h0 h1 h2 h3 h4 h5 h6 h7 h8 h9 mn oc_38 os_39 sd tg_40 nr pf ks vs wg ts)) (va_runV (As := [.int r_36, .int v1_5]) (rest := []) ⟨hx, hb, hml, hown, hts⟩ (c_X0_addOption l D cI cC cT h0 h1 h2 h3 h4 h5 h6 h7 h8 h9 mn oc_6 os_7 sd tg_8 nr pf ks vs wg ts H.size r_36 v1_5 oc_38 os_39 tg_40 q_41) (cwV 2 hts gX0_update_X0_addOption rfl rfl rfl (by decide +kernel) ⟨Nat.le_of_ble_eq_true rfl, Nat.le_of_ble_eq_true rfl⟩) (mPreV hP hD hK hN [0, 1, 2, 3, 4, 5, 6, 7, 8, 9] rfl (by decide) (va_recv hK hP (ci := 0) (q0 := 0) rfl rfl)) rfl rfl hl.1 rfl (lv_room (Nat.le_of_ble_eq_true rfl)) dX0_update_50 ⟨Nat.zero_le _, Nat.zero_le _⟩) hP hD hS hA [0, 1, 2, 3, 4, 5, 6, 7, 8, 9] rfl rfl rfl rfl (fun H locs hP hD hS => ?_)
          cases hf
          exact K_33 _ _ hP hD hS _ (lv_sub hl [0, 1] rfl)
  exact LP_9 _ _ _ _ _ hf _ _ hP hD hS _ (lv_sub hl [1, 0] rfl)
