abbrev rm_L_areAnswers : Room := { frames := 8, cells := 0, slots := 0, locals := 182 }
set_option maxHeartbeats 16000000 in
set_option maxRecDepth 100000 in
theorem c_L_areAnswers (l : Launch) (D : va_G) (cI cC cT : ClassId) (a b : Nat → Nat) (u : SSt) (v : SSt) (sz : Nat) (p2 : Int32) (p3 : Int32) (p4 : Int32) (out : Int32) (o_u : SSt) (o_v : SSt) (hf : f_L_areAnswers u v p2 p3 p4 = some ((out, o_u, o_v))) : Met l yL_areAnswers wsL_areAnswers rm_L_areAnswers (mP D (mTY cI cC cT) [.ref (a 0), .ref (b 0), .int p2, .int p3, .int p4] (List.flatten [(FS cI cC cT a u), (FS cI cC cT b v)]) sz) (mQi D (mTY cI cC cT) out (va_A (List.flatten [(FS cI cC cT a u), (FS cI cC cT b v)]) sz) (List.flatten [(FS cI cC cT a o_u), (FS cI cC cT b o_v)])) 0 0 (va_A (List.flatten [(FS cI cC cT a u), (FS cI cC cT b v)]) sz) := by
  refine mEntN (cc := cL_areAnswers) (maxL := 15) (ret := (some .boolean)) (own := RL) (Qq := fun A => mQi D (mTY cI cC cT) out A (List.flatten [(FS cI cC cT a o_u), (FS cI cC cT b o_v)])) (by decide) rfl rfl (Nat.le_of_ble_eq_true rfl) ?_
  intro p e s m below meth c A ls H locs hx hb hr hml hlocks hown hts hN hA hP hK hD hS hl
  have hl : lv_has ls 15 [(0, .ref (a 0)), (1, .ref (b 0)), (2, .int p2), (3, .int p3), (4, .int p4)] := hl
  unfold f_L_areAnswers at hf
  refine lv_aload_n hx hb dL_areAnswers_0 rfl (lv_at hl 0 rfl) ?_
  refine lv_iconst (v := 3) hx hb dL_areAnswers_1 (by decide) ?_
  obtain ⟨⟨r_1, u_2⟩, q_3, hf⟩ := bnd hf
  refine mGoiS (segs := [(FS cI cC cT a u), (FS cI cC cT b v)]) (wcs := [(FS cI cC cT a u)]) (w1s := [(FS cI cC cT a u_2)]) (w2s := [(FS cI cC cT a u_2), (FS cI cC cT b v)]) flat1 flat1 (va_runV (As := [.int 3]) (rest := []) ⟨hx, hb, hml, hown, hts⟩ (c_Y5_count l D cI cC cT a u H.size 3 r_1 u_2 q_3) (cwV 1 hts gL_areAnswers_X5_count rfl rfl rfl (by decide +kernel) ⟨Nat.le_of_ble_eq_true rfl, Nat.le_of_ble_eq_true rfl⟩) (mPreVS [(FS cI cC cT a u)] flat1 hP hD hK hN [0] rfl (by decide) (va_recv hK (sP hP 0 rfl) (ci := 5) (q0 := 0) rfl (FS0 cI cC cT a u))) rfl rfl hl.1 rfl (lv_room (Nat.le_of_ble_eq_true rfl)) dL_areAnswers_2 ⟨Nat.le_of_ble_eq_true rfl, Nat.le_of_ble_eq_true rfl⟩) hP hD hS hA [0] rfl rfl rfl rfl (fun H locs hP hD hS => ?_)
  refine lv_istore (lv' := [(5, .int r_1), (0, .ref (a 0)), (1, .ref (b 0)), (2, .int p2), (3, .int p3), (4, .int p4)]) hx hb dL_areAnswers_5 hl (by decide) rfl (fun ls hl => ?_)
  refine lv_aload_n hx hb dL_areAnswers_7 rfl (lv_at hl 1 rfl) ?_
  refine lv_iload_n hx hb dL_areAnswers_8 rfl (lv_at hl 3 rfl) ?_
  refine lv_iload_n hx hb dL_areAnswers_9 rfl (lv_at hl 4 rfl) ?_
  refine lv_iconst (v := 2) hx hb dL_areAnswers_10 (by decide) ?_
  obtain ⟨⟨r_4, u_5⟩, q_6, hf⟩ := bnd hf
  refine mGoiS (segs := [(FS cI cC cT a u_2), (FS cI cC cT b v)]) (wcs := [(FS cI cC cT a u_2)]) (w1s := [(FS cI cC cT a u_5)]) (w2s := [(FS cI cC cT a u_5), (FS cI cC cT b v)]) flat1 flat1 (va_runV (As := [.int p2, .int p3, .int 2]) (rest := []) ⟨hx, hb, hml, hown, hts⟩ (c_Y5_way l D cI cC cT a u_2 H.size p2 p3 2 r_4 u_5 q_6) (cwV 3 hts gL_areAnswers_X5_way rfl rfl rfl (by decide +kernel) ⟨Nat.le_of_ble_eq_true rfl, Nat.le_of_ble_eq_true rfl⟩) (mPreVS [(FS cI cC cT a u_2)] flat1 hP hD hK hN [0] rfl (by decide) (va_recv hK (sP hP 0 rfl) (ci := 5) (q0 := 0) rfl (FS0 cI cC cT a u_2))) rfl rfl hl.1 rfl (lv_room (Nat.le_of_ble_eq_true rfl)) dL_areAnswers_11 ⟨Nat.le_of_ble_eq_true rfl, Nat.le_of_ble_eq_true rfl⟩) hP hD hS hA [0] rfl rfl rfl rfl (fun H locs hP hD hS => ?_)
  refine lv_istore (lv' := [(6, .int r_4), (5, .int r_1), (0, .ref (a 0)), (1, .ref (b 0)), (2, .int p2), (3, .int p3), (4, .int p4)]) hx hb dL_areAnswers_14 hl (by decide) rfl (fun ls hl => ?_)
  refine lv_aload_n hx hb dL_areAnswers_16 rfl (lv_at hl 2 rfl) ?_
  refine lv_iload_n hx hb dL_areAnswers_17 rfl (lv_at hl 4 rfl) ?_
  refine lv_iload_n hx hb dL_areAnswers_18 rfl (lv_at hl 5 rfl) ?_
  refine lv_iconst (v := 3) hx hb dL_areAnswers_19 (by decide) ?_
  obtain ⟨⟨r_7, u_8⟩, q_9, hf⟩ := bnd hf
  refine mGoiS (segs := [(FS cI cC cT a u_5), (FS cI cC cT b v)]) (wcs := [(FS cI cC cT a u_5)]) (w1s := [(FS cI cC cT a u_8)]) (w2s := [(FS cI cC cT a u_8), (FS cI cC cT b v)]) flat1 flat1 (va_runV (As := [.int p2, .int p3, .int 3]) (rest := []) ⟨hx, hb, hml, hown, hts⟩ (c_Y5_way l D cI cC cT a u_5 H.size p2 p3 3 r_7 u_8 q_9) (cwV 3 hts gL_areAnswers_X5_way rfl rfl rfl (by decide +kernel) ⟨Nat.le_of_ble_eq_true rfl, Nat.le_of_ble_eq_true rfl⟩) (mPreVS [(FS cI cC cT a u_5)] flat1 hP hD hK hN [0] rfl (by decide) (va_recv hK (sP hP 0 rfl) (ci := 5) (q0 := 0) rfl (FS0 cI cC cT a u_5))) rfl rfl hl.1 rfl (lv_room (Nat.le_of_ble_eq_true rfl)) dL_areAnswers_20 ⟨Nat.le_of_ble_eq_true rfl, Nat.le_of_ble_eq_true rfl⟩) hP hD hS hA [0] rfl rfl rfl rfl (fun H locs hP hD hS => ?_)
  refine lv_istore (lv' := [(7, .int r_7), (6, .int r_4), (5, .int r_1), (0, .ref (a 0)), (1, .ref (b 0)), (2, .int p2), (3, .int p3), (4, .int p4)]) hx hb dL_areAnswers_23 hl (by decide) rfl (fun ls hl => ?_)
  refine lv_aload_n hx hb dL_areAnswers_25 rfl (lv_at hl 3 rfl) ?_
  refine lv_iload_n hx hb dL_areAnswers_26 rfl (lv_at hl 5 rfl) ?_
  refine lv_iload_n hx hb dL_areAnswers_27 rfl (lv_at hl 6 rfl) ?_
  refine lv_iconst (v := 4) hx hb dL_areAnswers_28 (by decide) ?_
  obtain ⟨⟨r_10, u_11⟩, q_12, hf⟩ := bnd hf
  refine mGoiS (segs := [(FS cI cC cT a u_8), (FS cI cC cT b v)]) (wcs := [(FS cI cC cT a u_8)]) (w1s := [(FS cI cC cT a u_11)]) (w2s := [(FS cI cC cT a u_11), (FS cI cC cT b v)]) flat1 flat1 (va_runV (As := [.int p2, .int p3, .int 4]) (rest := []) ⟨hx, hb, hml, hown, hts⟩ (c_Y5_way l D cI cC cT a u_8 H.size p2 p3 4 r_10 u_11 q_12) (cwV 3 hts gL_areAnswers_X5_way rfl rfl rfl (by decide +kernel) ⟨Nat.le_of_ble_eq_true rfl, Nat.le_of_ble_eq_true rfl⟩) (mPreVS [(FS cI cC cT a u_8)] flat1 hP hD hK hN [0] rfl (by decide) (va_recv hK (sP hP 0 rfl) (ci := 5) (q0 := 0) rfl (FS0 cI cC cT a u_8))) rfl rfl hl.1 rfl (lv_room (Nat.le_of_ble_eq_true rfl)) dL_areAnswers_29 ⟨Nat.le_of_ble_eq_true rfl, Nat.le_of_ble_eq_true rfl⟩) hP hD hS hA [0] rfl rfl rfl rfl (fun H locs hP hD hS => ?_)
  refine lv_istore (lv' := [(8, .int r_10), (7, .int r_7), (6, .int r_4), (5, .int r_1), (0, .ref (a 0)), (1, .ref (b 0)), (2, .int p2), (3, .int p3), (4, .int p4)]) hx hb dL_areAnswers_32 hl (by decide) rfl (fun ls hl => ?_)
  refine lv_aload_n hx hb dL_areAnswers_34 rfl (lv_at hl 4 rfl) ?_
  refine lv_iload hx hb dL_areAnswers_35 (lv_at hl 8 rfl) ?_
  refine lv_i2c hx hb dL_areAnswers_37 rfl ?_
  refine lv_iconst (v := 2) hx hb dL_areAnswers_38 (by decide) ?_
  obtain ⟨⟨r_13, u_14⟩, q_15, hf⟩ := bnd hf
  refine mGoiS (segs := [(FS cI cC cT a u_11), (FS cI cC cT b v)]) (wcs := [(FS cI cC cT a u_11)]) (w1s := [(FS cI cC cT a u_14)]) (w2s := [(FS cI cC cT a u_14), (FS cI cC cT b v)]) flat1 flat1 (va_runV (As := [.int ((p4.toUInt32 % 65536).toInt32), .int 2]) (rest := []) ⟨hx, hb, hml, hown, hts⟩ (c_Y5_value l D cI cC cT a u_11 H.size ((p4.toUInt32 % 65536).toInt32) 2 r_13 u_14 q_15) (cwV 2 hts gL_areAnswers_X5_value rfl rfl rfl (by decide +kernel) ⟨Nat.le_of_ble_eq_true rfl, Nat.le_of_ble_eq_true rfl⟩) (mPreVS [(FS cI cC cT a u_11)] flat1 hP hD hK hN [0] rfl (by decide) (va_recv hK (sP hP 0 rfl) (ci := 5) (q0 := 0) rfl (FS0 cI cC cT a u_11))) rfl rfl hl.1 rfl (lv_room (Nat.le_of_ble_eq_true rfl)) dL_areAnswers_39 ⟨Nat.le_of_ble_eq_true rfl, Nat.le_of_ble_eq_true rfl⟩) hP hD hS hA [0] rfl rfl rfl rfl (fun H locs hP hD hS => ?_)
  refine lv_istore (lv' := [(9, .int r_13), (8, .int r_10), (7, .int r_7), (6, .int r_4), (5, .int r_1), (0, .ref (a 0)), (1, .ref (b 0)), (2, .int p2), (3, .int p3), (4, .int p4)]) hx hb dL_areAnswers_42 hl (by decide) rfl (fun ls hl => ?_)
  refine lv_aload_n hx hb dL_areAnswers_44 rfl (lv_at hl 5 rfl) ?_
  refine lv_iload hx hb dL_areAnswers_45 (lv_at hl 9 rfl) ?_
  refine lv_i2c hx hb dL_areAnswers_47 rfl ?_
  refine lv_iconst (v := 3) hx hb dL_areAnswers_48 (by decide) ?_
  obtain ⟨⟨r_16, u_17⟩, q_18, hf⟩ := bnd hf
  refine mGoiS (segs := [(FS cI cC cT a u_14), (FS cI cC cT b v)]) (wcs := [(FS cI cC cT a u_14)]) (w1s := [(FS cI cC cT a u_17)]) (w2s := [(FS cI cC cT a u_17), (FS cI cC cT b v)]) flat1 flat1 (va_runV (As := [.int ((p4.toUInt32 % 65536).toInt32), .int 3]) (rest := []) ⟨hx, hb, hml, hown, hts⟩ (c_Y5_value l D cI cC cT a u_14 H.size ((p4.toUInt32 % 65536).toInt32) 3 r_16 u_17 q_18) (cwV 2 hts gL_areAnswers_X5_value rfl rfl rfl (by decide +kernel) ⟨Nat.le_of_ble_eq_true rfl, Nat.le_of_ble_eq_true rfl⟩) (mPreVS [(FS cI cC cT a u_14)] flat1 hP hD hK hN [0] rfl (by decide) (va_recv hK (sP hP 0 rfl) (ci := 5) (q0 := 0) rfl (FS0 cI cC cT a u_14))) rfl rfl hl.1 rfl (lv_room (Nat.le_of_ble_eq_true rfl)) dL_areAnswers_49 ⟨Nat.le_of_ble_eq_true rfl, Nat.le_of_ble_eq_true rfl⟩) hP hD hS hA [0] rfl rfl rfl rfl (fun H locs hP hD hS => ?_)
  refine lv_istore (lv' := [(10, .int r_16), (9, .int r_13), (8, .int r_10), (7, .int r_7), (6, .int r_4), (5, .int r_1), (0, .ref (a 0)), (1, .ref (b 0)), (2, .int p2), (3, .int p3), (4, .int p4)]) hx hb dL_areAnswers_52 hl (by decide) rfl (fun ls hl => ?_)
  refine lv_aload_n hx hb dL_areAnswers_54 rfl (lv_at hl 6 rfl) ?_
  refine lv_iload hx hb dL_areAnswers_55 (lv_at hl 10 rfl) ?_
  refine lv_i2c hx hb dL_areAnswers_57 rfl ?_
  refine lv_iconst (v := 4) hx hb dL_areAnswers_58 (by decide) ?_
  obtain ⟨⟨r_19, u_20⟩, q_21, hf⟩ := bnd hf
  refine mGoiS (segs := [(FS cI cC cT a u_17), (FS cI cC cT b v)]) (wcs := [(FS cI cC cT a u_17)]) (w1s := [(FS cI cC cT a u_20)]) (w2s := [(FS cI cC cT a u_20), (FS cI cC cT b v)]) flat1 flat1 (va_runV (As := [.int ((p4.toUInt32 % 65536).toInt32), .int 4]) (rest := []) ⟨hx, hb, hml, hown, hts⟩ (c_Y5_value l D cI cC cT a u_17 H.size ((p4.toUInt32 % 65536).toInt32) 4 r_19 u_20 q_21) (cwV 2 hts gL_areAnswers_X5_value rfl rfl rfl (by decide +kernel) ⟨Nat.le_of_ble_eq_true rfl, Nat.le_of_ble_eq_true rfl⟩) (mPreVS [(FS cI cC cT a u_17)] flat1 hP hD hK hN [0] rfl (by decide) (va_recv hK (sP hP 0 rfl) (ci := 5) (q0 := 0) rfl (FS0 cI cC cT a u_17))) rfl rfl hl.1 rfl (lv_room (Nat.le_of_ble_eq_true rfl)) dL_areAnswers_59 ⟨Nat.le_of_ble_eq_true rfl, Nat.le_of_ble_eq_true rfl⟩) hP hD hS hA [0] rfl rfl rfl rfl (fun H locs hP hD hS => ?_)
  refine lv_istore (lv' := [(11, .int r_19), (10, .int r_16), (9, .int r_13), (8, .int r_10), (7, .int r_7), (6, .int r_4), (5, .int r_1), (0, .ref (a 0)), (1, .ref (b 0)), (2, .int p2), (3, .int p3), (4, .int p4)]) hx hb dL_areAnswers_62 hl (by decide) rfl (fun ls hl => ?_)
  refine lv_iload hx hb dL_areAnswers_64 (lv_at hl 5 rfl) ?_
  obtain ⟨⟨x_22, u_23⟩, q_25, hf⟩ := bnd hf
  have K_24 : ∀ (H : Heap) (locs : List Loc), va_P D vwCl (List.flatten [(FS cI cC cT a u_23), (FS cI cC cT b v)]) H → va_D A (List.flatten [(FS cI cC cT a u_23), (FS cI cC cT b v)]) → va_S A s.heap H locs → ∀ (ls : Array Slot), lv_has ls 15 [(0, .ref (a 0)), (1, .ref (b 0)), (2, .int p2), (3, .int p3), (4, .int p4), (5, .int r_1), (6, .int r_4), (9, .int r_13), (10, .int r_16), (11, .int r_19)] → W p l e rm_L_areAnswers s m ([.ref (a 0), .ref (b 0), .int p2, .int p3, .int p4] : List Value).toArray below meth c H locs 0 0 (MQ below (mQi D (mTY cI cC cT) out A (List.flatten [(FS cI cC cT a o_u), (FS cI cC cT b o_v)])) ([.ref (a 0), .ref (b 0), .int p2, .int p3, .int p4] : List Value).toArray s 0 0 A) (F0 m 252 ls [.int x_22]) := by
    intro H locs hP hD hS ls hl
    refine lv_istore (lv' := [(12, .int x_22), (0, .ref (a 0)), (1, .ref (b 0)), (2, .int p2), (3, .int p3), (4, .int p4), (5, .int r_1), (6, .int r_4), (9, .int r_13), (10, .int r_16), (11, .int r_19)]) hx hb dL_areAnswers_252 hl (by decide) rfl (fun ls hl => ?_)
    refine lv_iload hx hb dL_areAnswers_254 (lv_at hl 0 rfl) ?_
    obtain ⟨⟨x_84, u_85⟩, q_87, hf⟩ := bnd hf
    have K_86 : ∀ (H : Heap) (locs : List Loc), va_P D vwCl (List.flatten [(FS cI cC cT a u_85), (FS cI cC cT b v)]) H → va_D A (List.flatten [(FS cI cC cT a u_85), (FS cI cC cT b v)]) → va_S A s.heap H locs → ∀ (ls : Array Slot), lv_has ls 15 [(0, .ref (a 0)), (1, .ref (b 0)), (2, .int p2), (3, .int p3), (5, .int r_1), (6, .int r_4)] → W p l e rm_L_areAnswers s m ([.ref (a 0), .ref (b 0), .int p2, .int p3, .int p4] : List Value).toArray below meth c H locs 0 0 (MQ below (mQi D (mTY cI cC cT) out A (List.flatten [(FS cI cC cT a o_u), (FS cI cC cT b o_v)])) ([.ref (a 0), .ref (b 0), .int p2, .int p3, .int p4] : List Value).toArray s 0 0 A) (F0 m 403 ls [.int x_84]) := by
      intro H locs hP hD hS ls hl
      refine lv_istore (lv' := [(12, .int x_84), (0, .ref (a 0)), (1, .ref (b 0)), (2, .int p2), (3, .int p3), (5, .int r_1), (6, .int r_4)]) hx hb dL_areAnswers_403 hl (by decide) rfl (fun ls hl => ?_)
      refine lv_aload_n hx hb dL_areAnswers_405 rfl (lv_at hl 1 rfl) ?_
      refine lv_iload_n hx hb dL_areAnswers_406 rfl (lv_at hl 3 rfl) ?_
      refine lv_iload_n hx hb dL_areAnswers_407 rfl (lv_at hl 4 rfl) ?_
      refine lv_iconst (v := 1) hx hb dL_areAnswers_408 (by decide) ?_
      obtain ⟨⟨r_138, u_139⟩, q_140, hf⟩ := bnd hf
      refine mGoiS (segs := [(FS cI cC cT a u_85), (FS cI cC cT b v)]) (wcs := [(FS cI cC cT a u_85)]) (w1s := [(FS cI cC cT a u_139)]) (w2s := [(FS cI cC cT a u_139), (FS cI cC cT b v)]) flat1 flat1 (va_runV (As := [.int p2, .int p3, .int 1]) (rest := []) ⟨hx, hb, hml, hown, hts⟩ (c_Y5_bestMended l D cI cC cT a u_85 H.size p2 p3 1 r_138 u_139 q_140) (cwV 3 hts gL_areAnswers_X5_bestMended rfl rfl rfl (by decide +kernel) ⟨Nat.le_of_ble_eq_true rfl, Nat.le_of_ble_eq_true rfl⟩) (mPreVS [(FS cI cC cT a u_85)] flat1 hP hD hK hN [0] rfl (by decide) (va_recv hK (sP hP 0 rfl) (ci := 5) (q0 := 0) rfl (FS0 cI cC cT a u_85))) rfl rfl hl.1 rfl (lv_room (Nat.le_of_ble_eq_true rfl)) dL_areAnswers_409 ⟨Nat.le_of_ble_eq_true rfl, Nat.le_of_ble_eq_true rfl⟩) hP hD hS hA [0] rfl rfl rfl rfl (fun H locs hP hD hS => ?_)
      refine lv_istore (lv' := [(13, .int r_138), (12, .int x_84), (0, .ref (a 0)), (1, .ref (b 0)), (2, .int p2), (3, .int p3), (5, .int r_1), (6, .int r_4)]) hx hb dL_areAnswers_412 hl (by decide) rfl (fun ls hl => ?_)
      refine lv_aload_n hx hb dL_areAnswers_414 rfl (lv_at hl 2 rfl) ?_
      refine lv_iload_n hx hb dL_areAnswers_415 rfl (lv_at hl 4 rfl) ?_
      refine lv_iload_n hx hb dL_areAnswers_416 rfl (lv_at hl 5 rfl) ?_
      refine lv_iconst (v := 0) hx hb dL_areAnswers_417 (by decide) ?_
      obtain ⟨⟨r_141, u_142⟩, q_143, hf⟩ := bnd hf
      refine mGoiS (segs := [(FS cI cC cT a u_139), (FS cI cC cT b v)]) (wcs := [(FS cI cC cT a u_139)]) (w1s := [(FS cI cC cT a u_142)]) (w2s := [(FS cI cC cT a u_142), (FS cI cC cT b v)]) flat1 flat1 (va_runV (As := [.int p2, .int p3, .int 0]) (rest := []) ⟨hx, hb, hml, hown, hts⟩ (c_Y5_bestMended l D cI cC cT a u_139 H.size p2 p3 0 r_141 u_142 q_143) (cwV 3 hts gL_areAnswers_X5_bestMended rfl rfl rfl (by decide +kernel) ⟨Nat.le_of_ble_eq_true rfl, Nat.le_of_ble_eq_true rfl⟩) (mPreVS [(FS cI cC cT a u_139)] flat1 hP hD hK hN [0] rfl (by decide) (va_recv hK (sP hP 0 rfl) (ci := 5) (q0 := 0) rfl (FS0 cI cC cT a u_139))) rfl rfl hl.1 rfl (lv_room (Nat.le_of_ble_eq_true rfl)) dL_areAnswers_418 ⟨Nat.le_of_ble_eq_true rfl, Nat.le_of_ble_eq_true rfl⟩) hP hD hS hA [0] rfl rfl rfl rfl (fun H locs hP hD hS => ?_)
      refine lv_istore (lv' := [(14, .int r_141), (13, .int r_138), (12, .int x_84), (0, .ref (a 0)), (1, .ref (b 0)), (2, .int p2), (3, .int p3), (5, .int r_1), (6, .int r_4)]) hx hb dL_areAnswers_421 hl (by decide) rfl (fun ls hl => ?_)
      refine lv_iload hx hb dL_areAnswers_423 (lv_at hl 1 rfl) ?_
      refine lv_bipush (v := -5) hx hb dL_areAnswers_425 (by decide) ?_
      refine lv_icmp_ne (tgt := 448) hx hb dL_areAnswers_427 (by decide) (fun c_144 => ?_) (fun c_144 => ?_)
      · have hf := ite_f hf c_144
        refine lv_iload hx hb dL_areAnswers_448 (lv_at hl 2 rfl) ?_
        obtain ⟨⟨x_145, u_146, v_147⟩, q_149, hf⟩ := bnd hf
        have K_148 : ∀ (H : Heap) (locs : List Loc), va_P D vwCl (List.flatten [(FS cI cC cT a u_146), (FS cI cC cT b v_147)]) H → va_D A (List.flatten [(FS cI cC cT a u_146), (FS cI cC cT b v_147)]) → va_S A s.heap H locs → ∀ (ls : Array Slot), lv_has ls 15 [(0, .ref (a 0)), (1, .ref (b 0)), (2, .int p2), (3, .int p3), (6, .int r_4)] → W p l e rm_L_areAnswers s m ([.ref (a 0), .ref (b 0), .int p2, .int p3, .int p4] : List Value).toArray below meth c H locs 0 0 (MQ below (mQi D (mTY cI cC cT) out A (List.flatten [(FS cI cC cT a o_u), (FS cI cC cT b o_v)])) ([.ref (a 0), .ref (b 0), .int p2, .int p3, .int p4] : List Value).toArray s 0 0 A) (F0 m 525 ls [.int x_145]) := by
          intro H locs hP hD hS ls hl
          refine lv_istore (lv' := [(12, .int x_145), (0, .ref (a 0)), (1, .ref (b 0)), (2, .int p2), (3, .int p3), (6, .int r_4)]) hx hb dL_areAnswers_525 hl (by decide) rfl (fun ls hl => ?_)
          refine lv_iload hx hb dL_areAnswers_527 (lv_at hl 0 rfl) ?_
          refine lv_if_eq (tgt := 559) hx hb dL_areAnswers_529 (by decide) (fun c_175 => ?_) (fun c_175 => ?_)
          · have hf := ite_t hf c_175
            refine lv_iconst (v := 0) hx hb dL_areAnswers_559 (by decide) ?_
            cases hf
            exact mZret hx hb hr rfl hlocks hP hD hK hS dL_areAnswers_560
          · have hf := ite_f hf c_175
            refine lv_aload_n hx hb dL_areAnswers_532 rfl (lv_at hl 1 rfl) ?_
            obtain ⟨⟨r_176, u_177⟩, q_178, hf⟩ := bnd hf
            refine mGoiS (segs := [(FS cI cC cT a u_146), (FS cI cC cT b v_147)]) (wcs := [(FS cI cC cT a u_146)]) (w1s := [(FS cI cC cT a u_177)]) (w2s := [(FS cI cC cT a u_177), (FS cI cC cT b v_147)]) flat1 flat1 (va_runV (As := []) (rest := []) ⟨hx, hb, hml, hown, hts⟩ (c_Y5_undo l D cI cC cT a u_146 H.size r_176 u_177 q_178) (cwV 0 hts gL_areAnswers_X5_undo rfl rfl rfl (by decide +kernel) ⟨Nat.le_of_ble_eq_true rfl, Nat.le_of_ble_eq_true rfl⟩) (mPreVS [(FS cI cC cT a u_146)] flat1 hP hD hK hN [0] rfl (by decide) (va_recv hK (sP hP 0 rfl) (ci := 5) (q0 := 0) rfl (FS0 cI cC cT a u_146))) rfl rfl hl.1 rfl (lv_room (Nat.le_of_ble_eq_true rfl)) dL_areAnswers_533 ⟨Nat.le_of_ble_eq_true rfl, Nat.le_of_ble_eq_true rfl⟩) hP hD hS hA [0] rfl rfl rfl rfl (fun H locs hP hD hS => ?_)
            refine lv_aload_n hx hb dL_areAnswers_536 rfl (lv_at hl 2 rfl) ?_
            obtain ⟨⟨r_179, v_180⟩, q_181, hf⟩ := bnd hf
            refine mGoiS (segs := [(FS cI cC cT a u_177), (FS cI cC cT b v_147)]) (wcs := [(FS cI cC cT b v_147)]) (w1s := [(FS cI cC cT b v_180)]) (w2s := [(FS cI cC cT a u_177), (FS cI cC cT b v_180)]) flat1 flat1 (va_runV (As := []) (rest := [.int r_176]) ⟨hx, hb, hml, hown, hts⟩ (c_Y5_undo l D cI cC cT b v_147 H.size r_179 v_180 q_181) (cwV 0 hts gL_areAnswers_X5_undo rfl rfl rfl (by decide +kernel) ⟨Nat.le_of_ble_eq_true rfl, Nat.le_of_ble_eq_true rfl⟩) (mPreVS [(FS cI cC cT b v_147)] flat1 hP hD hK hN [1] rfl (by decide) (va_recv hK (sP hP 1 rfl) (ci := 5) (q0 := 0) rfl (FS0 cI cC cT b v_147))) rfl rfl hl.1 rfl (lv_room (Nat.le_of_ble_eq_true rfl)) dL_areAnswers_537 ⟨Nat.le_of_ble_eq_true rfl, Nat.le_of_ble_eq_true rfl⟩) hP hD hS hA [1] rfl rfl rfl rfl (fun H locs hP hD hS => ?_)
            refine lv_icmp_ne (tgt := 559) hx hb dL_areAnswers_540 (by decide) (fun c_182 => ?_) (fun c_182 => ?_)
            · have hf := ite_f hf c_182
              refine lv_iconst (v := 0) hx hb dL_areAnswers_559 (by decide) ?_
              cases hf
              exact mZret hx hb hr rfl hlocks hP hD hK hS dL_areAnswers_560
            · have hf := ite_t hf c_182
              refine lv_aload_n hx hb dL_areAnswers_543 rfl (lv_at hl 1 rfl) ?_
              refine lv_iload_n hx hb dL_areAnswers_544 rfl (lv_at hl 3 rfl) ?_
              refine lv_iload_n hx hb dL_areAnswers_545 rfl (lv_at hl 4 rfl) ?_
              refine lv_iconst (v := 2) hx hb dL_areAnswers_546 (by decide) ?_
              obtain ⟨⟨r_183, u_184⟩, q_185, hf⟩ := bnd hf
              refine mGoiS (segs := [(FS cI cC cT a u_177), (FS cI cC cT b v_180)]) (wcs := [(FS cI cC cT a u_177)]) (w1s := [(FS cI cC cT a u_184)]) (w2s := [(FS cI cC cT a u_184), (FS cI cC cT b v_180)]) flat1 flat1 (va_runV (As := [.int p2, .int p3, .int 2]) (rest := []) ⟨hx, hb, hml, hown, hts⟩ (c_Y5_way l D cI cC cT a u_177 H.size p2 p3 2 r_183 u_184 q_185) (cwV 3 hts gL_areAnswers_X5_way rfl rfl rfl (by decide +kernel) ⟨Nat.le_of_ble_eq_true rfl, Nat.le_of_ble_eq_true rfl⟩) (mPreVS [(FS cI cC cT a u_177)] flat1 hP hD hK hN [0] rfl (by decide) (va_recv hK (sP hP 0 rfl) (ci := 5) (q0 := 0) rfl (FS0 cI cC cT a u_177))) rfl rfl hl.1 rfl (lv_room (Nat.le_of_ble_eq_true rfl)) dL_areAnswers_547 ⟨Nat.le_of_ble_eq_true rfl, Nat.le_of_ble_eq_true rfl⟩) hP hD hS hA [0] rfl rfl rfl rfl (fun H locs hP hD hS => ?_)
              refine lv_iload hx hb dL_areAnswers_550 (lv_at hl 5 rfl) ?_
              refine lv_icmp_ne (tgt := 559) hx hb dL_areAnswers_552 (by decide) (fun c_186 => ?_) (fun c_186 => ?_)
              · have hf := ite_f hf c_186
                refine lv_iconst (v := 0) hx hb dL_areAnswers_559 (by decide) ?_
                cases hf
                exact mZret hx hb hr rfl hlocks hP hD hK hS dL_areAnswers_560
              · have hf := ite_t hf c_186
                refine lv_iconst (v := 1) hx hb dL_areAnswers_555 (by decide) ?_
                refine lv_goto (tgt := 560) hx hb dL_areAnswers_556 (by decide) ?_
                cases hf
                exact mZret hx hb hr rfl hlocks hP hD hK hS dL_areAnswers_560
        have hf := q_149
        refine lv_if_eq (tgt := 524) hx hb dL_areAnswers_450 (by decide) (fun c_150 => ?_) (fun c_150 => ?_)
        · have hf := ite_t hf c_150
          refine lv_iconst (v := 0) hx hb dL_areAnswers_524 (by decide) ?_
          cases hf
          exact K_148 _ _ hP hD hS _ (lv_sub hl [3, 4, 5, 6, 8] rfl)
        · have hf := ite_f hf c_150
          refine lv_iload hx hb dL_areAnswers_453 (lv_at hl 8 rfl) ?_
          refine lv_iload hx hb dL_areAnswers_455 (lv_at hl 7 rfl) ?_
          refine lv_icmp_ge (tgt := 524) hx hb dL_areAnswers_457 (by decide) (fun c_151 => ?_) (fun c_151 => ?_)
          · have hf := ite_t hf c_151
            refine lv_iconst (v := 0) hx hb dL_areAnswers_524 (by decide) ?_
            cases hf
            exact K_148 _ _ hP hD hS _ (lv_sub hl [3, 4, 5, 6, 8] rfl)
          · have hf := ite_f hf c_151
            refine lv_iload hx hb dL_areAnswers_460 (lv_at hl 0 rfl) ?_
            refine lv_aload_n hx hb dL_areAnswers_462 rfl (lv_at hl 3 rfl) ?_
            refine lv_iload hx hb dL_areAnswers_463 (lv_at hl 1 rfl) ?_
            refine lv_iconst (v := 0) hx hb dL_areAnswers_465 (by decide) ?_
            obtain ⟨⟨r_152, u_153⟩, q_154, hf⟩ := bnd hf
            refine mGoiS (segs := [(FS cI cC cT a u_142), (FS cI cC cT b v)]) (wcs := [(FS cI cC cT a u_142)]) (w1s := [(FS cI cC cT a u_153)]) (w2s := [(FS cI cC cT a u_153), (FS cI cC cT b v)]) flat1 flat1 (va_runV (As := [.int r_138, .int 0]) (rest := [.int r_141]) ⟨hx, hb, hml, hown, hts⟩ (c_Y5_row l D cI cC cT a u_142 H.size r_138 0 r_152 u_153 q_154) (cwV 2 hts gL_areAnswers_X5_row rfl rfl rfl (by decide +kernel) ⟨Nat.le_of_ble_eq_true rfl, Nat.le_of_ble_eq_true rfl⟩) (mPreVS [(FS cI cC cT a u_142)] flat1 hP hD hK hN [0] rfl (by decide) (va_recv hK (sP hP 0 rfl) (ci := 5) (q0 := 0) rfl (FS0 cI cC cT a u_142))) rfl rfl hl.1 rfl (lv_room (Nat.le_of_ble_eq_true rfl)) dL_areAnswers_466 ⟨Nat.le_of_ble_eq_true rfl, Nat.le_of_ble_eq_true rfl⟩) hP hD hS hA [0] rfl rfl rfl rfl (fun H locs hP hD hS => ?_)
            refine lv_icmp_ne (tgt := 524) hx hb dL_areAnswers_469 (by decide) (fun c_155 => ?_) (fun c_155 => ?_)
            · have hf := ite_f hf c_155
              refine lv_iconst (v := 0) hx hb dL_areAnswers_524 (by decide) ?_
              cases hf
              exact K_148 _ _ hP hD hS _ (lv_sub hl [3, 4, 5, 6, 8] rfl)
            · have hf := ite_t hf c_155
              refine lv_aload_n hx hb dL_areAnswers_472 rfl (lv_at hl 3 rfl) ?_
              refine lv_iload hx hb dL_areAnswers_473 (lv_at hl 1 rfl) ?_
              refine lv_iconst (v := 4) hx hb dL_areAnswers_475 (by decide) ?_
              obtain ⟨⟨r_156, u_157⟩, q_158, hf⟩ := bnd hf
              refine mGoiS (segs := [(FS cI cC cT a u_153), (FS cI cC cT b v)]) (wcs := [(FS cI cC cT a u_153)]) (w1s := [(FS cI cC cT a u_157)]) (w2s := [(FS cI cC cT a u_157), (FS cI cC cT b v)]) flat1 flat1 (va_runV (As := [.int r_138, .int 4]) (rest := []) ⟨hx, hb, hml, hown, hts⟩ (c_Y5_row l D cI cC cT a u_153 H.size r_138 4 r_156 u_157 q_158) (cwV 2 hts gL_areAnswers_X5_row rfl rfl rfl (by decide +kernel) ⟨Nat.le_of_ble_eq_true rfl, Nat.le_of_ble_eq_true rfl⟩) (mPreVS [(FS cI cC cT a u_153)] flat1 hP hD hK hN [0] rfl (by decide) (va_recv hK (sP hP 0 rfl) (ci := 5) (q0 := 0) rfl (FS0 cI cC cT a u_153))) rfl rfl hl.1 rfl (lv_room (Nat.le_of_ble_eq_true rfl)) dL_areAnswers_476 ⟨Nat.le_of_ble_eq_true rfl, Nat.le_of_ble_eq_true rfl⟩) hP hD hS hA [0] rfl rfl rfl rfl (fun H locs hP hD hS => ?_)
              refine lv_iconst (v := 1) hx hb dL_areAnswers_479 (by decide) ?_
              refine lv_icmp_ne (tgt := 524) hx hb dL_areAnswers_480 (by decide) (fun c_159 => ?_) (fun c_159 => ?_)
              · have hf := ite_f hf c_159
                refine lv_iconst (v := 0) hx hb dL_areAnswers_524 (by decide) ?_
                cases hf
                exact K_148 _ _ hP hD hS _ (lv_sub hl [3, 4, 5, 6, 8] rfl)
              · have hf := ite_t hf c_159
                refine lv_aload_n hx hb dL_areAnswers_483 rfl (lv_at hl 3 rfl) ?_
                refine lv_iload hx hb dL_areAnswers_484 (lv_at hl 0 rfl) ?_
                refine lv_iconst (v := 0) hx hb dL_areAnswers_486 (by decide) ?_
                obtain ⟨⟨r_160, u_161⟩, q_162, hf⟩ := bnd hf
                refine mGoiS (segs := [(FS cI cC cT a u_157), (FS cI cC cT b v)]) (wcs := [(FS cI cC cT a u_157)]) (w1s := [(FS cI cC cT a u_161)]) (w2s := [(FS cI cC cT a u_161), (FS cI cC cT b v)]) flat1 flat1 (va_runV (As := [.int r_141, .int 0]) (rest := []) ⟨hx, hb, hml, hown, hts⟩ (c_Y5_key l D cI cC cT a u_157 H.size r_141 0 r_160 u_161 q_162) (cwV 2 hts gL_areAnswers_X5_key rfl rfl rfl (by decide +kernel) ⟨Nat.le_of_ble_eq_true rfl, Nat.le_of_ble_eq_true rfl⟩) (mPreVS [(FS cI cC cT a u_157)] flat1 hP hD hK hN [0] rfl (by decide) (va_recv hK (sP hP 0 rfl) (ci := 5) (q0 := 0) rfl (FS0 cI cC cT a u_157))) rfl rfl hl.1 rfl (lv_room (Nat.le_of_ble_eq_true rfl)) dL_areAnswers_487 ⟨Nat.le_of_ble_eq_true rfl, Nat.le_of_ble_eq_true rfl⟩) hP hD hS hA [0] rfl rfl rfl rfl (fun H locs hP hD hS => ?_)
                refine lv_iconst (v := 1) hx hb dL_areAnswers_490 (by decide) ?_
                refine lv_icmp_le (tgt := 524) hx hb dL_areAnswers_491 (by decide) (fun c_163 => ?_) (fun c_163 => ?_)
                · have hf := ite_t hf c_163
                  refine lv_iconst (v := 0) hx hb dL_areAnswers_524 (by decide) ?_
                  cases hf
                  exact K_148 _ _ hP hD hS _ (lv_sub hl [3, 4, 5, 6, 8] rfl)
                · have hf := ite_f hf c_163
                  refine lv_aload_n hx hb dL_areAnswers_494 rfl (lv_at hl 3 rfl) ?_
                  refine lv_iload hx hb dL_areAnswers_495 (lv_at hl 1 rfl) ?_
                  obtain ⟨⟨r_164, u_165⟩, q_166, hf⟩ := bnd hf
                  refine mGoiS (segs := [(FS cI cC cT a u_161), (FS cI cC cT b v)]) (wcs := [(FS cI cC cT a u_161)]) (w1s := [(FS cI cC cT a u_165)]) (w2s := [(FS cI cC cT a u_165), (FS cI cC cT b v)]) flat1 flat1 (va_runV (As := [.int r_138]) (rest := []) ⟨hx, hb, hml, hown, hts⟩ (c_Y5_mend l D cI cC cT a u_161 H.size r_138 r_164 u_165 q_166) (cwV 1 hts gL_areAnswers_X5_mend rfl rfl rfl (by decide +kernel) ⟨Nat.le_of_ble_eq_true rfl, Nat.le_of_ble_eq_true rfl⟩) (mPreVS [(FS cI cC cT a u_161)] flat1 hP hD hK hN [0] rfl (by decide) (va_recv hK (sP hP 0 rfl) (ci := 5) (q0 := 0) rfl (FS0 cI cC cT a u_161))) rfl rfl hl.1 rfl (lv_room (Nat.le_of_ble_eq_true rfl)) dL_areAnswers_497 ⟨Nat.le_of_ble_eq_true rfl, Nat.le_of_ble_eq_true rfl⟩) hP hD hS hA [0] rfl rfl rfl rfl (fun H locs hP hD hS => ?_)
                  refine lv_aload_n hx hb dL_areAnswers_500 rfl (lv_at hl 4 rfl) ?_
                  refine lv_iload hx hb dL_areAnswers_501 (lv_at hl 1 rfl) ?_
                  obtain ⟨⟨r_167, v_168⟩, q_169, hf⟩ := bnd hf
                  refine mGoiS (segs := [(FS cI cC cT a u_165), (FS cI cC cT b v)]) (wcs := [(FS cI cC cT b v)]) (w1s := [(FS cI cC cT b v_168)]) (w2s := [(FS cI cC cT a u_165), (FS cI cC cT b v_168)]) flat1 flat1 (va_runV (As := [.int r_138]) (rest := [.int r_164]) ⟨hx, hb, hml, hown, hts⟩ (c_Y5_mend l D cI cC cT b v H.size r_138 r_167 v_168 q_169) (cwV 1 hts gL_areAnswers_X5_mend rfl rfl rfl (by decide +kernel) ⟨Nat.le_of_ble_eq_true rfl, Nat.le_of_ble_eq_true rfl⟩) (mPreVS [(FS cI cC cT b v)] flat1 hP hD hK hN [1] rfl (by decide) (va_recv hK (sP hP 1 rfl) (ci := 5) (q0 := 0) rfl (FS0 cI cC cT b v))) rfl rfl hl.1 rfl (lv_room (Nat.le_of_ble_eq_true rfl)) dL_areAnswers_503 ⟨Nat.le_of_ble_eq_true rfl, Nat.le_of_ble_eq_true rfl⟩) hP hD hS hA [1] rfl rfl rfl rfl (fun H locs hP hD hS => ?_)
                  refine lv_icmp_ne (tgt := 524) hx hb dL_areAnswers_506 (by decide) (fun c_170 => ?_) (fun c_170 => ?_)
                  · have hf := ite_f hf c_170
                    refine lv_iconst (v := 0) hx hb dL_areAnswers_524 (by decide) ?_
                    cases hf
                    exact K_148 _ _ hP hD hS _ (lv_sub hl [3, 4, 5, 6, 8] rfl)
                  · have hf := ite_t hf c_170
                    refine lv_aload_n hx hb dL_areAnswers_509 rfl (lv_at hl 3 rfl) ?_
                    refine lv_iload_n hx hb dL_areAnswers_510 rfl (lv_at hl 5 rfl) ?_
                    refine lv_iload_n hx hb dL_areAnswers_511 rfl (lv_at hl 6 rfl) ?_
                    refine lv_iconst (v := 0) hx hb dL_areAnswers_512 (by decide) ?_
                    obtain ⟨⟨r_171, u_172⟩, q_173, hf⟩ := bnd hf
                    refine mGoiS (segs := [(FS cI cC cT a u_165), (FS cI cC cT b v_168)]) (wcs := [(FS cI cC cT a u_165)]) (w1s := [(FS cI cC cT a u_172)]) (w2s := [(FS cI cC cT a u_172), (FS cI cC cT b v_168)]) flat1 flat1 (va_runV (As := [.int p2, .int p3, .int 0]) (rest := []) ⟨hx, hb, hml, hown, hts⟩ (c_Y5_way l D cI cC cT a u_165 H.size p2 p3 0 r_171 u_172 q_173) (cwV 3 hts gL_areAnswers_X5_way rfl rfl rfl (by decide +kernel) ⟨Nat.le_of_ble_eq_true rfl, Nat.le_of_ble_eq_true rfl⟩) (mPreVS [(FS cI cC cT a u_165)] flat1 hP hD hK hN [0] rfl (by decide) (va_recv hK (sP hP 0 rfl) (ci := 5) (q0 := 0) rfl (FS0 cI cC cT a u_165))) rfl rfl hl.1 rfl (lv_room (Nat.le_of_ble_eq_true rfl)) dL_areAnswers_513 ⟨Nat.le_of_ble_eq_true rfl, Nat.le_of_ble_eq_true rfl⟩) hP hD hS hA [0] rfl rfl rfl rfl (fun H locs hP hD hS => ?_)
                    refine lv_iconst (v := 1) hx hb dL_areAnswers_516 (by decide) ?_
                    refine lv_icmp_ne (tgt := 524) hx hb dL_areAnswers_517 (by decide) (fun c_174 => ?_) (fun c_174 => ?_)
                    · have hf := ite_f hf c_174
                      refine lv_iconst (v := 0) hx hb dL_areAnswers_524 (by decide) ?_
                      cases hf
                      exact K_148 _ _ hP hD hS _ (lv_sub hl [3, 4, 5, 6, 8] rfl)
                    · have hf := ite_t hf c_174
                      refine lv_iconst (v := 1) hx hb dL_areAnswers_520 (by decide) ?_
                      refine lv_goto (tgt := 525) hx hb dL_areAnswers_521 (by decide) ?_
                      cases hf
                      exact K_148 _ _ hP hD hS _ (lv_sub hl [3, 4, 5, 6, 8] rfl)
      · have hf := ite_t hf c_144
        refine lv_iload hx hb dL_areAnswers_430 (lv_at hl 2 rfl) ?_
        refine lv_if_eq (tgt := 446) hx hb dL_areAnswers_432 (by decide) (fun c_187 => ?_) (fun c_187 => ?_)
        · have hf := ite_t hf c_187
          refine lv_iconst (v := 0) hx hb dL_areAnswers_446 (by decide) ?_
          cases hf
          exact mZret hx hb hr rfl hlocks hP hD hK hS dL_areAnswers_447
        · have hf := ite_f hf c_187
          refine lv_iload hx hb dL_areAnswers_435 (lv_at hl 0 rfl) ?_
          refine lv_iload hx hb dL_areAnswers_437 (lv_at hl 1 rfl) ?_
          refine lv_icmp_ne (tgt := 446) hx hb dL_areAnswers_439 (by decide) (fun c_188 => ?_) (fun c_188 => ?_)
          · have hf := ite_f hf c_188
            refine lv_iconst (v := 0) hx hb dL_areAnswers_446 (by decide) ?_
            cases hf
            exact mZret hx hb hr rfl hlocks hP hD hK hS dL_areAnswers_447
          · have hf := ite_t hf c_188
            refine lv_iconst (v := 1) hx hb dL_areAnswers_442 (by decide) ?_
            refine lv_goto (tgt := 447) hx hb dL_areAnswers_443 (by decide) ?_
            cases hf
            exact mZret hx hb hr rfl hlocks hP hD hK hS dL_areAnswers_447
    have hf := q_87
    refine lv_if_eq (tgt := 402) hx hb dL_areAnswers_256 (by decide) (fun c_88 => ?_) (fun c_88 => ?_)
    · have hf := ite_t hf c_88
      refine lv_iconst (v := 0) hx hb dL_areAnswers_402 (by decide) ?_
      cases hf
      exact K_86 _ _ hP hD hS _ (lv_sub hl [1, 2, 3, 4, 6, 7] rfl)
    · have hf := ite_f hf c_88
      refine lv_iload hx hb dL_areAnswers_259 (lv_at hl 8 rfl) ?_
      refine lv_if_lt (tgt := 402) hx hb dL_areAnswers_261 (by decide) (fun c_89 => ?_) (fun c_89 => ?_)
      · have hf := ite_t hf c_89
        refine lv_iconst (v := 0) hx hb dL_areAnswers_402 (by decide) ?_
        cases hf
        exact K_86 _ _ hP hD hS _ (lv_sub hl [1, 2, 3, 4, 6, 7] rfl)
      · have hf := ite_f hf c_89
        refine lv_iload hx hb dL_areAnswers_264 (lv_at hl 8 rfl) ?_
        refine lv_iload hx hb dL_areAnswers_266 (lv_at hl 6 rfl) ?_
        refine lv_icmp_gt (tgt := 402) hx hb dL_areAnswers_268 (by decide) (fun c_90 => ?_) (fun c_90 => ?_)
        · have hf := ite_t hf c_90
          refine lv_iconst (v := 0) hx hb dL_areAnswers_402 (by decide) ?_
          cases hf
          exact K_86 _ _ hP hD hS _ (lv_sub hl [1, 2, 3, 4, 6, 7] rfl)
        · have hf := ite_f hf c_90
          refine lv_aload_n hx hb dL_areAnswers_271 rfl (lv_at hl 1 rfl) ?_
          refine lv_iload hx hb dL_areAnswers_272 (lv_at hl 5 rfl) ?_
          refine lv_i2c hx hb dL_areAnswers_274 rfl ?_
          refine lv_iconst (v := 0) hx hb dL_areAnswers_275 (by decide) ?_
          obtain ⟨⟨r_91, u_92⟩, q_93, hf⟩ := bnd hf
          refine mGoiS (segs := [(FS cI cC cT a u_23), (FS cI cC cT b v)]) (wcs := [(FS cI cC cT a u_23)]) (w1s := [(FS cI cC cT a u_92)]) (w2s := [(FS cI cC cT a u_92), (FS cI cC cT b v)]) flat1 flat1 (va_runV (As := [.int ((p4.toUInt32 % 65536).toInt32), .int 0]) (rest := []) ⟨hx, hb, hml, hown, hts⟩ (c_Y5_value l D cI cC cT a u_23 H.size ((p4.toUInt32 % 65536).toInt32) 0 r_91 u_92 q_93) (cwV 2 hts gL_areAnswers_X5_value rfl rfl rfl (by decide +kernel) ⟨Nat.le_of_ble_eq_true rfl, Nat.le_of_ble_eq_true rfl⟩) (mPreVS [(FS cI cC cT a u_23)] flat1 hP hD hK hN [0] rfl (by decide) (va_recv hK (sP hP 0 rfl) (ci := 5) (q0 := 0) rfl (FS0 cI cC cT a u_23))) rfl rfl hl.1 rfl (lv_room (Nat.le_of_ble_eq_true rfl)) dL_areAnswers_276 ⟨Nat.le_of_ble_eq_true rfl, Nat.le_of_ble_eq_true rfl⟩) hP hD hS hA [0] rfl rfl rfl rfl (fun H locs hP hD hS => ?_)
          refine lv_iconst (v := 1) hx hb dL_areAnswers_279 (by decide) ?_
          obtain ⟨x_94, q_96, hf⟩ := bnd hf
          have K_95 : ∀ (H : Heap) (locs : List Loc), va_P D vwCl (List.flatten [(FS cI cC cT a u_92), (FS cI cC cT b v)]) H → va_D A (List.flatten [(FS cI cC cT a u_92), (FS cI cC cT b v)]) → va_S A s.heap H locs → ∀ (ls : Array Slot), lv_has ls 15 [(0, .ref (a 0)), (1, .ref (b 0)), (2, .int p2), (3, .int p3), (4, .int p4), (5, .int r_1), (6, .int r_4), (9, .int r_13), (10, .int r_16), (11, .int r_19)] → W p l e rm_L_areAnswers s m ([.ref (a 0), .ref (b 0), .int p2, .int p3, .int p4] : List Value).toArray below meth c H locs 0 0 (MQ below (mQi D (mTY cI cC cT) out A (List.flatten [(FS cI cC cT a o_u), (FS cI cC cT b o_v)])) ([.ref (a 0), .ref (b 0), .int p2, .int p3, .int p4] : List Value).toArray s 0 0 A) (F0 m 288 ls [.int x_94]) := by
            intro H locs hP hD hS ls hl
            refine lv_iload hx hb dL_areAnswers_288 (lv_at hl 7 rfl) ?_
            refine lv_iload hx hb dL_areAnswers_290 (lv_at hl 5 rfl) ?_
            obtain ⟨x_98, q_100, hf⟩ := bnd hf
            have K_99 : ∀ (H : Heap) (locs : List Loc), va_P D vwCl (List.flatten [(FS cI cC cT a u_92), (FS cI cC cT b v)]) H → va_D A (List.flatten [(FS cI cC cT a u_92), (FS cI cC cT b v)]) → va_S A s.heap H locs → ∀ (ls : Array Slot), lv_has ls 15 [(0, .ref (a 0)), (1, .ref (b 0)), (2, .int p2), (3, .int p3), (4, .int p4), (5, .int r_1), (6, .int r_4), (9, .int r_13), (10, .int r_16), (11, .int r_19)] → W p l e rm_L_areAnswers s m ([.ref (a 0), .ref (b 0), .int p2, .int p3, .int p4] : List Value).toArray below meth c H locs 0 0 (MQ below (mQi D (mTY cI cC cT) out A (List.flatten [(FS cI cC cT a o_u), (FS cI cC cT b o_v)])) ([.ref (a 0), .ref (b 0), .int p2, .int p3, .int p4] : List Value).toArray s 0 0 A) (F0 m 300 ls [.int x_98, .int x_94]) := by
              intro H locs hP hD hS ls hl
              refine lv_icmp_ne (tgt := 402) hx hb dL_areAnswers_300 (by decide) (fun c_102 => ?_) (fun c_102 => ?_)
              · have hf := ite_f hf c_102
                refine lv_iconst (v := 0) hx hb dL_areAnswers_402 (by decide) ?_
                cases hf
                exact K_86 _ _ hP hD hS _ (lv_sub hl [0, 1, 2, 3, 5, 6] rfl)
              · have hf := ite_t hf c_102
                refine lv_aload_n hx hb dL_areAnswers_303 rfl (lv_at hl 0 rfl) ?_
                refine lv_iload hx hb dL_areAnswers_304 (lv_at hl 4 rfl) ?_
                refine lv_i2c hx hb dL_areAnswers_306 rfl ?_
                refine lv_iconst (v := 1) hx hb dL_areAnswers_307 (by decide) ?_
                obtain ⟨⟨r_103, u_104⟩, q_105, hf⟩ := bnd hf
                refine mGoiS (segs := [(FS cI cC cT a u_92), (FS cI cC cT b v)]) (wcs := [(FS cI cC cT a u_92)]) (w1s := [(FS cI cC cT a u_104)]) (w2s := [(FS cI cC cT a u_104), (FS cI cC cT b v)]) flat1 flat1 (va_runV (As := [.int ((p4.toUInt32 % 65536).toInt32), .int 1]) (rest := []) ⟨hx, hb, hml, hown, hts⟩ (c_Y5_value l D cI cC cT a u_92 H.size ((p4.toUInt32 % 65536).toInt32) 1 r_103 u_104 q_105) (cwV 2 hts gL_areAnswers_X5_value rfl rfl rfl (by decide +kernel) ⟨Nat.le_of_ble_eq_true rfl, Nat.le_of_ble_eq_true rfl⟩) (mPreVS [(FS cI cC cT a u_92)] flat1 hP hD hK hN [0] rfl (by decide) (va_recv hK (sP hP 0 rfl) (ci := 5) (q0 := 0) rfl (FS0 cI cC cT a u_92))) rfl rfl hl.1 rfl (lv_room (Nat.le_of_ble_eq_true rfl)) dL_areAnswers_308 ⟨Nat.le_of_ble_eq_true rfl, Nat.le_of_ble_eq_true rfl⟩) hP hD hS hA [0] rfl rfl rfl rfl (fun H locs hP hD hS => ?_)
                refine lv_iconst (v := 1) hx hb dL_areAnswers_311 (by decide) ?_
                obtain ⟨x_106, q_108, hf⟩ := bnd hf
                have K_107 : ∀ (H : Heap) (locs : List Loc), va_P D vwCl (List.flatten [(FS cI cC cT a u_104), (FS cI cC cT b v)]) H → va_D A (List.flatten [(FS cI cC cT a u_104), (FS cI cC cT b v)]) → va_S A s.heap H locs → ∀ (ls : Array Slot), lv_has ls 15 [(0, .ref (a 0)), (1, .ref (b 0)), (2, .int p2), (3, .int p3), (5, .int r_1), (6, .int r_4), (9, .int r_13), (10, .int r_16), (11, .int r_19)] → W p l e rm_L_areAnswers s m ([.ref (a 0), .ref (b 0), .int p2, .int p3, .int p4] : List Value).toArray below meth c H locs 0 0 (MQ below (mQi D (mTY cI cC cT) out A (List.flatten [(FS cI cC cT a o_u), (FS cI cC cT b o_v)])) ([.ref (a 0), .ref (b 0), .int p2, .int p3, .int p4] : List Value).toArray s 0 0 A) (F0 m 320 ls [.int x_106]) := by
                  intro H locs hP hD hS ls hl
                  refine lv_iload hx hb dL_areAnswers_320 (lv_at hl 6 rfl) ?_
                  obtain ⟨x_110, q_112, hf⟩ := bnd hf
                  have K_111 : ∀ (H : Heap) (locs : List Loc), va_P D vwCl (List.flatten [(FS cI cC cT a u_104), (FS cI cC cT b v)]) H → va_D A (List.flatten [(FS cI cC cT a u_104), (FS cI cC cT b v)]) → va_S A s.heap H locs → ∀ (ls : Array Slot), lv_has ls 15 [(0, .ref (a 0)), (1, .ref (b 0)), (2, .int p2), (3, .int p3), (5, .int r_1), (6, .int r_4), (9, .int r_13), (10, .int r_16), (11, .int r_19)] → W p l e rm_L_areAnswers s m ([.ref (a 0), .ref (b 0), .int p2, .int p3, .int p4] : List Value).toArray below meth c H locs 0 0 (MQ below (mQi D (mTY cI cC cT) out A (List.flatten [(FS cI cC cT a o_u), (FS cI cC cT b o_v)])) ([.ref (a 0), .ref (b 0), .int p2, .int p3, .int p4] : List Value).toArray s 0 0 A) (F0 m 330 ls [.int x_110, .int x_106]) := by
                    intro H locs hP hD hS ls hl
                    refine lv_icmp_ne (tgt := 402) hx hb dL_areAnswers_330 (by decide) (fun c_114 => ?_) (fun c_114 => ?_)
                    · have hf := ite_f hf c_114
                      refine lv_iconst (v := 0) hx hb dL_areAnswers_402 (by decide) ?_
                      cases hf
                      exact K_86 _ _ hP hD hS _ (lv_sub hl [0, 1, 2, 3, 4, 5] rfl)
                    · have hf := ite_t hf c_114
                      refine lv_iload hx hb dL_areAnswers_333 (lv_at hl 7 rfl) ?_
                      refine lv_iload hx hb dL_areAnswers_335 (lv_at hl 8 rfl) ?_
                      refine lv_icmp_gt (tgt := 402) hx hb dL_areAnswers_337 (by decide) (fun c_115 => ?_) (fun c_115 => ?_)
                      · have hf := ite_t hf c_115
                        refine lv_iconst (v := 0) hx hb dL_areAnswers_402 (by decide) ?_
                        cases hf
                        exact K_86 _ _ hP hD hS _ (lv_sub hl [0, 1, 2, 3, 4, 5] rfl)
                      · have hf := ite_f hf c_115
                        refine lv_iload hx hb dL_areAnswers_340 (lv_at hl 7 rfl) ?_
                        obtain ⟨x_116, q_118, hf⟩ := bnd hf
                        have K_117 : ∀ (H : Heap) (locs : List Loc), va_P D vwCl (List.flatten [(FS cI cC cT a u_104), (FS cI cC cT b v)]) H → va_D A (List.flatten [(FS cI cC cT a u_104), (FS cI cC cT b v)]) → va_S A s.heap H locs → ∀ (ls : Array Slot), lv_has ls 15 [(0, .ref (a 0)), (1, .ref (b 0)), (2, .int p2), (3, .int p3), (5, .int r_1), (6, .int r_4), (9, .int r_13), (11, .int r_19)] → W p l e rm_L_areAnswers s m ([.ref (a 0), .ref (b 0), .int p2, .int p3, .int p4] : List Value).toArray below meth c H locs 0 0 (MQ below (mQi D (mTY cI cC cT) out A (List.flatten [(FS cI cC cT a o_u), (FS cI cC cT b o_v)])) ([.ref (a 0), .ref (b 0), .int p2, .int p3, .int p4] : List Value).toArray s 0 0 A) (F0 m 350 ls [.int x_116]) := by
                          intro H locs hP hD hS ls hl
                          refine lv_iload hx hb dL_areAnswers_350 (lv_at hl 6 rfl) ?_
                          refine lv_iload hx hb dL_areAnswers_352 (lv_at hl 4 rfl) ?_
                          obtain ⟨x_120, q_122, hf⟩ := bnd hf
                          have K_121 : ∀ (H : Heap) (locs : List Loc), va_P D vwCl (List.flatten [(FS cI cC cT a u_104), (FS cI cC cT b v)]) H → va_D A (List.flatten [(FS cI cC cT a u_104), (FS cI cC cT b v)]) → va_S A s.heap H locs → ∀ (ls : Array Slot), lv_has ls 15 [(0, .ref (a 0)), (1, .ref (b 0)), (2, .int p2), (3, .int p3), (5, .int r_1), (6, .int r_4), (9, .int r_13), (11, .int r_19)] → W p l e rm_L_areAnswers s m ([.ref (a 0), .ref (b 0), .int p2, .int p3, .int p4] : List Value).toArray below meth c H locs 0 0 (MQ below (mQi D (mTY cI cC cT) out A (List.flatten [(FS cI cC cT a o_u), (FS cI cC cT b o_v)])) ([.ref (a 0), .ref (b 0), .int p2, .int p3, .int p4] : List Value).toArray s 0 0 A) (F0 m 362 ls [.int x_120, .int x_116]) := by
                            intro H locs hP hD hS ls hl
                            refine lv_icmp_ne (tgt := 402) hx hb dL_areAnswers_362 (by decide) (fun c_124 => ?_) (fun c_124 => ?_)
                            · have hf := ite_f hf c_124
                              refine lv_iconst (v := 0) hx hb dL_areAnswers_402 (by decide) ?_
                              cases hf
                              exact K_86 _ _ hP hD hS _ (lv_sub hl [0, 1, 2, 3, 4, 5] rfl)
                            · have hf := ite_t hf c_124
                              refine lv_iload hx hb dL_areAnswers_365 (lv_at hl 7 rfl) ?_
                              obtain ⟨x_125, q_127, hf⟩ := bnd hf
                              have K_126 : ∀ (H : Heap) (locs : List Loc), va_P D vwCl (List.flatten [(FS cI cC cT a u_104), (FS cI cC cT b v)]) H → va_D A (List.flatten [(FS cI cC cT a u_104), (FS cI cC cT b v)]) → va_S A s.heap H locs → ∀ (ls : Array Slot), lv_has ls 15 [(0, .ref (a 0)), (1, .ref (b 0)), (2, .int p2), (3, .int p3), (5, .int r_1), (6, .int r_4), (9, .int r_13), (11, .int r_19)] → W p l e rm_L_areAnswers s m ([.ref (a 0), .ref (b 0), .int p2, .int p3, .int p4] : List Value).toArray below meth c H locs 0 0 (MQ below (mQi D (mTY cI cC cT) out A (List.flatten [(FS cI cC cT a o_u), (FS cI cC cT b o_v)])) ([.ref (a 0), .ref (b 0), .int p2, .int p3, .int p4] : List Value).toArray s 0 0 A) (F0 m 375 ls [.int x_125]) := by
                                intro H locs hP hD hS ls hl
                                refine lv_iload hx hb dL_areAnswers_375 (lv_at hl 6 rfl) ?_
                                obtain ⟨x_129, q_131, hf⟩ := bnd hf
                                have K_130 : ∀ (H : Heap) (locs : List Loc), va_P D vwCl (List.flatten [(FS cI cC cT a u_104), (FS cI cC cT b v)]) H → va_D A (List.flatten [(FS cI cC cT a u_104), (FS cI cC cT b v)]) → va_S A s.heap H locs → ∀ (ls : Array Slot), lv_has ls 15 [(0, .ref (a 0)), (1, .ref (b 0)), (2, .int p2), (3, .int p3), (5, .int r_1), (6, .int r_4), (11, .int r_19)] → W p l e rm_L_areAnswers s m ([.ref (a 0), .ref (b 0), .int p2, .int p3, .int p4] : List Value).toArray below meth c H locs 0 0 (MQ below (mQi D (mTY cI cC cT) out A (List.flatten [(FS cI cC cT a o_u), (FS cI cC cT b o_v)])) ([.ref (a 0), .ref (b 0), .int p2, .int p3, .int p4] : List Value).toArray s 0 0 A) (F0 m 385 ls [.int x_129, .int x_125]) := by
                                  intro H locs hP hD hS ls hl
                                  refine lv_icmp_ne (tgt := 402) hx hb dL_areAnswers_385 (by decide) (fun c_133 => ?_) (fun c_133 => ?_)
                                  · have hf := ite_f hf c_133
                                    refine lv_iconst (v := 0) hx hb dL_areAnswers_402 (by decide) ?_
                                    cases hf
                                    exact K_86 _ _ hP hD hS _ (lv_sub hl [0, 1, 2, 3, 4, 5] rfl)
                                  · have hf := ite_t hf c_133
                                    refine lv_iload hx hb dL_areAnswers_388 (lv_at hl 6 rfl) ?_
                                    refine lv_aload_n hx hb dL_areAnswers_390 rfl (lv_at hl 0 rfl) ?_
                                    refine lv_iconst (v := 1) hx hb dL_areAnswers_391 (by decide) ?_
                                    obtain ⟨⟨r_134, u_135⟩, q_136, hf⟩ := bnd hf
                                    refine mGoiS (segs := [(FS cI cC cT a u_104), (FS cI cC cT b v)]) (wcs := [(FS cI cC cT a u_104)]) (w1s := [(FS cI cC cT a u_135)]) (w2s := [(FS cI cC cT a u_135), (FS cI cC cT b v)]) flat1 flat1 (va_runV (As := [.int 1]) (rest := [.int r_19]) ⟨hx, hb, hml, hown, hts⟩ (c_Y5_count l D cI cC cT a u_104 H.size 1 r_134 u_135 q_136) (cwV 1 hts gL_areAnswers_X5_count rfl rfl rfl (by decide +kernel) ⟨Nat.le_of_ble_eq_true rfl, Nat.le_of_ble_eq_true rfl⟩) (mPreVS [(FS cI cC cT a u_104)] flat1 hP hD hK hN [0] rfl (by decide) (va_recv hK (sP hP 0 rfl) (ci := 5) (q0 := 0) rfl (FS0 cI cC cT a u_104))) rfl rfl hl.1 rfl (lv_room (Nat.le_of_ble_eq_true rfl)) dL_areAnswers_392 ⟨Nat.le_of_ble_eq_true rfl, Nat.le_of_ble_eq_true rfl⟩) hP hD hS hA [0] rfl rfl rfl rfl (fun H locs hP hD hS => ?_)
                                    refine lv_icmp_gt (tgt := 402) hx hb dL_areAnswers_395 (by decide) (fun c_137 => ?_) (fun c_137 => ?_)
                                    · have hf := ite_t hf c_137
                                      refine lv_iconst (v := 0) hx hb dL_areAnswers_402 (by decide) ?_
                                      cases hf
                                      exact K_86 _ _ hP hD hS _ (lv_sub hl [0, 1, 2, 3, 4, 5] rfl)
                                    · have hf := ite_f hf c_137
                                      refine lv_iconst (v := 1) hx hb dL_areAnswers_398 (by decide) ?_
                                      refine lv_goto (tgt := 403) hx hb dL_areAnswers_399 (by decide) ?_
                                      cases hf
                                      exact K_86 _ _ hP hD hS _ (lv_sub hl [0, 1, 2, 3, 4, 5] rfl)
                                have hf := q_131
                                refine lv_if_le (tgt := 384) hx hb dL_areAnswers_377 (by decide) (fun c_132 => ?_) (fun c_132 => ?_)
                                · have hf := ite_t hf c_132
                                  refine lv_iconst (v := 0) hx hb dL_areAnswers_384 (by decide) ?_
                                  cases hf
                                  exact K_130 _ _ hP hD hS _ (lv_sub hl [0, 1, 2, 3, 4, 5, 7] rfl)
                                · have hf := ite_f hf c_132
                                  refine lv_iconst (v := 1) hx hb dL_areAnswers_380 (by decide) ?_
                                  refine lv_goto (tgt := 385) hx hb dL_areAnswers_381 (by decide) ?_
                                  cases hf
                                  exact K_130 _ _ hP hD hS _ (lv_sub hl [0, 1, 2, 3, 4, 5, 7] rfl)
                              have hf := q_127
                              refine lv_if_le (tgt := 374) hx hb dL_areAnswers_367 (by decide) (fun c_128 => ?_) (fun c_128 => ?_)
                              · have hf := ite_t hf c_128
                                refine lv_iconst (v := 0) hx hb dL_areAnswers_374 (by decide) ?_
                                cases hf
                                exact K_126 _ _ hP hD hS _ (lv_sub hl [0, 1, 2, 3, 4, 5, 6, 7] rfl)
                              · have hf := ite_f hf c_128
                                refine lv_iconst (v := 1) hx hb dL_areAnswers_370 (by decide) ?_
                                refine lv_goto (tgt := 375) hx hb dL_areAnswers_371 (by decide) ?_
                                cases hf
                                exact K_126 _ _ hP hD hS _ (lv_sub hl [0, 1, 2, 3, 4, 5, 6, 7] rfl)
                          have hf := q_122
                          refine lv_icmp_ne (tgt := 361) hx hb dL_areAnswers_354 (by decide) (fun c_123 => ?_) (fun c_123 => ?_)
                          · have hf := ite_f hf c_123
                            refine lv_iconst (v := 0) hx hb dL_areAnswers_361 (by decide) ?_
                            cases hf
                            exact K_121 _ _ hP hD hS _ (lv_sub hl [0, 1, 2, 3, 4, 5, 6, 7] rfl)
                          · have hf := ite_t hf c_123
                            refine lv_iconst (v := 1) hx hb dL_areAnswers_357 (by decide) ?_
                            refine lv_goto (tgt := 362) hx hb dL_areAnswers_358 (by decide) ?_
                            cases hf
                            exact K_121 _ _ hP hD hS _ (lv_sub hl [0, 1, 2, 3, 4, 5, 6, 7] rfl)
                        have hf := q_118
                        refine lv_if_le (tgt := 349) hx hb dL_areAnswers_342 (by decide) (fun c_119 => ?_) (fun c_119 => ?_)
                        · have hf := ite_t hf c_119
                          refine lv_iconst (v := 0) hx hb dL_areAnswers_349 (by decide) ?_
                          cases hf
                          exact K_117 _ _ hP hD hS _ (lv_sub hl [0, 1, 2, 3, 4, 5, 6, 8] rfl)
                        · have hf := ite_f hf c_119
                          refine lv_iconst (v := 1) hx hb dL_areAnswers_345 (by decide) ?_
                          refine lv_goto (tgt := 350) hx hb dL_areAnswers_346 (by decide) ?_
                          cases hf
                          exact K_117 _ _ hP hD hS _ (lv_sub hl [0, 1, 2, 3, 4, 5, 6, 8] rfl)
                  have hf := q_112
                  refine lv_if_le (tgt := 329) hx hb dL_areAnswers_322 (by decide) (fun c_113 => ?_) (fun c_113 => ?_)
                  · have hf := ite_t hf c_113
                    refine lv_iconst (v := 0) hx hb dL_areAnswers_329 (by decide) ?_
                    cases hf
                    exact K_111 _ _ hP hD hS _ (lv_sub hl [0, 1, 2, 3, 4, 5, 6, 7, 8] rfl)
                  · have hf := ite_f hf c_113
                    refine lv_iconst (v := 1) hx hb dL_areAnswers_325 (by decide) ?_
                    refine lv_goto (tgt := 330) hx hb dL_areAnswers_326 (by decide) ?_
                    cases hf
                    exact K_111 _ _ hP hD hS _ (lv_sub hl [0, 1, 2, 3, 4, 5, 6, 7, 8] rfl)
                have hf := q_108
                refine lv_icmp_ne (tgt := 319) hx hb dL_areAnswers_312 (by decide) (fun c_109 => ?_) (fun c_109 => ?_)
                · have hf := ite_f hf c_109
                  refine lv_iconst (v := 0) hx hb dL_areAnswers_319 (by decide) ?_
                  cases hf
                  exact K_107 _ _ hP hD hS _ (lv_sub hl [0, 1, 2, 3, 5, 6, 7, 8, 9] rfl)
                · have hf := ite_t hf c_109
                  refine lv_iconst (v := 1) hx hb dL_areAnswers_315 (by decide) ?_
                  refine lv_goto (tgt := 320) hx hb dL_areAnswers_316 (by decide) ?_
                  cases hf
                  exact K_107 _ _ hP hD hS _ (lv_sub hl [0, 1, 2, 3, 5, 6, 7, 8, 9] rfl)
            have hf := q_100
            refine lv_icmp_ne (tgt := 299) hx hb dL_areAnswers_292 (by decide) (fun c_101 => ?_) (fun c_101 => ?_)
            · have hf := ite_f hf c_101
              refine lv_iconst (v := 0) hx hb dL_areAnswers_299 (by decide) ?_
              cases hf
              exact K_99 _ _ hP hD hS _ (lv_sub hl [0, 1, 2, 3, 4, 5, 6, 7, 8, 9] rfl)
            · have hf := ite_t hf c_101
              refine lv_iconst (v := 1) hx hb dL_areAnswers_295 (by decide) ?_
              refine lv_goto (tgt := 300) hx hb dL_areAnswers_296 (by decide) ?_
              cases hf
              exact K_99 _ _ hP hD hS _ (lv_sub hl [0, 1, 2, 3, 4, 5, 6, 7, 8, 9] rfl)
          have hf := q_96
          refine lv_icmp_ne (tgt := 287) hx hb dL_areAnswers_280 (by decide) (fun c_97 => ?_) (fun c_97 => ?_)
          · have hf := ite_f hf c_97
            refine lv_iconst (v := 0) hx hb dL_areAnswers_287 (by decide) ?_
            cases hf
            exact K_95 _ _ hP hD hS _ (lv_sub hl [1, 2, 3, 4, 5, 6, 7, 8, 9, 10] rfl)
          · have hf := ite_t hf c_97
            refine lv_iconst (v := 1) hx hb dL_areAnswers_283 (by decide) ?_
            refine lv_goto (tgt := 288) hx hb dL_areAnswers_284 (by decide) ?_
            cases hf
            exact K_95 _ _ hP hD hS _ (lv_sub hl [1, 2, 3, 4, 5, 6, 7, 8, 9, 10] rfl)
  have hf := q_25
  refine lv_if_lt (tgt := 251) hx hb dL_areAnswers_66 (by decide) (fun c_26 => ?_) (fun c_26 => ?_)
  · have hf := ite_t hf c_26
    refine lv_iconst (v := 0) hx hb dL_areAnswers_251 (by decide) ?_
    cases hf
    exact K_24 _ _ hP hD hS _ (lv_sub hl [7, 8, 9, 10, 11, 6, 5, 2, 1, 0] rfl)
  · have hf := ite_f hf c_26
    refine lv_iload hx hb dL_areAnswers_69 (lv_at hl 5 rfl) ?_
    refine lv_iload hx hb dL_areAnswers_71 (lv_at hl 6 rfl) ?_
    refine lv_icmp_gt (tgt := 251) hx hb dL_areAnswers_73 (by decide) (fun c_27 => ?_) (fun c_27 => ?_)
    · have hf := ite_t hf c_27
      refine lv_iconst (v := 0) hx hb dL_areAnswers_251 (by decide) ?_
      cases hf
      exact K_24 _ _ hP hD hS _ (lv_sub hl [7, 8, 9, 10, 11, 6, 5, 2, 1, 0] rfl)
    · have hf := ite_f hf c_27
      refine lv_aload_n hx hb dL_areAnswers_76 rfl (lv_at hl 7 rfl) ?_
      refine lv_iload_n hx hb dL_areAnswers_77 rfl (lv_at hl 9 rfl) ?_
      refine lv_iload_n hx hb dL_areAnswers_78 rfl (lv_at hl 10 rfl) ?_
      refine lv_iconst (v := 0) hx hb dL_areAnswers_79 (by decide) ?_
      obtain ⟨⟨r_28, u_29⟩, q_30, hf⟩ := bnd hf
      refine mGoiS (segs := [(FS cI cC cT a u_20), (FS cI cC cT b v)]) (wcs := [(FS cI cC cT a u_20)]) (w1s := [(FS cI cC cT a u_29)]) (w2s := [(FS cI cC cT a u_29), (FS cI cC cT b v)]) flat1 flat1 (va_runV (As := [.int p2, .int p3, .int 0]) (rest := []) ⟨hx, hb, hml, hown, hts⟩ (c_Y5_way l D cI cC cT a u_20 H.size p2 p3 0 r_28 u_29 q_30) (cwV 3 hts gL_areAnswers_X5_way rfl rfl rfl (by decide +kernel) ⟨Nat.le_of_ble_eq_true rfl, Nat.le_of_ble_eq_true rfl⟩) (mPreVS [(FS cI cC cT a u_20)] flat1 hP hD hK hN [0] rfl (by decide) (va_recv hK (sP hP 0 rfl) (ci := 5) (q0 := 0) rfl (FS0 cI cC cT a u_20))) rfl rfl hl.1 rfl (lv_room (Nat.le_of_ble_eq_true rfl)) dL_areAnswers_80 ⟨Nat.le_of_ble_eq_true rfl, Nat.le_of_ble_eq_true rfl⟩) hP hD hS hA [0] rfl rfl rfl rfl (fun H locs hP hD hS => ?_)
      refine lv_iconst (v := 1) hx hb dL_areAnswers_83 (by decide) ?_
      obtain ⟨x_31, q_33, hf⟩ := bnd hf
      have K_32 : ∀ (H : Heap) (locs : List Loc), va_P D vwCl (List.flatten [(FS cI cC cT a u_29), (FS cI cC cT b v)]) H → va_D A (List.flatten [(FS cI cC cT a u_29), (FS cI cC cT b v)]) → va_S A s.heap H locs → ∀ (ls : Array Slot), lv_has ls 15 [(0, .ref (a 0)), (1, .ref (b 0)), (2, .int p2), (3, .int p3), (4, .int p4), (5, .int r_1), (6, .int r_4), (7, .int r_7), (8, .int r_10), (9, .int r_13), (10, .int r_16), (11, .int r_19)] → W p l e rm_L_areAnswers s m ([.ref (a 0), .ref (b 0), .int p2, .int p3, .int p4] : List Value).toArray below meth c H locs 0 0 (MQ below (mQi D (mTY cI cC cT) out A (List.flatten [(FS cI cC cT a o_u), (FS cI cC cT b o_v)])) ([.ref (a 0), .ref (b 0), .int p2, .int p3, .int p4] : List Value).toArray s 0 0 A) (F0 m 92 ls [.int x_31]) := by
        intro H locs hP hD hS ls hl
        refine lv_iload hx hb dL_areAnswers_92 (lv_at hl 6 rfl) ?_
        refine lv_iload hx hb dL_areAnswers_94 (lv_at hl 5 rfl) ?_
        obtain ⟨x_35, q_37, hf⟩ := bnd hf
        have K_36 : ∀ (H : Heap) (locs : List Loc), va_P D vwCl (List.flatten [(FS cI cC cT a u_29), (FS cI cC cT b v)]) H → va_D A (List.flatten [(FS cI cC cT a u_29), (FS cI cC cT b v)]) → va_S A s.heap H locs → ∀ (ls : Array Slot), lv_has ls 15 [(0, .ref (a 0)), (1, .ref (b 0)), (2, .int p2), (3, .int p3), (4, .int p4), (5, .int r_1), (6, .int r_4), (7, .int r_7), (8, .int r_10), (9, .int r_13), (10, .int r_16), (11, .int r_19)] → W p l e rm_L_areAnswers s m ([.ref (a 0), .ref (b 0), .int p2, .int p3, .int p4] : List Value).toArray below meth c H locs 0 0 (MQ below (mQi D (mTY cI cC cT) out A (List.flatten [(FS cI cC cT a o_u), (FS cI cC cT b o_v)])) ([.ref (a 0), .ref (b 0), .int p2, .int p3, .int p4] : List Value).toArray s 0 0 A) (F0 m 104 ls [.int x_35, .int x_31]) := by
          intro H locs hP hD hS ls hl
          refine lv_icmp_ne (tgt := 251) hx hb dL_areAnswers_104 (by decide) (fun c_39 => ?_) (fun c_39 => ?_)
          · have hf := ite_f hf c_39
            refine lv_iconst (v := 0) hx hb dL_areAnswers_251 (by decide) ?_
            cases hf
            exact K_24 _ _ hP hD hS _ (lv_sub hl [0, 1, 2, 3, 4, 5, 6, 9, 10, 11] rfl)
          · have hf := ite_t hf c_39
            refine lv_aload_n hx hb dL_areAnswers_107 rfl (lv_at hl 0 rfl) ?_
            refine lv_iload_n hx hb dL_areAnswers_108 rfl (lv_at hl 2 rfl) ?_
            refine lv_iload_n hx hb dL_areAnswers_109 rfl (lv_at hl 3 rfl) ?_
            refine lv_iconst (v := 1) hx hb dL_areAnswers_110 (by decide) ?_
            obtain ⟨⟨r_40, u_41⟩, q_42, hf⟩ := bnd hf
            refine mGoiS (segs := [(FS cI cC cT a u_29), (FS cI cC cT b v)]) (wcs := [(FS cI cC cT a u_29)]) (w1s := [(FS cI cC cT a u_41)]) (w2s := [(FS cI cC cT a u_41), (FS cI cC cT b v)]) flat1 flat1 (va_runV (As := [.int p2, .int p3, .int 1]) (rest := []) ⟨hx, hb, hml, hown, hts⟩ (c_Y5_way l D cI cC cT a u_29 H.size p2 p3 1 r_40 u_41 q_42) (cwV 3 hts gL_areAnswers_X5_way rfl rfl rfl (by decide +kernel) ⟨Nat.le_of_ble_eq_true rfl, Nat.le_of_ble_eq_true rfl⟩) (mPreVS [(FS cI cC cT a u_29)] flat1 hP hD hK hN [0] rfl (by decide) (va_recv hK (sP hP 0 rfl) (ci := 5) (q0 := 0) rfl (FS0 cI cC cT a u_29))) rfl rfl hl.1 rfl (lv_room (Nat.le_of_ble_eq_true rfl)) dL_areAnswers_111 ⟨Nat.le_of_ble_eq_true rfl, Nat.le_of_ble_eq_true rfl⟩) hP hD hS hA [0] rfl rfl rfl rfl (fun H locs hP hD hS => ?_)
            refine lv_iconst (v := 1) hx hb dL_areAnswers_114 (by decide) ?_
            obtain ⟨x_43, q_45, hf⟩ := bnd hf
            have K_44 : ∀ (H : Heap) (locs : List Loc), va_P D vwCl (List.flatten [(FS cI cC cT a u_41), (FS cI cC cT b v)]) H → va_D A (List.flatten [(FS cI cC cT a u_41), (FS cI cC cT b v)]) → va_S A s.heap H locs → ∀ (ls : Array Slot), lv_has ls 15 [(0, .ref (a 0)), (1, .ref (b 0)), (2, .int p2), (3, .int p3), (4, .int p4), (5, .int r_1), (6, .int r_4), (7, .int r_7), (8, .int r_10), (9, .int r_13), (10, .int r_16), (11, .int r_19)] → W p l e rm_L_areAnswers s m ([.ref (a 0), .ref (b 0), .int p2, .int p3, .int p4] : List Value).toArray below meth c H locs 0 0 (MQ below (mQi D (mTY cI cC cT) out A (List.flatten [(FS cI cC cT a o_u), (FS cI cC cT b o_v)])) ([.ref (a 0), .ref (b 0), .int p2, .int p3, .int p4] : List Value).toArray s 0 0 A) (F0 m 123 ls [.int x_43]) := by
              intro H locs hP hD hS ls hl
              refine lv_iload hx hb dL_areAnswers_123 (lv_at hl 6 rfl) ?_
              obtain ⟨x_47, q_49, hf⟩ := bnd hf
              have K_48 : ∀ (H : Heap) (locs : List Loc), va_P D vwCl (List.flatten [(FS cI cC cT a u_41), (FS cI cC cT b v)]) H → va_D A (List.flatten [(FS cI cC cT a u_41), (FS cI cC cT b v)]) → va_S A s.heap H locs → ∀ (ls : Array Slot), lv_has ls 15 [(0, .ref (a 0)), (1, .ref (b 0)), (2, .int p2), (3, .int p3), (4, .int p4), (5, .int r_1), (6, .int r_4), (7, .int r_7), (8, .int r_10), (9, .int r_13), (10, .int r_16), (11, .int r_19)] → W p l e rm_L_areAnswers s m ([.ref (a 0), .ref (b 0), .int p2, .int p3, .int p4] : List Value).toArray below meth c H locs 0 0 (MQ below (mQi D (mTY cI cC cT) out A (List.flatten [(FS cI cC cT a o_u), (FS cI cC cT b o_v)])) ([.ref (a 0), .ref (b 0), .int p2, .int p3, .int p4] : List Value).toArray s 0 0 A) (F0 m 133 ls [.int x_47, .int x_43]) := by
                intro H locs hP hD hS ls hl
                refine lv_icmp_ne (tgt := 251) hx hb dL_areAnswers_133 (by decide) (fun c_51 => ?_) (fun c_51 => ?_)
                · have hf := ite_f hf c_51
                  refine lv_iconst (v := 0) hx hb dL_areAnswers_251 (by decide) ?_
                  cases hf
                  exact K_24 _ _ hP hD hS _ (lv_sub hl [0, 1, 2, 3, 4, 5, 6, 9, 10, 11] rfl)
                · have hf := ite_t hf c_51
                  refine lv_iload hx hb dL_areAnswers_136 (lv_at hl 7 rfl) ?_
                  refine lv_bipush (v := -5) hx hb dL_areAnswers_138 (by decide) ?_
                  obtain ⟨x_52, q_54, hf⟩ := bnd hf
                  have K_53 : ∀ (H : Heap) (locs : List Loc), va_P D vwCl (List.flatten [(FS cI cC cT a u_41), (FS cI cC cT b v)]) H → va_D A (List.flatten [(FS cI cC cT a u_41), (FS cI cC cT b v)]) → va_S A s.heap H locs → ∀ (ls : Array Slot), lv_has ls 15 [(0, .ref (a 0)), (1, .ref (b 0)), (2, .int p2), (3, .int p3), (4, .int p4), (5, .int r_1), (6, .int r_4), (7, .int r_7), (8, .int r_10), (9, .int r_13), (10, .int r_16), (11, .int r_19)] → W p l e rm_L_areAnswers s m ([.ref (a 0), .ref (b 0), .int p2, .int p3, .int p4] : List Value).toArray below meth c H locs 0 0 (MQ below (mQi D (mTY cI cC cT) out A (List.flatten [(FS cI cC cT a o_u), (FS cI cC cT b o_v)])) ([.ref (a 0), .ref (b 0), .int p2, .int p3, .int p4] : List Value).toArray s 0 0 A) (F0 m 148 ls [.int x_52]) := by
                    intro H locs hP hD hS ls hl
                    refine lv_iload hx hb dL_areAnswers_148 (lv_at hl 6 rfl) ?_
                    refine lv_iload hx hb dL_areAnswers_150 (lv_at hl 5 rfl) ?_
                    obtain ⟨x_56, q_58, hf⟩ := bnd hf
                    have K_57 : ∀ (H : Heap) (locs : List Loc), va_P D vwCl (List.flatten [(FS cI cC cT a u_41), (FS cI cC cT b v)]) H → va_D A (List.flatten [(FS cI cC cT a u_41), (FS cI cC cT b v)]) → va_S A s.heap H locs → ∀ (ls : Array Slot), lv_has ls 15 [(0, .ref (a 0)), (1, .ref (b 0)), (2, .int p2), (3, .int p3), (4, .int p4), (5, .int r_1), (6, .int r_4), (7, .int r_7), (8, .int r_10), (9, .int r_13), (10, .int r_16), (11, .int r_19)] → W p l e rm_L_areAnswers s m ([.ref (a 0), .ref (b 0), .int p2, .int p3, .int p4] : List Value).toArray below meth c H locs 0 0 (MQ below (mQi D (mTY cI cC cT) out A (List.flatten [(FS cI cC cT a o_u), (FS cI cC cT b o_v)])) ([.ref (a 0), .ref (b 0), .int p2, .int p3, .int p4] : List Value).toArray s 0 0 A) (F0 m 160 ls [.int x_56, .int x_52]) := by
                      intro H locs hP hD hS ls hl
                      refine lv_icmp_ne (tgt := 251) hx hb dL_areAnswers_160 (by decide) (fun c_60 => ?_) (fun c_60 => ?_)
                      · have hf := ite_f hf c_60
                        refine lv_iconst (v := 0) hx hb dL_areAnswers_251 (by decide) ?_
                        cases hf
                        exact K_24 _ _ hP hD hS _ (lv_sub hl [0, 1, 2, 3, 4, 5, 6, 9, 10, 11] rfl)
                      · have hf := ite_t hf c_60
                        refine lv_iload hx hb dL_areAnswers_163 (lv_at hl 7 rfl) ?_
                        refine lv_iload hx hb dL_areAnswers_165 (lv_at hl 5 rfl) ?_
                        refine lv_icmp_ge (tgt := 251) hx hb dL_areAnswers_167 (by decide) (fun c_61 => ?_) (fun c_61 => ?_)
                        · have hf := ite_t hf c_61
                          refine lv_iconst (v := 0) hx hb dL_areAnswers_251 (by decide) ?_
                          cases hf
                          exact K_24 _ _ hP hD hS _ (lv_sub hl [0, 1, 2, 3, 4, 5, 6, 9, 10, 11] rfl)
                        · have hf := ite_f hf c_61
                          refine lv_iload hx hb dL_areAnswers_170 (lv_at hl 8 rfl) ?_
                          refine lv_bipush (v := -5) hx hb dL_areAnswers_172 (by decide) ?_
                          obtain ⟨x_62, q_64, hf⟩ := bnd hf
                          have K_63 : ∀ (H : Heap) (locs : List Loc), va_P D vwCl (List.flatten [(FS cI cC cT a u_41), (FS cI cC cT b v)]) H → va_D A (List.flatten [(FS cI cC cT a u_41), (FS cI cC cT b v)]) → va_S A s.heap H locs → ∀ (ls : Array Slot), lv_has ls 15 [(0, .ref (a 0)), (1, .ref (b 0)), (2, .int p2), (3, .int p3), (4, .int p4), (5, .int r_1), (6, .int r_4), (8, .int r_10), (9, .int r_13), (10, .int r_16), (11, .int r_19)] → W p l e rm_L_areAnswers s m ([.ref (a 0), .ref (b 0), .int p2, .int p3, .int p4] : List Value).toArray below meth c H locs 0 0 (MQ below (mQi D (mTY cI cC cT) out A (List.flatten [(FS cI cC cT a o_u), (FS cI cC cT b o_v)])) ([.ref (a 0), .ref (b 0), .int p2, .int p3, .int p4] : List Value).toArray s 0 0 A) (F0 m 182 ls [.int x_62]) := by
                            intro H locs hP hD hS ls hl
                            refine lv_iload hx hb dL_areAnswers_182 (lv_at hl 6 rfl) ?_
                            obtain ⟨x_66, q_68, hf⟩ := bnd hf
                            have K_67 : ∀ (H : Heap) (locs : List Loc), va_P D vwCl (List.flatten [(FS cI cC cT a u_41), (FS cI cC cT b v)]) H → va_D A (List.flatten [(FS cI cC cT a u_41), (FS cI cC cT b v)]) → va_S A s.heap H locs → ∀ (ls : Array Slot), lv_has ls 15 [(0, .ref (a 0)), (1, .ref (b 0)), (2, .int p2), (3, .int p3), (4, .int p4), (5, .int r_1), (6, .int r_4), (8, .int r_10), (9, .int r_13), (10, .int r_16), (11, .int r_19)] → W p l e rm_L_areAnswers s m ([.ref (a 0), .ref (b 0), .int p2, .int p3, .int p4] : List Value).toArray below meth c H locs 0 0 (MQ below (mQi D (mTY cI cC cT) out A (List.flatten [(FS cI cC cT a o_u), (FS cI cC cT b o_v)])) ([.ref (a 0), .ref (b 0), .int p2, .int p3, .int p4] : List Value).toArray s 0 0 A) (F0 m 192 ls [.int x_66, .int x_62]) := by
                              intro H locs hP hD hS ls hl
                              refine lv_icmp_ne (tgt := 251) hx hb dL_areAnswers_192 (by decide) (fun c_70 => ?_) (fun c_70 => ?_)
                              · have hf := ite_f hf c_70
                                refine lv_iconst (v := 0) hx hb dL_areAnswers_251 (by decide) ?_
                                cases hf
                                exact K_24 _ _ hP hD hS _ (lv_sub hl [0, 1, 2, 3, 4, 5, 6, 8, 9, 10] rfl)
                              · have hf := ite_t hf c_70
                                refine lv_iload hx hb dL_areAnswers_195 (lv_at hl 7 rfl) ?_
                                refine lv_bipush (v := 9) hx hb dL_areAnswers_197 (by decide) ?_
                                refine lv_icmp_gt (tgt := 251) hx hb dL_areAnswers_199 (by decide) (fun c_71 => ?_) (fun c_71 => ?_)
                                · have hf := ite_t hf c_71
                                  refine lv_iconst (v := 0) hx hb dL_areAnswers_251 (by decide) ?_
                                  cases hf
                                  exact K_24 _ _ hP hD hS _ (lv_sub hl [0, 1, 2, 3, 4, 5, 6, 8, 9, 10] rfl)
                                · have hf := ite_f hf c_71
                                  refine lv_iload_n hx hb dL_areAnswers_202 rfl (lv_at hl 2 rfl) ?_
                                  refine lv_iload_n hx hb dL_areAnswers_203 rfl (lv_at hl 3 rfl) ?_
                                  refine lv_icmp_ne (tgt := 237) hx hb dL_areAnswers_204 (by decide) (fun c_72 => ?_) (fun c_72 => ?_)
                                  · have hf := ite_f hf c_72
                                    refine lv_iload_n hx hb dL_areAnswers_237 rfl (lv_at hl 2 rfl) ?_
                                    refine lv_iload_n hx hb dL_areAnswers_238 rfl (lv_at hl 3 rfl) ?_
                                    refine lv_icmp_eq (tgt := 247) hx hb dL_areAnswers_239 (by decide) (fun c => absurd c c_72) (fun _ => ?_)
                                    refine lv_iload hx hb dL_areAnswers_242 (lv_at hl 7 rfl) ?_
                                    refine lv_if_eq (tgt := 251) hx hb dL_areAnswers_244 (by decide) (fun c_73 => ?_) (fun c_73 => ?_)
                                    · have hf := ite_t hf c_73
                                      refine lv_iconst (v := 0) hx hb dL_areAnswers_251 (by decide) ?_
                                      cases hf
                                      exact K_24 _ _ hP hD hS _ (lv_sub hl [0, 1, 2, 3, 4, 5, 6, 8, 9, 10] rfl)
                                    · have hf := ite_f hf c_73
                                      refine lv_iconst (v := 1) hx hb dL_areAnswers_247 (by decide) ?_
                                      refine lv_goto (tgt := 252) hx hb dL_areAnswers_248 (by decide) ?_
                                      cases hf
                                      exact K_24 _ _ hP hD hS _ (lv_sub hl [0, 1, 2, 3, 4, 5, 6, 8, 9, 10] rfl)
                                  · have hf := ite_t hf c_72
                                    refine lv_iload hx hb dL_areAnswers_207 (lv_at hl 6 rfl) ?_
                                    refine lv_aload_n hx hb dL_areAnswers_209 rfl (lv_at hl 0 rfl) ?_
                                    refine lv_iload_n hx hb dL_areAnswers_210 rfl (lv_at hl 2 rfl) ?_
                                    refine lv_iconst (v := 0) hx hb dL_areAnswers_211 (by decide) ?_
                                    obtain ⟨⟨r_74, u_75⟩, q_76, hf⟩ := bnd hf
                                    refine mGoiS (segs := [(FS cI cC cT a u_41), (FS cI cC cT b v)]) (wcs := [(FS cI cC cT a u_41)]) (w1s := [(FS cI cC cT a u_75)]) (w2s := [(FS cI cC cT a u_75), (FS cI cC cT b v)]) flat1 flat1 (va_runV (As := [.int p2, .int 0]) (rest := [.int r_4]) ⟨hx, hb, hml, hown, hts⟩ (c_Y5_key l D cI cC cT a u_41 H.size p2 0 r_74 u_75 q_76) (cwV 2 hts gL_areAnswers_X5_key rfl rfl rfl (by decide +kernel) ⟨Nat.le_of_ble_eq_true rfl, Nat.le_of_ble_eq_true rfl⟩) (mPreVS [(FS cI cC cT a u_41)] flat1 hP hD hK hN [0] rfl (by decide) (va_recv hK (sP hP 0 rfl) (ci := 5) (q0 := 0) rfl (FS0 cI cC cT a u_41))) rfl rfl hl.1 rfl (lv_room (Nat.le_of_ble_eq_true rfl)) dL_areAnswers_212 ⟨Nat.le_of_ble_eq_true rfl, Nat.le_of_ble_eq_true rfl⟩) hP hD hS hA [0] rfl rfl rfl rfl (fun H locs hP hD hS => ?_)
                                    obtain ⟨x_77, q_79, hf⟩ := bnd hf
                                    have K_78 : ∀ (H : Heap) (locs : List Loc), va_P D vwCl (List.flatten [(FS cI cC cT a u_75), (FS cI cC cT b v)]) H → va_D A (List.flatten [(FS cI cC cT a u_75), (FS cI cC cT b v)]) → va_S A s.heap H locs → ∀ (ls : Array Slot), lv_has ls 15 [(0, .ref (a 0)), (1, .ref (b 0)), (2, .int p2), (3, .int p3), (4, .int p4), (5, .int r_1), (6, .int r_4), (8, .int r_10), (9, .int r_13), (10, .int r_16), (11, .int r_19)] → W p l e rm_L_areAnswers s m ([.ref (a 0), .ref (b 0), .int p2, .int p3, .int p4] : List Value).toArray below meth c H locs 0 0 (MQ below (mQi D (mTY cI cC cT) out A (List.flatten [(FS cI cC cT a o_u), (FS cI cC cT b o_v)])) ([.ref (a 0), .ref (b 0), .int p2, .int p3, .int p4] : List Value).toArray s 0 0 A) (F0 m 224 ls [.int x_77, .int r_4]) := by
                                      intro H locs hP hD hS ls hl
                                      refine lv_icmp_ne (tgt := 251) hx hb dL_areAnswers_224 (by decide) (fun c_81 => ?_) (fun c_81 => ?_)
                                      · have hf := ite_f hf c_81
                                        refine lv_iconst (v := 0) hx hb dL_areAnswers_251 (by decide) ?_
                                        cases hf
                                        exact K_24 _ _ hP hD hS _ (lv_sub hl [0, 1, 2, 3, 4, 5, 6, 8, 9, 10] rfl)
                                      · have hf := ite_t hf c_81
                                        refine lv_iload hx hb dL_areAnswers_227 (lv_at hl 6 rfl) ?_
                                        refine lv_if_eq (tgt := 237) hx hb dL_areAnswers_229 (by decide) (fun c_82 => ?_) (fun c_82 => ?_)
                                        · have hf := ite_t hf c_82
                                          refine lv_iload_n hx hb dL_areAnswers_237 rfl (lv_at hl 2 rfl) ?_
                                          refine lv_iload_n hx hb dL_areAnswers_238 rfl (lv_at hl 3 rfl) ?_
                                          refine lv_icmp_eq (tgt := 247) hx hb dL_areAnswers_239 (by decide) (fun _ => ?_) (fun c => absurd c_72 c)
                                          refine lv_iconst (v := 1) hx hb dL_areAnswers_247 (by decide) ?_
                                          refine lv_goto (tgt := 252) hx hb dL_areAnswers_248 (by decide) ?_
                                          cases hf
                                          exact K_24 _ _ hP hD hS _ (lv_sub hl [0, 1, 2, 3, 4, 5, 6, 8, 9, 10] rfl)
                                        · have hf := ite_f hf c_82
                                          refine lv_iload hx hb dL_areAnswers_232 (lv_at hl 7 rfl) ?_
                                          refine lv_if_ne (tgt := 251) hx hb dL_areAnswers_234 (by decide) (fun c_83 => ?_) (fun c_83 => ?_)
                                          · have hf := ite_f hf c_83
                                            refine lv_iconst (v := 0) hx hb dL_areAnswers_251 (by decide) ?_
                                            cases hf
                                            exact K_24 _ _ hP hD hS _ (lv_sub hl [0, 1, 2, 3, 4, 5, 6, 8, 9, 10] rfl)
                                          · have hf := ite_t hf c_83
                                            refine lv_iload_n hx hb dL_areAnswers_237 rfl (lv_at hl 2 rfl) ?_
                                            refine lv_iload_n hx hb dL_areAnswers_238 rfl (lv_at hl 3 rfl) ?_
                                            refine lv_icmp_eq (tgt := 247) hx hb dL_areAnswers_239 (by decide) (fun _ => ?_) (fun c => absurd c_72 c)
                                            refine lv_iconst (v := 1) hx hb dL_areAnswers_247 (by decide) ?_
                                            refine lv_goto (tgt := 252) hx hb dL_areAnswers_248 (by decide) ?_
                                            cases hf
                                            exact K_24 _ _ hP hD hS _ (lv_sub hl [0, 1, 2, 3, 4, 5, 6, 8, 9, 10] rfl)
                                    have hf := q_79
                                    refine lv_if_le (tgt := 223) hx hb dL_areAnswers_215 (by decide) (fun c_80 => ?_) (fun c_80 => ?_)
                                    · have hf := ite_t hf c_80
                                      refine lv_iconst (v := 0) hx hb dL_areAnswers_223 (by decide) ?_
                                      cases hf
                                      exact K_78 _ _ hP hD hS _ (lv_sub hl [0, 1, 2, 3, 4, 5, 6, 7, 8, 9, 10] rfl)
                                    · have hf := ite_f hf c_80
                                      refine lv_iload hx hb dL_areAnswers_218 (lv_at hl 5 rfl) ?_
                                      refine lv_goto (tgt := 224) hx hb dL_areAnswers_220 (by decide) ?_
                                      cases hf
                                      exact K_78 _ _ hP hD hS _ (lv_sub hl [0, 1, 2, 3, 4, 5, 6, 7, 8, 9, 10] rfl)
                            have hf := q_68
                            refine lv_if_ne (tgt := 191) hx hb dL_areAnswers_184 (by decide) (fun c_69 => ?_) (fun c_69 => ?_)
                            · have hf := ite_f hf c_69
                              refine lv_iconst (v := 0) hx hb dL_areAnswers_191 (by decide) ?_
                              cases hf
                              exact K_67 _ _ hP hD hS _ (lv_sub hl [0, 1, 2, 3, 4, 5, 6, 7, 8, 9, 10] rfl)
                            · have hf := ite_t hf c_69
                              refine lv_iconst (v := 1) hx hb dL_areAnswers_187 (by decide) ?_
                              refine lv_goto (tgt := 192) hx hb dL_areAnswers_188 (by decide) ?_
                              cases hf
                              exact K_67 _ _ hP hD hS _ (lv_sub hl [0, 1, 2, 3, 4, 5, 6, 7, 8, 9, 10] rfl)
                          have hf := q_64
                          refine lv_icmp_ne (tgt := 181) hx hb dL_areAnswers_174 (by decide) (fun c_65 => ?_) (fun c_65 => ?_)
                          · have hf := ite_f hf c_65
                            refine lv_iconst (v := 0) hx hb dL_areAnswers_181 (by decide) ?_
                            cases hf
                            exact K_63 _ _ hP hD hS _ (lv_sub hl [0, 1, 2, 3, 4, 5, 6, 8, 9, 10, 11] rfl)
                          · have hf := ite_t hf c_65
                            refine lv_iconst (v := 1) hx hb dL_areAnswers_177 (by decide) ?_
                            refine lv_goto (tgt := 182) hx hb dL_areAnswers_178 (by decide) ?_
                            cases hf
                            exact K_63 _ _ hP hD hS _ (lv_sub hl [0, 1, 2, 3, 4, 5, 6, 8, 9, 10, 11] rfl)
                    have hf := q_58
                    refine lv_icmp_ne (tgt := 159) hx hb dL_areAnswers_152 (by decide) (fun c_59 => ?_) (fun c_59 => ?_)
                    · have hf := ite_f hf c_59
                      refine lv_iconst (v := 0) hx hb dL_areAnswers_159 (by decide) ?_
                      cases hf
                      exact K_57 _ _ hP hD hS _ (lv_sub hl [0, 1, 2, 3, 4, 5, 6, 7, 8, 9, 10, 11] rfl)
                    · have hf := ite_t hf c_59
                      refine lv_iconst (v := 1) hx hb dL_areAnswers_155 (by decide) ?_
                      refine lv_goto (tgt := 160) hx hb dL_areAnswers_156 (by decide) ?_
                      cases hf
                      exact K_57 _ _ hP hD hS _ (lv_sub hl [0, 1, 2, 3, 4, 5, 6, 7, 8, 9, 10, 11] rfl)
                  have hf := q_54
                  refine lv_icmp_ne (tgt := 147) hx hb dL_areAnswers_140 (by decide) (fun c_55 => ?_) (fun c_55 => ?_)
                  · have hf := ite_f hf c_55
                    refine lv_iconst (v := 0) hx hb dL_areAnswers_147 (by decide) ?_
                    cases hf
                    exact K_53 _ _ hP hD hS _ (lv_sub hl [0, 1, 2, 3, 4, 5, 6, 7, 8, 9, 10, 11] rfl)
                  · have hf := ite_t hf c_55
                    refine lv_iconst (v := 1) hx hb dL_areAnswers_143 (by decide) ?_
                    refine lv_goto (tgt := 148) hx hb dL_areAnswers_144 (by decide) ?_
                    cases hf
                    exact K_53 _ _ hP hD hS _ (lv_sub hl [0, 1, 2, 3, 4, 5, 6, 7, 8, 9, 10, 11] rfl)
              have hf := q_49
              refine lv_if_le (tgt := 132) hx hb dL_areAnswers_125 (by decide) (fun c_50 => ?_) (fun c_50 => ?_)
              · have hf := ite_t hf c_50
                refine lv_iconst (v := 0) hx hb dL_areAnswers_132 (by decide) ?_
                cases hf
                exact K_48 _ _ hP hD hS _ (lv_sub hl [0, 1, 2, 3, 4, 5, 6, 7, 8, 9, 10, 11] rfl)
              · have hf := ite_f hf c_50
                refine lv_iconst (v := 1) hx hb dL_areAnswers_128 (by decide) ?_
                refine lv_goto (tgt := 133) hx hb dL_areAnswers_129 (by decide) ?_
                cases hf
                exact K_48 _ _ hP hD hS _ (lv_sub hl [0, 1, 2, 3, 4, 5, 6, 7, 8, 9, 10, 11] rfl)
            have hf := q_45
            refine lv_icmp_ne (tgt := 122) hx hb dL_areAnswers_115 (by decide) (fun c_46 => ?_) (fun c_46 => ?_)
            · have hf := ite_f hf c_46
              refine lv_iconst (v := 0) hx hb dL_areAnswers_122 (by decide) ?_
              cases hf
              exact K_44 _ _ hP hD hS _ (lv_sub hl [0, 1, 2, 3, 4, 5, 6, 7, 8, 9, 10, 11] rfl)
            · have hf := ite_t hf c_46
              refine lv_iconst (v := 1) hx hb dL_areAnswers_118 (by decide) ?_
              refine lv_goto (tgt := 123) hx hb dL_areAnswers_119 (by decide) ?_
              cases hf
              exact K_44 _ _ hP hD hS _ (lv_sub hl [0, 1, 2, 3, 4, 5, 6, 7, 8, 9, 10, 11] rfl)
        have hf := q_37
        refine lv_icmp_ne (tgt := 103) hx hb dL_areAnswers_96 (by decide) (fun c_38 => ?_) (fun c_38 => ?_)
        · have hf := ite_f hf c_38
          refine lv_iconst (v := 0) hx hb dL_areAnswers_103 (by decide) ?_
          cases hf
          exact K_36 _ _ hP hD hS _ (lv_sub hl [0, 1, 2, 3, 4, 5, 6, 7, 8, 9, 10, 11] rfl)
        · have hf := ite_t hf c_38
          refine lv_iconst (v := 1) hx hb dL_areAnswers_99 (by decide) ?_
          refine lv_goto (tgt := 104) hx hb dL_areAnswers_100 (by decide) ?_
          cases hf
          exact K_36 _ _ hP hD hS _ (lv_sub hl [0, 1, 2, 3, 4, 5, 6, 7, 8, 9, 10, 11] rfl)
      have hf := q_33
      refine lv_icmp_ne (tgt := 91) hx hb dL_areAnswers_84 (by decide) (fun c_34 => ?_) (fun c_34 => ?_)
      · have hf := ite_f hf c_34
        refine lv_iconst (v := 0) hx hb dL_areAnswers_91 (by decide) ?_
        cases hf
        exact K_32 _ _ hP hD hS _ (lv_sub hl [7, 8, 9, 10, 11, 6, 5, 4, 3, 2, 1, 0] rfl)
      · have hf := ite_t hf c_34
        refine lv_iconst (v := 1) hx hb dL_areAnswers_87 (by decide) ?_
        refine lv_goto (tgt := 92) hx hb dL_areAnswers_88 (by decide) ?_
        cases hf
        exact K_32 _ _ hP hD hS _ (lv_sub hl [7, 8, 9, 10, 11, 6, 5, 4, 3, 2, 1, 0] rfl)
