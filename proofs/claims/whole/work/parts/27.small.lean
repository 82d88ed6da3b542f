abbrev rm_X1_slotAt_0 : Room := { frames := 0, cells := 0, slots := 0, locals := 0 }
set_option maxHeartbeats 4000000 in
set_option maxRecDepth 100000 in
theorem c_X1_slotAt_0 (l : Launch) (D : va_G) (cI cC cT : ClassId) (h0 h1 h2 h3 h4 h5 h6 h7 h8 h9 h10 h11 h12 h13 h14 h15 h16 h17 h18 h19 h20 h21 : Nat) (nx : Int32) (nz : Int32) (h0nr : Int32) (h0pf : Int32) (h0ks : Nat → Int32) (h0vs : Nat → Int32) (h0wg : Nat → Int32) (h0ts : Nat → Int32) (h1nr : Int32) (h1pf : Int32) (h1ks : Nat → Int32) (h1vs : Nat → Int32) (h1wg : Nat → Int32) (h1ts : Nat → Int32) (h2nr : Int32) (h2pf : Int32) (h2ks : Nat → Int32) (h2vs : Nat → Int32) (h2wg : Nat → Int32) (h2ts : Nat → Int32) (h3nr : Int32) (h3pf : Int32) (h3ks : Nat → Int32) (h3vs : Nat → Int32) (h3wg : Nat → Int32) (h3ts : Nat → Int32) (sz : Nat) (hf : f_X1_slotAt_0 = some (())) : Met l yX1_slotAt wsX1_slotAt rm_X1_slotAt_0 (mP D (mTY cI cC cT) [.ref h0, .int 0] (List.flatten [(W_Hh cI cC cT h0 h1 h2 h7 h12 h17 nx nz), (W_T cI cC cT h2 h3 h4 h5 h6 h0nr h0pf h0ks h0vs h0wg h0ts), (W_T cI cC cT h7 h8 h9 h10 h11 h1nr h1pf h1ks h1vs h1wg h1ts), (W_T cI cC cT h12 h13 h14 h15 h16 h2nr h2pf h2ks h2vs h2wg h2ts), (W_T cI cC cT h17 h18 h19 h20 h21 h3nr h3pf h3ks h3vs h3wg h3ts)]) sz) (mQr D (mTY cI cC cT) h2 (va_A (List.flatten [(W_Hh cI cC cT h0 h1 h2 h7 h12 h17 nx nz), (W_T cI cC cT h2 h3 h4 h5 h6 h0nr h0pf h0ks h0vs h0wg h0ts), (W_T cI cC cT h7 h8 h9 h10 h11 h1nr h1pf h1ks h1vs h1wg h1ts), (W_T cI cC cT h12 h13 h14 h15 h16 h2nr h2pf h2ks h2vs h2wg h2ts), (W_T cI cC cT h17 h18 h19 h20 h21 h3nr h3pf h3ks h3vs h3wg h3ts)]) sz) (List.flatten [(W_Hh cI cC cT h0 h1 h2 h7 h12 h17 nx nz), (W_T cI cC cT h2 h3 h4 h5 h6 h0nr h0pf h0ks h0vs h0wg h0ts), (W_T cI cC cT h7 h8 h9 h10 h11 h1nr h1pf h1ks h1vs h1wg h1ts), (W_T cI cC cT h12 h13 h14 h15 h16 h2nr h2pf h2ks h2vs h2wg h2ts), (W_T cI cC cT h17 h18 h19 h20 h21 h3nr h3pf h3ks h3vs h3wg h3ts)])) 0 0 (va_A (List.flatten [(W_Hh cI cC cT h0 h1 h2 h7 h12 h17 nx nz), (W_T cI cC cT h2 h3 h4 h5 h6 h0nr h0pf h0ks h0vs h0wg h0ts), (W_T cI cC cT h7 h8 h9 h10 h11 h1nr h1pf h1ks h1vs h1wg h1ts), (W_T cI cC cT h12 h13 h14 h15 h16 h2nr h2pf h2ks h2vs h2wg h2ts), (W_T cI cC cT h17 h18 h19 h20 h21 h3nr h3pf h3ks h3vs h3wg h3ts)]) sz) := by
  refine mEnt (cc := cX1_slotAt) (maxL := 2) (ret := (some (.object "SureMendings$Table"))) (own := RX1) (Qq := fun A => mQr D (mTY cI cC cT) h2 A (List.flatten [(W_Hh cI cC cT h0 h1 h2 h7 h12 h17 nx nz), (W_T cI cC cT h2 h3 h4 h5 h6 h0nr h0pf h0ks h0vs h0wg h0ts), (W_T cI cC cT h7 h8 h9 h10 h11 h1nr h1pf h1ks h1vs h1wg h1ts), (W_T cI cC cT h12 h13 h14 h15 h16 h2nr h2pf h2ks h2vs h2wg h2ts), (W_T cI cC cT h17 h18 h19 h20 h21 h3nr h3pf h3ks h3vs h3wg h3ts)])) (by decide) rfl rfl (Nat.le_of_ble_eq_true rfl) ?_
  intro p e s m below meth c A ls H locs hx hb hr hml hlocks hown hts hN hA hP hK hD hS hl
  have hin_X1 : ∀ w ∈ u_ws RX1 TX1 3, w ∈ wsX1_slotAt := by decide +kernel
  have fl_11 := hts (.fieldLink RX1 11 "SureMendings$History" "states" "[LSureMendings$Table;") (by decide +kernel)
  have hl : lv_has ls 2 [(0, .ref h0), (1, .int 0)] := hl
  unfold f_X1_slotAt_0 at hf
  refine lv_iload_n hx hb dX1_slotAt_0 rfl (lv_at hl 1 rfl) ?_
  refine lv_if_lt (tgt := 22) hx hb dX1_slotAt_1 (by decide) (fun c => absurd c (by decide)) (fun _ => ?_)
  refine lv_iload_n hx hb dX1_slotAt_4 rfl (lv_at hl 1 rfl) ?_
  refine lv_aload_n hx hb dX1_slotAt_5 rfl (lv_at hl 0 rfl) ?_
  refine va_get (D := D) (ci := 1) (v := .ref h1) (C := RX1) (T := TX1) (N := 3) hx hb hts hin_X1 hown hK hP 0 rfl rfl 0 (by decide) fl_11 (fun _ h9 => h9) rfl dX1_slotAt_6 ?_
  refine va_alen hx hb hK hP 1 2 rfl rfl (v := 4) rfl dX1_slotAt_9 ?_
  refine lv_icmp_ge (tgt := 22) hx hb dX1_slotAt_10 (by decide) (fun c => absurd c (by decide)) (fun _ => ?_)
  refine lv_aload_n hx hb dX1_slotAt_13 rfl (lv_at hl 0 rfl) ?_
  refine va_get (D := D) (ci := 1) (v := .ref h1) (C := RX1) (T := TX1) (N := 3) hx hb hts hin_X1 hown hK hP 0 rfl rfl 0 (by decide) fl_11 (fun _ h9 => h9) rfl dX1_slotAt_14 ?_
  refine lv_iload_n hx hb dX1_slotAt_17 rfl (lv_at hl 1 rfl) ?_
  refine va_aldq hx hb hK hP 1 2 rfl rfl (i := 0) (by unfold vp_in; decide) dX1_slotAt_18 ?_
  refine W.eq (g2 := F0 m 19 ls [.ref h2]) rfl ?_
  refine lv_goto (tgt := 23) hx hb dX1_slotAt_19 (by decide) ?_
  cases hf
  exact mAret hx hb hr hlocks hP hD hK hS dX1_slotAt_23
abbrev rm_X1_slotAt_1 : Room := { frames := 0, cells := 0, slots := 0, locals := 0 }
set_option maxHeartbeats 4000000 in
set_option maxRecDepth 100000 in
theorem c_X1_slotAt_1 (l : Launch) (D : va_G) (cI cC cT : ClassId) (h0 h1 h2 h3 h4 h5 h6 h7 h8 h9 h10 h11 h12 h13 h14 h15 h16 h17 h18 h19 h20 h21 : Nat) (nx : Int32) (nz : Int32) (h0nr : Int32) (h0pf : Int32) (h0ks : Nat → Int32) (h0vs : Nat → Int32) (h0wg : Nat → Int32) (h0ts : Nat → Int32) (h1nr : Int32) (h1pf : Int32) (h1ks : Nat → Int32) (h1vs : Nat → Int32) (h1wg : Nat → Int32) (h1ts : Nat → Int32) (h2nr : Int32) (h2pf : Int32) (h2ks : Nat → Int32) (h2vs : Nat → Int32) (h2wg : Nat → Int32) (h2ts : Nat → Int32) (h3nr : Int32) (h3pf : Int32) (h3ks : Nat → Int32) (h3vs : Nat → Int32) (h3wg : Nat → Int32) (h3ts : Nat → Int32) (sz : Nat) (hf : f_X1_slotAt_1 = some (())) : Met l yX1_slotAt wsX1_slotAt rm_X1_slotAt_1 (mP D (mTY cI cC cT) [.ref h0, .int 1] (List.flatten [(W_Hh cI cC cT h0 h1 h2 h7 h12 h17 nx nz), (W_T cI cC cT h2 h3 h4 h5 h6 h0nr h0pf h0ks h0vs h0wg h0ts), (W_T cI cC cT h7 h8 h9 h10 h11 h1nr h1pf h1ks h1vs h1wg h1ts), (W_T cI cC cT h12 h13 h14 h15 h16 h2nr h2pf h2ks h2vs h2wg h2ts), (W_T cI cC cT h17 h18 h19 h20 h21 h3nr h3pf h3ks h3vs h3wg h3ts)]) sz) (mQr D (mTY cI cC cT) h7 (va_A (List.flatten [(W_Hh cI cC cT h0 h1 h2 h7 h12 h17 nx nz), (W_T cI cC cT h2 h3 h4 h5 h6 h0nr h0pf h0ks h0vs h0wg h0ts), (W_T cI cC cT h7 h8 h9 h10 h11 h1nr h1pf h1ks h1vs h1wg h1ts), (W_T cI cC cT h12 h13 h14 h15 h16 h2nr h2pf h2ks h2vs h2wg h2ts), (W_T cI cC cT h17 h18 h19 h20 h21 h3nr h3pf h3ks h3vs h3wg h3ts)]) sz) (List.flatten [(W_Hh cI cC cT h0 h1 h2 h7 h12 h17 nx nz), (W_T cI cC cT h2 h3 h4 h5 h6 h0nr h0pf h0ks h0vs h0wg h0ts), (W_T cI cC cT h7 h8 h9 h10 h11 h1nr h1pf h1ks h1vs h1wg h1ts), (W_T cI cC cT h12 h13 h14 h15 h16 h2nr h2pf h2ks h2vs h2wg h2ts), (W_T cI cC cT h17 h18 h19 h20 h21 h3nr h3pf h3ks h3vs h3wg h3ts)])) 0 0 (va_A (List.flatten [(W_Hh cI cC cT h0 h1 h2 h7 h12 h17 nx nz), (W_T cI cC cT h2 h3 h4 h5 h6 h0nr h0pf h0ks h0vs h0wg h0ts), (W_T cI cC cT h7 h8 h9 h10 h11 h1nr h1pf h1ks h1vs h1wg h1ts), (W_T cI cC cT h12 h13 h14 h15 h16 h2nr h2pf h2ks h2vs h2wg h2ts), (W_T cI cC cT h17 h18 h19 h20 h21 h3nr h3pf h3ks h3vs h3wg h3ts)]) sz) := by
  refine mEnt (cc := cX1_slotAt) (maxL := 2) (ret := (some (.object "SureMendings$Table"))) (own := RX1) (Qq := fun A => mQr D (mTY cI cC cT) h7 A (List.flatten [(W_Hh cI cC cT h0 h1 h2 h7 h12 h17 nx nz), (W_T cI cC cT h2 h3 h4 h5 h6 h0nr h0pf h0ks h0vs h0wg h0ts), (W_T cI cC cT h7 h8 h9 h10 h11 h1nr h1pf h1ks h1vs h1wg h1ts), (W_T cI cC cT h12 h13 h14 h15 h16 h2nr h2pf h2ks h2vs h2wg h2ts), (W_T cI cC cT h17 h18 h19 h20 h21 h3nr h3pf h3ks h3vs h3wg h3ts)])) (by decide) rfl rfl (Nat.le_of_ble_eq_true rfl) ?_
  intro p e s m below meth c A ls H locs hx hb hr hml hlocks hown hts hN hA hP hK hD hS hl
  have hin_X1 : ∀ w ∈ u_ws RX1 TX1 3, w ∈ wsX1_slotAt := by decide +kernel
  have fl_11 := hts (.fieldLink RX1 11 "SureMendings$History" "states" "[LSureMendings$Table;") (by decide +kernel)
  have hl : lv_has ls 2 [(0, .ref h0), (1, .int 1)] := hl
  unfold f_X1_slotAt_1 at hf
  refine lv_iload_n hx hb dX1_slotAt_0 rfl (lv_at hl 1 rfl) ?_
  refine lv_if_lt (tgt := 22) hx hb dX1_slotAt_1 (by decide) (fun c => absurd c (by decide)) (fun _ => ?_)
  refine lv_iload_n hx hb dX1_slotAt_4 rfl (lv_at hl 1 rfl) ?_
  refine lv_aload_n hx hb dX1_slotAt_5 rfl (lv_at hl 0 rfl) ?_
  refine va_get (D := D) (ci := 1) (v := .ref h1) (C := RX1) (T := TX1) (N := 3) hx hb hts hin_X1 hown hK hP 0 rfl rfl 0 (by decide) fl_11 (fun _ h9 => h9) rfl dX1_slotAt_6 ?_
  refine va_alen hx hb hK hP 1 2 rfl rfl (v := 4) rfl dX1_slotAt_9 ?_
  refine lv_icmp_ge (tgt := 22) hx hb dX1_slotAt_10 (by decide) (fun c => absurd c (by decide)) (fun _ => ?_)
  refine lv_aload_n hx hb dX1_slotAt_13 rfl (lv_at hl 0 rfl) ?_
  refine va_get (D := D) (ci := 1) (v := .ref h1) (C := RX1) (T := TX1) (N := 3) hx hb hts hin_X1 hown hK hP 0 rfl rfl 0 (by decide) fl_11 (fun _ h9 => h9) rfl dX1_slotAt_14 ?_
  refine lv_iload_n hx hb dX1_slotAt_17 rfl (lv_at hl 1 rfl) ?_
  refine va_aldq hx hb hK hP 1 2 rfl rfl (i := 1) (by unfold vp_in; decide) dX1_slotAt_18 ?_
  refine W.eq (g2 := F0 m 19 ls [.ref h7]) rfl ?_
  refine lv_goto (tgt := 23) hx hb dX1_slotAt_19 (by decide) ?_
  cases hf
  exact mAret hx hb hr hlocks hP hD hK hS dX1_slotAt_23
abbrev rm_X1_slotAt_2 : Room := { frames := 0, cells := 0, slots := 0, locals := 0 }
set_option maxHeartbeats 4000000 in
set_option maxRecDepth 100000 in
theorem c_X1_slotAt_2 (l : Launch) (D : va_G) (cI cC cT : ClassId) (h0 h1 h2 h3 h4 h5 h6 h7 h8 h9 h10 h11 h12 h13 h14 h15 h16 h17 h18 h19 h20 h21 : Nat) (nx : Int32) (nz : Int32) (h0nr : Int32) (h0pf : Int32) (h0ks : Nat → Int32) (h0vs : Nat → Int32) (h0wg : Nat → Int32) (h0ts : Nat → Int32) (h1nr : Int32) (h1pf : Int32) (h1ks : Nat → Int32) (h1vs : Nat → Int32) (h1wg : Nat → Int32) (h1ts : Nat → Int32) (h2nr : Int32) (h2pf : Int32) (h2ks : Nat → Int32) (h2vs : Nat → Int32) (h2wg : Nat → Int32) (h2ts : Nat → Int32) (h3nr : Int32) (h3pf : Int32) (h3ks : Nat → Int32) (h3vs : Nat → Int32) (h3wg : Nat → Int32) (h3ts : Nat → Int32) (sz : Nat) (hf : f_X1_slotAt_2 = some (())) : Met l yX1_slotAt wsX1_slotAt rm_X1_slotAt_2 (mP D (mTY cI cC cT) [.ref h0, .int 2] (List.flatten [(W_Hh cI cC cT h0 h1 h2 h7 h12 h17 nx nz), (W_T cI cC cT h2 h3 h4 h5 h6 h0nr h0pf h0ks h0vs h0wg h0ts), (W_T cI cC cT h7 h8 h9 h10 h11 h1nr h1pf h1ks h1vs h1wg h1ts), (W_T cI cC cT h12 h13 h14 h15 h16 h2nr h2pf h2ks h2vs h2wg h2ts), (W_T cI cC cT h17 h18 h19 h20 h21 h3nr h3pf h3ks h3vs h3wg h3ts)]) sz) (mQr D (mTY cI cC cT) h12 (va_A (List.flatten [(W_Hh cI cC cT h0 h1 h2 h7 h12 h17 nx nz), (W_T cI cC cT h2 h3 h4 h5 h6 h0nr h0pf h0ks h0vs h0wg h0ts), (W_T cI cC cT h7 h8 h9 h10 h11 h1nr h1pf h1ks h1vs h1wg h1ts), (W_T cI cC cT h12 h13 h14 h15 h16 h2nr h2pf h2ks h2vs h2wg h2ts), (W_T cI cC cT h17 h18 h19 h20 h21 h3nr h3pf h3ks h3vs h3wg h3ts)]) sz) (List.flatten [(W_Hh cI cC cT h0 h1 h2 h7 h12 h17 nx nz), (W_T cI cC cT h2 h3 h4 h5 h6 h0nr h0pf h0ks h0vs h0wg h0ts), (W_T cI cC cT h7 h8 h9 h10 h11 h1nr h1pf h1ks h1vs h1wg h1ts), (W_T cI cC cT h12 h13 h14 h15 h16 h2nr h2pf h2ks h2vs h2wg h2ts), (W_T cI cC cT h17 h18 h19 h20 h21 h3nr h3pf h3ks h3vs h3wg h3ts)])) 0 0 (va_A (List.flatten [(W_Hh cI cC cT h0 h1 h2 h7 h12 h17 nx nz), (W_T cI cC cT h2 h3 h4 h5 h6 h0nr h0pf h0ks h0vs h0wg h0ts), (W_T cI cC cT h7 h8 h9 h10 h11 h1nr h1pf h1ks h1vs h1wg h1ts), (W_T cI cC cT h12 h13 h14 h15 h16 h2nr h2pf h2ks h2vs h2wg h2ts), (W_T cI cC cT h17 h18 h19 h20 h21 h3nr h3pf h3ks h3vs h3wg h3ts)]) sz) := by
  refine mEnt (cc := cX1_slotAt) (maxL := 2) (ret := (some (.object "SureMendings$Table"))) (own := RX1) (Qq := fun A => mQr D (mTY cI cC cT) h12 A (List.flatten [(W_Hh cI cC cT h0 h1 h2 h7 h12 h17 nx nz), (W_T cI cC cT h2 h3 h4 h5 h6 h0nr h0pf h0ks h0vs h0wg h0ts), (W_T cI cC cT h7 h8 h9 h10 h11 h1nr h1pf h1ks h1vs h1wg h1ts), (W_T cI cC cT h12 h13 h14 h15 h16 h2nr h2pf h2ks h2vs h2wg h2ts), (W_T cI cC cT h17 h18 h19 h20 h21 h3nr h3pf h3ks h3vs h3wg h3ts)])) (by decide) rfl rfl (Nat.le_of_ble_eq_true rfl) ?_
  intro p e s m below meth c A ls H locs hx hb hr hml hlocks hown hts hN hA hP hK hD hS hl
  have hin_X1 : ∀ w ∈ u_ws RX1 TX1 3, w ∈ wsX1_slotAt := by decide +kernel
  have fl_11 := hts (.fieldLink RX1 11 "SureMendings$History" "states" "[LSureMendings$Table;") (by decide +kernel)
  have hl : lv_has ls 2 [(0, .ref h0), (1, .int 2)] := hl
  unfold f_X1_slotAt_2 at hf
  refine lv_iload_n hx hb dX1_slotAt_0 rfl (lv_at hl 1 rfl) ?_
  refine lv_if_lt (tgt := 22) hx hb dX1_slotAt_1 (by decide) (fun c => absurd c (by decide)) (fun _ => ?_)
  refine lv_iload_n hx hb dX1_slotAt_4 rfl (lv_at hl 1 rfl) ?_
  refine lv_aload_n hx hb dX1_slotAt_5 rfl (lv_at hl 0 rfl) ?_
  refine va_get (D := D) (ci := 1) (v := .ref h1) (C := RX1) (T := TX1) (N := 3) hx hb hts hin_X1 hown hK hP 0 rfl rfl 0 (by decide) fl_11 (fun _ h9 => h9) rfl dX1_slotAt_6 ?_
  refine va_alen hx hb hK hP 1 2 rfl rfl (v := 4) rfl dX1_slotAt_9 ?_
  refine lv_icmp_ge (tgt := 22) hx hb dX1_slotAt_10 (by decide) (fun c => absurd c (by decide)) (fun _ => ?_)
  refine lv_aload_n hx hb dX1_slotAt_13 rfl (lv_at hl 0 rfl) ?_
  refine va_get (D := D) (ci := 1) (v := .ref h1) (C := RX1) (T := TX1) (N := 3) hx hb hts hin_X1 hown hK hP 0 rfl rfl 0 (by decide) fl_11 (fun _ h9 => h9) rfl dX1_slotAt_14 ?_
  refine lv_iload_n hx hb dX1_slotAt_17 rfl (lv_at hl 1 rfl) ?_
  refine va_aldq hx hb hK hP 1 2 rfl rfl (i := 2) (by unfold vp_in; decide) dX1_slotAt_18 ?_
  refine W.eq (g2 := F0 m 19 ls [.ref h12]) rfl ?_
  refine lv_goto (tgt := 23) hx hb dX1_slotAt_19 (by decide) ?_
  cases hf
  exact mAret hx hb hr hlocks hP hD hK hS dX1_slotAt_23
abbrev rm_X1_slotAt_3 : Room := { frames := 0, cells := 0, slots := 0, locals := 0 }
set_option maxHeartbeats 4000000 in
set_option maxRecDepth 100000 in
theorem c_X1_slotAt_3 (l : Launch) (D : va_G) (cI cC cT : ClassId) (h0 h1 h2 h3 h4 h5 h6 h7 h8 h9 h10 h11 h12 h13 h14 h15 h16 h17 h18 h19 h20 h21 : Nat) (nx : Int32) (nz : Int32) (h0nr : Int32) (h0pf : Int32) (h0ks : Nat → Int32) (h0vs : Nat → Int32) (h0wg : Nat → Int32) (h0ts : Nat → Int32) (h1nr : Int32) (h1pf : Int32) (h1ks : Nat → Int32) (h1vs : Nat → Int32) (h1wg : Nat → Int32) (h1ts : Nat → Int32) (h2nr : Int32) (h2pf : Int32) (h2ks : Nat → Int32) (h2vs : Nat → Int32) (h2wg : Nat → Int32) (h2ts : Nat → Int32) (h3nr : Int32) (h3pf : Int32) (h3ks : Nat → Int32) (h3vs : Nat → Int32) (h3wg : Nat → Int32) (h3ts : Nat → Int32) (sz : Nat) (hf : f_X1_slotAt_3 = some (())) : Met l yX1_slotAt wsX1_slotAt rm_X1_slotAt_3 (mP D (mTY cI cC cT) [.ref h0, .int 3] (List.flatten [(W_Hh cI cC cT h0 h1 h2 h7 h12 h17 nx nz), (W_T cI cC cT h2 h3 h4 h5 h6 h0nr h0pf h0ks h0vs h0wg h0ts), (W_T cI cC cT h7 h8 h9 h10 h11 h1nr h1pf h1ks h1vs h1wg h1ts), (W_T cI cC cT h12 h13 h14 h15 h16 h2nr h2pf h2ks h2vs h2wg h2ts), (W_T cI cC cT h17 h18 h19 h20 h21 h3nr h3pf h3ks h3vs h3wg h3ts)]) sz) (mQr D (mTY cI cC cT) h17 (va_A (List.flatten [(W_Hh cI cC cT h0 h1 h2 h7 h12 h17 nx nz), (W_T cI cC cT h2 h3 h4 h5 h6 h0nr h0pf h0ks h0vs h0wg h0ts), (W_T cI cC cT h7 h8 h9 h10 h11 h1nr h1pf h1ks h1vs h1wg h1ts), (W_T cI cC cT h12 h13 h14 h15 h16 h2nr h2pf h2ks h2vs h2wg h2ts), (W_T cI cC cT h17 h18 h19 h20 h21 h3nr h3pf h3ks h3vs h3wg h3ts)]) sz) (List.flatten [(W_Hh cI cC cT h0 h1 h2 h7 h12 h17 nx nz), (W_T cI cC cT h2 h3 h4 h5 h6 h0nr h0pf h0ks h0vs h0wg h0ts), (W_T cI cC cT h7 h8 h9 h10 h11 h1nr h1pf h1ks h1vs h1wg h1ts), (W_T cI cC cT h12 h13 h14 h15 h16 h2nr h2pf h2ks h2vs h2wg h2ts), (W_T cI cC cT h17 h18 h19 h20 h21 h3nr h3pf h3ks h3vs h3wg h3ts)])) 0 0 (va_A (List.flatten [(W_Hh cI cC cT h0 h1 h2 h7 h12 h17 nx nz), (W_T cI cC cT h2 h3 h4 h5 h6 h0nr h0pf h0ks h0vs h0wg h0ts), (W_T cI cC cT h7 h8 h9 h10 h11 h1nr h1pf h1ks h1vs h1wg h1ts), (W_T cI cC cT h12 h13 h14 h15 h16 h2nr h2pf h2ks h2vs h2wg h2ts), (W_T cI cC cT h17 h18 h19 h20 h21 h3nr h3pf h3ks h3vs h3wg h3ts)]) sz) := by
  refine mEnt (cc := cX1_slotAt) (maxL := 2) (ret := (some (.object "SureMendings$Table"))) (own := RX1) (Qq := fun A => mQr D (mTY cI cC cT) h17 A (List.flatten [(W_Hh cI cC cT h0 h1 h2 h7 h12 h17 nx nz), (W_T cI cC cT h2 h3 h4 h5 h6 h0nr h0pf h0ks h0vs h0wg h0ts), (W_T cI cC cT h7 h8 h9 h10 h11 h1nr h1pf h1ks h1vs h1wg h1ts), (W_T cI cC cT h12 h13 h14 h15 h16 h2nr h2pf h2ks h2vs h2wg h2ts), (W_T cI cC cT h17 h18 h19 h20 h21 h3nr h3pf h3ks h3vs h3wg h3ts)])) (by decide) rfl rfl (Nat.le_of_ble_eq_true rfl) ?_
  intro p e s m below meth c A ls H locs hx hb hr hml hlocks hown hts hN hA hP hK hD hS hl
  have hin_X1 : ∀ w ∈ u_ws RX1 TX1 3, w ∈ wsX1_slotAt := by decide +kernel
  have fl_11 := hts (.fieldLink RX1 11 "SureMendings$History" "states" "[LSureMendings$Table;") (by decide +kernel)
  have hl : lv_has ls 2 [(0, .ref h0), (1, .int 3)] := hl
  unfold f_X1_slotAt_3 at hf
  refine lv_iload_n hx hb dX1_slotAt_0 rfl (lv_at hl 1 rfl) ?_
  refine lv_if_lt (tgt := 22) hx hb dX1_slotAt_1 (by decide) (fun c => absurd c (by decide)) (fun _ => ?_)
  refine lv_iload_n hx hb dX1_slotAt_4 rfl (lv_at hl 1 rfl) ?_
  refine lv_aload_n hx hb dX1_slotAt_5 rfl (lv_at hl 0 rfl) ?_
  refine va_get (D := D) (ci := 1) (v := .ref h1) (C := RX1) (T := TX1) (N := 3) hx hb hts hin_X1 hown hK hP 0 rfl rfl 0 (by decide) fl_11 (fun _ h9 => h9) rfl dX1_slotAt_6 ?_
  refine va_alen hx hb hK hP 1 2 rfl rfl (v := 4) rfl dX1_slotAt_9 ?_
  refine lv_icmp_ge (tgt := 22) hx hb dX1_slotAt_10 (by decide) (fun c => absurd c (by decide)) (fun _ => ?_)
  refine lv_aload_n hx hb dX1_slotAt_13 rfl (lv_at hl 0 rfl) ?_
  refine va_get (D := D) (ci := 1) (v := .ref h1) (C := RX1) (T := TX1) (N := 3) hx hb hts hin_X1 hown hK hP 0 rfl rfl 0 (by decide) fl_11 (fun _ h9 => h9) rfl dX1_slotAt_14 ?_
  refine lv_iload_n hx hb dX1_slotAt_17 rfl (lv_at hl 1 rfl) ?_
  refine va_aldq hx hb hK hP 1 2 rfl rfl (i := 3) (by unfold vp_in; decide) dX1_slotAt_18 ?_
  refine W.eq (g2 := F0 m 19 ls [.ref h17]) rfl ?_
  refine lv_goto (tgt := 23) hx hb dX1_slotAt_19 (by decide) ?_
  cases hf
  exact mAret hx hb hr hlocks hP hD hK hS dX1_slotAt_23
abbrev rm_X1_remember : Room := { frames := 3, cells := 0, slots := 0, locals := 60 }
set_option maxHeartbeats 4000000 in
set_option maxRecDepth 100000 in
theorem c_X1_remember (l : Launch) (D : va_G) (cI cC cT : ClassId) (h0 h1 h2 h3 h4 h5 h6 h7 h8 h9 h10 h11 h12 h13 h14 h15 h16 h17 h18 h19 h20 h21 h22 h23 h24 h25 h26 : Nat) (nx : Int32) (nz : Int32) (h0nr : Int32) (h0pf : Int32) (h0ks : Nat → Int32) (h0vs : Nat → Int32) (h0wg : Nat → Int32) (h0ts : Nat → Int32) (h1nr : Int32) (h1pf : Int32) (h1ks : Nat → Int32) (h1vs : Nat → Int32) (h1wg : Nat → Int32) (h1ts : Nat → Int32) (h2nr : Int32) (h2pf : Int32) (h2ks : Nat → Int32) (h2vs : Nat → Int32) (h2wg : Nat → Int32) (h2ts : Nat → Int32) (h3nr : Int32) (h3pf : Int32) (h3ks : Nat → Int32) (h3vs : Nat → Int32) (h3wg : Nat → Int32) (h3ts : Nat → Int32) (onr : Int32) (opf : Int32) (oks : Nat → Int32) (ovs : Nat → Int32) (owg : Nat → Int32) (ots : Nat → Int32) (sz : Nat) (o_nx : Int32) (o_nz : Int32) (o_h0nr : Int32) (o_h0pf : Int32) (o_h0ks : Nat → Int32) (o_h0vs : Nat → Int32) (o_h0wg : Nat → Int32) (o_h0ts : Nat → Int32) (o_h1nr : Int32) (o_h1pf : Int32) (o_h1ks : Nat → Int32) (o_h1vs : Nat → Int32) (o_h1wg : Nat → Int32) (o_h1ts : Nat → Int32) (o_h2nr : Int32) (o_h2pf : Int32) (o_h2ks : Nat → Int32) (o_h2vs : Nat → Int32) (o_h2wg : Nat → Int32) (o_h2ts : Nat → Int32) (o_h3nr : Int32) (o_h3pf : Int32) (o_h3ks : Nat → Int32) (o_h3vs : Nat → Int32) (o_h3wg : Nat → Int32) (o_h3ts : Nat → Int32) (hf : f_X1_remember nx nz h0nr h0pf h0ks h0vs h0wg h0ts h1nr h1pf h1ks h1vs h1wg h1ts h2nr h2pf h2ks h2vs h2wg h2ts h3nr h3pf h3ks h3vs h3wg h3ts onr opf oks ovs owg ots = some ((o_nx, o_nz, o_h0nr, o_h0pf, o_h0ks, o_h0vs, o_h0wg, o_h0ts, o_h1nr, o_h1pf, o_h1ks, o_h1vs, o_h1wg, o_h1ts, o_h2nr, o_h2pf, o_h2ks, o_h2vs, o_h2wg, o_h2ts, o_h3nr, o_h3pf, o_h3ks, o_h3vs, o_h3wg, o_h3ts))) : Met l yX1_remember wsX1_remember rm_X1_remember (mP D (mTY cI cC cT) [.ref h0, .ref h22] (List.flatten [(W_Hh cI cC cT h0 h1 h2 h7 h12 h17 nx nz), (W_T cI cC cT h2 h3 h4 h5 h6 h0nr h0pf h0ks h0vs h0wg h0ts), (W_T cI cC cT h7 h8 h9 h10 h11 h1nr h1pf h1ks h1vs h1wg h1ts), (W_T cI cC cT h12 h13 h14 h15 h16 h2nr h2pf h2ks h2vs h2wg h2ts), (W_T cI cC cT h17 h18 h19 h20 h21 h3nr h3pf h3ks h3vs h3wg h3ts), (W_T cI cC cT h22 h23 h24 h25 h26 onr opf oks ovs owg ots)]) sz) (mQv D (mTY cI cC cT) (va_A (List.flatten [(W_Hh cI cC cT h0 h1 h2 h7 h12 h17 nx nz), (W_T cI cC cT h2 h3 h4 h5 h6 h0nr h0pf h0ks h0vs h0wg h0ts), (W_T cI cC cT h7 h8 h9 h10 h11 h1nr h1pf h1ks h1vs h1wg h1ts), (W_T cI cC cT h12 h13 h14 h15 h16 h2nr h2pf h2ks h2vs h2wg h2ts), (W_T cI cC cT h17 h18 h19 h20 h21 h3nr h3pf h3ks h3vs h3wg h3ts), (W_T cI cC cT h22 h23 h24 h25 h26 onr opf oks ovs owg ots)]) sz) (List.flatten [(W_Hh cI cC cT h0 h1 h2 h7 h12 h17 o_nx o_nz), (W_T cI cC cT h2 h3 h4 h5 h6 o_h0nr o_h0pf o_h0ks o_h0vs o_h0wg o_h0ts), (W_T cI cC cT h7 h8 h9 h10 h11 o_h1nr o_h1pf o_h1ks o_h1vs o_h1wg o_h1ts), (W_T cI cC cT h12 h13 h14 h15 h16 o_h2nr o_h2pf o_h2ks o_h2vs o_h2wg o_h2ts), (W_T cI cC cT h17 h18 h19 h20 h21 o_h3nr o_h3pf o_h3ks o_h3vs o_h3wg o_h3ts), (W_T cI cC cT h22 h23 h24 h25 h26 onr opf oks ovs owg ots)])) 0 0 (va_A (List.flatten [(W_Hh cI cC cT h0 h1 h2 h7 h12 h17 nx nz), (W_T cI cC cT h2 h3 h4 h5 h6 h0nr h0pf h0ks h0vs h0wg h0ts), (W_T cI cC cT h7 h8 h9 h10 h11 h1nr h1pf h1ks h1vs h1wg h1ts), (W_T cI cC cT h12 h13 h14 h15 h16 h2nr h2pf h2ks h2vs h2wg h2ts), (W_T cI cC cT h17 h18 h19 h20 h21 h3nr h3pf h3ks h3vs h3wg h3ts), (W_T cI cC cT h22 h23 h24 h25 h26 onr opf oks ovs owg ots)]) sz) := by
  refine mEnt (cc := cX1_remember) (maxL := 3) (ret := none) (own := RX1) (Qq := fun A => mQv D (mTY cI cC cT) A (List.flatten [(W_Hh cI cC cT h0 h1 h2 h7 h12 h17 o_nx o_nz), (W_T cI cC cT h2 h3 h4 h5 h6 o_h0nr o_h0pf o_h0ks o_h0vs o_h0wg o_h0ts), (W_T cI cC cT h7 h8 h9 h10 h11 o_h1nr o_h1pf o_h1ks o_h1vs o_h1wg o_h1ts), (W_T cI cC cT h12 h13 h14 h15 h16 o_h2nr o_h2pf o_h2ks o_h2vs o_h2wg o_h2ts), (W_T cI cC cT h17 h18 h19 h20 h21 o_h3nr o_h3pf o_h3ks o_h3vs o_h3wg o_h3ts), (W_T cI cC cT h22 h23 h24 h25 h26 onr opf oks ovs owg ots)])) (by decide) rfl rfl (Nat.le_of_ble_eq_true rfl) ?_
  intro p e s m below meth c A ls H locs hx hb hr hml hlocks hown hts hN hA hP hK hD hS hl
  have hin_X1 : ∀ w ∈ u_ws RX1 TX1 3, w ∈ wsX1_remember := by decide +kernel
  have fl_18 := hts (.fieldLink RX1 18 "SureMendings$History" "size" "I") (by decide +kernel)
  have fl_22 := hts (.fieldLink RX1 22 "SureMendings$History" "next" "I") (by decide +kernel)
  have hl : lv_has ls 3 [(0, .ref h0), (1, .ref h22)] := hl
  unfold f_X1_remember at hf
  refine lv_aload_n hx hb dX1_remember_0 rfl (lv_at hl 0 rfl) ?_
  refine lv_aload_n hx hb dX1_remember_1 rfl (lv_at hl 0 rfl) ?_
  refine va_get (D := D) (ci := 1) (v := .int nx) (C := RX1) (T := TX1) (N := 3) hx hb hts hin_X1 hown hK hP 0 rfl rfl 1 (by decide) fl_22 (fun _ h9 => h9) rfl dX1_remember_2 ?_
  by_cases c_1 : nx = 0
  · have hf := ite_t hf c_1
    refine lv_tope (y := 0) c_1 ?_
    obtain ⟨⟨⟩, q_2, hf⟩ := bnd hf
    refine mGorS (segs := [(W_Hh cI cC cT h0 h1 h2 h7 h12 h17 nx nz), (W_T cI cC cT h2 h3 h4 h5 h6 h0nr h0pf h0ks h0vs h0wg h0ts), (W_T cI cC cT h7 h8 h9 h10 h11 h1nr h1pf h1ks h1vs h1wg h1ts), (W_T cI cC cT h12 h13 h14 h15 h16 h2nr h2pf h2ks h2vs h2wg h2ts), (W_T cI cC cT h17 h18 h19 h20 h21 h3nr h3pf h3ks h3vs h3wg h3ts), (W_T cI cC cT h22 h23 h24 h25 h26 onr opf oks ovs owg ots)]) (wcs := [(W_Hh cI cC cT h0 h1 h2 h7 h12 h17 nx nz), (W_T cI cC cT h2 h3 h4 h5 h6 h0nr h0pf h0ks h0vs h0wg h0ts), (W_T cI cC cT h7 h8 h9 h10 h11 h1nr h1pf h1ks h1vs h1wg h1ts), (W_T cI cC cT h12 h13 h14 h15 h16 h2nr h2pf h2ks h2vs h2wg h2ts), (W_T cI cC cT h17 h18 h19 h20 h21 h3nr h3pf h3ks h3vs h3wg h3ts)]) (w1s := [(W_Hh cI cC cT h0 h1 h2 h7 h12 h17 nx nz), (W_T cI cC cT h2 h3 h4 h5 h6 h0nr h0pf h0ks h0vs h0wg h0ts), (W_T cI cC cT h7 h8 h9 h10 h11 h1nr h1pf h1ks h1vs h1wg h1ts), (W_T cI cC cT h12 h13 h14 h15 h16 h2nr h2pf h2ks h2vs h2wg h2ts), (W_T cI cC cT h17 h18 h19 h20 h21 h3nr h3pf h3ks h3vs h3wg h3ts)]) (w2s := [(W_Hh cI cC cT h0 h1 h2 h7 h12 h17 nx nz), (W_T cI cC cT h2 h3 h4 h5 h6 h0nr h0pf h0ks h0vs h0wg h0ts), (W_T cI cC cT h7 h8 h9 h10 h11 h1nr h1pf h1ks h1vs h1wg h1ts), (W_T cI cC cT h12 h13 h14 h15 h16 h2nr h2pf h2ks h2vs h2wg h2ts), (W_T cI cC cT h17 h18 h19 h20 h21 h3nr h3pf h3ks h3vs h3wg h3ts), (W_T cI cC cT h22 h23 h24 h25 h26 onr opf oks ovs owg ots)]) rfl rfl (va_runV (As := [.int 0]) (rest := []) ⟨hx, hb, hml, hown, hts⟩ (c_X1_slotAt_0 l D cI cC cT h0 h1 h2 h3 h4 h5 h6 h7 h8 h9 h10 h11 h12 h13 h14 h15 h16 h17 h18 h19 h20 h21 nx nz h0nr h0pf h0ks h0vs h0wg h0ts h1nr h1pf h1ks h1vs h1wg h1ts h2nr h2pf h2ks h2vs h2wg h2ts h3nr h3pf h3ks h3vs h3wg h3ts H.size q_2) (cwV 1 hts gX1_remember_X1_slotAt rfl rfl rfl (by decide +kernel) ⟨Nat.le_of_ble_eq_true rfl, Nat.le_of_ble_eq_true rfl⟩) (mPreVS [(W_Hh cI cC cT h0 h1 h2 h7 h12 h17 nx nz), (W_T cI cC cT h2 h3 h4 h5 h6 h0nr h0pf h0ks h0vs h0wg h0ts), (W_T cI cC cT h7 h8 h9 h10 h11 h1nr h1pf h1ks h1vs h1wg h1ts), (W_T cI cC cT h12 h13 h14 h15 h16 h2nr h2pf h2ks h2vs h2wg h2ts), (W_T cI cC cT h17 h18 h19 h20 h21 h3nr h3pf h3ks h3vs h3wg h3ts)] rfl hP hD hK hN [0, 1, 2, 3, 4] rfl (by decide) (va_recv hK (sP hP 0 rfl) (ci := 1) (q0 := 0) rfl rfl)) rfl rfl hl.1 rfl (lv_room (Nat.le_of_ble_eq_true rfl)) dX1_remember_5 ⟨Nat.zero_le _, Nat.zero_le _⟩) hP hD hS hA [0, 1, 2, 3, 4] rfl rfl rfl rfl (fun H locs hP hD hS => ?_)
    refine lv_astore_n (lv' := [(2, .ref h2), (0, .ref h0), (1, .ref h22)]) hx hb dX1_remember_8 rfl hl (by decide) rfl (fun ls hl => ?_)
    refine lv_aload_n hx hb dX1_remember_9 rfl (lv_at hl 0 rfl) ?_
    refine lv_ifnull hx hb dX1_remember_10 ?_
    refine lv_aload_n hx hb dX1_remember_13 rfl (lv_at hl 0 rfl) ?_
    refine lv_aload_n hx hb dX1_remember_14 rfl (lv_at hl 2 rfl) ?_
    obtain ⟨⟨nr_3, pf_4, ks_5, vs_6, wg_7, ts_8⟩, q_9, hf⟩ := bnd hf
    refine mGovS (segs := [(W_Hh cI cC cT h0 h1 h2 h7 h12 h17 nx nz), (W_T cI cC cT h2 h3 h4 h5 h6 h0nr h0pf h0ks h0vs h0wg h0ts), (W_T cI cC cT h7 h8 h9 h10 h11 h1nr h1pf h1ks h1vs h1wg h1ts), (W_T cI cC cT h12 h13 h14 h15 h16 h2nr h2pf h2ks h2vs h2wg h2ts), (W_T cI cC cT h17 h18 h19 h20 h21 h3nr h3pf h3ks h3vs h3wg h3ts), (W_T cI cC cT h22 h23 h24 h25 h26 onr opf oks ovs owg ots)]) (wcs := [(W_T cI cC cT h2 h3 h4 h5 h6 h0nr h0pf h0ks h0vs h0wg h0ts), (W_T cI cC cT h22 h23 h24 h25 h26 onr opf oks ovs owg ots)]) (w1s := [(W_T cI cC cT h2 h3 h4 h5 h6 nr_3 pf_4 ks_5 vs_6 wg_7 ts_8), (W_T cI cC cT h22 h23 h24 h25 h26 onr opf oks ovs owg ots)]) (w2s := [(W_Hh cI cC cT h0 h1 h2 h7 h12 h17 nx nz), (W_T cI cC cT h2 h3 h4 h5 h6 nr_3 pf_4 ks_5 vs_6 wg_7 ts_8), (W_T cI cC cT h7 h8 h9 h10 h11 h1nr h1pf h1ks h1vs h1wg h1ts), (W_T cI cC cT h12 h13 h14 h15 h16 h2nr h2pf h2ks h2vs h2wg h2ts), (W_T cI cC cT h17 h18 h19 h20 h21 h3nr h3pf h3ks h3vs h3wg h3ts), (W_T cI cC cT h22 h23 h24 h25 h26 onr opf oks ovs owg ots)]) rfl rfl (va_runV (As := [.ref h22]) (rest := []) ⟨hx, hb, hml, hown, hts⟩ (c_X3_copyFrom l D cI cC cT h2 h3 h4 h5 h6 h22 h23 h24 h25 h26 h0nr h0pf h0ks h0vs h0wg h0ts onr opf oks ovs owg ots H.size nr_3 pf_4 ks_5 vs_6 wg_7 ts_8 q_9) (cwV 1 hts gX1_remember_X3_copyFrom rfl rfl rfl (by decide +kernel) ⟨Nat.le_of_ble_eq_true rfl, Nat.le_of_ble_eq_true rfl⟩) (mPreVS [(W_T cI cC cT h2 h3 h4 h5 h6 h0nr h0pf h0ks h0vs h0wg h0ts), (W_T cI cC cT h22 h23 h24 h25 h26 onr opf oks ovs owg ots)] rfl hP hD hK hN [1, 5] rfl (by decide) (va_recv hK (sP hP 1 rfl) (ci := 3) (q0 := 0) rfl rfl)) rfl rfl hl.1 rfl (lv_room (Nat.le_of_ble_eq_true rfl)) dX1_remember_15 ⟨Nat.zero_le _, Nat.zero_le _⟩) hP hD hS hA [1, 5] rfl rfl rfl rfl (fun H locs hP hD hS => ?_)
    refine lv_aload_n hx hb dX1_remember_18 rfl (lv_at hl 1 rfl) ?_
    refine lv_aload_n hx hb dX1_remember_19 rfl (lv_at hl 1 rfl) ?_
    refine va_get (D := D) (ci := 1) (v := .int nx) (C := RX1) (T := TX1) (N := 3) hx hb hts hin_X1 hown hK hP 0 rfl rfl 1 (by decide) fl_22 (fun _ h9 => h9) rfl dX1_remember_20 ?_
    refine lv_iconst (v := 1) hx hb dX1_remember_23 (by decide) ?_
    refine lv_iadd hx hb dX1_remember_24 ?_
    refine lv_iconst (v := 4) hx hb dX1_remember_25 (by decide) ?_
    refine lv_irem hx hb dX1_remember_26 (by decide) ?_
    refine va_put (D := D) (ci := 1) (v := .int ((nx + 1) - (nx + 1) / 4 * 4)) (ty := .int) (C := RX1) (T := TX1) (N := 3) hx hb hts hin_X1 tyX1 tyX1_ok nmX1 hown hK hP hD hS 0 rfl rfl 1 (by decide) fl_22 (fun _ h9 => h9) rfl (by decide +kernel) rfl rfl (Nat.le_of_ble_eq_true rfl) dX1_remember_27 (fun H locs hP hD hS => ?_)
    have hP : va_P D vwCl (List.flatten [(W_Hh cI cC cT h0 h1 h2 h7 h12 h17 ((nx + 1) - (nx + 1) / 4 * 4) nz), (W_T cI cC cT h2 h3 h4 h5 h6 nr_3 pf_4 ks_5 vs_6 wg_7 ts_8), (W_T cI cC cT h7 h8 h9 h10 h11 h1nr h1pf h1ks h1vs h1wg h1ts), (W_T cI cC cT h12 h13 h14 h15 h16 h2nr h2pf h2ks h2vs h2wg h2ts), (W_T cI cC cT h17 h18 h19 h20 h21 h3nr h3pf h3ks h3vs h3wg h3ts), (W_T cI cC cT h22 h23 h24 h25 h26 onr opf oks ovs owg ots)]) H := hP
    have hD : va_D A (List.flatten [(W_Hh cI cC cT h0 h1 h2 h7 h12 h17 ((nx + 1) - (nx + 1) / 4 * 4) nz), (W_T cI cC cT h2 h3 h4 h5 h6 nr_3 pf_4 ks_5 vs_6 wg_7 ts_8), (W_T cI cC cT h7 h8 h9 h10 h11 h1nr h1pf h1ks h1vs h1wg h1ts), (W_T cI cC cT h12 h13 h14 h15 h16 h2nr h2pf h2ks h2vs h2wg h2ts), (W_T cI cC cT h17 h18 h19 h20 h21 h3nr h3pf h3ks h3vs h3wg h3ts), (W_T cI cC cT h22 h23 h24 h25 h26 onr opf oks ovs owg ots)]) := hD
    refine lv_aload_n hx hb dX1_remember_30 rfl (lv_at hl 1 rfl) ?_
    refine lv_aload_n hx hb dX1_remember_31 rfl (lv_at hl 1 rfl) ?_
    refine va_get (D := D) (ci := 1) (v := .int nz) (C := RX1) (T := TX1) (N := 3) hx hb hts hin_X1 hown hK hP 0 rfl rfl 2 (by decide) fl_18 (fun _ h9 => h9) rfl dX1_remember_32 ?_
    refine lv_iconst (v := 1) hx hb dX1_remember_35 (by decide) ?_
    refine lv_iadd hx hb dX1_remember_36 ?_
    refine lv_iconst (v := 4) hx hb dX1_remember_37 (by decide) ?_
    refine va_mmin hx hb (by rw [hml]; exact hl.1.symm) hown (hts (.methodLink RX1 33 Lib.Math.min.name) (by decide +kernel)) (hts (.static Lib.Math.min.name) (by decide +kernel)) (hts (.initialized "java/lang/Math") (by decide +kernel)) (hts (.code Lib.Math.min.name Lib.Math.min.code 2 (some .int)) (by decide +kernel)) (Nat.le_of_ble_eq_true rfl) (Nat.le_of_ble_eq_true rfl) (Nat.zero_le _) (Nat.zero_le _) dX1_remember_38 ?_
    refine va_put (D := D) (ci := 1) (v := .int (if 4 < (nz + 1) then 4 else (nz + 1))) (ty := .int) (C := RX1) (T := TX1) (N := 3) hx hb hts hin_X1 tyX1 tyX1_ok nmX1 hown hK hP hD hS 0 rfl rfl 2 (by decide) fl_18 (fun _ h9 => h9) rfl (by decide +kernel) rfl rfl (Nat.le_of_ble_eq_true rfl) dX1_remember_41 (fun H locs hP hD hS => ?_)
    have hP : va_P D vwCl (List.flatten [(W_Hh cI cC cT h0 h1 h2 h7 h12 h17 ((nx + 1) - (nx + 1) / 4 * 4) (if 4 < (nz + 1) then 4 else (nz + 1))), (W_T cI cC cT h2 h3 h4 h5 h6 nr_3 pf_4 ks_5 vs_6 wg_7 ts_8), (W_T cI cC cT h7 h8 h9 h10 h11 h1nr h1pf h1ks h1vs h1wg h1ts), (W_T cI cC cT h12 h13 h14 h15 h16 h2nr h2pf h2ks h2vs h2wg h2ts), (W_T cI cC cT h17 h18 h19 h20 h21 h3nr h3pf h3ks h3vs h3wg h3ts), (W_T cI cC cT h22 h23 h24 h25 h26 onr opf oks ovs owg ots)]) H := hP
    have hD : va_D A (List.flatten [(W_Hh cI cC cT h0 h1 h2 h7 h12 h17 ((nx + 1) - (nx + 1) / 4 * 4) (if 4 < (nz + 1) then 4 else (nz + 1))), (W_T cI cC cT h2 h3 h4 h5 h6 nr_3 pf_4 ks_5 vs_6 wg_7 ts_8), (W_T cI cC cT h7 h8 h9 h10 h11 h1nr h1pf h1ks h1vs h1wg h1ts), (W_T cI cC cT h12 h13 h14 h15 h16 h2nr h2pf h2ks h2vs h2wg h2ts), (W_T cI cC cT h17 h18 h19 h20 h21 h3nr h3pf h3ks h3vs h3wg h3ts), (W_T cI cC cT h22 h23 h24 h25 h26 onr opf oks ovs owg ots)]) := hD
    cases hf
    exact mVret hx hb hr hlocks hP hD hK hS dX1_remember_44
  have hf := ite_f hf c_1
  by_cases c_10 : nx = 1
  · have hf := ite_t hf c_10
    refine lv_tope (y := 1) c_10 ?_
    obtain ⟨⟨⟩, q_11, hf⟩ := bnd hf
    refine mGorS (segs := [(W_Hh cI cC cT h0 h1 h2 h7 h12 h17 nx nz), (W_T cI cC cT h2 h3 h4 h5 h6 h0nr h0pf h0ks h0vs h0wg h0ts), (W_T cI cC cT h7 h8 h9 h10 h11 h1nr h1pf h1ks h1vs h1wg h1ts), (W_T cI cC cT h12 h13 h14 h15 h16 h2nr h2pf h2ks h2vs h2wg h2ts), (W_T cI cC cT h17 h18 h19 h20 h21 h3nr h3pf h3ks h3vs h3wg h3ts), (W_T cI cC cT h22 h23 h24 h25 h26 onr opf oks ovs owg ots)]) (wcs := [(W_Hh cI cC cT h0 h1 h2 h7 h12 h17 nx nz), (W_T cI cC cT h2 h3 h4 h5 h6 h0nr h0pf h0ks h0vs h0wg h0ts), (W_T cI cC cT h7 h8 h9 h10 h11 h1nr h1pf h1ks h1vs h1wg h1ts), (W_T cI cC cT h12 h13 h14 h15 h16 h2nr h2pf h2ks h2vs h2wg h2ts), (W_T cI cC cT h17 h18 h19 h20 h21 h3nr h3pf h3ks h3vs h3wg h3ts)]) (w1s := [(W_Hh cI cC cT h0 h1 h2 h7 h12 h17 nx nz), (W_T cI cC cT h2 h3 h4 h5 h6 h0nr h0pf h0ks h0vs h0wg h0ts), (W_T cI cC cT h7 h8 h9 h10 h11 h1nr h1pf h1ks h1vs h1wg h1ts), (W_T cI cC cT h12 h13 h14 h15 h16 h2nr h2pf h2ks h2vs h2wg h2ts), (W_T cI cC cT h17 h18 h19 h20 h21 h3nr h3pf h3ks h3vs h3wg h3ts)]) (w2s := [(W_Hh cI cC cT h0 h1 h2 h7 h12 h17 nx nz), (W_T cI cC cT h2 h3 h4 h5 h6 h0nr h0pf h0ks h0vs h0wg h0ts), (W_T cI cC cT h7 h8 h9 h10 h11 h1nr h1pf h1ks h1vs h1wg h1ts), (W_T cI cC cT h12 h13 h14 h15 h16 h2nr h2pf h2ks h2vs h2wg h2ts), (W_T cI cC cT h17 h18 h19 h20 h21 h3nr h3pf h3ks h3vs h3wg h3ts), (W_T cI cC cT h22 h23 h24 h25 h26 onr opf oks ovs owg ots)]) rfl rfl (va_runV (As := [.int 1]) (rest := []) ⟨hx, hb, hml, hown, hts⟩ (c_X1_slotAt_1 l D cI cC cT h0 h1 h2 h3 h4 h5 h6 h7 h8 h9 h10 h11 h12 h13 h14 h15 h16 h17 h18 h19 h20 h21 nx nz h0nr h0pf h0ks h0vs h0wg h0ts h1nr h1pf h1ks h1vs h1wg h1ts h2nr h2pf h2ks h2vs h2wg h2ts h3nr h3pf h3ks h3vs h3wg h3ts H.size q_11) (cwV 1 hts gX1_remember_X1_slotAt rfl rfl rfl (by decide +kernel) ⟨Nat.le_of_ble_eq_true rfl, Nat.le_of_ble_eq_true rfl⟩) (mPreVS [(W_Hh cI cC cT h0 h1 h2 h7 h12 h17 nx nz), (W_T cI cC cT h2 h3 h4 h5 h6 h0nr h0pf h0ks h0vs h0wg h0ts), (W_T cI cC cT h7 h8 h9 h10 h11 h1nr h1pf h1ks h1vs h1wg h1ts), (W_T cI cC cT h12 h13 h14 h15 h16 h2nr h2pf h2ks h2vs h2wg h2ts), (W_T cI cC cT h17 h18 h19 h20 h21 h3nr h3pf h3ks h3vs h3wg h3ts)] rfl hP hD hK hN [0, 1, 2, 3, 4] rfl (by decide) (va_recv hK (sP hP 0 rfl) (ci := 1) (q0 := 0) rfl rfl)) rfl rfl hl.1 rfl (lv_room (Nat.le_of_ble_eq_true rfl)) dX1_remember_5 ⟨Nat.zero_le _, Nat.zero_le _⟩) hP hD hS hA [0, 1, 2, 3, 4] rfl rfl rfl rfl (fun H locs hP hD hS => ?_)
    refine lv_astore_n (lv' := [(2, .ref h7), (0, .ref h0), (1, .ref h22)]) hx hb dX1_remember_8 rfl hl (by decide) rfl (fun ls hl => ?_)
    refine lv_aload_n hx hb dX1_remember_9 rfl (lv_at hl 0 rfl) ?_
    refine lv_ifnull hx hb dX1_remember_10 ?_
    refine lv_aload_n hx hb dX1_remember_13 rfl (lv_at hl 0 rfl) ?_
    refine lv_aload_n hx hb dX1_remember_14 rfl (lv_at hl 2 rfl) ?_
    obtain ⟨⟨nr_12, pf_13, ks_14, vs_15, wg_16, ts_17⟩, q_18, hf⟩ := bnd hf
    refine mGovS (segs := [(W_Hh cI cC cT h0 h1 h2 h7 h12 h17 nx nz), (W_T cI cC cT h2 h3 h4 h5 h6 h0nr h0pf h0ks h0vs h0wg h0ts), (W_T cI cC cT h7 h8 h9 h10 h11 h1nr h1pf h1ks h1vs h1wg h1ts), (W_T cI cC cT h12 h13 h14 h15 h16 h2nr h2pf h2ks h2vs h2wg h2ts), (W_T cI cC cT h17 h18 h19 h20 h21 h3nr h3pf h3ks h3vs h3wg h3ts), (W_T cI cC cT h22 h23 h24 h25 h26 onr opf oks ovs owg ots)]) (wcs := [(W_T cI cC cT h7 h8 h9 h10 h11 h1nr h1pf h1ks h1vs h1wg h1ts), (W_T cI cC cT h22 h23 h24 h25 h26 onr opf oks ovs owg ots)]) (w1s := [(W_T cI cC cT h7 h8 h9 h10 h11 nr_12 pf_13 ks_14 vs_15 wg_16 ts_17), (W_T cI cC cT h22 h23 h24 h25 h26 onr opf oks ovs owg ots)]) (w2s := [(W_Hh cI cC cT h0 h1 h2 h7 h12 h17 nx nz), (W_T cI cC cT h2 h3 h4 h5 h6 h0nr h0pf h0ks h0vs h0wg h0ts), (W_T cI cC cT h7 h8 h9 h10 h11 nr_12 pf_13 ks_14 vs_15 wg_16 ts_17), (W_T cI cC cT h12 h13 h14 h15 h16 h2nr h2pf h2ks h2vs h2wg h2ts), (W_T cI cC cT h17 h18 h19 h20 h21 h3nr h3pf h3ks h3vs h3wg h3ts), (W_T cI cC cT h22 h23 h24 h25 h26 onr opf oks ovs owg ots)]) rfl rfl (va_runV (As := [.ref h22]) (rest := []) ⟨hx, hb, hml, hown, hts⟩ (c_X3_copyFrom l D cI cC cT h7 h8 h9 h10 h11 h22 h23 h24 h25 h26 h1nr h1pf h1ks h1vs h1wg h1ts onr opf oks ovs owg ots H.size nr_12 pf_13 ks_14 vs_15 wg_16 ts_17 q_18) (cwV 1 hts gX1_remember_X3_copyFrom rfl rfl rfl (by decide +kernel) ⟨Nat.le_of_ble_eq_true rfl, Nat.le_of_ble_eq_true rfl⟩) (mPreVS [(W_T cI cC cT h7 h8 h9 h10 h11 h1nr h1pf h1ks h1vs h1wg h1ts), (W_T cI cC cT h22 h23 h24 h25 h26 onr opf oks ovs owg ots)] rfl hP hD hK hN [2, 5] rfl (by decide) (va_recv hK (sP hP 2 rfl) (ci := 3) (q0 := 0) rfl rfl)) rfl rfl hl.1 rfl (lv_room (Nat.le_of_ble_eq_true rfl)) dX1_remember_15 ⟨Nat.zero_le _, Nat.zero_le _⟩) hP hD hS hA [2, 5] rfl rfl rfl rfl (fun H locs hP hD hS => ?_)
    refine lv_aload_n hx hb dX1_remember_18 rfl (lv_at hl 1 rfl) ?_
    refine lv_aload_n hx hb dX1_remember_19 rfl (lv_at hl 1 rfl) ?_
    refine va_get (D := D) (ci := 1) (v := .int nx) (C := RX1) (T := TX1) (N := 3) hx hb hts hin_X1 hown hK hP 0 rfl rfl 1 (by decide) fl_22 (fun _ h9 => h9) rfl dX1_remember_20 ?_
    refine lv_iconst (v := 1) hx hb dX1_remember_23 (by decide) ?_
    refine lv_iadd hx hb dX1_remember_24 ?_
    refine lv_iconst (v := 4) hx hb dX1_remember_25 (by decide) ?_
    refine lv_irem hx hb dX1_remember_26 (by decide) ?_
    refine va_put (D := D) (ci := 1) (v := .int ((nx + 1) - (nx + 1) / 4 * 4)) (ty := .int) (C := RX1) (T := TX1) (N := 3) hx hb hts hin_X1 tyX1 tyX1_ok nmX1 hown hK hP hD hS 0 rfl rfl 1 (by decide) fl_22 (fun _ h9 => h9) rfl (by decide +kernel) rfl rfl (Nat.le_of_ble_eq_true rfl) dX1_remember_27 (fun H locs hP hD hS => ?_)
    have hP : va_P D vwCl (List.flatten [(W_Hh cI cC cT h0 h1 h2 h7 h12 h17 ((nx + 1) - (nx + 1) / 4 * 4) nz), (W_T cI cC cT h2 h3 h4 h5 h6 h0nr h0pf h0ks h0vs h0wg h0ts), (W_T cI cC cT h7 h8 h9 h10 h11 nr_12 pf_13 ks_14 vs_15 wg_16 ts_17), (W_T cI cC cT h12 h13 h14 h15 h16 h2nr h2pf h2ks h2vs h2wg h2ts), (W_T cI cC cT h17 h18 h19 h20 h21 h3nr h3pf h3ks h3vs h3wg h3ts), (W_T cI cC cT h22 h23 h24 h25 h26 onr opf oks ovs owg ots)]) H := hP
    have hD : va_D A (List.flatten [(W_Hh cI cC cT h0 h1 h2 h7 h12 h17 ((nx + 1) - (nx + 1) / 4 * 4) nz), (W_T cI cC cT h2 h3 h4 h5 h6 h0nr h0pf h0ks h0vs h0wg h0ts), (W_T cI cC cT h7 h8 h9 h10 h11 nr_12 pf_13 ks_14 vs_15 wg_16 ts_17), (W_T cI cC cT h12 h13 h14 h15 h16 h2nr h2pf h2ks h2vs h2wg h2ts), (W_T cI cC cT h17 h18 h19 h20 h21 h3nr h3pf h3ks h3vs h3wg h3ts), (W_T cI cC cT h22 h23 h24 h25 h26 onr opf oks ovs owg ots)]) := hD
    refine lv_aload_n hx hb dX1_remember_30 rfl (lv_at hl 1 rfl) ?_
    refine lv_aload_n hx hb dX1_remember_31 rfl (lv_at hl 1 rfl) ?_
    refine va_get (D := D) (ci := 1) (v := .int nz) (C := RX1) (T := TX1) (N := 3) hx hb hts hin_X1 hown hK hP 0 rfl rfl 2 (by decide) fl_18 (fun _ h9 => h9) rfl dX1_remember_32 ?_
    refine lv_iconst (v := 1) hx hb dX1_remember_35 (by decide) ?_
    refine lv_iadd hx hb dX1_remember_36 ?_
    refine lv_iconst (v := 4) hx hb dX1_remember_37 (by decide) ?_
    refine va_mmin hx hb (by rw [hml]; exact hl.1.symm) hown (hts (.methodLink RX1 33 Lib.Math.min.name) (by decide +kernel)) (hts (.static Lib.Math.min.name) (by decide +kernel)) (hts (.initialized "java/lang/Math") (by decide +kernel)) (hts (.code Lib.Math.min.name Lib.Math.min.code 2 (some .int)) (by decide +kernel)) (Nat.le_of_ble_eq_true rfl) (Nat.le_of_ble_eq_true rfl) (Nat.zero_le _) (Nat.zero_le _) dX1_remember_38 ?_
    refine va_put (D := D) (ci := 1) (v := .int (if 4 < (nz + 1) then 4 else (nz + 1))) (ty := .int) (C := RX1) (T := TX1) (N := 3) hx hb hts hin_X1 tyX1 tyX1_ok nmX1 hown hK hP hD hS 0 rfl rfl 2 (by decide) fl_18 (fun _ h9 => h9) rfl (by decide +kernel) rfl rfl (Nat.le_of_ble_eq_true rfl) dX1_remember_41 (fun H locs hP hD hS => ?_)
    have hP : va_P D vwCl (List.flatten [(W_Hh cI cC cT h0 h1 h2 h7 h12 h17 ((nx + 1) - (nx + 1) / 4 * 4) (if 4 < (nz + 1) then 4 else (nz + 1))), (W_T cI cC cT h2 h3 h4 h5 h6 h0nr h0pf h0ks h0vs h0wg h0ts), (W_T cI cC cT h7 h8 h9 h10 h11 nr_12 pf_13 ks_14 vs_15 wg_16 ts_17), (W_T cI cC cT h12 h13 h14 h15 h16 h2nr h2pf h2ks h2vs h2wg h2ts), (W_T cI cC cT h17 h18 h19 h20 h21 h3nr h3pf h3ks h3vs h3wg h3ts), (W_T cI cC cT h22 h23 h24 h25 h26 onr opf oks ovs owg ots)]) H := hP
    have hD : va_D A (List.flatten [(W_Hh cI cC cT h0 h1 h2 h7 h12 h17 ((nx + 1) - (nx + 1) / 4 * 4) (if 4 < (nz + 1) then 4 else (nz + 1))), (W_T cI cC cT h2 h3 h4 h5 h6 h0nr h0pf h0ks h0vs h0wg h0ts), (W_T cI cC cT h7 h8 h9 h10 h11 nr_12 pf_13 ks_14 vs_15 wg_16 ts_17), (W_T cI cC cT h12 h13 h14 h15 h16 h2nr h2pf h2ks h2vs h2wg h2ts), (W_T cI cC cT h17 h18 h19 h20 h21 h3nr h3pf h3ks h3vs h3wg h3ts), (W_T cI cC cT h22 h23 h24 h25 h26 onr opf oks ovs owg ots)]) := hD
    cases hf
    exact mVret hx hb hr hlocks hP hD hK hS dX1_remember_44
  have hf := ite_f hf c_10
  by_cases c_19 : nx = 2
  · have hf := ite_t hf c_19
    refine lv_tope (y := 2) c_19 ?_
    obtain ⟨⟨⟩, q_20, hf⟩ := bnd hf
    refine mGorS (segs := [(W_Hh cI cC cT h0 h1 h2 h7 h12 h17 nx nz), (W_T cI cC cT h2 h3 h4 h5 h6 h0nr h0pf h0ks h0vs h0wg h0ts), (W_T cI cC cT h7 h8 h9 h10 h11 h1nr h1pf h1ks h1vs h1wg h1ts), (W_T cI cC cT h12 h13 h14 h15 h16 h2nr h2pf h2ks h2vs h2wg h2ts), (W_T cI cC cT h17 h18 h19 h20 h21 h3nr h3pf h3ks h3vs h3wg h3ts), (W_T cI cC cT h22 h23 h24 h25 h26 onr opf oks ovs owg ots)]) (wcs := [(W_Hh cI cC cT h0 h1 h2 h7 h12 h17 nx nz), (W_T cI cC cT h2 h3 h4 h5 h6 h0nr h0pf h0ks h0vs h0wg h0ts), (W_T cI cC cT h7 h8 h9 h10 h11 h1nr h1pf h1ks h1vs h1wg h1ts), (W_T cI cC cT h12 h13 h14 h15 h16 h2nr h2pf h2ks h2vs h2wg h2ts), (W_T cI cC cT h17 h18 h19 h20 h21 h3nr h3pf h3ks h3vs h3wg h3ts)]) (w1s := [(W_Hh cI cC cT h0 h1 h2 h7 h12 h17 nx nz), (W_T cI cC cT h2 h3 h4 h5 h6 h0nr h0pf h0ks h0vs h0wg h0ts), (W_T cI cC cT h7 h8 h9 h10 h11 h1nr h1pf h1ks h1vs h1wg h1ts), (W_T cI cC cT h12 h13 h14 h15 h16 h2nr h2pf h2ks h2vs h2wg h2ts), (W_T cI cC cT h17 h18 h19 h20 h21 h3nr h3pf h3ks h3vs h3wg h3ts)]) (w2s := [(W_Hh cI cC cT h0 h1 h2 h7 h12 h17 nx nz), (W_T cI cC cT h2 h3 h4 h5 h6 h0nr h0pf h0ks h0vs h0wg h0ts), (W_T cI cC cT h7 h8 h9 h10 h11 h1nr h1pf h1ks h1vs h1wg h1ts), (W_T cI cC cT h12 h13 h14 h15 h16 h2nr h2pf h2ks h2vs h2wg h2ts), (W_T cI cC cT h17 h18 h19 h20 h21 h3nr h3pf h3ks h3vs h3wg h3ts), (W_T cI cC cT h22 h23 h24 h25 h26 onr opf oks ovs owg ots)]) rfl rfl (va_runV (As := [.int 2]) (rest := []) ⟨hx, hb, hml, hown, hts⟩ (c_X1_slotAt_2 l D cI cC cT h0 h1 h2 h3 h4 h5 h6 h7 h8 h9 h10 h11 h12 h13 h14 h15 h16 h17 h18 h19 h20 h21 nx nz h0nr h0pf h0ks h0vs h0wg h0ts h1nr h1pf h1ks h1vs h1wg h1ts h2nr h2pf h2ks h2vs h2wg h2ts h3nr h3pf h3ks h3vs h3wg h3ts H.size q_20) (cwV 1 hts gX1_remember_X1_slotAt rfl rfl rfl (by decide +kernel) ⟨Nat.le_of_ble_eq_true rfl, Nat.le_of_ble_eq_true rfl⟩) (mPreVS [(W_Hh cI cC cT h0 h1 h2 h7 h12 h17 nx nz), (W_T cI cC cT h2 h3 h4 h5 h6 h0nr h0pf h0ks h0vs h0wg h0ts), (W_T cI cC cT h7 h8 h9 h10 h11 h1nr h1pf h1ks h1vs h1wg h1ts), (W_T cI cC cT h12 h13 h14 h15 h16 h2nr h2pf h2ks h2vs h2wg h2ts), (W_T cI cC cT h17 h18 h19 h20 h21 h3nr h3pf h3ks h3vs h3wg h3ts)] rfl hP hD hK hN [0, 1, 2, 3, 4] rfl (by decide) (va_recv hK (sP hP 0 rfl) (ci := 1) (q0 := 0) rfl rfl)) rfl rfl hl.1 rfl (lv_room (Nat.le_of_ble_eq_true rfl)) dX1_remember_5 ⟨Nat.zero_le _, Nat.zero_le _⟩) hP hD hS hA [0, 1, 2, 3, 4] rfl rfl rfl rfl (fun H locs hP hD hS => ?_)
    refine lv_astore_n (lv' := [(2, .ref h12), (0, .ref h0), (1, .ref h22)]) hx hb dX1_remember_8 rfl hl (by decide) rfl (fun ls hl => ?_)
    refine lv_aload_n hx hb dX1_remember_9 rfl (lv_at hl 0 rfl) ?_
    refine lv_ifnull hx hb dX1_remember_10 ?_
    refine lv_aload_n hx hb dX1_remember_13 rfl (lv_at hl 0 rfl) ?_
    refine lv_aload_n hx hb dX1_remember_14 rfl (lv_at hl 2 rfl) ?_
    obtain ⟨⟨nr_21, pf_22, ks_23, vs_24, wg_25, ts_26⟩, q_27, hf⟩ := bnd hf
    refine mGovS (segs := [(W_Hh cI cC cT h0 h1 h2 h7 h12 h17 nx nz), (W_T cI cC cT h2 h3 h4 h5 h6 h0nr h0pf h0ks h0vs h0wg h0ts), (W_T cI cC cT h7 h8 h9 h10 h11 h1nr h1pf h1ks h1vs h1wg h1ts), (W_T cI cC cT h12 h13 h14 h15 h16 h2nr h2pf h2ks h2vs h2wg h2ts), (W_T cI cC cT h17 h18 h19 h20 h21 h3nr h3pf h3ks h3vs h3wg h3ts), (W_T cI cC cT h22 h23 h24 h25 h26 onr opf oks ovs owg ots)]) (wcs := [(W_T cI cC cT h12 h13 h14 h15 h16 h2nr h2pf h2ks h2vs h2wg h2ts), (W_T cI cC cT h22 h23 h24 h25 h26 onr opf oks ovs owg ots)]) (w1s := [(W_T cI cC cT h12 h13 h14 h15 h16 nr_21 pf_22 ks_23 vs_24 wg_25 ts_26), (W_T cI cC cT h22 h23 h24 h25 h26 onr opf oks ovs owg ots)]) (w2s := [(W_Hh cI cC cT h0 h1 h2 h7 h12 h17 nx nz), (W_T cI cC cT h2 h3 h4 h5 h6 h0nr h0pf h0ks h0vs h0wg h0ts), (W_T cI cC cT h7 h8 h9 h10 h11 h1nr h1pf h1ks h1vs h1wg h1ts), (W_T cI cC cT h12 h13 h14 h15 h16 nr_21 pf_22 ks_23 vs_24 wg_25 ts_26), (W_T cI cC cT h17 h18 h19 h20 h21 h3nr h3pf h3ks h3vs h3wg h3ts), (W_T cI cC cT h22 h23 h24 h25 h26 onr opf oks ovs owg ots)]) rfl rfl (va_runV (As := [.ref h22]) (rest := []) ⟨hx, hb, hml, hown, hts⟩ (c_X3_copyFrom l D cI cC cT h12 h13 h14 h15 h16 h22 h23 h24 h25 h26 h2nr h2pf h2ks h2vs h2wg h2ts onr opf oks ovs owg ots H.size nr_21 pf_22 ks_23 vs_24 wg_25 ts_26 q_27) (cwV 1 hts gX1_remember_X3_copyFrom rfl rfl rfl (by decide +kernel) ⟨Nat.le_of_ble_eq_true rfl, Nat.le_of_ble_eq_true rfl⟩) (mPreVS [(W_T cI cC cT h12 h13 h14 h15 h16 h2nr h2pf h2ks h2vs h2wg h2ts), (W_T cI cC cT h22 h23 h24 h25 h26 onr opf oks ovs owg ots)] rfl hP hD hK hN [3, 5] rfl (by decide) (va_recv hK (sP hP 3 rfl) (ci := 3) (q0 := 0) rfl rfl)) rfl rfl hl.1 rfl (lv_room (Nat.le_of_ble_eq_true rfl)) dX1_remember_15 ⟨Nat.zero_le _, Nat.zero_le _⟩) hP hD hS hA [3, 5] rfl rfl rfl rfl (fun H locs hP hD hS => ?_)
    refine lv_aload_n hx hb dX1_remember_18 rfl (lv_at hl 1 rfl) ?_
    refine lv_aload_n hx hb dX1_remember_19 rfl (lv_at hl 1 rfl) ?_
    refine va_get (D := D) (ci := 1) (v := .int nx) (C := RX1) (T := TX1) (N := 3) hx hb hts hin_X1 hown hK hP 0 rfl rfl 1 (by decide) fl_22 (fun _ h9 => h9) rfl dX1_remember_20 ?_
    refine lv_iconst (v := 1) hx hb dX1_remember_23 (by decide) ?_
    refine lv_iadd hx hb dX1_remember_24 ?_
    refine lv_iconst (v := 4) hx hb dX1_remember_25 (by decide) ?_
    refine lv_irem hx hb dX1_remember_26 (by decide) ?_
    refine va_put (D := D) (ci := 1) (v := .int ((nx + 1) - (nx + 1) / 4 * 4)) (ty := .int) (C := RX1) (T := TX1) (N := 3) hx hb hts hin_X1 tyX1 tyX1_ok nmX1 hown hK hP hD hS 0 rfl rfl 1 (by decide) fl_22 (fun _ h9 => h9) rfl (by decide +kernel) rfl rfl (Nat.le_of_ble_eq_true rfl) dX1_remember_27 (fun H locs hP hD hS => ?_)
    have hP : va_P D vwCl (List.flatten [(W_Hh cI cC cT h0 h1 h2 h7 h12 h17 ((nx + 1) - (nx + 1) / 4 * 4) nz), (W_T cI cC cT h2 h3 h4 h5 h6 h0nr h0pf h0ks h0vs h0wg h0ts), (W_T cI cC cT h7 h8 h9 h10 h11 h1nr h1pf h1ks h1vs h1wg h1ts), (W_T cI cC cT h12 h13 h14 h15 h16 nr_21 pf_22 ks_23 vs_24 wg_25 ts_26), (W_T cI cC cT h17 h18 h19 h20 h21 h3nr h3pf h3ks h3vs h3wg h3ts), (W_T cI cC cT h22 h23 h24 h25 h26 onr opf oks ovs owg ots)]) H := hP
    have hD : va_D A (List.flatten [(W_Hh cI cC cT h0 h1 h2 h7 h12 h17 ((nx + 1) - (nx + 1) / 4 * 4) nz), (W_T cI cC cT h2 h3 h4 h5 h6 h0nr h0pf h0ks h0vs h0wg h0ts), (W_T cI cC cT h7 h8 h9 h10 h11 h1nr h1pf h1ks h1vs h1wg h1ts), (W_T cI cC cT h12 h13 h14 h15 h16 nr_21 pf_22 ks_23 vs_24 wg_25 ts_26), (W_T cI cC cT h17 h18 h19 h20 h21 h3nr h3pf h3ks h3vs h3wg h3ts), (W_T cI cC cT h22 h23 h24 h25 h26 onr opf oks ovs owg ots)]) := hD
    refine lv_aload_n hx hb dX1_remember_30 rfl (lv_at hl 1 rfl) ?_
    refine lv_aload_n hx hb dX1_remember_31 rfl (lv_at hl 1 rfl) ?_
    refine va_get (D := D) (ci := 1) (v := .int nz) (C := RX1) (T := TX1) (N := 3) hx hb hts hin_X1 hown hK hP 0 rfl rfl 2 (by decide) fl_18 (fun _ h9 => h9) rfl dX1_remember_32 ?_
    refine lv_iconst (v := 1) hx hb dX1_remember_35 (by decide) ?_
    refine lv_iadd hx hb dX1_remember_36 ?_
    refine lv_iconst (v := 4) hx hb dX1_remember_37 (by decide) ?_
    refine va_mmin hx hb (by rw [hml]; exact hl.1.symm) hown (hts (.methodLink RX1 33 Lib.Math.min.name) (by decide +kernel)) (hts (.static Lib.Math.min.name) (by decide +kernel)) (hts (.initialized "java/lang/Math") (by decide +kernel)) (hts (.code Lib.Math.min.name Lib.Math.min.code 2 (some .int)) (by decide +kernel)) (Nat.le_of_ble_eq_true rfl) (Nat.le_of_ble_eq_true rfl) (Nat.zero_le _) (Nat.zero_le _) dX1_remember_38 ?_
    refine va_put (D := D) (ci := 1) (v := .int (if 4 < (nz + 1) then 4 else (nz + 1))) (ty := .int) (C := RX1) (T := TX1) (N := 3) hx hb hts hin_X1 tyX1 tyX1_ok nmX1 hown hK hP hD hS 0 rfl rfl 2 (by decide) fl_18 (fun _ h9 => h9) rfl (by decide +kernel) rfl rfl (Nat.le_of_ble_eq_true rfl) dX1_remember_41 (fun H locs hP hD hS => ?_)
    have hP : va_P D vwCl (List.flatten [(W_Hh cI cC cT h0 h1 h2 h7 h12 h17 ((nx + 1) - (nx + 1) / 4 * 4) (if 4 < (nz + 1) then 4 else (nz + 1))), (W_T cI cC cT h2 h3 h4 h5 h6 h0nr h0pf h0ks h0vs h0wg h0ts), (W_T cI cC cT h7 h8 h9 h10 h11 h1nr h1pf h1ks h1vs h1wg h1ts), (W_T cI cC cT h12 h13 h14 h15 h16 nr_21 pf_22 ks_23 vs_24 wg_25 ts_26), (W_T cI cC cT h17 h18 h19 h20 h21 h3nr h3pf h3ks h3vs h3wg h3ts), (W_T cI cC cT h22 h23 h24 h25 h26 onr opf oks ovs owg ots)]) H := hP
    have hD : va_D A (List.flatten [(W_Hh cI cC cT h0 h1 h2 h7 h12 h17 ((nx + 1) - (nx + 1) / 4 * 4) (if 4 < (nz + 1) then 4 else (nz + 1))), (W_T cI cC cT h2 h3 h4 h5 h6 h0nr h0pf h0ks h0vs h0wg h0ts), (W_T cI cC cT h7 h8 h9 h10 h11 h1nr h1pf h1ks h1vs h1wg h1ts), (W_T cI cC cT h12 h13 h14 h15 h16 nr_21 pf_22 ks_23 vs_24 wg_25 ts_26), (W_T cI cC cT h17 h18 h19 h20 h21 h3nr h3pf h3ks h3vs h3wg h3ts), (W_T cI cC cT h22 h23 h24 h25 h26 onr opf oks ovs owg ots)]) := hD
    cases hf
    exact mVret hx hb hr hlocks hP hD hK hS dX1_remember_44
  have hf := ite_f hf c_19
  by_cases c_28 : nx = 3
  · have hf := ite_t hf c_28
    refine lv_tope (y := 3) c_28 ?_
    obtain ⟨⟨⟩, q_29, hf⟩ := bnd hf
    refine mGorS (segs := [(W_Hh cI cC cT h0 h1 h2 h7 h12 h17 nx nz), (W_T cI cC cT h2 h3 h4 h5 h6 h0nr h0pf h0ks h0vs h0wg h0ts), (W_T cI cC cT h7 h8 h9 h10 h11 h1nr h1pf h1ks h1vs h1wg h1ts), (W_T cI cC cT h12 h13 h14 h15 h16 h2nr h2pf h2ks h2vs h2wg h2ts), (W_T cI cC cT h17 h18 h19 h20 h21 h3nr h3pf h3ks h3vs h3wg h3ts), (W_T cI cC cT h22 h23 h24 h25 h26 onr opf oks ovs owg ots)]) (wcs := [(W_Hh cI cC cT h0 h1 h2 h7 h12 h17 nx nz), (W_T cI cC cT h2 h3 h4 h5 h6 h0nr h0pf h0ks h0vs h0wg h0ts), (W_T cI cC cT h7 h8 h9 h10 h11 h1nr h1pf h1ks h1vs h1wg h1ts), (W_T cI cC cT h12 h13 h14 h15 h16 h2nr h2pf h2ks h2vs h2wg h2ts), (W_T cI cC cT h17 h18 h19 h20 h21 h3nr h3pf h3ks h3vs h3wg h3ts)]) (w1s := [(W_Hh cI cC cT h0 h1 h2 h7 h12 h17 nx nz), (W_T cI cC cT h2 h3 h4 h5 h6 h0nr h0pf h0ks h0vs h0wg h0ts), (W_T cI cC cT h7 h8 h9 h10 h11 h1nr h1pf h1ks h1vs h1wg h1ts), (W_T cI cC cT h12 h13 h14 h15 h16 h2nr h2pf h2ks h2vs h2wg h2ts), (W_T cI cC cT h17 h18 h19 h20 h21 h3nr h3pf h3ks h3vs h3wg h3ts)]) (w2s := [(W_Hh cI cC cT h0 h1 h2 h7 h12 h17 nx nz), (W_T cI cC cT h2 h3 h4 h5 h6 h0nr h0pf h0ks h0vs h0wg h0ts), (W_T cI cC cT h7 h8 h9 h10 h11 h1nr h1pf h1ks h1vs h1wg h1ts), (W_T cI cC cT h12 h13 h14 h15 h16 h2nr h2pf h2ks h2vs h2wg h2ts), (W_T cI cC cT h17 h18 h19 h20 h21 h3nr h3pf h3ks h3vs h3wg h3ts), (W_T cI cC cT h22 h23 h24 h25 h26 onr opf oks ovs owg ots)]) rfl rfl (va_runV (As := [.int 3]) (rest := []) ⟨hx, hb, hml, hown, hts⟩ (c_X1_slotAt_3 l D cI cC cT h0 h1 h2 h3 h4 h5 h6 h7 h8 h9 h10 h11 h12 h13 h14 h15 h16 h17 h18 h19 h20 h21 nx nz h0nr h0pf h0ks h0vs h0wg h0ts h1nr h1pf h1ks h1vs h1wg h1ts h2nr h2pf h2ks h2vs h2wg h2ts h3nr h3pf h3ks h3vs h3wg h3ts H.size q_29) (cwV 1 hts gX1_remember_X1_slotAt rfl rfl rfl (by decide +kernel) ⟨Nat.le_of_ble_eq_true rfl, Nat.le_of_ble_eq_true rfl⟩) (mPreVS [(W_Hh cI cC cT h0 h1 h2 h7 h12 h17 nx nz), (W_T cI cC cT h2 h3 h4 h5 h6 h0nr h0pf h0ks h0vs h0wg h0ts), (W_T cI cC cT h7 h8 h9 h10 h11 h1nr h1pf h1ks h1vs h1wg h1ts), (W_T cI cC cT h12 h13 h14 h15 h16 h2nr h2pf h2ks h2vs h2wg h2ts), (W_T cI cC cT h17 h18 h19 h20 h21 h3nr h3pf h3ks h3vs h3wg h3ts)] rfl hP hD hK hN [0, 1, 2, 3, 4] rfl (by decide) (va_recv hK (sP hP 0 rfl) (ci := 1) (q0 := 0) rfl rfl)) rfl rfl hl.1 rfl (lv_room (Nat.le_of_ble_eq_true rfl)) dX1_remember_5 ⟨Nat.zero_le _, Nat.zero_le _⟩) hP hD hS hA [0, 1, 2, 3, 4] rfl rfl rfl rfl (fun H locs hP hD hS => ?_)
    refine lv_astore_n (lv' := [(2, .ref h17), (0, .ref h0), (1, .ref h22)]) hx hb dX1_remember_8 rfl hl (by decide) rfl (fun ls hl => ?_)
    refine lv_aload_n hx hb dX1_remember_9 rfl (lv_at hl 0 rfl) ?_
    refine lv_ifnull hx hb dX1_remember_10 ?_
    refine lv_aload_n hx hb dX1_remember_13 rfl (lv_at hl 0 rfl) ?_
    refine lv_aload_n hx hb dX1_remember_14 rfl (lv_at hl 2 rfl) ?_
    obtain ⟨⟨nr_30, pf_31, ks_32, vs_33, wg_34, ts_35⟩, q_36, hf⟩ := bnd hf
    refine mGovS (segs := [(W_Hh cI cC cT h0 h1 h2 h7 h12 h17 nx nz), (W_T cI cC cT h2 h3 h4 h5 h6 h0nr h0pf h0ks h0vs h0wg h0ts), (W_T cI cC cT h7 h8 h9 h10 h11 h1nr h1pf h1ks h1vs h1wg h1ts), (W_T cI cC cT h12 h13 h14 h15 h16 h2nr h2pf h2ks h2vs h2wg h2ts), (W_T cI cC cT h17 h18 h19 h20 h21 h3nr h3pf h3ks h3vs h3wg h3ts), (W_T cI cC cT h22 h23 h24 h25 h26 onr opf oks ovs owg ots)]) (wcs := [(W_T cI cC cT h17 h18 h19 h20 h21 h3nr h3pf h3ks h3vs h3wg h3ts), (W_T cI cC cT h22 h23 h24 h25 h26 onr opf oks ovs owg ots)]) (w1s := [(W_T cI cC cT h17 h18 h19 h20 h21 nr_30 pf_31 ks_32 vs_33 wg_34 ts_35), (W_T cI cC cT h22 h23 h24 h25 h26 onr opf oks ovs owg ots)]) (w2s := [(W_Hh cI cC cT h0 h1 h2 h7 h12 h17 nx nz), (W_T cI cC cT h2 h3 h4 h5 h6 h0nr h0pf h0ks h0vs h0wg h0ts), (W_T cI cC cT h7 h8 h9 h10 h11 h1nr h1pf h1ks h1vs h1wg h1ts), (W_T cI cC cT h12 h13 h14 h15 h16 h2nr h2pf h2ks h2vs h2wg h2ts), (W_T cI cC cT h17 h18 h19 h20 h21 nr_30 pf_31 ks_32 vs_33 wg_34 ts_35), (W_T cI cC cT h22 h23 h24 h25 h26 onr opf oks ovs owg ots)]) rfl rfl (va_runV (As := [.ref h22]) (rest := []) ⟨hx, hb, hml, hown, hts⟩ (c_X3_copyFrom l D cI cC cT h17 h18 h19 h20 h21 h22 h23 h24 h25 h26 h3nr h3pf h3ks h3vs h3wg h3ts onr opf oks ovs owg ots H.size nr_30 pf_31 ks_32 vs_33 wg_34 ts_35 q_36) (cwV 1 hts gX1_remember_X3_copyFrom rfl rfl rfl (by decide +kernel) ⟨Nat.le_of_ble_eq_true rfl, Nat.le_of_ble_eq_true rfl⟩) (mPreVS [(W_T cI cC cT h17 h18 h19 h20 h21 h3nr h3pf h3ks h3vs h3wg h3ts), (W_T cI cC cT h22 h23 h24 h25 h26 onr opf oks ovs owg ots)] rfl hP hD hK hN [4, 5] rfl (by decide) (va_recv hK (sP hP 4 rfl) (ci := 3) (q0 := 0) rfl rfl)) rfl rfl hl.1 rfl (lv_room (Nat.le_of_ble_eq_true rfl)) dX1_remember_15 ⟨Nat.zero_le _, Nat.zero_le _⟩) hP hD hS hA [4, 5] rfl rfl rfl rfl (fun H locs hP hD hS => ?_)
    refine lv_aload_n hx hb dX1_remember_18 rfl (lv_at hl 1 rfl) ?_
    refine lv_aload_n hx hb dX1_remember_19 rfl (lv_at hl 1 rfl) ?_
    refine va_get (D := D) (ci := 1) (v := .int nx) (C := RX1) (T := TX1) (N := 3) hx hb hts hin_X1 hown hK hP 0 rfl rfl 1 (by decide) fl_22 (fun _ h9 => h9) rfl dX1_remember_20 ?_
    refine lv_iconst (v := 1) hx hb dX1_remember_23 (by decide) ?_
    refine lv_iadd hx hb dX1_remember_24 ?_
    refine lv_iconst (v := 4) hx hb dX1_remember_25 (by decide) ?_
    refine lv_irem hx hb dX1_remember_26 (by decide) ?_
    refine va_put (D := D) (ci := 1) (v := .int ((nx + 1) - (nx + 1) / 4 * 4)) (ty := .int) (C := RX1) (T := TX1) (N := 3) hx hb hts hin_X1 tyX1 tyX1_ok nmX1 hown hK hP hD hS 0 rfl rfl 1 (by decide) fl_22 (fun _ h9 => h9) rfl (by decide +kernel) rfl rfl (Nat.le_of_ble_eq_true rfl) dX1_remember_27 (fun H locs hP hD hS => ?_)
    have hP : va_P D vwCl (List.flatten [(W_Hh cI cC cT h0 h1 h2 h7 h12 h17 ((nx + 1) - (nx + 1) / 4 * 4) nz), (W_T cI cC cT h2 h3 h4 h5 h6 h0nr h0pf h0ks h0vs h0wg h0ts), (W_T cI cC cT h7 h8 h9 h10 h11 h1nr h1pf h1ks h1vs h1wg h1ts), (W_T cI cC cT h12 h13 h14 h15 h16 h2nr h2pf h2ks h2vs h2wg h2ts), (W_T cI cC cT h17 h18 h19 h20 h21 nr_30 pf_31 ks_32 vs_33 wg_34 ts_35), (W_T cI cC cT h22 h23 h24 h25 h26 onr opf oks ovs owg ots)]) H := hP
    have hD : va_D A (List.flatten [(W_Hh cI cC cT h0 h1 h2 h7 h12 h17 ((nx + 1) - (nx + 1) / 4 * 4) nz), (W_T cI cC cT h2 h3 h4 h5 h6 h0nr h0pf h0ks h0vs h0wg h0ts), (W_T cI cC cT h7 h8 h9 h10 h11 h1nr h1pf h1ks h1vs h1wg h1ts), (W_T cI cC cT h12 h13 h14 h15 h16 h2nr h2pf h2ks h2vs h2wg h2ts), (W_T cI cC cT h17 h18 h19 h20 h21 nr_30 pf_31 ks_32 vs_33 wg_34 ts_35), (W_T cI cC cT h22 h23 h24 h25 h26 onr opf oks ovs owg ots)]) := hD
    refine lv_aload_n hx hb dX1_remember_30 rfl (lv_at hl 1 rfl) ?_
    refine lv_aload_n hx hb dX1_remember_31 rfl (lv_at hl 1 rfl) ?_
    refine va_get (D := D) (ci := 1) (v := .int nz) (C := RX1) (T := TX1) (N := 3) hx hb hts hin_X1 hown hK hP 0 rfl rfl 2 (by decide) fl_18 (fun _ h9 => h9) rfl dX1_remember_32 ?_
    refine lv_iconst (v := 1) hx hb dX1_remember_35 (by decide) ?_
    refine lv_iadd hx hb dX1_remember_36 ?_
    refine lv_iconst (v := 4) hx hb dX1_remember_37 (by decide) ?_
    refine va_mmin hx hb (by rw [hml]; exact hl.1.symm) hown (hts (.methodLink RX1 33 Lib.Math.min.name) (by decide +kernel)) (hts (.static Lib.Math.min.name) (by decide +kernel)) (hts (.initialized "java/lang/Math") (by decide +kernel)) (hts (.code Lib.Math.min.name Lib.Math.min.code 2 (some .int)) (by decide +kernel)) (Nat.le_of_ble_eq_true rfl) (Nat.le_of_ble_eq_true rfl) (Nat.zero_le _) (Nat.zero_le _) dX1_remember_38 ?_
    refine va_put (D := D) (ci := 1) (v := .int (if 4 < (nz + 1) then 4 else (nz + 1))) (ty := .int) (C := RX1) (T := TX1) (N := 3) hx hb hts hin_X1 tyX1 tyX1_ok nmX1 hown hK hP hD hS 0 rfl rfl 2 (by decide) fl_18 (fun _ h9 => h9) rfl (by decide +kernel) rfl rfl (Nat.le_of_ble_eq_true rfl) dX1_remember_41 (fun H locs hP hD hS => ?_)
    have hP : va_P D vwCl (List.flatten [(W_Hh cI cC cT h0 h1 h2 h7 h12 h17 ((nx + 1) - (nx + 1) / 4 * 4) (if 4 < (nz + 1) then 4 else (nz + 1))), (W_T cI cC cT h2 h3 h4 h5 h6 h0nr h0pf h0ks h0vs h0wg h0ts), (W_T cI cC cT h7 h8 h9 h10 h11 h1nr h1pf h1ks h1vs h1wg h1ts), (W_T cI cC cT h12 h13 h14 h15 h16 h2nr h2pf h2ks h2vs h2wg h2ts), (W_T cI cC cT h17 h18 h19 h20 h21 nr_30 pf_31 ks_32 vs_33 wg_34 ts_35), (W_T cI cC cT h22 h23 h24 h25 h26 onr opf oks ovs owg ots)]) H := hP
    have hD : va_D A (List.flatten [(W_Hh cI cC cT h0 h1 h2 h7 h12 h17 ((nx + 1) - (nx + 1) / 4 * 4) (if 4 < (nz + 1) then 4 else (nz + 1))), (W_T cI cC cT h2 h3 h4 h5 h6 h0nr h0pf h0ks h0vs h0wg h0ts), (W_T cI cC cT h7 h8 h9 h10 h11 h1nr h1pf h1ks h1vs h1wg h1ts), (W_T cI cC cT h12 h13 h14 h15 h16 h2nr h2pf h2ks h2vs h2wg h2ts), (W_T cI cC cT h17 h18 h19 h20 h21 nr_30 pf_31 ks_32 vs_33 wg_34 ts_35), (W_T cI cC cT h22 h23 h24 h25 h26 onr opf oks ovs owg ots)]) := hD
    cases hf
    exact mVret hx hb hr hlocks hP hD hK hS dX1_remember_44
  have hf := ite_f hf c_28
  cases hf
abbrev rm_X1_size : Room := { frames := 0, cells := 0, slots := 0, locals := 0 }
set_option maxHeartbeats 4000000 in
set_option maxRecDepth 100000 in
theorem c_X1_size (l : Launch) (D : va_G) (cI cC cT : ClassId) (h0 h1 h2 h3 h4 h5 h6 h7 h8 h9 h10 h11 h12 h13 h14 h15 h16 h17 h18 h19 h20 h21 : Nat) (nx : Int32) (nz : Int32) (h0nr : Int32) (h0pf : Int32) (h0ks : Nat → Int32) (h0vs : Nat → Int32) (h0wg : Nat → Int32) (h0ts : Nat → Int32) (h1nr : Int32) (h1pf : Int32) (h1ks : Nat → Int32) (h1vs : Nat → Int32) (h1wg : Nat → Int32) (h1ts : Nat → Int32) (h2nr : Int32) (h2pf : Int32) (h2ks : Nat → Int32) (h2vs : Nat → Int32) (h2wg : Nat → Int32) (h2ts : Nat → Int32) (h3nr : Int32) (h3pf : Int32) (h3ks : Nat → Int32) (h3vs : Nat → Int32) (h3wg : Nat → Int32) (h3ts : Nat → Int32) (sz : Nat) (out : Int32) (hf : f_X1_size nz = some out) : Met l yX1_size wsX1_size rm_X1_size (mP D (mTY cI cC cT) [.ref h0] (List.flatten [(W_Hh cI cC cT h0 h1 h2 h7 h12 h17 nx nz), (W_T cI cC cT h2 h3 h4 h5 h6 h0nr h0pf h0ks h0vs h0wg h0ts), (W_T cI cC cT h7 h8 h9 h10 h11 h1nr h1pf h1ks h1vs h1wg h1ts), (W_T cI cC cT h12 h13 h14 h15 h16 h2nr h2pf h2ks h2vs h2wg h2ts), (W_T cI cC cT h17 h18 h19 h20 h21 h3nr h3pf h3ks h3vs h3wg h3ts)]) sz) (mQi D (mTY cI cC cT) out (va_A (List.flatten [(W_Hh cI cC cT h0 h1 h2 h7 h12 h17 nx nz), (W_T cI cC cT h2 h3 h4 h5 h6 h0nr h0pf h0ks h0vs h0wg h0ts), (W_T cI cC cT h7 h8 h9 h10 h11 h1nr h1pf h1ks h1vs h1wg h1ts), (W_T cI cC cT h12 h13 h14 h15 h16 h2nr h2pf h2ks h2vs h2wg h2ts), (W_T cI cC cT h17 h18 h19 h20 h21 h3nr h3pf h3ks h3vs h3wg h3ts)]) sz) (List.flatten [(W_Hh cI cC cT h0 h1 h2 h7 h12 h17 nx nz), (W_T cI cC cT h2 h3 h4 h5 h6 h0nr h0pf h0ks h0vs h0wg h0ts), (W_T cI cC cT h7 h8 h9 h10 h11 h1nr h1pf h1ks h1vs h1wg h1ts), (W_T cI cC cT h12 h13 h14 h15 h16 h2nr h2pf h2ks h2vs h2wg h2ts), (W_T cI cC cT h17 h18 h19 h20 h21 h3nr h3pf h3ks h3vs h3wg h3ts)])) 0 0 (va_A (List.flatten [(W_Hh cI cC cT h0 h1 h2 h7 h12 h17 nx nz), (W_T cI cC cT h2 h3 h4 h5 h6 h0nr h0pf h0ks h0vs h0wg h0ts), (W_T cI cC cT h7 h8 h9 h10 h11 h1nr h1pf h1ks h1vs h1wg h1ts), (W_T cI cC cT h12 h13 h14 h15 h16 h2nr h2pf h2ks h2vs h2wg h2ts), (W_T cI cC cT h17 h18 h19 h20 h21 h3nr h3pf h3ks h3vs h3wg h3ts)]) sz) := by
  refine mEnt (cc := cX1_size) (maxL := 1) (ret := (some .int)) (own := RX1) (Qq := fun A => mQi D (mTY cI cC cT) out A (List.flatten [(W_Hh cI cC cT h0 h1 h2 h7 h12 h17 nx nz), (W_T cI cC cT h2 h3 h4 h5 h6 h0nr h0pf h0ks h0vs h0wg h0ts), (W_T cI cC cT h7 h8 h9 h10 h11 h1nr h1pf h1ks h1vs h1wg h1ts), (W_T cI cC cT h12 h13 h14 h15 h16 h2nr h2pf h2ks h2vs h2wg h2ts), (W_T cI cC cT h17 h18 h19 h20 h21 h3nr h3pf h3ks h3vs h3wg h3ts)])) (by decide) rfl rfl (Nat.le_of_ble_eq_true rfl) ?_
  intro p e s m below meth c A ls H locs hx hb hr hml hlocks hown hts hN hA hP hK hD hS hl
  have hin_X1 : ∀ w ∈ u_ws RX1 TX1 3, w ∈ wsX1_size := by decide +kernel
  have fl_18 := hts (.fieldLink RX1 18 "SureMendings$History" "size" "I") (by decide +kernel)
  have hl : lv_has ls 1 [(0, .ref h0)] := hl
  unfold f_X1_size at hf
  refine lv_aload_n hx hb dX1_size_0 rfl (lv_at hl 0 rfl) ?_
  refine va_get (D := D) (ci := 1) (v := .int nz) (C := RX1) (T := TX1) (N := 3) hx hb hts hin_X1 hown hK hP 0 rfl rfl 2 (by decide) fl_18 (fun _ h9 => h9) rfl dX1_size_1 ?_
  cases hf
  exact mIret hx hb hr hlocks hP hD hK hS dX1_size_4
abbrev rm_X1_takeBack : Room := { frames := 3, cells := 0, slots := 0, locals := 60 }
set_option maxHeartbeats 4000000 in
set_option maxRecDepth 100000 in
theorem c_X1_takeBack (l : Launch) (D : va_G) (cI cC cT : ClassId) (h0 h1 h2 h3 h4 h5 h6 h7 h8 h9 h10 h11 h12 h13 h14 h15 h16 h17 h18 h19 h20 h21 h22 h23 h24 h25 h26 : Nat) (nx : Int32) (nz : Int32) (h0nr : Int32) (h0pf : Int32) (h0ks : Nat → Int32) (h0vs : Nat → Int32) (h0wg : Nat → Int32) (h0ts : Nat → Int32) (h1nr : Int32) (h1pf : Int32) (h1ks : Nat → Int32) (h1vs : Nat → Int32) (h1wg : Nat → Int32) (h1ts : Nat → Int32) (h2nr : Int32) (h2pf : Int32) (h2ks : Nat → Int32) (h2vs : Nat → Int32) (h2wg : Nat → Int32) (h2ts : Nat → Int32) (h3nr : Int32) (h3pf : Int32) (h3ks : Nat → Int32) (h3vs : Nat → Int32) (h3wg : Nat → Int32) (h3ts : Nat → Int32) (onr : Int32) (opf : Int32) (oks : Nat → Int32) (ovs : Nat → Int32) (owg : Nat → Int32) (ots : Nat → Int32) (sz : Nat) (out : Int32) (o_nx : Int32) (o_nz : Int32) (o_onr : Int32) (o_opf : Int32) (o_oks : Nat → Int32) (o_ovs : Nat → Int32) (o_owg : Nat → Int32) (o_ots : Nat → Int32) (hf : f_X1_takeBack nx nz h0nr h0pf h0ks h0vs h0wg h0ts h1nr h1pf h1ks h1vs h1wg h1ts h2nr h2pf h2ks h2vs h2wg h2ts h3nr h3pf h3ks h3vs h3wg h3ts onr opf oks ovs owg ots = some ((out, o_nx, o_nz, o_onr, o_opf, o_oks, o_ovs, o_owg, o_ots))) : Met l yX1_takeBack wsX1_takeBack rm_X1_takeBack (mP D (mTY cI cC cT) [.ref h0, .ref h22] (List.flatten [(W_Hh cI cC cT h0 h1 h2 h7 h12 h17 nx nz), (W_T cI cC cT h2 h3 h4 h5 h6 h0nr h0pf h0ks h0vs h0wg h0ts), (W_T cI cC cT h7 h8 h9 h10 h11 h1nr h1pf h1ks h1vs h1wg h1ts), (W_T cI cC cT h12 h13 h14 h15 h16 h2nr h2pf h2ks h2vs h2wg h2ts), (W_T cI cC cT h17 h18 h19 h20 h21 h3nr h3pf h3ks h3vs h3wg h3ts), (W_T cI cC cT h22 h23 h24 h25 h26 onr opf oks ovs owg ots)]) sz) (mQi D (mTY cI cC cT) out (va_A (List.flatten [(W_Hh cI cC cT h0 h1 h2 h7 h12 h17 nx nz), (W_T cI cC cT h2 h3 h4 h5 h6 h0nr h0pf h0ks h0vs h0wg h0ts), (W_T cI cC cT h7 h8 h9 h10 h11 h1nr h1pf h1ks h1vs h1wg h1ts), (W_T cI cC cT h12 h13 h14 h15 h16 h2nr h2pf h2ks h2vs h2wg h2ts), (W_T cI cC cT h17 h18 h19 h20 h21 h3nr h3pf h3ks h3vs h3wg h3ts), (W_T cI cC cT h22 h23 h24 h25 h26 onr opf oks ovs owg ots)]) sz) (List.flatten [(W_Hh cI cC cT h0 h1 h2 h7 h12 h17 o_nx o_nz), (W_T cI cC cT h2 h3 h4 h5 h6 h0nr h0pf h0ks h0vs h0wg h0ts), (W_T cI cC cT h7 h8 h9 h10 h11 h1nr h1pf h1ks h1vs h1wg h1ts), (W_T cI cC cT h12 h13 h14 h15 h16 h2nr h2pf h2ks h2vs h2wg h2ts), (W_T cI cC cT h17 h18 h19 h20 h21 h3nr h3pf h3ks h3vs h3wg h3ts), (W_T cI cC cT h22 h23 h24 h25 h26 o_onr o_opf o_oks o_ovs o_owg o_ots)])) 0 0 (va_A (List.flatten [(W_Hh cI cC cT h0 h1 h2 h7 h12 h17 nx nz), (W_T cI cC cT h2 h3 h4 h5 h6 h0nr h0pf h0ks h0vs h0wg h0ts), (W_T cI cC cT h7 h8 h9 h10 h11 h1nr h1pf h1ks h1vs h1wg h1ts), (W_T cI cC cT h12 h13 h14 h15 h16 h2nr h2pf h2ks h2vs h2wg h2ts), (W_T cI cC cT h17 h18 h19 h20 h21 h3nr h3pf h3ks h3vs h3wg h3ts), (W_T cI cC cT h22 h23 h24 h25 h26 onr opf oks ovs owg ots)]) sz) := by
  refine mEnt (cc := cX1_takeBack) (maxL := 4) (ret := (some .boolean)) (own := RX1) (Qq := fun A => mQi D (mTY cI cC cT) out A (List.flatten [(W_Hh cI cC cT h0 h1 h2 h7 h12 h17 o_nx o_nz), (W_T cI cC cT h2 h3 h4 h5 h6 h0nr h0pf h0ks h0vs h0wg h0ts), (W_T cI cC cT h7 h8 h9 h10 h11 h1nr h1pf h1ks h1vs h1wg h1ts), (W_T cI cC cT h12 h13 h14 h15 h16 h2nr h2pf h2ks h2vs h2wg h2ts), (W_T cI cC cT h17 h18 h19 h20 h21 h3nr h3pf h3ks h3vs h3wg h3ts), (W_T cI cC cT h22 h23 h24 h25 h26 o_onr o_opf o_oks o_ovs o_owg o_ots)])) (by decide) rfl rfl (Nat.le_of_ble_eq_true rfl) ?_
  intro p e s m below meth c A ls H locs hx hb hr hml hlocks hown hts hN hA hP hK hD hS hl
  have hin_X1 : ∀ w ∈ u_ws RX1 TX1 3, w ∈ wsX1_takeBack := by decide +kernel
  have fl_18 := hts (.fieldLink RX1 18 "SureMendings$History" "size" "I") (by decide +kernel)
  have fl_22 := hts (.fieldLink RX1 22 "SureMendings$History" "next" "I") (by decide +kernel)
  have hl : lv_has ls 4 [(0, .ref h0), (1, .ref h22)] := hl
  unfold f_X1_takeBack at hf
  refine lv_aload_n hx hb dX1_takeBack_0 rfl (lv_at hl 0 rfl) ?_
  refine va_get (D := D) (ci := 1) (v := .int nx) (C := RX1) (T := TX1) (N := 3) hx hb hts hin_X1 hown hK hP 0 rfl rfl 1 (by decide) fl_22 (fun _ h9 => h9) rfl dX1_takeBack_1 ?_
  refine lv_iconst (v := 4) hx hb dX1_takeBack_4 (by decide) ?_
  refine lv_iadd hx hb dX1_takeBack_5 ?_
  refine lv_iconst (v := 1) hx hb dX1_takeBack_6 (by decide) ?_
  refine lv_isub hx hb dX1_takeBack_7 ?_
  refine lv_iconst (v := 4) hx hb dX1_takeBack_8 (by decide) ?_
  refine lv_irem hx hb dX1_takeBack_9 (by decide) ?_
  by_cases c_1 : (((nx + 4) - 1) - ((nx + 4) - 1) / 4 * 4) = 0
  · have hf := ite_t hf c_1
    refine lv_tope (y := 0) c_1 ?_
    refine lv_istore_n (lv' := [(2, .int 0), (0, .ref h0), (1, .ref h22)]) hx hb dX1_takeBack_10 rfl hl (by decide) rfl (fun ls hl => ?_)
    refine lv_aload_n hx hb dX1_takeBack_11 rfl (lv_at hl 1 rfl) ?_
    refine lv_iload_n hx hb dX1_takeBack_12 rfl (lv_at hl 0 rfl) ?_
    obtain ⟨⟨⟩, q_2, hf⟩ := bnd hf
    refine mGorS (segs := [(W_Hh cI cC cT h0 h1 h2 h7 h12 h17 nx nz), (W_T cI cC cT h2 h3 h4 h5 h6 h0nr h0pf h0ks h0vs h0wg h0ts), (W_T cI cC cT h7 h8 h9 h10 h11 h1nr h1pf h1ks h1vs h1wg h1ts), (W_T cI cC cT h12 h13 h14 h15 h16 h2nr h2pf h2ks h2vs h2wg h2ts), (W_T cI cC cT h17 h18 h19 h20 h21 h3nr h3pf h3ks h3vs h3wg h3ts), (W_T cI cC cT h22 h23 h24 h25 h26 onr opf oks ovs owg ots)]) (wcs := [(W_Hh cI cC cT h0 h1 h2 h7 h12 h17 nx nz), (W_T cI cC cT h2 h3 h4 h5 h6 h0nr h0pf h0ks h0vs h0wg h0ts), (W_T cI cC cT h7 h8 h9 h10 h11 h1nr h1pf h1ks h1vs h1wg h1ts), (W_T cI cC cT h12 h13 h14 h15 h16 h2nr h2pf h2ks h2vs h2wg h2ts), (W_T cI cC cT h17 h18 h19 h20 h21 h3nr h3pf h3ks h3vs h3wg h3ts)]) (w1s := [(W_Hh cI cC cT h0 h1 h2 h7 h12 h17 nx nz), (W_T cI cC cT h2 h3 h4 h5 h6 h0nr h0pf h0ks h0vs h0wg h0ts), (W_T cI cC cT h7 h8 h9 h10 h11 h1nr h1pf h1ks h1vs h1wg h1ts), (W_T cI cC cT h12 h13 h14 h15 h16 h2nr h2pf h2ks h2vs h2wg h2ts), (W_T cI cC cT h17 h18 h19 h20 h21 h3nr h3pf h3ks h3vs h3wg h3ts)]) (w2s := [(W_Hh cI cC cT h0 h1 h2 h7 h12 h17 nx nz), (W_T cI cC cT h2 h3 h4 h5 h6 h0nr h0pf h0ks h0vs h0wg h0ts), (W_T cI cC cT h7 h8 h9 h10 h11 h1nr h1pf h1ks h1vs h1wg h1ts), (W_T cI cC cT h12 h13 h14 h15 h16 h2nr h2pf h2ks h2vs h2wg h2ts), (W_T cI cC cT h17 h18 h19 h20 h21 h3nr h3pf h3ks h3vs h3wg h3ts), (W_T cI cC cT h22 h23 h24 h25 h26 onr opf oks ovs owg ots)]) rfl rfl (va_runV (As := [.int 0]) (rest := []) ⟨hx, hb, hml, hown, hts⟩ (c_X1_slotAt_0 l D cI cC cT h0 h1 h2 h3 h4 h5 h6 h7 h8 h9 h10 h11 h12 h13 h14 h15 h16 h17 h18 h19 h20 h21 nx nz h0nr h0pf h0ks h0vs h0wg h0ts h1nr h1pf h1ks h1vs h1wg h1ts h2nr h2pf h2ks h2vs h2wg h2ts h3nr h3pf h3ks h3vs h3wg h3ts H.size q_2) (cwV 1 hts gX1_takeBack_X1_slotAt rfl rfl rfl (by decide +kernel) ⟨Nat.le_of_ble_eq_true rfl, Nat.le_of_ble_eq_true rfl⟩) (mPreVS [(W_Hh cI cC cT h0 h1 h2 h7 h12 h17 nx nz), (W_T cI cC cT h2 h3 h4 h5 h6 h0nr h0pf h0ks h0vs h0wg h0ts), (W_T cI cC cT h7 h8 h9 h10 h11 h1nr h1pf h1ks h1vs h1wg h1ts), (W_T cI cC cT h12 h13 h14 h15 h16 h2nr h2pf h2ks h2vs h2wg h2ts), (W_T cI cC cT h17 h18 h19 h20 h21 h3nr h3pf h3ks h3vs h3wg h3ts)] rfl hP hD hK hN [0, 1, 2, 3, 4] rfl (by decide) (va_recv hK (sP hP 0 rfl) (ci := 1) (q0 := 0) rfl rfl)) rfl rfl hl.1 rfl (lv_room (Nat.le_of_ble_eq_true rfl)) dX1_takeBack_13 ⟨Nat.zero_le _, Nat.zero_le _⟩) hP hD hS hA [0, 1, 2, 3, 4] rfl rfl rfl rfl (fun H locs hP hD hS => ?_)
    refine lv_astore_n (lv' := [(3, .ref h2), (2, .int 0), (0, .ref h0), (1, .ref h22)]) hx hb dX1_takeBack_16 rfl hl (by decide) rfl (fun ls hl => ?_)
    refine lv_aload_n hx hb dX1_takeBack_17 rfl (lv_at hl 2 rfl) ?_
    refine va_get (D := D) (ci := 1) (v := .int nz) (C := RX1) (T := TX1) (N := 3) hx hb hts hin_X1 hown hK hP 0 rfl rfl 2 (by decide) fl_18 (fun _ h9 => h9) rfl dX1_takeBack_18 ?_
    refine lv_iconst (v := 1) hx hb dX1_takeBack_21 (by decide) ?_
    refine lv_icmp_lt (tgt := 29) hx hb dX1_takeBack_22 (by decide) (fun c_3 => ?_) (fun c_3 => ?_)
    · have hf := ite_t hf c_3
      refine lv_iconst (v := 0) hx hb dX1_takeBack_29 (by decide) ?_
      cases hf
      exact mZret hx hb hr rfl hlocks hP hD hK hS dX1_takeBack_30
    · have hf := ite_f hf c_3
      refine lv_aload_n hx hb dX1_takeBack_25 rfl (lv_at hl 0 rfl) ?_
      refine lv_ifnonnull (tgt := 31) hx hb dX1_takeBack_26 (by decide) ?_
      refine lv_aload_n hx hb dX1_takeBack_31 rfl (lv_at hl 3 rfl) ?_
      refine lv_aload_n hx hb dX1_takeBack_32 rfl (lv_at hl 0 rfl) ?_
      obtain ⟨⟨nr_4, pf_5, ks_6, vs_7, wg_8, ts_9⟩, q_10, hf⟩ := bnd hf
      refine mGovS (segs := [(W_Hh cI cC cT h0 h1 h2 h7 h12 h17 nx nz), (W_T cI cC cT h2 h3 h4 h5 h6 h0nr h0pf h0ks h0vs h0wg h0ts), (W_T cI cC cT h7 h8 h9 h10 h11 h1nr h1pf h1ks h1vs h1wg h1ts), (W_T cI cC cT h12 h13 h14 h15 h16 h2nr h2pf h2ks h2vs h2wg h2ts), (W_T cI cC cT h17 h18 h19 h20 h21 h3nr h3pf h3ks h3vs h3wg h3ts), (W_T cI cC cT h22 h23 h24 h25 h26 onr opf oks ovs owg ots)]) (wcs := [(W_T cI cC cT h22 h23 h24 h25 h26 onr opf oks ovs owg ots), (W_T cI cC cT h2 h3 h4 h5 h6 h0nr h0pf h0ks h0vs h0wg h0ts)]) (w1s := [(W_T cI cC cT h22 h23 h24 h25 h26 nr_4 pf_5 ks_6 vs_7 wg_8 ts_9), (W_T cI cC cT h2 h3 h4 h5 h6 h0nr h0pf h0ks h0vs h0wg h0ts)]) (w2s := [(W_Hh cI cC cT h0 h1 h2 h7 h12 h17 nx nz), (W_T cI cC cT h2 h3 h4 h5 h6 h0nr h0pf h0ks h0vs h0wg h0ts), (W_T cI cC cT h7 h8 h9 h10 h11 h1nr h1pf h1ks h1vs h1wg h1ts), (W_T cI cC cT h12 h13 h14 h15 h16 h2nr h2pf h2ks h2vs h2wg h2ts), (W_T cI cC cT h17 h18 h19 h20 h21 h3nr h3pf h3ks h3vs h3wg h3ts), (W_T cI cC cT h22 h23 h24 h25 h26 nr_4 pf_5 ks_6 vs_7 wg_8 ts_9)]) rfl rfl (va_runV (As := [.ref h2]) (rest := []) ⟨hx, hb, hml, hown, hts⟩ (c_X3_copyFrom l D cI cC cT h22 h23 h24 h25 h26 h2 h3 h4 h5 h6 onr opf oks ovs owg ots h0nr h0pf h0ks h0vs h0wg h0ts H.size nr_4 pf_5 ks_6 vs_7 wg_8 ts_9 q_10) (cwV 1 hts gX1_takeBack_X3_copyFrom rfl rfl rfl (by decide +kernel) ⟨Nat.le_of_ble_eq_true rfl, Nat.le_of_ble_eq_true rfl⟩) (mPreVS [(W_T cI cC cT h22 h23 h24 h25 h26 onr opf oks ovs owg ots), (W_T cI cC cT h2 h3 h4 h5 h6 h0nr h0pf h0ks h0vs h0wg h0ts)] rfl hP hD hK hN [5, 1] rfl (by decide) (va_recv hK (sP hP 5 rfl) (ci := 3) (q0 := 0) rfl rfl)) rfl rfl hl.1 rfl (lv_room (Nat.le_of_ble_eq_true rfl)) dX1_takeBack_33 ⟨Nat.zero_le _, Nat.zero_le _⟩) hP hD hS hA [5, 1] rfl rfl rfl rfl (fun H locs hP hD hS => ?_)
      refine lv_aload_n hx hb dX1_takeBack_36 rfl (lv_at hl 2 rfl) ?_
      refine lv_iload_n hx hb dX1_takeBack_37 rfl (lv_at hl 1 rfl) ?_
      refine va_put (D := D) (ci := 1) (v := .int 0) (ty := .int) (C := RX1) (T := TX1) (N := 3) hx hb hts hin_X1 tyX1 tyX1_ok nmX1 hown hK hP hD hS 0 rfl rfl 1 (by decide) fl_22 (fun _ h9 => h9) rfl (by decide +kernel) rfl rfl (Nat.le_of_ble_eq_true rfl) dX1_takeBack_38 (fun H locs hP hD hS => ?_)
      have hP : va_P D vwCl (List.flatten [(W_Hh cI cC cT h0 h1 h2 h7 h12 h17 0 nz), (W_T cI cC cT h2 h3 h4 h5 h6 h0nr h0pf h0ks h0vs h0wg h0ts), (W_T cI cC cT h7 h8 h9 h10 h11 h1nr h1pf h1ks h1vs h1wg h1ts), (W_T cI cC cT h12 h13 h14 h15 h16 h2nr h2pf h2ks h2vs h2wg h2ts), (W_T cI cC cT h17 h18 h19 h20 h21 h3nr h3pf h3ks h3vs h3wg h3ts), (W_T cI cC cT h22 h23 h24 h25 h26 nr_4 pf_5 ks_6 vs_7 wg_8 ts_9)]) H := hP
      have hD : va_D A (List.flatten [(W_Hh cI cC cT h0 h1 h2 h7 h12 h17 0 nz), (W_T cI cC cT h2 h3 h4 h5 h6 h0nr h0pf h0ks h0vs h0wg h0ts), (W_T cI cC cT h7 h8 h9 h10 h11 h1nr h1pf h1ks h1vs h1wg h1ts), (W_T cI cC cT h12 h13 h14 h15 h16 h2nr h2pf h2ks h2vs h2wg h2ts), (W_T cI cC cT h17 h18 h19 h20 h21 h3nr h3pf h3ks h3vs h3wg h3ts), (W_T cI cC cT h22 h23 h24 h25 h26 nr_4 pf_5 ks_6 vs_7 wg_8 ts_9)]) := hD
      refine lv_aload_n hx hb dX1_takeBack_41 rfl (lv_at hl 2 rfl) ?_
      refine lv_dup hx hb dX1_takeBack_42 rfl ?_
      refine va_get (D := D) (ci := 1) (v := .int nz) (C := RX1) (T := TX1) (N := 3) hx hb hts hin_X1 hown hK hP 0 rfl rfl 2 (by decide) fl_18 (fun _ h9 => h9) rfl dX1_takeBack_43 ?_
      refine lv_iconst (v := 1) hx hb dX1_takeBack_46 (by decide) ?_
      refine lv_isub hx hb dX1_takeBack_47 ?_
      refine va_put (D := D) (ci := 1) (v := .int (nz - 1)) (ty := .int) (C := RX1) (T := TX1) (N := 3) hx hb hts hin_X1 tyX1 tyX1_ok nmX1 hown hK hP hD hS 0 rfl rfl 2 (by decide) fl_18 (fun _ h9 => h9) rfl (by decide +kernel) rfl rfl (Nat.le_of_ble_eq_true rfl) dX1_takeBack_48 (fun H locs hP hD hS => ?_)
      have hP : va_P D vwCl (List.flatten [(W_Hh cI cC cT h0 h1 h2 h7 h12 h17 0 (nz - 1)), (W_T cI cC cT h2 h3 h4 h5 h6 h0nr h0pf h0ks h0vs h0wg h0ts), (W_T cI cC cT h7 h8 h9 h10 h11 h1nr h1pf h1ks h1vs h1wg h1ts), (W_T cI cC cT h12 h13 h14 h15 h16 h2nr h2pf h2ks h2vs h2wg h2ts), (W_T cI cC cT h17 h18 h19 h20 h21 h3nr h3pf h3ks h3vs h3wg h3ts), (W_T cI cC cT h22 h23 h24 h25 h26 nr_4 pf_5 ks_6 vs_7 wg_8 ts_9)]) H := hP
      have hD : va_D A (List.flatten [(W_Hh cI cC cT h0 h1 h2 h7 h12 h17 0 (nz - 1)), (W_T cI cC cT h2 h3 h4 h5 h6 h0nr h0pf h0ks h0vs h0wg h0ts), (W_T cI cC cT h7 h8 h9 h10 h11 h1nr h1pf h1ks h1vs h1wg h1ts), (W_T cI cC cT h12 h13 h14 h15 h16 h2nr h2pf h2ks h2vs h2wg h2ts), (W_T cI cC cT h17 h18 h19 h20 h21 h3nr h3pf h3ks h3vs h3wg h3ts), (W_T cI cC cT h22 h23 h24 h25 h26 nr_4 pf_5 ks_6 vs_7 wg_8 ts_9)]) := hD
      refine lv_iconst (v := 1) hx hb dX1_takeBack_51 (by decide) ?_
      cases hf
      exact mZret hx hb hr rfl hlocks hP hD hK hS dX1_takeBack_52
  have hf := ite_f hf c_1
  by_cases c_11 : (((nx + 4) - 1) - ((nx + 4) - 1) / 4 * 4) = 1
  · have hf := ite_t hf c_11
    refine lv_tope (y := 1) c_11 ?_
    refine lv_istore_n (lv' := [(2, .int 1), (0, .ref h0), (1, .ref h22)]) hx hb dX1_takeBack_10 rfl hl (by decide) rfl (fun ls hl => ?_)
    refine lv_aload_n hx hb dX1_takeBack_11 rfl (lv_at hl 1 rfl) ?_
    refine lv_iload_n hx hb dX1_takeBack_12 rfl (lv_at hl 0 rfl) ?_
    obtain ⟨⟨⟩, q_12, hf⟩ := bnd hf
    refine mGorS (segs := [(W_Hh cI cC cT h0 h1 h2 h7 h12 h17 nx nz), (W_T cI cC cT h2 h3 h4 h5 h6 h0nr h0pf h0ks h0vs h0wg h0ts), (W_T cI cC cT h7 h8 h9 h10 h11 h1nr h1pf h1ks h1vs h1wg h1ts), (W_T cI cC cT h12 h13 h14 h15 h16 h2nr h2pf h2ks h2vs h2wg h2ts), (W_T cI cC cT h17 h18 h19 h20 h21 h3nr h3pf h3ks h3vs h3wg h3ts), (W_T cI cC cT h22 h23 h24 h25 h26 onr opf oks ovs owg ots)]) (wcs := [(W_Hh cI cC cT h0 h1 h2 h7 h12 h17 nx nz), (W_T cI cC cT h2 h3 h4 h5 h6 h0nr h0pf h0ks h0vs h0wg h0ts), (W_T cI cC cT h7 h8 h9 h10 h11 h1nr h1pf h1ks h1vs h1wg h1ts), (W_T cI cC cT h12 h13 h14 h15 h16 h2nr h2pf h2ks h2vs h2wg h2ts), (W_T cI cC cT h17 h18 h19 h20 h21 h3nr h3pf h3ks h3vs h3wg h3ts)]) (w1s := [(W_Hh cI cC cT h0 h1 h2 h7 h12 h17 nx nz), (W_T cI cC cT h2 h3 h4 h5 h6 h0nr h0pf h0ks h0vs h0wg h0ts), (W_T cI cC cT h7 h8 h9 h10 h11 h1nr h1pf h1ks h1vs h1wg h1ts), (W_T cI cC cT h12 h13 h14 h15 h16 h2nr h2pf h2ks h2vs h2wg h2ts), (W_T cI cC cT h17 h18 h19 h20 h21 h3nr h3pf h3ks h3vs h3wg h3ts)]) (w2s := [(W_Hh cI cC cT h0 h1 h2 h7 h12 h17 nx nz), (W_T cI cC cT h2 h3 h4 h5 h6 h0nr h0pf h0ks h0vs h0wg h0ts), (W_T cI cC cT h7 h8 h9 h10 h11 h1nr h1pf h1ks h1vs h1wg h1ts), (W_T cI cC cT h12 h13 h14 h15 h16 h2nr h2pf h2ks h2vs h2wg h2ts), (W_T cI cC cT h17 h18 h19 h20 h21 h3nr h3pf h3ks h3vs h3wg h3ts), (W_T cI cC cT h22 h23 h24 h25 h26 onr opf oks ovs owg ots)]) rfl rfl (va_runV (As := [.int 1]) (rest := []) ⟨hx, hb, hml, hown, hts⟩ (c_X1_slotAt_1 l D cI cC cT h0 h1 h2 h3 h4 h5 h6 h7 h8 h9 h10 h11 h12 h13 h14 h15 h16 h17 h18 h19 h20 h21 nx nz h0nr h0pf h0ks h0vs h0wg h0ts h1nr h1pf h1ks h1vs h1wg h1ts h2nr h2pf h2ks h2vs h2wg h2ts h3nr h3pf h3ks h3vs h3wg h3ts H.size q_12) (cwV 1 hts gX1_takeBack_X1_slotAt rfl rfl rfl (by decide +kernel) ⟨Nat.le_of_ble_eq_true rfl, Nat.le_of_ble_eq_true rfl⟩) (mPreVS [(W_Hh cI cC cT h0 h1 h2 h7 h12 h17 nx nz), (W_T cI cC cT h2 h3 h4 h5 h6 h0nr h0pf h0ks h0vs h0wg h0ts), (W_T cI cC cT h7 h8 h9 h10 h11 h1nr h1pf h1ks h1vs h1wg h1ts), (W_T cI cC cT h12 h13 h14 h15 h16 h2nr h2pf h2ks h2vs h2wg h2ts), (W_T cI cC cT h17 h18 h19 h20 h21 h3nr h3pf h3ks h3vs h3wg h3ts)] rfl hP hD hK hN [0, 1, 2, 3, 4] rfl (by decide) (va_recv hK (sP hP 0 rfl) (ci := 1) (q0 := 0) rfl rfl)) rfl rfl hl.1 rfl (lv_room (Nat.le_of_ble_eq_true rfl)) dX1_takeBack_13 ⟨Nat.zero_le _, Nat.zero_le _⟩) hP hD hS hA [0, 1, 2, 3, 4] rfl rfl rfl rfl (fun H locs hP hD hS => ?_)
    refine lv_astore_n (lv' := [(3, .ref h7), (2, .int 1), (0, .ref h0), (1, .ref h22)]) hx hb dX1_takeBack_16 rfl hl (by decide) rfl (fun ls hl => ?_)
    refine lv_aload_n hx hb dX1_takeBack_17 rfl (lv_at hl 2 rfl) ?_
    refine va_get (D := D) (ci := 1) (v := .int nz) (C := RX1) (T := TX1) (N := 3) hx hb hts hin_X1 hown hK hP 0 rfl rfl 2 (by decide) fl_18 (fun _ h9 => h9) rfl dX1_takeBack_18 ?_
    refine lv_iconst (v := 1) hx hb dX1_takeBack_21 (by decide) ?_
    refine lv_icmp_lt (tgt := 29) hx hb dX1_takeBack_22 (by decide) (fun c_13 => ?_) (fun c_13 => ?_)
    · have hf := ite_t hf c_13
      refine lv_iconst (v := 0) hx hb dX1_takeBack_29 (by decide) ?_
      cases hf
      exact mZret hx hb hr rfl hlocks hP hD hK hS dX1_takeBack_30
    · have hf := ite_f hf c_13
      refine lv_aload_n hx hb dX1_takeBack_25 rfl (lv_at hl 0 rfl) ?_
      refine lv_ifnonnull (tgt := 31) hx hb dX1_takeBack_26 (by decide) ?_
      refine lv_aload_n hx hb dX1_takeBack_31 rfl (lv_at hl 3 rfl) ?_
      refine lv_aload_n hx hb dX1_takeBack_32 rfl (lv_at hl 0 rfl) ?_
      obtain ⟨⟨nr_14, pf_15, ks_16, vs_17, wg_18, ts_19⟩, q_20, hf⟩ := bnd hf
      refine mGovS (segs := [(W_Hh cI cC cT h0 h1 h2 h7 h12 h17 nx nz), (W_T cI cC cT h2 h3 h4 h5 h6 h0nr h0pf h0ks h0vs h0wg h0ts), (W_T cI cC cT h7 h8 h9 h10 h11 h1nr h1pf h1ks h1vs h1wg h1ts), (W_T cI cC cT h12 h13 h14 h15 h16 h2nr h2pf h2ks h2vs h2wg h2ts), (W_T cI cC cT h17 h18 h19 h20 h21 h3nr h3pf h3ks h3vs h3wg h3ts), (W_T cI cC cT h22 h23 h24 h25 h26 onr opf oks ovs owg ots)]) (wcs := [(W_T cI cC cT h22 h23 h24 h25 h26 onr opf oks ovs owg ots), (W_T cI cC cT h7 h8 h9 h10 h11 h1nr h1pf h1ks h1vs h1wg h1ts)]) (w1s := [(W_T cI cC cT h22 h23 h24 h25 h26 nr_14 pf_15 ks_16 vs_17 wg_18 ts_19), (W_T cI cC cT h7 h8 h9 h10 h11 h1nr h1pf h1ks h1vs h1wg h1ts)]) (w2s := [(W_Hh cI cC cT h0 h1 h2 h7 h12 h17 nx nz), (W_T cI cC cT h2 h3 h4 h5 h6 h0nr h0pf h0ks h0vs h0wg h0ts), (W_T cI cC cT h7 h8 h9 h10 h11 h1nr h1pf h1ks h1vs h1wg h1ts), (W_T cI cC cT h12 h13 h14 h15 h16 h2nr h2pf h2ks h2vs h2wg h2ts), (W_T cI cC cT h17 h18 h19 h20 h21 h3nr h3pf h3ks h3vs h3wg h3ts), (W_T cI cC cT h22 h23 h24 h25 h26 nr_14 pf_15 ks_16 vs_17 wg_18 ts_19)]) rfl rfl (va_runV (As := [.ref h7]) (rest := []) ⟨hx, hb, hml, hown, hts⟩ (c_X3_copyFrom l D cI cC cT h22 h23 h24 h25 h26 h7 h8 h9 h10 h11 onr opf oks ovs owg ots h1nr h1pf h1ks h1vs h1wg h1ts H.size nr_14 pf_15 ks_16 vs_17 wg_18 ts_19 q_20) (cwV 1 hts gX1_takeBack_X3_copyFrom rfl rfl rfl (by decide +kernel) ⟨Nat.le_of_ble_eq_true rfl, Nat.le_of_ble_eq_true rfl⟩) (mPreVS [(W_T cI cC cT h22 h23 h24 h25 h26 onr opf oks ovs owg ots), (W_T cI cC cT h7 h8 h9 h10 h11 h1nr h1pf h1ks h1vs h1wg h1ts)] rfl hP hD hK hN [5, 2] rfl (by decide) (va_recv hK (sP hP 5 rfl) (ci := 3) (q0 := 0) rfl rfl)) rfl rfl hl.1 rfl (lv_room (Nat.le_of_ble_eq_true rfl)) dX1_takeBack_33 ⟨Nat.zero_le _, Nat.zero_le _⟩) hP hD hS hA [5, 2] rfl rfl rfl rfl (fun H locs hP hD hS => ?_)
      refine lv_aload_n hx hb dX1_takeBack_36 rfl (lv_at hl 2 rfl) ?_
      refine lv_iload_n hx hb dX1_takeBack_37 rfl (lv_at hl 1 rfl) ?_
      refine va_put (D := D) (ci := 1) (v := .int 1) (ty := .int) (C := RX1) (T := TX1) (N := 3) hx hb hts hin_X1 tyX1 tyX1_ok nmX1 hown hK hP hD hS 0 rfl rfl 1 (by decide) fl_22 (fun _ h9 => h9) rfl (by decide +kernel) rfl rfl (Nat.le_of_ble_eq_true rfl) dX1_takeBack_38 (fun H locs hP hD hS => ?_)
      have hP : va_P D vwCl (List.flatten [(W_Hh cI cC cT h0 h1 h2 h7 h12 h17 1 nz), (W_T cI cC cT h2 h3 h4 h5 h6 h0nr h0pf h0ks h0vs h0wg h0ts), (W_T cI cC cT h7 h8 h9 h10 h11 h1nr h1pf h1ks h1vs h1wg h1ts), (W_T cI cC cT h12 h13 h14 h15 h16 h2nr h2pf h2ks h2vs h2wg h2ts), (W_T cI cC cT h17 h18 h19 h20 h21 h3nr h3pf h3ks h3vs h3wg h3ts), (W_T cI cC cT h22 h23 h24 h25 h26 nr_14 pf_15 ks_16 vs_17 wg_18 ts_19)]) H := hP
      have hD : va_D A (List.flatten [(W_Hh cI cC cT h0 h1 h2 h7 h12 h17 1 nz), (W_T cI cC cT h2 h3 h4 h5 h6 h0nr h0pf h0ks h0vs h0wg h0ts), (W_T cI cC cT h7 h8 h9 h10 h11 h1nr h1pf h1ks h1vs h1wg h1ts), (W_T cI cC cT h12 h13 h14 h15 h16 h2nr h2pf h2ks h2vs h2wg h2ts), (W_T cI cC cT h17 h18 h19 h20 h21 h3nr h3pf h3ks h3vs h3wg h3ts), (W_T cI cC cT h22 h23 h24 h25 h26 nr_14 pf_15 ks_16 vs_17 wg_18 ts_19)]) := hD
      refine lv_aload_n hx hb dX1_takeBack_41 rfl (lv_at hl 2 rfl) ?_
      refine lv_dup hx hb dX1_takeBack_42 rfl ?_
      refine va_get (D := D) (ci := 1) (v := .int nz) (C := RX1) (T := TX1) (N := 3) hx hb hts hin_X1 hown hK hP 0 rfl rfl 2 (by decide) fl_18 (fun _ h9 => h9) rfl dX1_takeBack_43 ?_
      refine lv_iconst (v := 1) hx hb dX1_takeBack_46 (by decide) ?_
      refine lv_isub hx hb dX1_takeBack_47 ?_
      refine va_put (D := D) (ci := 1) (v := .int (nz - 1)) (ty := .int) (C := RX1) (T := TX1) (N := 3) hx hb hts hin_X1 tyX1 tyX1_ok nmX1 hown hK hP hD hS 0 rfl rfl 2 (by decide) fl_18 (fun _ h9 => h9) rfl (by decide +kernel) rfl rfl (Nat.le_of_ble_eq_true rfl) dX1_takeBack_48 (fun H locs hP hD hS => ?_)
      have hP : va_P D vwCl (List.flatten [(W_Hh cI cC cT h0 h1 h2 h7 h12 h17 1 (nz - 1)), (W_T cI cC cT h2 h3 h4 h5 h6 h0nr h0pf h0ks h0vs h0wg h0ts), (W_T cI cC cT h7 h8 h9 h10 h11 h1nr h1pf h1ks h1vs h1wg h1ts), (W_T cI cC cT h12 h13 h14 h15 h16 h2nr h2pf h2ks h2vs h2wg h2ts), (W_T cI cC cT h17 h18 h19 h20 h21 h3nr h3pf h3ks h3vs h3wg h3ts), (W_T cI cC cT h22 h23 h24 h25 h26 nr_14 pf_15 ks_16 vs_17 wg_18 ts_19)]) H := hP
      have hD : va_D A (List.flatten [(W_Hh cI cC cT h0 h1 h2 h7 h12 h17 1 (nz - 1)), (W_T cI cC cT h2 h3 h4 h5 h6 h0nr h0pf h0ks h0vs h0wg h0ts), (W_T cI cC cT h7 h8 h9 h10 h11 h1nr h1pf h1ks h1vs h1wg h1ts), (W_T cI cC cT h12 h13 h14 h15 h16 h2nr h2pf h2ks h2vs h2wg h2ts), (W_T cI cC cT h17 h18 h19 h20 h21 h3nr h3pf h3ks h3vs h3wg h3ts), (W_T cI cC cT h22 h23 h24 h25 h26 nr_14 pf_15 ks_16 vs_17 wg_18 ts_19)]) := hD
      refine lv_iconst (v := 1) hx hb dX1_takeBack_51 (by decide) ?_
      cases hf
      exact mZret hx hb hr rfl hlocks hP hD hK hS dX1_takeBack_52
  have hf := ite_f hf c_11
  by_cases c_21 : (((nx + 4) - 1) - ((nx + 4) - 1) / 4 * 4) = 2
  · have hf := ite_t hf c_21
    refine lv_tope (y := 2) c_21 ?_
    refine lv_istore_n (lv' := [(2, .int 2), (0, .ref h0), (1, .ref h22)]) hx hb dX1_takeBack_10 rfl hl (by decide) rfl (fun ls hl => ?_)
    refine lv_aload_n hx hb dX1_takeBack_11 rfl (lv_at hl 1 rfl) ?_
    refine lv_iload_n hx hb dX1_takeBack_12 rfl (lv_at hl 0 rfl) ?_
    obtain ⟨⟨⟩, q_22, hf⟩ := bnd hf
    refine mGorS (segs := [(W_Hh cI cC cT h0 h1 h2 h7 h12 h17 nx nz), (W_T cI cC cT h2 h3 h4 h5 h6 h0nr h0pf h0ks h0vs h0wg h0ts), (W_T cI cC cT h7 h8 h9 h10 h11 h1nr h1pf h1ks h1vs h1wg h1ts), (W_T cI cC cT h12 h13 h14 h15 h16 h2nr h2pf h2ks h2vs h2wg h2ts), (W_T cI cC cT h17 h18 h19 h20 h21 h3nr h3pf h3ks h3vs h3wg h3ts), (W_T cI cC cT h22 h23 h24 h25 h26 onr opf oks ovs owg ots)]) (wcs := [(W_Hh cI cC cT h0 h1 h2 h7 h12 h17 nx nz), (W_T cI cC cT h2 h3 h4 h5 h6 h0nr h0pf h0ks h0vs h0wg h0ts), (W_T cI cC cT h7 h8 h9 h10 h11 h1nr h1pf h1ks h1vs h1wg h1ts), (W_T cI cC cT h12 h13 h14 h15 h16 h2nr h2pf h2ks h2vs h2wg h2ts), (W_T cI cC cT h17 h18 h19 h20 h21 h3nr h3pf h3ks h3vs h3wg h3ts)]) (w1s := [(W_Hh cI cC cT h0 h1 h2 h7 h12 h17 nx nz), (W_T cI cC cT h2 h3 h4 h5 h6 h0nr h0pf h0ks h0vs h0wg h0ts), (W_T cI cC cT h7 h8 h9 h10 h11 h1nr h1pf h1ks h1vs h1wg h1ts), (W_T cI cC cT h12 h13 h14 h15 h16 h2nr h2pf h2ks h2vs h2wg h2ts), (W_T cI cC cT h17 h18 h19 h20 h21 h3nr h3pf h3ks h3vs h3wg h3ts)]) (w2s := [(W_Hh cI cC cT h0 h1 h2 h7 h12 h17 nx nz), (W_T cI cC cT h2 h3 h4 h5 h6 h0nr h0pf h0ks h0vs h0wg h0ts), (W_T cI cC cT h7 h8 h9 h10 h11 h1nr h1pf h1ks h1vs h1wg h1ts), (W_T cI cC cT h12 h13 h14 h15 h16 h2nr h2pf h2ks h2vs h2wg h2ts), (W_T cI cC cT h17 h18 h19 h20 h21 h3nr h3pf h3ks h3vs h3wg h3ts), (W_T cI cC cT h22 h23 h24 h25 h26 onr opf oks ovs owg ots)]) rfl rfl (va_runV (As := [.int 2]) (rest := []) ⟨hx, hb, hml, hown, hts⟩ (c_X1_slotAt_2 l D cI cC cT h0 h1 h2 h3 h4 h5 h6 h7 h8 h9 h10 h11 h12 h13 h14 h15 h16 h17 h18 h19 h20 h21 nx nz h0nr h0pf h0ks h0vs h0wg h0ts h1nr h1pf h1ks h1vs h1wg h1ts h2nr h2pf h2ks h2vs h2wg h2ts h3nr h3pf h3ks h3vs h3wg h3ts H.size q_22) (cwV 1 hts gX1_takeBack_X1_slotAt rfl rfl rfl (by decide +kernel) ⟨Nat.le_of_ble_eq_true rfl, Nat.le_of_ble_eq_true rfl⟩) (mPreVS [(W_Hh cI cC cT h0 h1 h2 h7 h12 h17 nx nz), (W_T cI cC cT h2 h3 h4 h5 h6 h0nr h0pf h0ks h0vs h0wg h0ts), (W_T cI cC cT h7 h8 h9 h10 h11 h1nr h1pf h1ks h1vs h1wg h1ts), (W_T cI cC cT h12 h13 h14 h15 h16 h2nr h2pf h2ks h2vs h2wg h2ts), (W_T cI cC cT h17 h18 h19 h20 h21 h3nr h3pf h3ks h3vs h3wg h3ts)] rfl hP hD hK hN [0, 1, 2, 3, 4] rfl (by decide) (va_recv hK (sP hP 0 rfl) (ci := 1) (q0 := 0) rfl rfl)) rfl rfl hl.1 rfl (lv_room (Nat.le_of_ble_eq_true rfl)) dX1_takeBack_13 ⟨Nat.zero_le _, Nat.zero_le _⟩) hP hD hS hA [0, 1, 2, 3, 4] rfl rfl rfl rfl (fun H locs hP hD hS => ?_)
    refine lv_astore_n (lv' := [(3, .ref h12), (2, .int 2), (0, .ref h0), (1, .ref h22)]) hx hb dX1_takeBack_16 rfl hl (by decide) rfl (fun ls hl => ?_)
    refine lv_aload_n hx hb dX1_takeBack_17 rfl (lv_at hl 2 rfl) ?_
    refine va_get (D := D) (ci := 1) (v := .int nz) (C := RX1) (T := TX1) (N := 3) hx hb hts hin_X1 hown hK hP 0 rfl rfl 2 (by decide) fl_18 (fun _ h9 => h9) rfl dX1_takeBack_18 ?_
    refine lv_iconst (v := 1) hx hb dX1_takeBack_21 (by decide) ?_
    refine lv_icmp_lt (tgt := 29) hx hb dX1_takeBack_22 (by decide) (fun c_23 => ?_) (fun c_23 => ?_)
    · have hf := ite_t hf c_23
      refine lv_iconst (v := 0) hx hb dX1_takeBack_29 (by decide) ?_
      cases hf
      exact mZret hx hb hr rfl hlocks hP hD hK hS dX1_takeBack_30
    · have hf := ite_f hf c_23
      refine lv_aload_n hx hb dX1_takeBack_25 rfl (lv_at hl 0 rfl) ?_
      refine lv_ifnonnull (tgt := 31) hx hb dX1_takeBack_26 (by decide) ?_
      refine lv_aload_n hx hb dX1_takeBack_31 rfl (lv_at hl 3 rfl) ?_
      refine lv_aload_n hx hb dX1_takeBack_32 rfl (lv_at hl 0 rfl) ?_
      obtain ⟨⟨nr_24, pf_25, ks_26, vs_27, wg_28, ts_29⟩, q_30, hf⟩ := bnd hf
      refine mGovS (segs := [(W_Hh cI cC cT h0 h1 h2 h7 h12 h17 nx nz), (W_T cI cC cT h2 h3 h4 h5 h6 h0nr h0pf h0ks h0vs h0wg h0ts), (W_T cI cC cT h7 h8 h9 h10 h11 h1nr h1pf h1ks h1vs h1wg h1ts), (W_T cI cC cT h12 h13 h14 h15 h16 h2nr h2pf h2ks h2vs h2wg h2ts), (W_T cI cC cT h17 h18 h19 h20 h21 h3nr h3pf h3ks h3vs h3wg h3ts), (W_T cI cC cT h22 h23 h24 h25 h26 onr opf oks ovs owg ots)]) (wcs := [(W_T cI cC cT h22 h23 h24 h25 h26 onr opf oks ovs owg ots), (W_T cI cC cT h12 h13 h14 h15 h16 h2nr h2pf h2ks h2vs h2wg h2ts)]) (w1s := [(W_T cI cC cT h22 h23 h24 h25 h26 nr_24 pf_25 ks_26 vs_27 wg_28 ts_29), (W_T cI cC cT h12 h13 h14 h15 h16 h2nr h2pf h2ks h2vs h2wg h2ts)]) (w2s := [(W_Hh cI cC cT h0 h1 h2 h7 h12 h17 nx nz), (W_T cI cC cT h2 h3 h4 h5 h6 h0nr h0pf h0ks h0vs h0wg h0ts), (W_T cI cC cT h7 h8 h9 h10 h11 h1nr h1pf h1ks h1vs h1wg h1ts), (W_T cI cC cT h12 h13 h14 h15 h16 h2nr h2pf h2ks h2vs h2wg h2ts), (W_T cI cC cT h17 h18 h19 h20 h21 h3nr h3pf h3ks h3vs h3wg h3ts), (W_T cI cC cT h22 h23 h24 h25 h26 nr_24 pf_25 ks_26 vs_27 wg_28 ts_29)]) rfl rfl (va_runV (As := [.ref h12]) (rest := []) ⟨hx, hb, hml, hown, hts⟩ (c_X3_copyFrom l D cI cC cT h22 h23 h24 h25 h26 h12 h13 h14 h15 h16 onr opf oks ovs owg ots h2nr h2pf h2ks h2vs h2wg h2ts H.size nr_24 pf_25 ks_26 vs_27 wg_28 ts_29 q_30) (cwV 1 hts gX1_takeBack_X3_copyFrom rfl rfl rfl (by decide +kernel) ⟨Nat.le_of_ble_eq_true rfl, Nat.le_of_ble_eq_true rfl⟩) (mPreVS [(W_T cI cC cT h22 h23 h24 h25 h26 onr opf oks ovs owg ots), (W_T cI cC cT h12 h13 h14 h15 h16 h2nr h2pf h2ks h2vs h2wg h2ts)] rfl hP hD hK hN [5, 3] rfl (by decide) (va_recv hK (sP hP 5 rfl) (ci := 3) (q0 := 0) rfl rfl)) rfl rfl hl.1 rfl (lv_room (Nat.le_of_ble_eq_true rfl)) dX1_takeBack_33 ⟨Nat.zero_le _, Nat.zero_le _⟩) hP hD hS hA [5, 3] rfl rfl rfl rfl (fun H locs hP hD hS => ?_)
      refine lv_aload_n hx hb dX1_takeBack_36 rfl (lv_at hl 2 rfl) ?_
      refine lv_iload_n hx hb dX1_takeBack_37 rfl (lv_at hl 1 rfl) ?_
      refine va_put (D := D) (ci := 1) (v := .int 2) (ty := .int) (C := RX1) (T := TX1) (N := 3) hx hb hts hin_X1 tyX1 tyX1_ok nmX1 hown hK hP hD hS 0 rfl rfl 1 (by decide) fl_22 (fun _ h9 => h9) rfl (by decide +kernel) rfl rfl (Nat.le_of_ble_eq_true rfl) dX1_takeBack_38 (fun H locs hP hD hS => ?_)
      have hP : va_P D vwCl (List.flatten [(W_Hh cI cC cT h0 h1 h2 h7 h12 h17 2 nz), (W_T cI cC cT h2 h3 h4 h5 h6 h0nr h0pf h0ks h0vs h0wg h0ts), (W_T cI cC cT h7 h8 h9 h10 h11 h1nr h1pf h1ks h1vs h1wg h1ts), (W_T cI cC cT h12 h13 h14 h15 h16 h2nr h2pf h2ks h2vs h2wg h2ts), (W_T cI cC cT h17 h18 h19 h20 h21 h3nr h3pf h3ks h3vs h3wg h3ts), (W_T cI cC cT h22 h23 h24 h25 h26 nr_24 pf_25 ks_26 vs_27 wg_28 ts_29)]) H := hP
      have hD : va_D A (List.flatten [(W_Hh cI cC cT h0 h1 h2 h7 h12 h17 2 nz), (W_T cI cC cT h2 h3 h4 h5 h6 h0nr h0pf h0ks h0vs h0wg h0ts), (W_T cI cC cT h7 h8 h9 h10 h11 h1nr h1pf h1ks h1vs h1wg h1ts), (W_T cI cC cT h12 h13 h14 h15 h16 h2nr h2pf h2ks h2vs h2wg h2ts), (W_T cI cC cT h17 h18 h19 h20 h21 h3nr h3pf h3ks h3vs h3wg h3ts), (W_T cI cC cT h22 h23 h24 h25 h26 nr_24 pf_25 ks_26 vs_27 wg_28 ts_29)]) := hD
      refine lv_aload_n hx hb dX1_takeBack_41 rfl (lv_at hl 2 rfl) ?_
      refine lv_dup hx hb dX1_takeBack_42 rfl ?_
      refine va_get (D := D) (ci := 1) (v := .int nz) (C := RX1) (T := TX1) (N := 3) hx hb hts hin_X1 hown hK hP 0 rfl rfl 2 (by decide) fl_18 (fun _ h9 => h9) rfl dX1_takeBack_43 ?_
      refine lv_iconst (v := 1) hx hb dX1_takeBack_46 (by decide) ?_
      refine lv_isub hx hb dX1_takeBack_47 ?_
      refine va_put (D := D) (ci := 1) (v := .int (nz - 1)) (ty := .int) (C := RX1) (T := TX1) (N := 3) hx hb hts hin_X1 tyX1 tyX1_ok nmX1 hown hK hP hD hS 0 rfl rfl 2 (by decide) fl_18 (fun _ h9 => h9) rfl (by decide +kernel) rfl rfl (Nat.le_of_ble_eq_true rfl) dX1_takeBack_48 (fun H locs hP hD hS => ?_)
      have hP : va_P D vwCl (List.flatten [(W_Hh cI cC cT h0 h1 h2 h7 h12 h17 2 (nz - 1)), (W_T cI cC cT h2 h3 h4 h5 h6 h0nr h0pf h0ks h0vs h0wg h0ts), (W_T cI cC cT h7 h8 h9 h10 h11 h1nr h1pf h1ks h1vs h1wg h1ts), (W_T cI cC cT h12 h13 h14 h15 h16 h2nr h2pf h2ks h2vs h2wg h2ts), (W_T cI cC cT h17 h18 h19 h20 h21 h3nr h3pf h3ks h3vs h3wg h3ts), (W_T cI cC cT h22 h23 h24 h25 h26 nr_24 pf_25 ks_26 vs_27 wg_28 ts_29)]) H := hP
      have hD : va_D A (List.flatten [(W_Hh cI cC cT h0 h1 h2 h7 h12 h17 2 (nz - 1)), (W_T cI cC cT h2 h3 h4 h5 h6 h0nr h0pf h0ks h0vs h0wg h0ts), (W_T cI cC cT h7 h8 h9 h10 h11 h1nr h1pf h1ks h1vs h1wg h1ts), (W_T cI cC cT h12 h13 h14 h15 h16 h2nr h2pf h2ks h2vs h2wg h2ts), (W_T cI cC cT h17 h18 h19 h20 h21 h3nr h3pf h3ks h3vs h3wg h3ts), (W_T cI cC cT h22 h23 h24 h25 h26 nr_24 pf_25 ks_26 vs_27 wg_28 ts_29)]) := hD
      refine lv_iconst (v := 1) hx hb dX1_takeBack_51 (by decide) ?_
      cases hf
      exact mZret hx hb hr rfl hlocks hP hD hK hS dX1_takeBack_52
  have hf := ite_f hf c_21
  by_cases c_31 : (((nx + 4) - 1) - ((nx + 4) - 1) / 4 * 4) = 3
  · have hf := ite_t hf c_31
    refine lv_tope (y := 3) c_31 ?_
    refine lv_istore_n (lv' := [(2, .int 3), (0, .ref h0), (1, .ref h22)]) hx hb dX1_takeBack_10 rfl hl (by decide) rfl (fun ls hl => ?_)
    refine lv_aload_n hx hb dX1_takeBack_11 rfl (lv_at hl 1 rfl) ?_
    refine lv_iload_n hx hb dX1_takeBack_12 rfl (lv_at hl 0 rfl) ?_
    obtain ⟨⟨⟩, q_32, hf⟩ := bnd hf
    refine mGorS (segs := [(W_Hh cI cC cT h0 h1 h2 h7 h12 h17 nx nz), (W_T cI cC cT h2 h3 h4 h5 h6 h0nr h0pf h0ks h0vs h0wg h0ts), (W_T cI cC cT h7 h8 h9 h10 h11 h1nr h1pf h1ks h1vs h1wg h1ts), (W_T cI cC cT h12 h13 h14 h15 h16 h2nr h2pf h2ks h2vs h2wg h2ts), (W_T cI cC cT h17 h18 h19 h20 h21 h3nr h3pf h3ks h3vs h3wg h3ts), (W_T cI cC cT h22 h23 h24 h25 h26 onr opf oks ovs owg ots)]) (wcs := [(W_Hh cI cC cT h0 h1 h2 h7 h12 h17 nx nz), (W_T cI cC cT h2 h3 h4 h5 h6 h0nr h0pf h0ks h0vs h0wg h0ts), (W_T cI cC cT h7 h8 h9 h10 h11 h1nr h1pf h1ks h1vs h1wg h1ts), (W_T cI cC cT h12 h13 h14 h15 h16 h2nr h2pf h2ks h2vs h2wg h2ts), (W_T cI cC cT h17 h18 h19 h20 h21 h3nr h3pf h3ks h3vs h3wg h3ts)]) (w1s := [(W_Hh cI cC cT h0 h1 h2 h7 h12 h17 nx nz), (W_T cI cC cT h2 h3 h4 h5 h6 h0nr h0pf h0ks h0vs h0wg h0ts), (W_T cI cC cT h7 h8 h9 h10 h11 h1nr h1pf h1ks h1vs h1wg h1ts), (W_T cI cC cT h12 h13 h14 h15 h16 h2nr h2pf h2ks h2vs h2wg h2ts), (W_T cI cC cT h17 h18 h19 h20 h21 h3nr h3pf h3ks h3vs h3wg h3ts)]) (w2s := [(W_Hh cI cC cT h0 h1 h2 h7 h12 h17 nx nz), (W_T cI cC cT h2 h3 h4 h5 h6 h0nr h0pf h0ks h0vs h0wg h0ts), (W_T cI cC cT h7 h8 h9 h10 h11 h1nr h1pf h1ks h1vs h1wg h1ts), (W_T cI cC cT h12 h13 h14 h15 h16 h2nr h2pf h2ks h2vs h2wg h2ts), (W_T cI cC cT h17 h18 h19 h20 h21 h3nr h3pf h3ks h3vs h3wg h3ts), (W_T cI cC cT h22 h23 h24 h25 h26 onr opf oks ovs owg ots)]) rfl rfl (va_runV (As := [.int 3]) (rest := []) ⟨hx, hb, hml, hown, hts⟩ (c_X1_slotAt_3 l D cI cC cT h0 h1 h2 h3 h4 h5 h6 h7 h8 h9 h10 h11 h12 h13 h14 h15 h16 h17 h18 h19 h20 h21 nx nz h0nr h0pf h0ks h0vs h0wg h0ts h1nr h1pf h1ks h1vs h1wg h1ts h2nr h2pf h2ks h2vs h2wg h2ts h3nr h3pf h3ks h3vs h3wg h3ts H.size q_32) (cwV 1 hts gX1_takeBack_X1_slotAt rfl rfl rfl (by decide +kernel) ⟨Nat.le_of_ble_eq_true rfl, Nat.le_of_ble_eq_true rfl⟩) (mPreVS [(W_Hh cI cC cT h0 h1 h2 h7 h12 h17 nx nz), (W_T cI cC cT h2 h3 h4 h5 h6 h0nr h0pf h0ks h0vs h0wg h0ts), (W_T cI cC cT h7 h8 h9 h10 h11 h1nr h1pf h1ks h1vs h1wg h1ts), (W_T cI cC cT h12 h13 h14 h15 h16 h2nr h2pf h2ks h2vs h2wg h2ts), (W_T cI cC cT h17 h18 h19 h20 h21 h3nr h3pf h3ks h3vs h3wg h3ts)] rfl hP hD hK hN [0, 1, 2, 3, 4] rfl (by decide) (va_recv hK (sP hP 0 rfl) (ci := 1) (q0 := 0) rfl rfl)) rfl rfl hl.1 rfl (lv_room (Nat.le_of_ble_eq_true rfl)) dX1_takeBack_13 ⟨Nat.zero_le _, Nat.zero_le _⟩) hP hD hS hA [0, 1, 2, 3, 4] rfl rfl rfl rfl (fun H locs hP hD hS => ?_)
    refine lv_astore_n (lv' := [(3, .ref h17), (2, .int 3), (0, .ref h0), (1, .ref h22)]) hx hb dX1_takeBack_16 rfl hl (by decide) rfl (fun ls hl => ?_)
    refine lv_aload_n hx hb dX1_takeBack_17 rfl (lv_at hl 2 rfl) ?_
    refine va_get (D := D) (ci := 1) (v := .int nz) (C := RX1) (T := TX1) (N := 3) hx hb hts hin_X1 hown hK hP 0 rfl rfl 2 (by decide) fl_18 (fun _ h9 => h9) rfl dX1_takeBack_18 ?_
    refine lv_iconst (v := 1) hx hb dX1_takeBack_21 (by decide) ?_
    refine lv_icmp_lt (tgt := 29) hx hb dX1_takeBack_22 (by decide) (fun c_33 => ?_) (fun c_33 => ?_)
    · have hf := ite_t hf c_33
      refine lv_iconst (v := 0) hx hb dX1_takeBack_29 (by decide) ?_
      cases hf
      exact mZret hx hb hr rfl hlocks hP hD hK hS dX1_takeBack_30
    · have hf := ite_f hf c_33
      refine lv_aload_n hx hb dX1_takeBack_25 rfl (lv_at hl 0 rfl) ?_
      refine lv_ifnonnull (tgt := 31) hx hb dX1_takeBack_26 (by decide) ?_
      refine lv_aload_n hx hb dX1_takeBack_31 rfl (lv_at hl 3 rfl) ?_
      refine lv_aload_n hx hb dX1_takeBack_32 rfl (lv_at hl 0 rfl) ?_
      obtain ⟨⟨nr_34, pf_35, ks_36, vs_37, wg_38, ts_39⟩, q_40, hf⟩ := bnd hf
      refine mGovS (segs := [(W_Hh cI cC cT h0 h1 h2 h7 h12 h17 nx nz), (W_T cI cC cT h2 h3 h4 h5 h6 h0nr h0pf h0ks h0vs h0wg h0ts), (W_T cI cC cT h7 h8 h9 h10 h11 h1nr h1pf h1ks h1vs h1wg h1ts), (W_T cI cC cT h12 h13 h14 h15 h16 h2nr h2pf h2ks h2vs h2wg h2ts), (W_T cI cC cT h17 h18 h19 h20 h21 h3nr h3pf h3ks h3vs h3wg h3ts), (W_T cI cC cT h22 h23 h24 h25 h26 onr opf oks ovs owg ots)]) (wcs := [(W_T cI cC cT h22 h23 h24 h25 h26 onr opf oks ovs owg ots), (W_T cI cC cT h17 h18 h19 h20 h21 h3nr h3pf h3ks h3vs h3wg h3ts)]) (w1s := [(W_T cI cC cT h22 h23 h24 h25 h26 nr_34 pf_35 ks_36 vs_37 wg_38 ts_39), (W_T cI cC cT h17 h18 h19 h20 h21 h3nr h3pf h3ks h3vs h3wg h3ts)]) (w2s := [(W_Hh cI cC cT h0 h1 h2 h7 h12 h17 nx nz), (W_T cI cC cT h2 h3 h4 h5 h6 h0nr h0pf h0ks h0vs h0wg h0ts), (W_T cI cC cT h7 h8 h9 h10 h11 h1nr h1pf h1ks h1vs h1wg h1ts), (W_T cI cC cT h12 h13 h14 h15 h16 h2nr h2pf h2ks h2vs h2wg h2ts), (W_T cI cC cT h17 h18 h19 h20 h21 h3nr h3pf h3ks h3vs h3wg h3ts), (W_T cI cC cT h22 h23 h24 h25 h26 nr_34 pf_35 ks_36 vs_37 wg_38 ts_39)]) rfl rfl (va_runV (As := [.ref h17]) (rest := []) ⟨hx, hb, hml, hown, hts⟩ (c_X3_copyFrom l D cI cC cT h22 h23 h24 h25 h26 h17 h18 h19 h20 h21 onr opf oks ovs owg ots h3nr h3pf h3ks h3vs h3wg h3ts H.size nr_34 pf_35 ks_36 vs_37 wg_38 ts_39 q_40) (cwV 1 hts gX1_takeBack_X3_copyFrom rfl rfl rfl (by decide +kernel) ⟨Nat.le_of_ble_eq_true rfl, Nat.le_of_ble_eq_true rfl⟩) (mPreVS [(W_T cI cC cT h22 h23 h24 h25 h26 onr opf oks ovs owg ots), (W_T cI cC cT h17 h18 h19 h20 h21 h3nr h3pf h3ks h3vs h3wg h3ts)] rfl hP hD hK hN [5, 4] rfl (by decide) (va_recv hK (sP hP 5 rfl) (ci := 3) (q0 := 0) rfl rfl)) rfl rfl hl.1 rfl (lv_room (Nat.le_of_ble_eq_true rfl)) dX1_takeBack_33 ⟨Nat.zero_le _, Nat.zero_le _⟩) hP hD hS hA [5, 4] rfl rfl rfl rfl (fun H locs hP hD hS => ?_)
      refine lv_aload_n hx hb dX1_takeBack_36 rfl (lv_at hl 2 rfl) ?_
      refine lv_iload_n hx hb dX1_takeBack_37 rfl (lv_at hl 1 rfl) ?_
      refine va_put (D := D) (ci := 1) (v := .int 3) (ty := .int) (C := RX1) (T := TX1) (N := 3) hx hb hts hin_X1 tyX1 tyX1_ok nmX1 hown hK hP hD hS 0 rfl rfl 1 (by decide) fl_22 (fun _ h9 => h9) rfl (by decide +kernel) rfl rfl (Nat.le_of_ble_eq_true rfl) dX1_takeBack_38 (fun H locs hP hD hS => ?_)
      have hP : va_P D vwCl (List.flatten [(W_Hh cI cC cT h0 h1 h2 h7 h12 h17 3 nz), (W_T cI cC cT h2 h3 h4 h5 h6 h0nr h0pf h0ks h0vs h0wg h0ts), (W_T cI cC cT h7 h8 h9 h10 h11 h1nr h1pf h1ks h1vs h1wg h1ts), (W_T cI cC cT h12 h13 h14 h15 h16 h2nr h2pf h2ks h2vs h2wg h2ts), (W_T cI cC cT h17 h18 h19 h20 h21 h3nr h3pf h3ks h3vs h3wg h3ts), (W_T cI cC cT h22 h23 h24 h25 h26 nr_34 pf_35 ks_36 vs_37 wg_38 ts_39)]) H := hP
      have hD : va_D A (List.flatten [(W_Hh cI cC cT h0 h1 h2 h7 h12 h17 3 nz), (W_T cI cC cT h2 h3 h4 h5 h6 h0nr h0pf h0ks h0vs h0wg h0ts), (W_T cI cC cT h7 h8 h9 h10 h11 h1nr h1pf h1ks h1vs h1wg h1ts), (W_T cI cC cT h12 h13 h14 h15 h16 h2nr h2pf h2ks h2vs h2wg h2ts), (W_T cI cC cT h17 h18 h19 h20 h21 h3nr h3pf h3ks h3vs h3wg h3ts), (W_T cI cC cT h22 h23 h24 h25 h26 nr_34 pf_35 ks_36 vs_37 wg_38 ts_39)]) := hD
      refine lv_aload_n hx hb dX1_takeBack_41 rfl (lv_at hl 2 rfl) ?_
      refine lv_dup hx hb dX1_takeBack_42 rfl ?_
      refine va_get (D := D) (ci := 1) (v := .int nz) (C := RX1) (T := TX1) (N := 3) hx hb hts hin_X1 hown hK hP 0 rfl rfl 2 (by decide) fl_18 (fun _ h9 => h9) rfl dX1_takeBack_43 ?_
      refine lv_iconst (v := 1) hx hb dX1_takeBack_46 (by decide) ?_
      refine lv_isub hx hb dX1_takeBack_47 ?_
      refine va_put (D := D) (ci := 1) (v := .int (nz - 1)) (ty := .int) (C := RX1) (T := TX1) (N := 3) hx hb hts hin_X1 tyX1 tyX1_ok nmX1 hown hK hP hD hS 0 rfl rfl 2 (by decide) fl_18 (fun _ h9 => h9) rfl (by decide +kernel) rfl rfl (Nat.le_of_ble_eq_true rfl) dX1_takeBack_48 (fun H locs hP hD hS => ?_)
      have hP : va_P D vwCl (List.flatten [(W_Hh cI cC cT h0 h1 h2 h7 h12 h17 3 (nz - 1)), (W_T cI cC cT h2 h3 h4 h5 h6 h0nr h0pf h0ks h0vs h0wg h0ts), (W_T cI cC cT h7 h8 h9 h10 h11 h1nr h1pf h1ks h1vs h1wg h1ts), (W_T cI cC cT h12 h13 h14 h15 h16 h2nr h2pf h2ks h2vs h2wg h2ts), (W_T cI cC cT h17 h18 h19 h20 h21 h3nr h3pf h3ks h3vs h3wg h3ts), (W_T cI cC cT h22 h23 h24 h25 h26 nr_34 pf_35 ks_36 vs_37 wg_38 ts_39)]) H := hP
      have hD : va_D A (List.flatten [(W_Hh cI cC cT h0 h1 h2 h7 h12 h17 3 (nz - 1)), (W_T cI cC cT h2 h3 h4 h5 h6 h0nr h0pf h0ks h0vs h0wg h0ts), (W_T cI cC cT h7 h8 h9 h10 h11 h1nr h1pf h1ks h1vs h1wg h1ts), (W_T cI cC cT h12 h13 h14 h15 h16 h2nr h2pf h2ks h2vs h2wg h2ts), (W_T cI cC cT h17 h18 h19 h20 h21 h3nr h3pf h3ks h3vs h3wg h3ts), (W_T cI cC cT h22 h23 h24 h25 h26 nr_34 pf_35 ks_36 vs_37 wg_38 ts_39)]) := hD
      refine lv_iconst (v := 1) hx hb dX1_takeBack_51 (by decide) ?_
      cases hf
      exact mZret hx hb hr rfl hlocks hP hD hK hS dX1_takeBack_52
  have hf := ite_f hf c_31
  cases hf
abbrev rm_X2_position : Room := { frames := 0, cells := 0, slots := 0, locals := 0 }
set_option maxHeartbeats 4000000 in
set_option maxRecDepth 100000 in
theorem c_X2_position (l : Launch) (D : va_G) (cI cC cT : ClassId) (h0 h1 h2 h3 h4 h5 h6 h7 : Nat) (po : Int32) (rnr : Int32) (rpf : Int32) (rks : Nat → Int32) (rvs : Nat → Int32) (rwg : Nat → Int32) (rts : Nat → Int32) (tl : Int32) (tc : Nat → Int32) (sz : Nat) (out : Int32) (hf : f_X2_position po = some out) : Met l yX2_position wsX2_position rm_X2_position (mP D (mTY cI cC cT) [.ref h0] (W_R cI cC cT h0 h1 h2 h3 h4 h5 h6 h7 po rnr rpf rks rvs rwg rts tl tc) sz) (mQi D (mTY cI cC cT) out (va_A (W_R cI cC cT h0 h1 h2 h3 h4 h5 h6 h7 po rnr rpf rks rvs rwg rts tl tc) sz) (W_R cI cC cT h0 h1 h2 h3 h4 h5 h6 h7 po rnr rpf rks rvs rwg rts tl tc)) 0 0 (va_A (W_R cI cC cT h0 h1 h2 h3 h4 h5 h6 h7 po rnr rpf rks rvs rwg rts tl tc) sz) := by
  refine mEnt (cc := cX2_position) (maxL := 1) (ret := (some .int)) (own := RX2) (Qq := fun A => mQi D (mTY cI cC cT) out A (W_R cI cC cT h0 h1 h2 h3 h4 h5 h6 h7 po rnr rpf rks rvs rwg rts tl tc)) (by decide) rfl rfl (Nat.le_of_ble_eq_true rfl) ?_
  intro p e s m below meth c A ls H locs hx hb hr hml hlocks hown hts hN hA hP hK hD hS hl
  have hin_X2 : ∀ w ∈ u_ws RX2 TX2 3, w ∈ wsX2_position := by decide +kernel
  have fl_22 := hts (.fieldLink RX2 22 "SureMendings$Reader" "position" "I") (by decide +kernel)
  have hl : lv_has ls 1 [(0, .ref h0)] := hl
  unfold f_X2_position at hf
  refine lv_aload_n hx hb dX2_position_0 rfl (lv_at hl 0 rfl) ?_
  refine va_get (D := D) (ci := 2) (v := .int po) (C := RX2) (T := TX2) (N := 3) hx hb hts hin_X2 hown hK hP 0 rfl rfl 2 (by decide) fl_22 (fun _ h9 => h9) rfl dX2_position_1 ?_
  cases hf
  exact mIret hx hb hr hlocks hP hD hK hS dX2_position_4
abbrev rm_X4_characterAt : Room := { frames := 0, cells := 0, slots := 0, locals := 0 }
set_option maxHeartbeats 4000000 in
set_option maxRecDepth 100000 in
theorem c_X4_characterAt (l : Launch) (D : va_G) (cI cC cT : ClassId) (h0 h1 : Nat) (tl : Int32) (tc : Nat → Int32) (sz : Nat) (p0 : Int32) (out : Int32) (hf : f_X4_characterAt tl tc p0 = some out) : Met l yX4_characterAt wsX4_characterAt rm_X4_characterAt (mP D (mTY cI cC cT) [.ref h0, .int p0] (W_X cI cC cT h0 h1 tl tc) sz) (mQi D (mTY cI cC cT) out (va_A (W_X cI cC cT h0 h1 tl tc) sz) (W_X cI cC cT h0 h1 tl tc)) 0 0 (va_A (W_X cI cC cT h0 h1 tl tc) sz) := by
  refine mEnt (cc := cX4_characterAt) (maxL := 2) (ret := (some .int)) (own := RX4) (Qq := fun A => mQi D (mTY cI cC cT) out A (W_X cI cC cT h0 h1 tl tc)) (by decide) rfl rfl (Nat.le_of_ble_eq_true rfl) ?_
  intro p e s m below meth c A ls H locs hx hb hr hml hlocks hown hts hN hA hP hK hD hS hl
  have hin_X4 : ∀ w ∈ u_ws RX4 TX4 2, w ∈ wsX4_characterAt := by decide +kernel
  have fl_9 := hts (.fieldLink RX4 9 "SureMendings$Text" "characters" "[C") (by decide +kernel)
  have fl_15 := hts (.fieldLink RX4 15 "SureMendings$Text" "length" "I") (by decide +kernel)
  have hl : lv_has ls 2 [(0, .ref h0), (1, .int p0)] := hl
  unfold f_X4_characterAt at hf
  refine lv_iload_n hx hb dX4_characterAt_0 rfl (lv_at hl 1 rfl) ?_
  refine lv_if_lt (tgt := 30) hx hb dX4_characterAt_1 (by decide) (fun c_1 => ?_) (fun c_1 => ?_)
  · have hf := ite_t hf c_1
    refine lv_bipush (v := -5) hx hb dX4_characterAt_30 (by decide) ?_
    cases hf
    exact mIret hx hb hr hlocks hP hD hK hS dX4_characterAt_32
  · have hf := ite_f hf c_1
    refine lv_iload_n hx hb dX4_characterAt_4 rfl (lv_at hl 1 rfl) ?_
    refine lv_aload_n hx hb dX4_characterAt_5 rfl (lv_at hl 0 rfl) ?_
    refine va_get (D := D) (ci := 4) (v := .int tl) (C := RX4) (T := TX4) (N := 2) hx hb hts hin_X4 hown hK hP 0 rfl rfl 1 (by decide) fl_15 (fun _ h9 => h9) rfl dX4_characterAt_6 ?_
    refine lv_icmp_ge (tgt := 30) hx hb dX4_characterAt_9 (by decide) (fun c_2 => ?_) (fun c_2 => ?_)
    · have hf := ite_t hf c_2
      refine lv_bipush (v := -5) hx hb dX4_characterAt_30 (by decide) ?_
      cases hf
      exact mIret hx hb hr hlocks hP hD hK hS dX4_characterAt_32
    · have hf := ite_f hf c_2
      refine lv_iload_n hx hb dX4_characterAt_12 rfl (lv_at hl 1 rfl) ?_
      refine lv_aload_n hx hb dX4_characterAt_13 rfl (lv_at hl 0 rfl) ?_
      refine va_get (D := D) (ci := 4) (v := .ref h1) (C := RX4) (T := TX4) (N := 2) hx hb hts hin_X4 hown hK hP 0 rfl rfl 0 (by decide) fl_9 (fun _ h9 => h9) rfl dX4_characterAt_14 ?_
      refine va_alen hx hb hK hP 1 1 rfl rfl (v := 80) rfl dX4_characterAt_17 ?_
      refine lv_icmp_ge (tgt := 30) hx hb dX4_characterAt_18 (by decide) (fun c_3 => ?_) (fun c_3 => ?_)
      · have hf := ite_t hf c_3
        refine lv_bipush (v := -5) hx hb dX4_characterAt_30 (by decide) ?_
        cases hf
        exact mIret hx hb hr hlocks hP hD hK hS dX4_characterAt_32
      · have hf := ite_f hf c_3
        refine lv_aload_n hx hb dX4_characterAt_21 rfl (lv_at hl 0 rfl) ?_
        refine va_get (D := D) (ci := 4) (v := .ref h1) (C := RX4) (T := TX4) (N := 2) hx hb hts hin_X4 hown hK hP 0 rfl rfl 0 (by decide) fl_9 (fun _ h9 => h9) rfl dX4_characterAt_22 ?_
        refine lv_iload_n hx hb dX4_characterAt_25 rfl (lv_at hl 1 rfl) ?_
        obtain ⟨h_4, hf⟩ := grd hf
        refine va_cald hx hb hK hP 1 1 rfl rfl h_4 dX4_characterAt_26 ?_
        refine lv_goto (tgt := 32) hx hb dX4_characterAt_27 (by decide) ?_
        cases hf
        exact mIret hx hb hr hlocks hP hD hK hS dX4_characterAt_32
abbrev rm_X2_takeBetween : Room := { frames := 1, cells := 0, slots := 0, locals := 21 }
set_option maxHeartbeats 4000000 in
set_option maxRecDepth 100000 in
theorem c_X2_takeBetween (l : Launch) (D : va_G) (cI cC cT : ClassId) (h0 h1 h2 h3 h4 h5 h6 h7 : Nat) (po : Int32) (rnr : Int32) (rpf : Int32) (rks : Nat → Int32) (rvs : Nat → Int32) (rwg : Nat → Int32) (rts : Nat → Int32) (tl : Int32) (tc : Nat → Int32) (sz : Nat) (p0 : Int32) (p1 : Int32) (out : Int32) (o_po : Int32) (hf : f_X2_takeBetween po tl tc p0 p1 = some ((out, o_po))) : Met l yX2_takeBetween wsX2_takeBetween rm_X2_takeBetween (mP D (mTY cI cC cT) [.ref h0, .int p0, .int p1] (W_R cI cC cT h0 h1 h2 h3 h4 h5 h6 h7 po rnr rpf rks rvs rwg rts tl tc) sz) (mQi D (mTY cI cC cT) out (va_A (W_R cI cC cT h0 h1 h2 h3 h4 h5 h6 h7 po rnr rpf rks rvs rwg rts tl tc) sz) (W_R cI cC cT h0 h1 h2 h3 h4 h5 h6 h7 o_po rnr rpf rks rvs rwg rts tl tc)) 0 0 (va_A (W_R cI cC cT h0 h1 h2 h3 h4 h5 h6 h7 po rnr rpf rks rvs rwg rts tl tc) sz) := by
  refine mEnt (cc := cX2_takeBetween) (maxL := 4) (ret := (some .int)) (own := RX2) (Qq := fun A => mQi D (mTY cI cC cT) out A (W_R cI cC cT h0 h1 h2 h3 h4 h5 h6 h7 o_po rnr rpf rks rvs rwg rts tl tc)) (by decide) rfl rfl (Nat.le_of_ble_eq_true rfl) ?_
  intro p e s m below meth c A ls H locs hx hb hr hml hlocks hown hts hN hA hP hK hD hS hl
  have hin_X2 : ∀ w ∈ u_ws RX2 TX2 3, w ∈ wsX2_takeBetween := by decide +kernel
  have fl_18 := hts (.fieldLink RX2 18 "SureMendings$Reader" "text" "LSureMendings$Text;") (by decide +kernel)
  have fl_22 := hts (.fieldLink RX2 22 "SureMendings$Reader" "position" "I") (by decide +kernel)
  have hl : lv_has ls 4 [(0, .ref h0), (1, .int p0), (2, .int p1)] := hl
  unfold f_X2_takeBetween at hf
  refine lv_aload_n hx hb dX2_takeBetween_0 rfl (lv_at hl 0 rfl) ?_
  refine va_get (D := D) (ci := 2) (v := .ref h6) (C := RX2) (T := TX2) (N := 3) hx hb hts hin_X2 hown hK hP 0 rfl rfl 0 (by decide) fl_18 (fun _ h9 => h9) rfl dX2_takeBetween_1 ?_
  refine lv_aload_n hx hb dX2_takeBetween_4 rfl (lv_at hl 0 rfl) ?_
  refine va_get (D := D) (ci := 2) (v := .int po) (C := RX2) (T := TX2) (N := 3) hx hb hts hin_X2 hown hK hP 0 rfl rfl 2 (by decide) fl_22 (fun _ h9 => h9) rfl dX2_takeBetween_5 ?_
  obtain ⟨r_1, q_2, hf⟩ := bnd hf
  refine mGoi (w2 := (W_R cI cC cT h0 h1 h2 h3 h4 h5 h6 h7 po rnr rpf rks rvs rwg rts tl tc)) (va_runV (As := [.int po]) (rest := []) ⟨hx, hb, hml, hown, hts⟩ (c_X4_characterAt l D cI cC cT h6 h7 tl tc H.size po r_1 q_2) (cwV 1 hts gX2_takeBetween_X4_characterAt rfl rfl rfl (by decide +kernel) ⟨Nat.le_of_ble_eq_true rfl, Nat.le_of_ble_eq_true rfl⟩) (mPreV hP hD hK hN [6, 7] rfl (by decide) (va_recv hK hP (ci := 4) (q0 := 6) rfl rfl)) rfl rfl hl.1 rfl (lv_room (Nat.le_of_ble_eq_true rfl)) dX2_takeBetween_8 ⟨Nat.zero_le _, Nat.zero_le _⟩) hP hD hS hA [6, 7] rfl rfl rfl rfl (fun H locs hP hD hS => ?_)
  refine lv_istore_n (lv' := [(3, .int r_1), (0, .ref h0), (1, .int p0), (2, .int p1)]) hx hb dX2_takeBetween_11 rfl hl (by decide) rfl (fun ls hl => ?_)
  refine lv_iload_n hx hb dX2_takeBetween_12 rfl (lv_at hl 0 rfl) ?_
  refine lv_iload_n hx hb dX2_takeBetween_13 rfl (lv_at hl 2 rfl) ?_
  refine lv_icmp_lt (tgt := 22) hx hb dX2_takeBetween_14 (by decide) (fun c_3 => ?_) (fun c_3 => ?_)
  · have hf := ite_t hf c_3
    refine lv_bipush (v := -5) hx hb dX2_takeBetween_22 (by decide) ?_
    cases hf
    exact mIret hx hb hr hlocks hP hD hK hS dX2_takeBetween_24
  · have hf := ite_f hf c_3
    refine lv_iload_n hx hb dX2_takeBetween_17 rfl (lv_at hl 0 rfl) ?_
    refine lv_iload_n hx hb dX2_takeBetween_18 rfl (lv_at hl 3 rfl) ?_
    refine lv_icmp_le (tgt := 25) hx hb dX2_takeBetween_19 (by decide) (fun c_4 => ?_) (fun c_4 => ?_)
    · have hf := ite_t hf c_4
      refine lv_aload_n hx hb dX2_takeBetween_25 rfl (lv_at hl 1 rfl) ?_
      refine lv_dup hx hb dX2_takeBetween_26 rfl ?_
      refine va_get (D := D) (ci := 2) (v := .int po) (C := RX2) (T := TX2) (N := 3) hx hb hts hin_X2 hown hK hP 0 rfl rfl 2 (by decide) fl_22 (fun _ h9 => h9) rfl dX2_takeBetween_27 ?_
      refine lv_iconst (v := 1) hx hb dX2_takeBetween_30 (by decide) ?_
      refine lv_iadd hx hb dX2_takeBetween_31 ?_
      refine va_put (D := D) (ci := 2) (v := .int (po + 1)) (ty := .int) (C := RX2) (T := TX2) (N := 3) hx hb hts hin_X2 tyX2 tyX2_ok nmX2 hown hK hP hD hS 0 rfl rfl 2 (by decide) fl_22 (fun _ h9 => h9) rfl (by decide +kernel) rfl rfl (Nat.le_of_ble_eq_true rfl) dX2_takeBetween_32 (fun H locs hP hD hS => ?_)
      have hP : va_P D vwCl (W_R cI cC cT h0 h1 h2 h3 h4 h5 h6 h7 (po + 1) rnr rpf rks rvs rwg rts tl tc) H := hP
      have hD : va_D A (W_R cI cC cT h0 h1 h2 h3 h4 h5 h6 h7 (po + 1) rnr rpf rks rvs rwg rts tl tc) := hD
      refine lv_iload_n hx hb dX2_takeBetween_35 rfl (lv_at hl 0 rfl) ?_
      cases hf
      exact mIret hx hb hr hlocks hP hD hK hS dX2_takeBetween_36
    · have hf := ite_f hf c_4
      refine lv_bipush (v := -5) hx hb dX2_takeBetween_22 (by decide) ?_
      cases hf
      exact mIret hx hb hr hlocks hP hD hK hS dX2_takeBetween_24
abbrev rm_X2_take : Room := { frames := 2, cells := 0, slots := 0, locals := 44 }
set_option maxHeartbeats 4000000 in
set_option maxRecDepth 100000 in
theorem c_X2_take (l : Launch) (D : va_G) (cI cC cT : ClassId) (h0 h1 h2 h3 h4 h5 h6 h7 : Nat) (po : Int32) (rnr : Int32) (rpf : Int32) (rks : Nat → Int32) (rvs : Nat → Int32) (rwg : Nat → Int32) (rts : Nat → Int32) (tl : Int32) (tc : Nat → Int32) (sz : Nat) (p0 : Int32) (out : Int32) (o_po : Int32) (hf : f_X2_take po tl tc p0 = some ((out, o_po))) : Met l yX2_take wsX2_take rm_X2_take (mP D (mTY cI cC cT) [.ref h0, .int p0] (W_R cI cC cT h0 h1 h2 h3 h4 h5 h6 h7 po rnr rpf rks rvs rwg rts tl tc) sz) (mQi D (mTY cI cC cT) out (va_A (W_R cI cC cT h0 h1 h2 h3 h4 h5 h6 h7 po rnr rpf rks rvs rwg rts tl tc) sz) (W_R cI cC cT h0 h1 h2 h3 h4 h5 h6 h7 o_po rnr rpf rks rvs rwg rts tl tc)) 0 0 (va_A (W_R cI cC cT h0 h1 h2 h3 h4 h5 h6 h7 po rnr rpf rks rvs rwg rts tl tc) sz) := by
  refine mEnt (cc := cX2_take) (maxL := 2) (ret := (some .boolean)) (own := RX2) (Qq := fun A => mQi D (mTY cI cC cT) out A (W_R cI cC cT h0 h1 h2 h3 h4 h5 h6 h7 o_po rnr rpf rks rvs rwg rts tl tc)) (by decide) rfl rfl (Nat.le_of_ble_eq_true rfl) ?_
  intro p e s m below meth c A ls H locs hx hb hr hml hlocks hown hts hN hA hP hK hD hS hl
  have hl : lv_has ls 2 [(0, .ref h0), (1, .int p0)] := hl
  unfold f_X2_take at hf
  refine lv_aload_n hx hb dX2_take_0 rfl (lv_at hl 0 rfl) ?_
  refine lv_iload_n hx hb dX2_take_1 rfl (lv_at hl 1 rfl) ?_
  refine lv_iload_n hx hb dX2_take_2 rfl (lv_at hl 1 rfl) ?_
  obtain ⟨⟨r_1, po_2⟩, q_3, hf⟩ := bnd hf
  refine mGoi (w2 := (W_R cI cC cT h0 h1 h2 h3 h4 h5 h6 h7 po_2 rnr rpf rks rvs rwg rts tl tc)) (va_runV (As := [.int p0, .int p0]) (rest := []) ⟨hx, hb, hml, hown, hts⟩ (c_X2_takeBetween l D cI cC cT h0 h1 h2 h3 h4 h5 h6 h7 po rnr rpf rks rvs rwg rts tl tc H.size p0 p0 r_1 po_2 q_3) (cwV 2 hts gX2_take_X2_takeBetween rfl rfl rfl (by decide +kernel) ⟨Nat.le_of_ble_eq_true rfl, Nat.le_of_ble_eq_true rfl⟩) (mPreV hP hD hK hN [0, 1, 2, 3, 4, 5, 6, 7] rfl (by decide) (va_recv hK hP (ci := 2) (q0 := 0) rfl rfl)) rfl rfl hl.1 rfl (lv_room (Nat.le_of_ble_eq_true rfl)) dX2_take_3 ⟨Nat.zero_le _, Nat.zero_le _⟩) hP hD hS hA [0, 1, 2, 3, 4, 5, 6, 7] rfl rfl rfl rfl (fun H locs hP hD hS => ?_)
  refine lv_bipush (v := -5) hx hb dX2_take_6 (by decide) ?_
  refine lv_icmp_eq (tgt := 15) hx hb dX2_take_8 (by decide) (fun c_4 => ?_) (fun c_4 => ?_)
  · have hf := ite_t hf c_4
    refine lv_iconst (v := 0) hx hb dX2_take_15 (by decide) ?_
    cases hf
    exact mZret hx hb hr rfl hlocks hP hD hK hS dX2_take_16
  · have hf := ite_f hf c_4
    refine lv_iconst (v := 1) hx hb dX2_take_11 (by decide) ?_
    refine lv_goto (tgt := 16) hx hb dX2_take_12 (by decide) ?_
    cases hf
    exact mZret hx hb hr rfl hlocks hP hD hK hS dX2_take_16
abbrev rm_X2_takeWeight : Room := { frames := 2, cells := 0, slots := 0, locals := 44 }
set_option maxHeartbeats 4000000 in
set_option maxRecDepth 100000 in
theorem c_X2_takeWeight (l : Launch) (D : va_G) (cI cC cT : ClassId) (h0 h1 h2 h3 h4 h5 h6 h7 : Nat) (po : Int32) (rnr : Int32) (rpf : Int32) (rks : Nat → Int32) (rvs : Nat → Int32) (rwg : Nat → Int32) (rts : Nat → Int32) (tl : Int32) (tc : Nat → Int32) (sz : Nat) (out : Int32) (o_po : Int32) (hf : f_X2_takeWeight po tl tc = some ((out, o_po))) : Met l yX2_takeWeight wsX2_takeWeight rm_X2_takeWeight (mP D (mTY cI cC cT) [.ref h0] (W_R cI cC cT h0 h1 h2 h3 h4 h5 h6 h7 po rnr rpf rks rvs rwg rts tl tc) sz) (mQi D (mTY cI cC cT) out (va_A (W_R cI cC cT h0 h1 h2 h3 h4 h5 h6 h7 po rnr rpf rks rvs rwg rts tl tc) sz) (W_R cI cC cT h0 h1 h2 h3 h4 h5 h6 h7 o_po rnr rpf rks rvs rwg rts tl tc)) 0 0 (va_A (W_R cI cC cT h0 h1 h2 h3 h4 h5 h6 h7 po rnr rpf rks rvs rwg rts tl tc) sz) := by
  refine mEnt (cc := cX2_takeWeight) (maxL := 3) (ret := (some .int)) (own := RX2) (Qq := fun A => mQi D (mTY cI cC cT) out A (W_R cI cC cT h0 h1 h2 h3 h4 h5 h6 h7 o_po rnr rpf rks rvs rwg rts tl tc)) (by decide) rfl rfl (Nat.le_of_ble_eq_true rfl) ?_
  intro p e s m below meth c A ls H locs hx hb hr hml hlocks hown hts hN hA hP hK hD hS hl
  have hl : lv_has ls 3 [(0, .ref h0)] := hl
  unfold f_X2_takeWeight at hf
  refine lv_aload_n hx hb dX2_takeWeight_0 rfl (lv_at hl 0 rfl) ?_
  refine lv_bipush (v := 49) hx hb dX2_takeWeight_1 (by decide) ?_
  refine lv_bipush (v := 57) hx hb dX2_takeWeight_3 (by decide) ?_
  obtain ⟨⟨r_1, po_2⟩, q_3, hf⟩ := bnd hf
  refine mGoi (w2 := (W_R cI cC cT h0 h1 h2 h3 h4 h5 h6 h7 po_2 rnr rpf rks rvs rwg rts tl tc)) (va_runV (As := [.int 49, .int 57]) (rest := []) ⟨hx, hb, hml, hown, hts⟩ (c_X2_takeBetween l D cI cC cT h0 h1 h2 h3 h4 h5 h6 h7 po rnr rpf rks rvs rwg rts tl tc H.size 49 57 r_1 po_2 q_3) (cwV 2 hts gX2_takeWeight_X2_takeBetween rfl rfl rfl (by decide +kernel) ⟨Nat.le_of_ble_eq_true rfl, Nat.le_of_ble_eq_true rfl⟩) (mPreV hP hD hK hN [0, 1, 2, 3, 4, 5, 6, 7] rfl (by decide) (va_recv hK hP (ci := 2) (q0 := 0) rfl rfl)) rfl rfl hl.1 rfl (lv_room (Nat.le_of_ble_eq_true rfl)) dX2_takeWeight_5 ⟨Nat.zero_le _, Nat.zero_le _⟩) hP hD hS hA [0, 1, 2, 3, 4, 5, 6, 7] rfl rfl rfl rfl (fun H locs hP hD hS => ?_)
  refine lv_istore_n (lv' := [(1, .int r_1), (0, .ref h0)]) hx hb dX2_takeWeight_8 rfl hl (by decide) rfl (fun ls hl => ?_)
  refine lv_iload_n hx hb dX2_takeWeight_9 rfl (lv_at hl 0 rfl) ?_
  refine lv_bipush (v := -5) hx hb dX2_takeWeight_10 (by decide) ?_
  refine lv_icmp_ne (tgt := 17) hx hb dX2_takeWeight_12 (by decide) (fun c_4 => ?_) (fun c_4 => ?_)
  · have hf := ite_f hf c_4
    refine lv_aload_n hx hb dX2_takeWeight_17 rfl (lv_at hl 1 rfl) ?_
    refine lv_bipush (v := 48) hx hb dX2_takeWeight_18 (by decide) ?_
    refine lv_bipush (v := 57) hx hb dX2_takeWeight_20 (by decide) ?_
    obtain ⟨⟨r_5, po_6⟩, q_7, hf⟩ := bnd hf
    refine mGoi (w2 := (W_R cI cC cT h0 h1 h2 h3 h4 h5 h6 h7 po_6 rnr rpf rks rvs rwg rts tl tc)) (va_runV (As := [.int 48, .int 57]) (rest := []) ⟨hx, hb, hml, hown, hts⟩ (c_X2_takeBetween l D cI cC cT h0 h1 h2 h3 h4 h5 h6 h7 po_2 rnr rpf rks rvs rwg rts tl tc H.size 48 57 r_5 po_6 q_7) (cwV 2 hts gX2_takeWeight_X2_takeBetween rfl rfl rfl (by decide +kernel) ⟨Nat.le_of_ble_eq_true rfl, Nat.le_of_ble_eq_true rfl⟩) (mPreV hP hD hK hN [0, 1, 2, 3, 4, 5, 6, 7] rfl (by decide) (va_recv hK hP (ci := 2) (q0 := 0) rfl rfl)) rfl rfl hl.1 rfl (lv_room (Nat.le_of_ble_eq_true rfl)) dX2_takeWeight_22 ⟨Nat.zero_le _, Nat.zero_le _⟩) hP hD hS hA [0, 1, 2, 3, 4, 5, 6, 7] rfl rfl rfl rfl (fun H locs hP hD hS => ?_)
    refine lv_istore_n (lv' := [(2, .int r_5), (1, .int r_1), (0, .ref h0)]) hx hb dX2_takeWeight_25 rfl hl (by decide) rfl (fun ls hl => ?_)
    refine lv_iload_n hx hb dX2_takeWeight_26 rfl (lv_at hl 0 rfl) ?_
    refine lv_bipush (v := -5) hx hb dX2_takeWeight_27 (by decide) ?_
    refine lv_icmp_ne (tgt := 39) hx hb dX2_takeWeight_29 (by decide) (fun c_8 => ?_) (fun c_8 => ?_)
    · have hf := ite_f hf c_8
      refine lv_iload_n hx hb dX2_takeWeight_39 rfl (lv_at hl 1 rfl) ?_
      refine lv_bipush (v := 48) hx hb dX2_takeWeight_40 (by decide) ?_
      refine lv_isub hx hb dX2_takeWeight_42 ?_
      refine lv_bipush (v := 10) hx hb dX2_takeWeight_43 (by decide) ?_
      refine lv_imul hx hb dX2_takeWeight_45 ?_
      refine lv_iload_n hx hb dX2_takeWeight_46 rfl (lv_at hl 0 rfl) ?_
      refine lv_bipush (v := 48) hx hb dX2_takeWeight_47 (by decide) ?_
      refine lv_isub hx hb dX2_takeWeight_49 ?_
      refine lv_iadd hx hb dX2_takeWeight_50 ?_
      cases hf
      exact mIret hx hb hr hlocks hP hD hK hS dX2_takeWeight_51
    · have hf := ite_t hf c_8
      refine lv_iload_n hx hb dX2_takeWeight_32 rfl (lv_at hl 1 rfl) ?_
      refine lv_bipush (v := 48) hx hb dX2_takeWeight_33 (by decide) ?_
      refine lv_isub hx hb dX2_takeWeight_35 ?_
      refine lv_goto (tgt := 51) hx hb dX2_takeWeight_36 (by decide) ?_
      cases hf
      exact mIret hx hb hr hlocks hP hD hK hS dX2_takeWeight_51
  · have hf := ite_t hf c_4
    refine lv_iconst (v := 0) hx hb dX2_takeWeight_15 (by decide) ?_
    cases hf
    exact mIret hx hb hr hlocks hP hD hK hS dX2_takeWeight_16
abbrev rm_X2_readOne : Room := { frames := 3, cells := 0, slots := 0, locals := 66 }
set_option maxHeartbeats 4000000 in
set_option maxRecDepth 100000 in
theorem c_X2_readOne (l : Launch) (D : va_G) (cI cC cT : ClassId) (h0 h1 h2 h3 h4 h5 h6 h7 : Nat) (po : Int32) (rnr : Int32) (rpf : Int32) (rks : Nat → Int32) (rvs : Nat → Int32) (rwg : Nat → Int32) (rts : Nat → Int32) (tl : Int32) (tc : Nat → Int32) (sz : Nat) (out : Int32) (o_po : Int32) (o_rnr : Int32) (o_rks : Nat → Int32) (o_rvs : Nat → Int32) (o_rwg : Nat → Int32) (o_rts : Nat → Int32) (hf : f_X2_readOne po rnr rks rvs rwg rts tl tc = some ((out, o_po, o_rnr, o_rks, o_rvs, o_rwg, o_rts))) : Met l yX2_readOne wsX2_readOne rm_X2_readOne (mP D (mTY cI cC cT) [.ref h0] (W_R cI cC cT h0 h1 h2 h3 h4 h5 h6 h7 po rnr rpf rks rvs rwg rts tl tc) sz) (mQi D (mTY cI cC cT) out (va_A (W_R cI cC cT h0 h1 h2 h3 h4 h5 h6 h7 po rnr rpf rks rvs rwg rts tl tc) sz) (W_R cI cC cT h0 h1 h2 h3 h4 h5 h6 h7 o_po o_rnr rpf o_rks o_rvs o_rwg o_rts tl tc)) 0 0 (va_A (W_R cI cC cT h0 h1 h2 h3 h4 h5 h6 h7 po rnr rpf rks rvs rwg rts tl tc) sz) := by
  refine mEnt (cc := cX2_readOne) (maxL := 6) (ret := (some .boolean)) (own := RX2) (Qq := fun A => mQi D (mTY cI cC cT) out A (W_R cI cC cT h0 h1 h2 h3 h4 h5 h6 h7 o_po o_rnr rpf o_rks o_rvs o_rwg o_rts tl tc)) (by decide) rfl rfl (Nat.le_of_ble_eq_true rfl) ?_
  intro p e s m below meth c A ls H locs hx hb hr hml hlocks hown hts hN hA hP hK hD hS hl
  have hin_X2 : ∀ w ∈ u_ws RX2 TX2 3, w ∈ wsX2_readOne := by decide +kernel
  have fl_12 := hts (.fieldLink RX2 12 "SureMendings$Reader" "rowsRead" "LSureMendings$Table;") (by decide +kernel)
  have hl : lv_has ls 6 [(0, .ref h0)] := hl
  unfold f_X2_readOne at hf
  refine lv_aload_n hx hb dX2_readOne_0 rfl (lv_at hl 0 rfl) ?_
  refine lv_bipush (v := 48) hx hb dX2_readOne_1 (by decide) ?_
  refine lv_bipush (v := 57) hx hb dX2_readOne_3 (by decide) ?_
  obtain ⟨⟨r_1, po_2⟩, q_3, hf⟩ := bnd hf
  refine mGoi (w2 := (W_R cI cC cT h0 h1 h2 h3 h4 h5 h6 h7 po_2 rnr rpf rks rvs rwg rts tl tc)) (va_runV (As := [.int 48, .int 57]) (rest := []) ⟨hx, hb, hml, hown, hts⟩ (c_X2_takeBetween l D cI cC cT h0 h1 h2 h3 h4 h5 h6 h7 po rnr rpf rks rvs rwg rts tl tc H.size 48 57 r_1 po_2 q_3) (cwV 2 hts gX2_readOne_X2_takeBetween rfl rfl rfl (by decide +kernel) ⟨Nat.le_of_ble_eq_true rfl, Nat.le_of_ble_eq_true rfl⟩) (mPreV hP hD hK hN [0, 1, 2, 3, 4, 5, 6, 7] rfl (by decide) (va_recv hK hP (ci := 2) (q0 := 0) rfl rfl)) rfl rfl hl.1 rfl (lv_room (Nat.le_of_ble_eq_true rfl)) dX2_readOne_5 ⟨Nat.zero_le _, Nat.zero_le _⟩) hP hD hS hA [0, 1, 2, 3, 4, 5, 6, 7] rfl rfl rfl rfl (fun H locs hP hD hS => ?_)
  refine lv_istore_n (lv' := [(1, .int r_1), (0, .ref h0)]) hx hb dX2_readOne_8 rfl hl (by decide) rfl (fun ls hl => ?_)
  refine lv_iload_n hx hb dX2_readOne_9 rfl (lv_at hl 0 rfl) ?_
  refine lv_bipush (v := -5) hx hb dX2_readOne_10 (by decide) ?_
  refine lv_icmp_eq (tgt := 24) hx hb dX2_readOne_12 (by decide) (fun c_4 => ?_) (fun c_4 => ?_)
  · have hf := ite_t hf c_4
    refine lv_iconst (v := 0) hx hb dX2_readOne_24 (by decide) ?_
    cases hf
    exact mZret hx hb hr rfl hlocks hP hD hK hS dX2_readOne_25
  · have hf := ite_f hf c_4
    refine lv_aload_n hx hb dX2_readOne_15 rfl (lv_at hl 1 rfl) ?_
    refine lv_bipush (v := 61) hx hb dX2_readOne_16 (by decide) ?_
    obtain ⟨⟨r_5, po_6⟩, q_7, hf⟩ := bnd hf
    refine mGoi (w2 := (W_R cI cC cT h0 h1 h2 h3 h4 h5 h6 h7 po_6 rnr rpf rks rvs rwg rts tl tc)) (va_runV (As := [.int 61]) (rest := []) ⟨hx, hb, hml, hown, hts⟩ (c_X2_take l D cI cC cT h0 h1 h2 h3 h4 h5 h6 h7 po_2 rnr rpf rks rvs rwg rts tl tc H.size 61 r_5 po_6 q_7) (cwV 1 hts gX2_readOne_X2_take rfl rfl rfl (by decide +kernel) ⟨Nat.le_of_ble_eq_true rfl, Nat.le_of_ble_eq_true rfl⟩) (mPreV hP hD hK hN [0, 1, 2, 3, 4, 5, 6, 7] rfl (by decide) (va_recv hK hP (ci := 2) (q0 := 0) rfl rfl)) rfl rfl hl.1 rfl (lv_room (Nat.le_of_ble_eq_true rfl)) dX2_readOne_18 ⟨Nat.zero_le _, Nat.zero_le _⟩) hP hD hS hA [0, 1, 2, 3, 4, 5, 6, 7] rfl rfl rfl rfl (fun H locs hP hD hS => ?_)
    refine lv_if_ne (tgt := 26) hx hb dX2_readOne_21 (by decide) (fun c_8 => ?_) (fun c_8 => ?_)
    · have hf := ite_f hf c_8
      refine lv_aload_n hx hb dX2_readOne_26 rfl (lv_at hl 1 rfl) ?_
      refine lv_bipush (v := 97) hx hb dX2_readOne_27 (by decide) ?_
      refine lv_bipush (v := 104) hx hb dX2_readOne_29 (by decide) ?_
      obtain ⟨⟨r_9, po_10⟩, q_11, hf⟩ := bnd hf
      refine mGoi (w2 := (W_R cI cC cT h0 h1 h2 h3 h4 h5 h6 h7 po_10 rnr rpf rks rvs rwg rts tl tc)) (va_runV (As := [.int 97, .int 104]) (rest := []) ⟨hx, hb, hml, hown, hts⟩ (c_X2_takeBetween l D cI cC cT h0 h1 h2 h3 h4 h5 h6 h7 po_6 rnr rpf rks rvs rwg rts tl tc H.size 97 104 r_9 po_10 q_11) (cwV 2 hts gX2_readOne_X2_takeBetween rfl rfl rfl (by decide +kernel) ⟨Nat.le_of_ble_eq_true rfl, Nat.le_of_ble_eq_true rfl⟩) (mPreV hP hD hK hN [0, 1, 2, 3, 4, 5, 6, 7] rfl (by decide) (va_recv hK hP (ci := 2) (q0 := 0) rfl rfl)) rfl rfl hl.1 rfl (lv_room (Nat.le_of_ble_eq_true rfl)) dX2_readOne_31 ⟨Nat.zero_le _, Nat.zero_le _⟩) hP hD hS hA [0, 1, 2, 3, 4, 5, 6, 7] rfl rfl rfl rfl (fun H locs hP hD hS => ?_)
      refine lv_istore_n (lv' := [(2, .int r_9), (1, .int r_1), (0, .ref h0)]) hx hb dX2_readOne_34 rfl hl (by decide) rfl (fun ls hl => ?_)
      refine lv_iload_n hx hb dX2_readOne_35 rfl (lv_at hl 0 rfl) ?_
      refine lv_bipush (v := -5) hx hb dX2_readOne_36 (by decide) ?_
      refine lv_icmp_ne (tgt := 43) hx hb dX2_readOne_38 (by decide) (fun c_12 => ?_) (fun c_12 => ?_)
      · have hf := ite_f hf c_12
        refine lv_aload_n hx hb dX2_readOne_43 rfl (lv_at hl 2 rfl) ?_
        obtain ⟨⟨r_13, po_14⟩, q_15, hf⟩ := bnd hf
        refine mGoi (w2 := (W_R cI cC cT h0 h1 h2 h3 h4 h5 h6 h7 po_14 rnr rpf rks rvs rwg rts tl tc)) (va_runV (As := []) (rest := []) ⟨hx, hb, hml, hown, hts⟩ (c_X2_takeWeight l D cI cC cT h0 h1 h2 h3 h4 h5 h6 h7 po_10 rnr rpf rks rvs rwg rts tl tc H.size r_13 po_14 q_15) (cwV 0 hts gX2_readOne_X2_takeWeight rfl rfl rfl (by decide +kernel) ⟨Nat.le_of_ble_eq_true rfl, Nat.le_of_ble_eq_true rfl⟩) (mPreV hP hD hK hN [0, 1, 2, 3, 4, 5, 6, 7] rfl (by decide) (va_recv hK hP (ci := 2) (q0 := 0) rfl rfl)) rfl rfl hl.1 rfl (lv_room (Nat.le_of_ble_eq_true rfl)) dX2_readOne_44 ⟨Nat.zero_le _, Nat.zero_le _⟩) hP hD hS hA [0, 1, 2, 3, 4, 5, 6, 7] rfl rfl rfl rfl (fun H locs hP hD hS => ?_)
        refine lv_istore_n (lv' := [(3, .int r_13), (2, .int r_9), (1, .int r_1), (0, .ref h0)]) hx hb dX2_readOne_47 rfl hl (by decide) rfl (fun ls hl => ?_)
        refine lv_bipush (v := -5) hx hb dX2_readOne_48 (by decide) ?_
        refine lv_istore (lv' := [(4, .int (-5)), (3, .int r_13), (2, .int r_9), (1, .int r_1), (0, .ref h0)]) hx hb dX2_readOne_50 hl (by decide) rfl (fun ls hl => ?_)
        refine lv_aload_n hx hb dX2_readOne_52 rfl (lv_at hl 4 rfl) ?_
        refine lv_bipush (v := 62) hx hb dX2_readOne_53 (by decide) ?_
        obtain ⟨⟨r_16, po_17⟩, q_18, hf⟩ := bnd hf
        refine mGoi (w2 := (W_R cI cC cT h0 h1 h2 h3 h4 h5 h6 h7 po_17 rnr rpf rks rvs rwg rts tl tc)) (va_runV (As := [.int 62]) (rest := []) ⟨hx, hb, hml, hown, hts⟩ (c_X2_take l D cI cC cT h0 h1 h2 h3 h4 h5 h6 h7 po_14 rnr rpf rks rvs rwg rts tl tc H.size 62 r_16 po_17 q_18) (cwV 1 hts gX2_readOne_X2_take rfl rfl rfl (by decide +kernel) ⟨Nat.le_of_ble_eq_true rfl, Nat.le_of_ble_eq_true rfl⟩) (mPreV hP hD hK hN [0, 1, 2, 3, 4, 5, 6, 7] rfl (by decide) (va_recv hK hP (ci := 2) (q0 := 0) rfl rfl)) rfl rfl hl.1 rfl (lv_room (Nat.le_of_ble_eq_true rfl)) dX2_readOne_55 ⟨Nat.zero_le _, Nat.zero_le _⟩) hP hD hS hA [0, 1, 2, 3, 4, 5, 6, 7] rfl rfl rfl rfl (fun H locs hP hD hS => ?_)
        refine lv_if_eq (tgt := 87) hx hb dX2_readOne_58 (by decide) (fun c_19 => ?_) (fun c_19 => ?_)
        · have hf := ite_t hf c_19
          refine lv_aload_n hx hb dX2_readOne_87 rfl (lv_at hl 4 rfl) ?_
          refine va_get (D := D) (ci := 2) (v := .ref h1) (C := RX2) (T := TX2) (N := 3) hx hb hts hin_X2 hown hK hP 0 rfl rfl 1 (by decide) fl_12 (fun _ h9 => h9) rfl dX2_readOne_88 ?_
          refine lv_iload_n hx hb dX2_readOne_91 rfl (lv_at hl 3 rfl) ?_
          refine lv_bipush (v := 48) hx hb dX2_readOne_92 (by decide) ?_
          refine lv_isub hx hb dX2_readOne_94 ?_
          refine lv_iload_n hx hb dX2_readOne_95 rfl (lv_at hl 2 rfl) ?_
          refine lv_iload_n hx hb dX2_readOne_96 rfl (lv_at hl 1 rfl) ?_
          refine lv_iload hx hb dX2_readOne_97 (lv_at hl 0 rfl) ?_
          obtain ⟨⟨nr_20, ks_21, vs_22, wg_23, ts_24⟩, q_25, hf⟩ := bnd hf
          refine mGov (w2 := (W_R cI cC cT h0 h1 h2 h3 h4 h5 h6 h7 po_17 nr_20 rpf ks_21 vs_22 wg_23 ts_24 tl tc)) (va_runV (As := [.int (r_1 - 48), .int r_9, .int r_13, .int (-5)]) (rest := []) ⟨hx, hb, hml, hown, hts⟩ (c_X3_append l D cI cC cT h1 h2 h3 h4 h5 rnr rpf rks rvs rwg rts H.size (r_1 - 48) r_9 r_13 (-5) nr_20 ks_21 vs_22 wg_23 ts_24 q_25) (cwV 4 hts gX2_readOne_X3_append rfl rfl rfl (by decide +kernel) ⟨Nat.le_of_ble_eq_true rfl, Nat.le_of_ble_eq_true rfl⟩) (mPreV hP hD hK hN [1, 2, 3, 4, 5] rfl (by decide) (va_recv hK hP (ci := 3) (q0 := 1) rfl rfl)) rfl rfl hl.1 rfl (lv_room (Nat.le_of_ble_eq_true rfl)) dX2_readOne_99 ⟨Nat.zero_le _, Nat.zero_le _⟩) hP hD hS hA [1, 2, 3, 4, 5] rfl rfl rfl rfl (fun H locs hP hD hS => ?_)
          refine lv_iconst (v := 1) hx hb dX2_readOne_102 (by decide) ?_
          cases hf
          exact mZret hx hb hr rfl hlocks hP hD hK hS dX2_readOne_103
        · have hf := ite_f hf c_19
          refine lv_aload_n hx hb dX2_readOne_61 rfl (lv_at hl 4 rfl) ?_
          refine lv_bipush (v := 48) hx hb dX2_readOne_62 (by decide) ?_
          refine lv_bipush (v := 57) hx hb dX2_readOne_64 (by decide) ?_
          obtain ⟨⟨r_26, po_27⟩, q_28, hf⟩ := bnd hf
          refine mGoi (w2 := (W_R cI cC cT h0 h1 h2 h3 h4 h5 h6 h7 po_27 rnr rpf rks rvs rwg rts tl tc)) (va_runV (As := [.int 48, .int 57]) (rest := []) ⟨hx, hb, hml, hown, hts⟩ (c_X2_takeBetween l D cI cC cT h0 h1 h2 h3 h4 h5 h6 h7 po_17 rnr rpf rks rvs rwg rts tl tc H.size 48 57 r_26 po_27 q_28) (cwV 2 hts gX2_readOne_X2_takeBetween rfl rfl rfl (by decide +kernel) ⟨Nat.le_of_ble_eq_true rfl, Nat.le_of_ble_eq_true rfl⟩) (mPreV hP hD hK hN [0, 1, 2, 3, 4, 5, 6, 7] rfl (by decide) (va_recv hK hP (ci := 2) (q0 := 0) rfl rfl)) rfl rfl hl.1 rfl (lv_room (Nat.le_of_ble_eq_true rfl)) dX2_readOne_66 ⟨Nat.zero_le _, Nat.zero_le _⟩) hP hD hS hA [0, 1, 2, 3, 4, 5, 6, 7] rfl rfl rfl rfl (fun H locs hP hD hS => ?_)
          refine lv_istore (lv' := [(5, .int r_26), (4, .int (-5)), (3, .int r_13), (2, .int r_9), (1, .int r_1), (0, .ref h0)]) hx hb dX2_readOne_69 hl (by decide) rfl (fun ls hl => ?_)
          refine lv_iload hx hb dX2_readOne_71 (lv_at hl 0 rfl) ?_
          refine lv_bipush (v := -5) hx hb dX2_readOne_73 (by decide) ?_
          refine lv_icmp_ne (tgt := 80) hx hb dX2_readOne_75 (by decide) (fun c_29 => ?_) (fun c_29 => ?_)
          · have hf := ite_f hf c_29
            refine lv_iload hx hb dX2_readOne_80 (lv_at hl 0 rfl) ?_
            refine lv_bipush (v := 48) hx hb dX2_readOne_82 (by decide) ?_
            refine lv_isub hx hb dX2_readOne_84 ?_
            refine lv_istore (lv' := [(4, .int (r_26 - 48)), (5, .int r_26), (3, .int r_13), (2, .int r_9), (1, .int r_1), (0, .ref h0)]) hx hb dX2_readOne_85 hl (by decide) rfl (fun ls hl => ?_)
            refine lv_aload_n hx hb dX2_readOne_87 rfl (lv_at hl 5 rfl) ?_
            refine va_get (D := D) (ci := 2) (v := .ref h1) (C := RX2) (T := TX2) (N := 3) hx hb hts hin_X2 hown hK hP 0 rfl rfl 1 (by decide) fl_12 (fun _ h9 => h9) rfl dX2_readOne_88 ?_
            refine lv_iload_n hx hb dX2_readOne_91 rfl (lv_at hl 4 rfl) ?_
            refine lv_bipush (v := 48) hx hb dX2_readOne_92 (by decide) ?_
            refine lv_isub hx hb dX2_readOne_94 ?_
            refine lv_iload_n hx hb dX2_readOne_95 rfl (lv_at hl 3 rfl) ?_
            refine lv_iload_n hx hb dX2_readOne_96 rfl (lv_at hl 2 rfl) ?_
            refine lv_iload hx hb dX2_readOne_97 (lv_at hl 0 rfl) ?_
            obtain ⟨⟨nr_30, ks_31, vs_32, wg_33, ts_34⟩, q_35, hf⟩ := bnd hf
            refine mGov (w2 := (W_R cI cC cT h0 h1 h2 h3 h4 h5 h6 h7 po_27 nr_30 rpf ks_31 vs_32 wg_33 ts_34 tl tc)) (va_runV (As := [.int (r_1 - 48), .int r_9, .int r_13, .int (r_26 - 48)]) (rest := []) ⟨hx, hb, hml, hown, hts⟩ (c_X3_append l D cI cC cT h1 h2 h3 h4 h5 rnr rpf rks rvs rwg rts H.size (r_1 - 48) r_9 r_13 (r_26 - 48) nr_30 ks_31 vs_32 wg_33 ts_34 q_35) (cwV 4 hts gX2_readOne_X3_append rfl rfl rfl (by decide +kernel) ⟨Nat.le_of_ble_eq_true rfl, Nat.le_of_ble_eq_true rfl⟩) (mPreV hP hD hK hN [1, 2, 3, 4, 5] rfl (by decide) (va_recv hK hP (ci := 3) (q0 := 1) rfl rfl)) rfl rfl hl.1 rfl (lv_room (Nat.le_of_ble_eq_true rfl)) dX2_readOne_99 ⟨Nat.zero_le _, Nat.zero_le _⟩) hP hD hS hA [1, 2, 3, 4, 5] rfl rfl rfl rfl (fun H locs hP hD hS => ?_)
            refine lv_iconst (v := 1) hx hb dX2_readOne_102 (by decide) ?_
            cases hf
            exact mZret hx hb hr rfl hlocks hP hD hK hS dX2_readOne_103
          · have hf := ite_t hf c_29
            refine lv_iconst (v := 0) hx hb dX2_readOne_78 (by decide) ?_
            cases hf
            exact mZret hx hb hr rfl hlocks hP hD hK hS dX2_readOne_79
      · have hf := ite_t hf c_12
        refine lv_iconst (v := 0) hx hb dX2_readOne_41 (by decide) ?_
        cases hf
        exact mZret hx hb hr rfl hlocks hP hD hK hS dX2_readOne_42
    · have hf := ite_t hf c_8
      refine lv_iconst (v := 0) hx hb dX2_readOne_24 (by decide) ?_
      cases hf
      exact mZret hx hb hr rfl hlocks hP hD hK hS dX2_readOne_25
abbrev rm_X4_length : Room := { frames := 0, cells := 0, slots := 0, locals := 0 }
set_option maxHeartbeats 4000000 in
set_option maxRecDepth 100000 in
theorem c_X4_length (l : Launch) (D : va_G) (cI cC cT : ClassId) (h0 h1 : Nat) (tl : Int32) (tc : Nat → Int32) (sz : Nat) (out : Int32) (hf : f_X4_length tl = some out) : Met l yX4_length wsX4_length rm_X4_length (mP D (mTY cI cC cT) [.ref h0] (W_X cI cC cT h0 h1 tl tc) sz) (mQi D (mTY cI cC cT) out (va_A (W_X cI cC cT h0 h1 tl tc) sz) (W_X cI cC cT h0 h1 tl tc)) 0 0 (va_A (W_X cI cC cT h0 h1 tl tc) sz) := by
  refine mEnt (cc := cX4_length) (maxL := 1) (ret := (some .int)) (own := RX4) (Qq := fun A => mQi D (mTY cI cC cT) out A (W_X cI cC cT h0 h1 tl tc)) (by decide) rfl rfl (Nat.le_of_ble_eq_true rfl) ?_
  intro p e s m below meth c A ls H locs hx hb hr hml hlocks hown hts hN hA hP hK hD hS hl
  have hin_X4 : ∀ w ∈ u_ws RX4 TX4 2, w ∈ wsX4_length := by decide +kernel
  have fl_15 := hts (.fieldLink RX4 15 "SureMendings$Text" "length" "I") (by decide +kernel)
  have hl : lv_has ls 1 [(0, .ref h0)] := hl
  unfold f_X4_length at hf
  refine lv_aload_n hx hb dX4_length_0 rfl (lv_at hl 0 rfl) ?_
  refine va_get (D := D) (ci := 4) (v := .int tl) (C := RX4) (T := TX4) (N := 2) hx hb hts hin_X4 hown hK hP 0 rfl rfl 1 (by decide) fl_15 (fun _ h9 => h9) rfl dX4_length_1 ?_
  cases hf
  exact mIret hx hb hr hlocks hP hD hK hS dX4_length_4
abbrev rm_X2_readAll : Room := { frames := 4, cells := 0, slots := 0, locals := 91 }
set_option maxHeartbeats 4000000 in
set_option maxRecDepth 100000 in
theorem c_X2_readAll (l : Launch) (D : va_G) (cI cC cT : ClassId) (h0 h1 h2 h3 h4 h5 h6 h7 : Nat) (po : Int32) (rnr : Int32) (rpf : Int32) (rks : Nat → Int32) (rvs : Nat → Int32) (rwg : Nat → Int32) (rts : Nat → Int32) (tl : Int32) (tc : Nat → Int32) (sz : Nat) (out : Int32) (o_po : Int32) (o_rnr : Int32) (o_rks : Nat → Int32) (o_rvs : Nat → Int32) (o_rwg : Nat → Int32) (o_rts : Nat → Int32) (hf : f_X2_readAll rks rvs rwg rts tl tc = some ((out, o_po, o_rnr, o_rks, o_rvs, o_rwg, o_rts))) : Met l yX2_readAll wsX2_readAll rm_X2_readAll (mP D (mTY cI cC cT) [.ref h0] (W_R cI cC cT h0 h1 h2 h3 h4 h5 h6 h7 po rnr rpf rks rvs rwg rts tl tc) sz) (mQi D (mTY cI cC cT) out (va_A (W_R cI cC cT h0 h1 h2 h3 h4 h5 h6 h7 po rnr rpf rks rvs rwg rts tl tc) sz) (W_R cI cC cT h0 h1 h2 h3 h4 h5 h6 h7 o_po o_rnr rpf o_rks o_rvs o_rwg o_rts tl tc)) 0 0 (va_A (W_R cI cC cT h0 h1 h2 h3 h4 h5 h6 h7 po rnr rpf rks rvs rwg rts tl tc) sz) := by
  refine mEnt (cc := cX2_readAll) (maxL := 2) (ret := (some .boolean)) (own := RX2) (Qq := fun A => mQi D (mTY cI cC cT) out A (W_R cI cC cT h0 h1 h2 h3 h4 h5 h6 h7 o_po o_rnr rpf o_rks o_rvs o_rwg o_rts tl tc)) (by decide) rfl rfl (Nat.le_of_ble_eq_true rfl) ?_
  intro p e s m below meth c A ls H locs hx hb hr hml hlocks hown hts hN hA hP hK hD hS hl
  have hin_X2 : ∀ w ∈ u_ws RX2 TX2 3, w ∈ wsX2_readAll := by decide +kernel
  have fl_12 := hts (.fieldLink RX2 12 "SureMendings$Reader" "rowsRead" "LSureMendings$Table;") (by decide +kernel)
  have fl_18 := hts (.fieldLink RX2 18 "SureMendings$Reader" "text" "LSureMendings$Text;") (by decide +kernel)
  have fl_22 := hts (.fieldLink RX2 22 "SureMendings$Reader" "position" "I") (by decide +kernel)
  have hl : lv_has ls 2 [(0, .ref h0)] := hl
  unfold f_X2_readAll at hf
  refine lv_aload_n hx hb dX2_readAll_0 rfl (lv_at hl 0 rfl) ?_
  refine lv_iconst (v := 0) hx hb dX2_readAll_1 (by decide) ?_
  refine va_put (D := D) (ci := 2) (v := .int 0) (ty := .int) (C := RX2) (T := TX2) (N := 3) hx hb hts hin_X2 tyX2 tyX2_ok nmX2 hown hK hP hD hS 0 rfl rfl 2 (by decide) fl_22 (fun _ h9 => h9) rfl (by decide +kernel) rfl rfl (Nat.le_of_ble_eq_true rfl) dX2_readAll_2 (fun H locs hP hD hS => ?_)
  have hP : va_P D vwCl (W_R cI cC cT h0 h1 h2 h3 h4 h5 h6 h7 0 rnr rpf rks rvs rwg rts tl tc) H := hP
  have hD : va_D A (W_R cI cC cT h0 h1 h2 h3 h4 h5 h6 h7 0 rnr rpf rks rvs rwg rts tl tc) := hD
  refine lv_aload_n hx hb dX2_readAll_5 rfl (lv_at hl 0 rfl) ?_
  refine va_get (D := D) (ci := 2) (v := .ref h1) (C := RX2) (T := TX2) (N := 3) hx hb hts hin_X2 hown hK hP 0 rfl rfl 1 (by decide) fl_12 (fun _ h9 => h9) rfl dX2_readAll_6 ?_
  obtain ⟨nr_1, q_2, hf⟩ := bnd hf
  refine mGov (w2 := (W_R cI cC cT h0 h1 h2 h3 h4 h5 h6 h7 0 nr_1 rpf rks rvs rwg rts tl tc)) (va_runV (As := []) (rest := []) ⟨hx, hb, hml, hown, hts⟩ (c_X3_empty l D cI cC cT h1 h2 h3 h4 h5 rnr rpf rks rvs rwg rts H.size nr_1 q_2) (cwV 0 hts gX2_readAll_X3_empty rfl rfl rfl (by decide +kernel) ⟨Nat.le_of_ble_eq_true rfl, Nat.le_of_ble_eq_true rfl⟩) (mPreV hP hD hK hN [1, 2, 3, 4, 5] rfl (by decide) (va_recv hK hP (ci := 3) (q0 := 1) rfl rfl)) rfl rfl hl.1 rfl (lv_room (Nat.le_of_ble_eq_true rfl)) dX2_readAll_9 ⟨Nat.zero_le _, Nat.zero_le _⟩) hP hD hS hA [1, 2, 3, 4, 5] rfl rfl rfl rfl (fun H locs hP hD hS => ?_)
  refine lv_iconst (v := 0) hx hb dX2_readAll_12 (by decide) ?_
  refine lv_istore_n (lv' := [(1, .int 0), (0, .ref h0)]) hx hb dX2_readAll_13 rfl hl (by decide) rfl (fun ls hl => ?_)
  have LP_10 : ∀ (n_10 : Nat) (v1_3 : Int32) (po_4 : Int32) (rnr_5 : Int32) (rks_6 : Nat → Int32) (rvs_7 : Nat → Int32) (rwg_8 : Nat → Int32) (rts_9 : Nat → Int32), iter n_10 (b_X2_readAll_1 tl tc) ((v1_3, po_4, rnr_5, rks_6, rvs_7, rwg_8, rts_9)) = some ((out, o_po, o_rnr, o_rks, o_rvs, o_rwg, o_rts)) → ∀ (H : Heap) (locs : List Loc), va_P D vwCl (W_R cI cC cT h0 h1 h2 h3 h4 h5 h6 h7 po_4 rnr_5 rpf rks_6 rvs_7 rwg_8 rts_9 tl tc) H → va_D A (W_R cI cC cT h0 h1 h2 h3 h4 h5 h6 h7 po_4 rnr_5 rpf rks_6 rvs_7 rwg_8 rts_9 tl tc) → va_S A s.heap H locs → ∀ (ls : Array Slot), lv_has ls 2 [(0, .ref h0), (1, .int v1_3)] → W p l e rm_X2_readAll s m ([.ref h0] : List Value).toArray below meth c H locs 0 0 (MQ below (mQi D (mTY cI cC cT) out A (W_R cI cC cT h0 h1 h2 h3 h4 h5 h6 h7 o_po o_rnr rpf o_rks o_rvs o_rwg o_rts tl tc)) ([.ref h0] : List Value).toArray s 0 0 A) (F0 m 14 ls []) := by
    intro n_10
    induction n_10 with
    | zero => intro v1_3 po_4 rnr_5 rks_6 rvs_7 rwg_8 rts_9 hf; exact (iter_zero hf).elim
    | succ n_10 ih_10 =>
      intro v1_3 po_4 rnr_5 rks_6 rvs_7 rwg_8 rts_9 hf H locs hP hD hS ls hl
      obtain ⟨o_10, hf, ho_10⟩ := iter_succ hf
      dsimp only [b_X2_readAll_1] at hf
      refine lv_iload_n hx hb dX2_readAll_14 rfl (lv_at hl 1 rfl) ?_
      refine lv_bipush (v := 20) hx hb dX2_readAll_15 (by decide) ?_
      refine lv_icmp_ge (tgt := 64) hx hb dX2_readAll_17 (by decide) (fun c_11 => ?_) (fun c_11 => ?_)
      · have hf := ite_t hf c_11
        refine lv_iconst (v := 0) hx hb dX2_readAll_64 (by decide) ?_
        cases hf
        have hf := ho_10.2 _ rfl
        cases hf
        exact mZret hx hb hr rfl hlocks hP hD hK hS dX2_readAll_65
      · have hf := ite_f hf c_11
        refine lv_aload_n hx hb dX2_readAll_20 rfl (lv_at hl 0 rfl) ?_
        obtain ⟨⟨r_12, po_13, rnr_14, rks_15, rvs_16, rwg_17, rts_18⟩, q_19, hf⟩ := bnd hf
        refine mGoi (w2 := (W_R cI cC cT h0 h1 h2 h3 h4 h5 h6 h7 po_13 rnr_14 rpf rks_15 rvs_16 rwg_17 rts_18 tl tc)) (va_runV (As := []) (rest := []) ⟨hx, hb, hml, hown, hts⟩ (c_X2_readOne l D cI cC cT h0 h1 h2 h3 h4 h5 h6 h7 po_4 rnr_5 rpf rks_6 rvs_7 rwg_8 rts_9 tl tc H.size r_12 po_13 rnr_14 rks_15 rvs_16 rwg_17 rts_18 q_19) (cwV 0 hts gX2_readAll_X2_readOne rfl rfl rfl (by decide +kernel) ⟨Nat.le_of_ble_eq_true rfl, Nat.le_of_ble_eq_true rfl⟩) (mPreV hP hD hK hN [0, 1, 2, 3, 4, 5, 6, 7] rfl (by decide) (va_recv hK hP (ci := 2) (q0 := 0) rfl rfl)) rfl rfl hl.1 rfl (lv_room (Nat.le_of_ble_eq_true rfl)) dX2_readAll_21 ⟨Nat.zero_le _, Nat.zero_le _⟩) hP hD hS hA [0, 1, 2, 3, 4, 5, 6, 7] rfl rfl rfl rfl (fun H locs hP hD hS => ?_)
        refine lv_if_ne (tgt := 29) hx hb dX2_readAll_24 (by decide) (fun c_20 => ?_) (fun c_20 => ?_)
        · have hf := ite_f hf c_20
          refine lv_aload_n hx hb dX2_readAll_29 rfl (lv_at hl 0 rfl) ?_
          refine lv_bipush (v := 44) hx hb dX2_readAll_30 (by decide) ?_
          obtain ⟨⟨r_21, po_22⟩, q_23, hf⟩ := bnd hf
          refine mGoi (w2 := (W_R cI cC cT h0 h1 h2 h3 h4 h5 h6 h7 po_22 rnr_14 rpf rks_15 rvs_16 rwg_17 rts_18 tl tc)) (va_runV (As := [.int 44]) (rest := []) ⟨hx, hb, hml, hown, hts⟩ (c_X2_take l D cI cC cT h0 h1 h2 h3 h4 h5 h6 h7 po_13 rnr_14 rpf rks_15 rvs_16 rwg_17 rts_18 tl tc H.size 44 r_21 po_22 q_23) (cwV 1 hts gX2_readAll_X2_take rfl rfl rfl (by decide +kernel) ⟨Nat.le_of_ble_eq_true rfl, Nat.le_of_ble_eq_true rfl⟩) (mPreV hP hD hK hN [0, 1, 2, 3, 4, 5, 6, 7] rfl (by decide) (va_recv hK hP (ci := 2) (q0 := 0) rfl rfl)) rfl rfl hl.1 rfl (lv_room (Nat.le_of_ble_eq_true rfl)) dX2_readAll_32 ⟨Nat.zero_le _, Nat.zero_le _⟩) hP hD hS hA [0, 1, 2, 3, 4, 5, 6, 7] rfl rfl rfl rfl (fun H locs hP hD hS => ?_)
          refine lv_if_ne (tgt := 58) hx hb dX2_readAll_35 (by decide) (fun c_24 => ?_) (fun c_24 => ?_)
          · have hf := ite_f hf c_24
            refine lv_iinc (v := v1_3 + 1) (lv' := [(1, .int (v1_3 + 1)), (0, .ref h0)]) hx hb dX2_readAll_58 hl (k := 1) rfl rfl (by decide) rfl (fun ls hl => ?_)
            refine lv_goto (tgt := 14) hx hb dX2_readAll_61 (by decide) ?_
            cases hf
            have hf := ho_10.1 _ rfl
            exact ih_10 _ _ _ _ _ _ _ hf _ _ hP hD hS _ (lv_sub hl [1, 0] rfl)
          · have hf := ite_t hf c_24
            refine lv_aload_n hx hb dX2_readAll_38 rfl (lv_at hl 0 rfl) ?_
            refine va_get (D := D) (ci := 2) (v := .int po_22) (C := RX2) (T := TX2) (N := 3) hx hb hts hin_X2 hown hK hP 0 rfl rfl 2 (by decide) fl_22 (fun _ h9 => h9) rfl dX2_readAll_39 ?_
            refine lv_aload_n hx hb dX2_readAll_42 rfl (lv_at hl 0 rfl) ?_
            refine va_get (D := D) (ci := 2) (v := .ref h6) (C := RX2) (T := TX2) (N := 3) hx hb hts hin_X2 hown hK hP 0 rfl rfl 0 (by decide) fl_18 (fun _ h9 => h9) rfl dX2_readAll_43 ?_
            obtain ⟨r_25, q_26, hf⟩ := bnd hf
            refine mGoi (w2 := (W_R cI cC cT h0 h1 h2 h3 h4 h5 h6 h7 po_22 rnr_14 rpf rks_15 rvs_16 rwg_17 rts_18 tl tc)) (va_runV (As := []) (rest := [.int po_22]) ⟨hx, hb, hml, hown, hts⟩ (c_X4_length l D cI cC cT h6 h7 tl tc H.size r_25 q_26) (cwV 0 hts gX2_readAll_X4_length rfl rfl rfl (by decide +kernel) ⟨Nat.le_of_ble_eq_true rfl, Nat.le_of_ble_eq_true rfl⟩) (mPreV hP hD hK hN [6, 7] rfl (by decide) (va_recv hK hP (ci := 4) (q0 := 6) rfl rfl)) rfl rfl hl.1 rfl (lv_room (Nat.le_of_ble_eq_true rfl)) dX2_readAll_46 ⟨Nat.zero_le _, Nat.zero_le _⟩) hP hD hS hA [6, 7] rfl rfl rfl rfl (fun H locs hP hD hS => ?_)
            refine lv_icmp_ne (tgt := 56) hx hb dX2_readAll_49 (by decide) (fun c_27 => ?_) (fun c_27 => ?_)
            · have hf := ite_f hf c_27
              refine lv_iconst (v := 0) hx hb dX2_readAll_56 (by decide) ?_
              cases hf
              have hf := ho_10.2 _ rfl
              cases hf
              exact mZret hx hb hr rfl hlocks hP hD hK hS dX2_readAll_57
            · have hf := ite_t hf c_27
              refine lv_iconst (v := 1) hx hb dX2_readAll_52 (by decide) ?_
              refine lv_goto (tgt := 57) hx hb dX2_readAll_53 (by decide) ?_
              cases hf
              have hf := ho_10.2 _ rfl
              cases hf
              exact mZret hx hb hr rfl hlocks hP hD hK hS dX2_readAll_57
        · have hf := ite_t hf c_20
          refine lv_iconst (v := 0) hx hb dX2_readAll_27 (by decide) ?_
          cases hf
          have hf := ho_10.2 _ rfl
          cases hf
          exact mZret hx hb hr rfl hlocks hP hD hK hS dX2_readAll_28
  exact LP_10 _ _ _ _ _ _ _ _ hf _ _ hP hD hS _ (lv_sub hl [1, 0] rfl)
abbrev rm_X2_rowsRead : Room := { frames := 0, cells := 0, slots := 0, locals := 0 }
set_option maxHeartbeats 4000000 in
set_option maxRecDepth 100000 in
theorem c_X2_rowsRead (l : Launch) (D : va_G) (cI cC cT : ClassId) (h0 h1 h2 h3 h4 h5 h6 h7 : Nat) (po : Int32) (rnr : Int32) (rpf : Int32) (rks : Nat → Int32) (rvs : Nat → Int32) (rwg : Nat → Int32) (rts : Nat → Int32) (tl : Int32) (tc : Nat → Int32) (sz : Nat) (hf : f_X2_rowsRead = some (())) : Met l yX2_rowsRead wsX2_rowsRead rm_X2_rowsRead (mP D (mTY cI cC cT) [.ref h0] (W_R cI cC cT h0 h1 h2 h3 h4 h5 h6 h7 po rnr rpf rks rvs rwg rts tl tc) sz) (mQr D (mTY cI cC cT) h1 (va_A (W_R cI cC cT h0 h1 h2 h3 h4 h5 h6 h7 po rnr rpf rks rvs rwg rts tl tc) sz) (W_R cI cC cT h0 h1 h2 h3 h4 h5 h6 h7 po rnr rpf rks rvs rwg rts tl tc)) 0 0 (va_A (W_R cI cC cT h0 h1 h2 h3 h4 h5 h6 h7 po rnr rpf rks rvs rwg rts tl tc) sz) := by
  refine mEnt (cc := cX2_rowsRead) (maxL := 1) (ret := (some (.object "SureMendings$Table"))) (own := RX2) (Qq := fun A => mQr D (mTY cI cC cT) h1 A (W_R cI cC cT h0 h1 h2 h3 h4 h5 h6 h7 po rnr rpf rks rvs rwg rts tl tc)) (by decide) rfl rfl (Nat.le_of_ble_eq_true rfl) ?_
  intro p e s m below meth c A ls H locs hx hb hr hml hlocks hown hts hN hA hP hK hD hS hl
  have hin_X2 : ∀ w ∈ u_ws RX2 TX2 3, w ∈ wsX2_rowsRead := by decide +kernel
  have fl_12 := hts (.fieldLink RX2 12 "SureMendings$Reader" "rowsRead" "LSureMendings$Table;") (by decide +kernel)
  have hl : lv_has ls 1 [(0, .ref h0)] := hl
  unfold f_X2_rowsRead at hf
  refine lv_aload_n hx hb dX2_rowsRead_0 rfl (lv_at hl 0 rfl) ?_
  refine va_get (D := D) (ci := 2) (v := .ref h1) (C := RX2) (T := TX2) (N := 3) hx hb hts hin_X2 hown hK hP 0 rfl rfl 1 (by decide) fl_12 (fun _ h9 => h9) rfl dX2_rowsRead_1 ?_
  cases hf
  exact mAret hx hb hr hlocks hP hD hK hS dX2_rowsRead_4
abbrev rm_X4_append : Room := { frames := 0, cells := 0, slots := 0, locals := 0 }
set_option maxHeartbeats 4000000 in
set_option maxRecDepth 100000 in
theorem c_X4_append (l : Launch) (D : va_G) (cI cC cT : ClassId) (h0 h1 : Nat) (tl : Int32) (tc : Nat → Int32) (sz : Nat) (p0 : Int32) (out : Int32) (o_tl : Int32) (o_tc : Nat → Int32) (hf : f_X4_append tl tc p0 = some ((out, o_tl, o_tc))) : Met l yX4_append wsX4_append rm_X4_append (mP D (mTY cI cC cT) [.ref h0, .int p0] (W_X cI cC cT h0 h1 tl tc) sz) (mQi D (mTY cI cC cT) out (va_A (W_X cI cC cT h0 h1 tl tc) sz) (W_X cI cC cT h0 h1 o_tl o_tc)) 0 0 (va_A (W_X cI cC cT h0 h1 tl tc) sz) := by
  refine mEnt (cc := cX4_append) (maxL := 2) (ret := (some .boolean)) (own := RX4) (Qq := fun A => mQi D (mTY cI cC cT) out A (W_X cI cC cT h0 h1 o_tl o_tc)) (by decide) rfl rfl (Nat.le_of_ble_eq_true rfl) ?_
  intro p e s m below meth c A ls H locs hx hb hr hml hlocks hown hts hN hA hP hK hD hS hl
  have hin_X4 : ∀ w ∈ u_ws RX4 TX4 2, w ∈ wsX4_append := by decide +kernel
  have fl_9 := hts (.fieldLink RX4 9 "SureMendings$Text" "characters" "[C") (by decide +kernel)
  have fl_15 := hts (.fieldLink RX4 15 "SureMendings$Text" "length" "I") (by decide +kernel)
  have hl : lv_has ls 2 [(0, .ref h0), (1, .int p0)] := hl
  unfold f_X4_append at hf
  refine lv_aload_n hx hb dX4_append_0 rfl (lv_at hl 0 rfl) ?_
  refine va_get (D := D) (ci := 4) (v := .int tl) (C := RX4) (T := TX4) (N := 2) hx hb hts hin_X4 hown hK hP 0 rfl rfl 1 (by decide) fl_15 (fun _ h9 => h9) rfl dX4_append_1 ?_
  refine lv_if_lt (tgt := 19) hx hb dX4_append_4 (by decide) (fun c_1 => ?_) (fun c_1 => ?_)
  · have hf := ite_t hf c_1
    refine lv_iconst (v := 0) hx hb dX4_append_19 (by decide) ?_
    cases hf
    exact mZret hx hb hr rfl hlocks hP hD hK hS dX4_append_20
  · have hf := ite_f hf c_1
    refine lv_aload_n hx hb dX4_append_7 rfl (lv_at hl 0 rfl) ?_
    refine va_get (D := D) (ci := 4) (v := .int tl) (C := RX4) (T := TX4) (N := 2) hx hb hts hin_X4 hown hK hP 0 rfl rfl 1 (by decide) fl_15 (fun _ h9 => h9) rfl dX4_append_8 ?_
    refine lv_aload_n hx hb dX4_append_11 rfl (lv_at hl 0 rfl) ?_
    refine va_get (D := D) (ci := 4) (v := .ref h1) (C := RX4) (T := TX4) (N := 2) hx hb hts hin_X4 hown hK hP 0 rfl rfl 0 (by decide) fl_9 (fun _ h9 => h9) rfl dX4_append_12 ?_
    refine va_alen hx hb hK hP 1 1 rfl rfl (v := 80) rfl dX4_append_15 ?_
    refine lv_icmp_lt (tgt := 21) hx hb dX4_append_16 (by decide) (fun c_2 => ?_) (fun c_2 => ?_)
    · have hf := ite_t hf c_2
      refine lv_aload_n hx hb dX4_append_21 rfl (lv_at hl 0 rfl) ?_
      refine va_get (D := D) (ci := 4) (v := .ref h1) (C := RX4) (T := TX4) (N := 2) hx hb hts hin_X4 hown hK hP 0 rfl rfl 0 (by decide) fl_9 (fun _ h9 => h9) rfl dX4_append_22 ?_
      refine lv_aload_n hx hb dX4_append_25 rfl (lv_at hl 0 rfl) ?_
      refine va_get (D := D) (ci := 4) (v := .int tl) (C := RX4) (T := TX4) (N := 2) hx hb hts hin_X4 hown hK hP 0 rfl rfl 1 (by decide) fl_15 (fun _ h9 => h9) rfl dX4_append_26 ?_
      refine lv_iload_n hx hb dX4_append_29 rfl (lv_at hl 1 rfl) ?_
      obtain ⟨h_3, hf⟩ := grd hf
      refine va_cast hx hb hK hP hD hS 1 1 rfl rfl h_3 dX4_append_30 (fun H locs hP hD hS => ?_)
      have hP : va_P D vwCl (W_X cI cC cT h0 h1 tl (upd tc tl.toNatClampNeg (vp_nar .char p0))) H := hP
      have hD : va_D A (W_X cI cC cT h0 h1 tl (upd tc tl.toNatClampNeg (vp_nar .char p0))) := hD
      refine lv_aload_n hx hb dX4_append_31 rfl (lv_at hl 0 rfl) ?_
      refine lv_dup hx hb dX4_append_32 rfl ?_
      refine va_get (D := D) (ci := 4) (v := .int tl) (C := RX4) (T := TX4) (N := 2) hx hb hts hin_X4 hown hK hP 0 rfl rfl 1 (by decide) fl_15 (fun _ h9 => h9) rfl dX4_append_33 ?_
      refine lv_iconst (v := 1) hx hb dX4_append_36 (by decide) ?_
      refine lv_iadd hx hb dX4_append_37 ?_
      refine va_put (D := D) (ci := 4) (v := .int (tl + 1)) (ty := .int) (C := RX4) (T := TX4) (N := 2) hx hb hts hin_X4 tyX4 tyX4_ok nmX4 hown hK hP hD hS 0 rfl rfl 1 (by decide) fl_15 (fun _ h9 => h9) rfl (by decide +kernel) rfl rfl (Nat.le_of_ble_eq_true rfl) dX4_append_38 (fun H locs hP hD hS => ?_)
      have hP : va_P D vwCl (W_X cI cC cT h0 h1 (tl + 1) (upd tc tl.toNatClampNeg (vp_nar .char p0))) H := hP
      have hD : va_D A (W_X cI cC cT h0 h1 (tl + 1) (upd tc tl.toNatClampNeg (vp_nar .char p0))) := hD
      refine lv_iconst (v := 1) hx hb dX4_append_41 (by decide) ?_
      cases hf
      exact mZret hx hb hr rfl hlocks hP hD hK hS dX4_append_42
    · have hf := ite_f hf c_2
      refine lv_iconst (v := 0) hx hb dX4_append_19 (by decide) ?_
      cases hf
      exact mZret hx hb hr rfl hlocks hP hD hK hS dX4_append_20
abbrev rm_X4_empty : Room := { frames := 0, cells := 0, slots := 0, locals := 0 }
set_option maxHeartbeats 4000000 in
set_option maxRecDepth 100000 in
theorem c_X4_empty (l : Launch) (D : va_G) (cI cC cT : ClassId) (h0 h1 : Nat) (tl : Int32) (tc : Nat → Int32) (sz : Nat) (o_tl : Int32) (hf : f_X4_empty = some o_tl) : Met l yX4_empty wsX4_empty rm_X4_empty (mP D (mTY cI cC cT) [.ref h0] (W_X cI cC cT h0 h1 tl tc) sz) (mQv D (mTY cI cC cT) (va_A (W_X cI cC cT h0 h1 tl tc) sz) (W_X cI cC cT h0 h1 o_tl tc)) 0 0 (va_A (W_X cI cC cT h0 h1 tl tc) sz) := by
  refine mEnt (cc := cX4_empty) (maxL := 1) (ret := none) (own := RX4) (Qq := fun A => mQv D (mTY cI cC cT) A (W_X cI cC cT h0 h1 o_tl tc)) (by decide) rfl rfl (Nat.le_of_ble_eq_true rfl) ?_
  intro p e s m below meth c A ls H locs hx hb hr hml hlocks hown hts hN hA hP hK hD hS hl
  have hin_X4 : ∀ w ∈ u_ws RX4 TX4 2, w ∈ wsX4_empty := by decide +kernel
  have fl_15 := hts (.fieldLink RX4 15 "SureMendings$Text" "length" "I") (by decide +kernel)
  have hl : lv_has ls 1 [(0, .ref h0)] := hl
  unfold f_X4_empty at hf
  refine lv_aload_n hx hb dX4_empty_0 rfl (lv_at hl 0 rfl) ?_
  refine lv_iconst (v := 0) hx hb dX4_empty_1 (by decide) ?_
  refine va_put (D := D) (ci := 4) (v := .int 0) (ty := .int) (C := RX4) (T := TX4) (N := 2) hx hb hts hin_X4 tyX4 tyX4_ok nmX4 hown hK hP hD hS 0 rfl rfl 1 (by decide) fl_15 (fun _ h9 => h9) rfl (by decide +kernel) rfl rfl (Nat.le_of_ble_eq_true rfl) dX4_empty_2 (fun H locs hP hD hS => ?_)
  have hP : va_P D vwCl (W_X cI cC cT h0 h1 0 tc) H := hP
  have hD : va_D A (W_X cI cC cT h0 h1 0 tc) := hD
  cases hf
  exact mVret hx hb hr hlocks hP hD hK hS dX4_empty_5
