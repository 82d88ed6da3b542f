abbrev rm_L_up : Room := { frames := 0, cells := 0, slots := 0, locals := 0 }
set_option maxHeartbeats 16000000 in
set_option maxRecDepth 100000 in
theorem c_L_up (l : Launch) (D : va_G) (cI cC cT : ClassId) (sz : Nat) (p0 : Int32) (p1 : Int32) (out : Int32) (hf : f_L_up p0 p1 = some out) : Met l yL_up wsL_up rm_L_up (mP D (mTY cI cC cT) [.int p0, .int p1] (List.flatten []) sz) (mQi D (mTY cI cC cT) out (va_A (List.flatten []) sz) (List.flatten [])) 0 0 (va_A (List.flatten []) sz) := by
  refine mEntN (cc := cL_up) (maxL := 2) (ret := (some .int)) (own := RL) (Qq := fun A => mQi D (mTY cI cC cT) out A (List.flatten [])) (by decide) rfl rfl (Nat.le_of_ble_eq_true rfl) ?_
  intro p e s m below meth c A ls H locs hx hb hr hml hlocks hown hts hN hA hP hK hD hS hl
  have hl : lv_has ls 2 [(0, .int p0), (1, .int p1)] := hl
  unfold f_L_up at hf
  refine lv_iload_n hx hb dL_up_0 rfl (lv_at hl 0 rfl) ?_
  refine lv_ldc (v := 2147483647) hx hb hown (hts (.constant RL 8 (2147483647)) (by decide +kernel)) dL_up_1 ?_
  refine lv_iand hx hb dL_up_3 ?_
  refine lv_iload_n hx hb dL_up_4 rfl (lv_at hl 1 rfl) ?_
  obtain ⟨h_1, hf⟩ := grd hf
  refine lv_irem hx hb dL_up_5 h_1 ?_
  cases hf
  exact mIret hx hb hr hlocks hP hD hK hS dL_up_6
abbrev rm_L_there : Room := { frames := 0, cells := 0, slots := 0, locals := 0 }
set_option maxHeartbeats 16000000 in
set_option maxRecDepth 100000 in
theorem c_L_there (l : Launch) (D : va_G) (cI cC cT : ClassId) (sz : Nat) (p0 : Int32) (out : Int32) (hf : f_L_there p0 = some out) : Met l yL_there wsL_there rm_L_there (mP D (mTY cI cC cT) [.int p0] (List.flatten []) sz) (mQi D (mTY cI cC cT) out (va_A (List.flatten []) sz) (List.flatten [])) 0 0 (va_A (List.flatten []) sz) := by
  refine mEntN (cc := cL_there) (maxL := 1) (ret := (some .int)) (own := RL) (Qq := fun A => mQi D (mTY cI cC cT) out A (List.flatten [])) (by decide) rfl rfl (Nat.le_of_ble_eq_true rfl) ?_
  intro p e s m below meth c A ls H locs hx hb hr hml hlocks hown hts hN hA hP hK hD hS hl
  have hl : lv_has ls 1 [(0, .int p0)] := hl
  unfold f_L_there at hf
  refine lv_iload_n hx hb dL_there_0 rfl (lv_at hl 0 rfl) ?_
  refine lv_if_ge (tgt := 8) hx hb dL_there_1 (by decide) (fun c_1 => ?_) (fun c_1 => ?_)
  · have hf := ite_t hf c_1
    refine lv_bipush (v := 9) hx hb dL_there_8 (by decide) ?_
    refine lv_iload_n hx hb dL_there_10 rfl (lv_at hl 0 rfl) ?_
    refine lv_isub hx hb dL_there_11 ?_
    cases hf
    exact mIret hx hb hr hlocks hP hD hK hS dL_there_12
  · have hf := ite_f hf c_1
    refine lv_iload_n hx hb dL_there_4 rfl (lv_at hl 0 rfl) ?_
    refine lv_goto (tgt := 12) hx hb dL_there_5 (by decide) ?_
    cases hf
    exact mIret hx hb hr hlocks hP hD hK hS dL_there_12
abbrev rm_L_value : Room := { frames := 0, cells := 0, slots := 0, locals := 0 }
set_option maxHeartbeats 16000000 in
set_option maxRecDepth 100000 in
theorem c_L_value (l : Launch) (D : va_G) (cI cC cT : ClassId) (sz : Nat) (p0 : Int32) (out : Int32) (hf : f_L_value p0 = some out) : Met l yL_value wsL_value rm_L_value (mP D (mTY cI cC cT) [.int p0] (List.flatten []) sz) (mQi D (mTY cI cC cT) out (va_A (List.flatten []) sz) (List.flatten [])) 0 0 (va_A (List.flatten []) sz) := by
  refine mEntN (cc := cL_value) (maxL := 1) (ret := (some .char)) (own := RL) (Qq := fun A => mQi D (mTY cI cC cT) out A (List.flatten [])) (by decide) rfl rfl (Nat.le_of_ble_eq_true rfl) ?_
  intro p e s m below meth c A ls H locs hx hb hr hml hlocks hown hts hN hA hP hK hD hS hl
  have hl : lv_has ls 1 [(0, .int p0)] := hl
  unfold f_L_value at hf
  refine lv_sipush (v := 201) hx hb dL_value_0 (by decide) ?_
  refine lv_iload_n hx hb dL_value_3 rfl (lv_at hl 0 rfl) ?_
  refine lv_isub hx hb dL_value_4 ?_
  refine lv_i2c hx hb dL_value_5 rfl ?_
  cases hf
  exact mZret hx hb hr (pk_nc _) hlocks hP hD hK hS dL_value_6
