theorem dX2_takeWeight_27 : decode cX2_takeWeight 27 = .ok (.bipush (-5), 2) := by decide +kernel
theorem dX2_takeWeight_29 : decode cX2_takeWeight 29 = .ok (.if_icmp .ne 10, 3) := by decide +kernel
theorem dX2_takeWeight_32 : decode cX2_takeWeight 32 = .ok (.iload_n 1, 1) := by decide +kernel
theorem dX2_takeWeight_33 : decode cX2_takeWeight 33 = .ok (.bipush 48, 2) := by decide +kernel
theorem dX2_takeWeight_35 : decode cX2_takeWeight 35 = .ok (.isub, 1) := by decide +kernel
theorem dX2_takeWeight_36 : decode cX2_takeWeight 36 = .ok (.goto 15, 3) := by decide +kernel
theorem dX2_takeWeight_39 : decode cX2_takeWeight 39 = .ok (.iload_n 1, 1) := by decide +kernel
theorem dX2_takeWeight_40 : decode cX2_takeWeight 40 = .ok (.bipush 48, 2) := by decide +kernel
theorem dX2_takeWeight_42 : decode cX2_takeWeight 42 = .ok (.isub, 1) := by decide +kernel
theorem dX2_takeWeight_43 : decode cX2_takeWeight 43 = .ok (.bipush 10, 2) := by decide +kernel
theorem dX2_takeWeight_45 : decode cX2_takeWeight 45 = .ok (.imul, 1) := by decide +kernel
theorem dX2_takeWeight_46 : decode cX2_takeWeight 46 = .ok (.iload_n 2, 1) := by decide +kernel
theorem dX2_takeWeight_47 : decode cX2_takeWeight 47 = .ok (.bipush 48, 2) := by decide +kernel
theorem dX2_takeWeight_49 : decode cX2_takeWeight 49 = .ok (.isub, 1) := by decide +kernel
theorem dX2_takeWeight_50 : decode cX2_takeWeight 50 = .ok (.iadd, 1) := by decide +kernel
theorem dX2_takeWeight_51 : decode cX2_takeWeight 51 = .ok (.ireturn, 1) := by decide +kernel
set_option maxRecDepth 20000 in
theorem ggX2_take_X2_takeBetween : GoodIn wsX2_take wsX2_takeBetween := goodIn_r _ [5, 6, 7, 8, 9, 10, 11, 12, 13, 14, 15, 16, 17, 18, 19] (by decide +kernel) (by decide +kernel)
set_option maxRecDepth 20000 in
theorem gX2_take_X2_takeBetween : GoodIn wsX2_take (wsV RX2 43 RX2 yX2_takeBetween wsX2_takeBetween) := goodIn_app (goodIn_of _ (by decide +kernel)) ggX2_take_X2_takeBetween
theorem dX2_take_0 : decode cX2_take 0 = .ok (.aload_n 0, 1) := by decide +kernel
theorem dX2_take_1 : decode cX2_take 1 = .ok (.iload_n 1, 1) := by decide +kernel
theorem dX2_take_2 : decode cX2_take 2 = .ok (.iload_n 1, 1) := by decide +kernel
theorem dX2_take_3 : decode cX2_take 3 = .ok (.invokevirtual 43, 3) := by decide +kernel
theorem dX2_take_6 : decode cX2_take 6 = .ok (.bipush (-5), 2) := by decide +kernel
theorem dX2_take_8 : decode cX2_take 8 = .ok (.if_icmp .eq 7, 3) := by decide +kernel
theorem dX2_take_11 : decode cX2_take 11 = .ok (.iconst 1, 1) := by decide +kernel
theorem dX2_take_12 : decode cX2_take 12 = .ok (.goto 4, 3) := by decide +kernel
theorem dX2_take_15 : decode cX2_take 15 = .ok (.iconst 0, 1) := by decide +kernel
theorem dX2_take_16 : decode cX2_take 16 = .ok (.ireturn, 1) := by decide +kernel
set_option maxRecDepth 20000 in
theorem ggX2_takeBetween_X4_characterAt : GoodIn wsX2_takeBetween wsX4_characterAt := goodIn_r _ [7, 8, 9, 13, 14] (by decide +kernel) (by decide +kernel)
set_option maxRecDepth 20000 in
theorem gX2_takeBetween_X4_characterAt : GoodIn wsX2_takeBetween (wsV RX2 54 RX4 yX4_characterAt wsX4_characterAt) := goodIn_app (goodIn_of _ (by decide +kernel)) ggX2_takeBetween_X4_characterAt
theorem dX2_takeBetween_0 : decode cX2_takeBetween 0 = .ok (.aload_n 0, 1) := by decide +kernel
theorem dX2_takeBetween_1 : decode cX2_takeBetween 1 = .ok (.getfield 18, 3) := by decide +kernel
theorem dX2_takeBetween_4 : decode cX2_takeBetween 4 = .ok (.aload_n 0, 1) := by decide +kernel
theorem dX2_takeBetween_5 : decode cX2_takeBetween 5 = .ok (.getfield 22, 3) := by decide +kernel
theorem dX2_takeBetween_8 : decode cX2_takeBetween 8 = .ok (.invokevirtual 54, 3) := by decide +kernel
theorem dX2_takeBetween_11 : decode cX2_takeBetween 11 = .ok (.istore_n 3, 1) := by decide +kernel
theorem dX2_takeBetween_12 : decode cX2_takeBetween 12 = .ok (.iload_n 3, 1) := by decide +kernel
theorem dX2_takeBetween_13 : decode cX2_takeBetween 13 = .ok (.iload_n 1, 1) := by decide +kernel
theorem dX2_takeBetween_14 : decode cX2_takeBetween 14 = .ok (.if_icmp .lt 8, 3) := by decide +kernel
theorem dX2_takeBetween_17 : decode cX2_takeBetween 17 = .ok (.iload_n 3, 1) := by decide +kernel
theorem dX2_takeBetween_18 : decode cX2_takeBetween 18 = .ok (.iload_n 2, 1) := by decide +kernel
theorem dX2_takeBetween_19 : decode cX2_takeBetween 19 = .ok (.if_icmp .le 6, 3) := by decide +kernel
theorem dX2_takeBetween_22 : decode cX2_takeBetween 22 = .ok (.bipush (-5), 2) := by decide +kernel
theorem dX2_takeBetween_24 : decode cX2_takeBetween 24 = .ok (.ireturn, 1) := by decide +kernel
theorem dX2_takeBetween_25 : decode cX2_takeBetween 25 = .ok (.aload_n 0, 1) := by decide +kernel
theorem dX2_takeBetween_26 : decode cX2_takeBetween 26 = .ok (.dup, 1) := by decide +kernel
theorem dX2_takeBetween_27 : decode cX2_takeBetween 27 = .ok (.getfield 22, 3) := by decide +kernel
theorem dX2_takeBetween_30 : decode cX2_takeBetween 30 = .ok (.iconst 1, 1) := by decide +kernel
theorem dX2_takeBetween_31 : decode cX2_takeBetween 31 = .ok (.iadd, 1) := by decide +kernel
theorem dX2_takeBetween_32 : decode cX2_takeBetween 32 = .ok (.putfield 22, 3) := by decide +kernel
theorem dX2_takeBetween_35 : decode cX2_takeBetween 35 = .ok (.iload_n 3, 1) := by decide +kernel
theorem dX2_takeBetween_36 : decode cX2_takeBetween 36 = .ok (.ireturn, 1) := by decide +kernel
theorem dX3_init_0 : decode cX3_init 0 = .ok (.aload_n 0, 1) := by decide +kernel
theorem dX3_init_1 : decode cX3_init 1 = .ok (.invokespecial 3, 3) := by decide +kernel
theorem dX3_init_4 : decode cX3_init 4 = .ok (.aload_n 0, 1) := by decide +kernel
theorem dX3_init_5 : decode cX3_init 5 = .ok (.bipush 20, 2) := by decide +kernel
theorem dX3_init_7 : decode cX3_init 7 = .ok (.newarray .int, 2) := by decide +kernel
theorem dX3_init_9 : decode cX3_init 9 = .ok (.putfield 9, 3) := by decide +kernel
theorem dX3_init_12 : decode cX3_init 12 = .ok (.aload_n 0, 1) := by decide +kernel
theorem dX3_init_13 : decode cX3_init 13 = .ok (.bipush 20, 2) := by decide +kernel
theorem dX3_init_15 : decode cX3_init 15 = .ok (.newarray .int, 2) := by decide +kernel
theorem dX3_init_17 : decode cX3_init 17 = .ok (.putfield 15, 3) := by decide +kernel
theorem dX3_init_20 : decode cX3_init 20 = .ok (.aload_n 0, 1) := by decide +kernel
theorem dX3_init_21 : decode cX3_init 21 = .ok (.bipush 20, 2) := by decide +kernel
theorem dX3_init_23 : decode cX3_init 23 = .ok (.newarray .int, 2) := by decide +kernel
theorem dX3_init_25 : decode cX3_init 25 = .ok (.putfield 18, 3) := by decide +kernel
theorem dX3_init_28 : decode cX3_init 28 = .ok (.aload_n 0, 1) := by decide +kernel
theorem dX3_init_29 : decode cX3_init 29 = .ok (.bipush 20, 2) := by decide +kernel
theorem dX3_init_31 : decode cX3_init 31 = .ok (.newarray .int, 2) := by decide +kernel
theorem dX3_init_33 : decode cX3_init 33 = .ok (.putfield 21, 3) := by decide +kernel
theorem dX3_init_36 : decode cX3_init 36 = .ok (.return_, 1) := by decide +kernel
theorem dX3_size_0 : decode cX3_size 0 = .ok (.aload_n 0, 1) := by decide +kernel
theorem dX3_size_1 : decode cX3_size 1 = .ok (.getfield 24, 3) := by decide +kernel
theorem dX3_size_4 : decode cX3_size 4 = .ok (.ireturn, 1) := by decide +kernel
theorem dX3_room_0 : decode cX3_room 0 = .ok (.bipush 20, 2) := by decide +kernel
theorem dX3_room_2 : decode cX3_room 2 = .ok (.aload_n 0, 1) := by decide +kernel
theorem dX3_room_3 : decode cX3_room 3 = .ok (.getfield 24, 3) := by decide +kernel
theorem dX3_room_6 : decode cX3_room 6 = .ok (.isub, 1) := by decide +kernel
theorem dX3_room_7 : decode cX3_room 7 = .ok (.ireturn, 1) := by decide +kernel
theorem dX3_has_0 : decode cX3_has 0 = .ok (.iload_n 1, 1) := by decide +kernel
theorem dX3_has_1 : decode cX3_has 1 = .ok (.ifCond .lt 15, 3) := by decide +kernel
theorem dX3_has_4 : decode cX3_has 4 = .ok (.iload_n 1, 1) := by decide +kernel
theorem dX3_has_5 : decode cX3_has 5 = .ok (.aload_n 0, 1) := by decide +kernel
theorem dX3_has_6 : decode cX3_has 6 = .ok (.getfield 24, 3) := by decide +kernel
theorem dX3_has_9 : decode cX3_has 9 = .ok (.if_icmp .ge 7, 3) := by decide +kernel
theorem dX3_has_12 : decode cX3_has 12 = .ok (.iconst 1, 1) := by decide +kernel
theorem dX3_has_13 : decode cX3_has 13 = .ok (.goto 4, 3) := by decide +kernel
theorem dX3_has_16 : decode cX3_has 16 = .ok (.iconst 0, 1) := by decide +kernel
theorem dX3_has_17 : decode cX3_has 17 = .ok (.ireturn, 1) := by decide +kernel
set_option maxRecDepth 20000 in
theorem ggX3_keyAt_X5_at : GoodIn wsX3_keyAt wsX5_at := goodIn_r _ [4] (by decide +kernel) (by decide +kernel)
set_option maxRecDepth 20000 in
theorem gX3_keyAt_X5_at_n28 : GoodIn wsX3_keyAt (wsX5_at) := ggX3_keyAt_X5_at
theorem dX3_keyAt_0 : decode cX3_keyAt 0 = .ok (.aload_n 0, 1) := by decide +kernel
theorem dX3_keyAt_1 : decode cX3_keyAt 1 = .ok (.getfield 9, 3) := by decide +kernel
theorem dX3_keyAt_4 : decode cX3_keyAt 4 = .ok (.iload_n 1, 1) := by decide +kernel
theorem dX3_keyAt_5 : decode cX3_keyAt 5 = .ok (.invokestatic 28, 3) := by decide +kernel
theorem dX3_keyAt_8 : decode cX3_keyAt 8 = .ok (.ireturn, 1) := by decide +kernel
set_option maxRecDepth 20000 in
theorem ggX3_valueAt_X5_at : GoodIn wsX3_valueAt wsX5_at := goodIn_r _ [4] (by decide +kernel) (by decide +kernel)
set_option maxRecDepth 20000 in
theorem gX3_valueAt_X5_at_n28 : GoodIn wsX3_valueAt (wsX5_at) := ggX3_valueAt_X5_at
theorem dX3_valueAt_0 : decode cX3_valueAt 0 = .ok (.aload_n 0, 1) := by decide +kernel
theorem dX3_valueAt_1 : decode cX3_valueAt 1 = .ok (.getfield 15, 3) := by decide +kernel
theorem dX3_valueAt_4 : decode cX3_valueAt 4 = .ok (.iload_n 1, 1) := by decide +kernel
theorem dX3_valueAt_5 : decode cX3_valueAt 5 = .ok (.invokestatic 28, 3) := by decide +kernel
theorem dX3_valueAt_8 : decode cX3_valueAt 8 = .ok (.ireturn, 1) := by decide +kernel
set_option maxRecDepth 20000 in
theorem ggX3_weightAt_X5_at : GoodIn wsX3_weightAt wsX5_at := goodIn_r _ [4] (by decide +kernel) (by decide +kernel)
set_option maxRecDepth 20000 in
theorem gX3_weightAt_X5_at_n28 : GoodIn wsX3_weightAt (wsX5_at) := ggX3_weightAt_X5_at
theorem dX3_weightAt_0 : decode cX3_weightAt 0 = .ok (.aload_n 0, 1) := by decide +kernel
theorem dX3_weightAt_1 : decode cX3_weightAt 1 = .ok (.getfield 18, 3) := by decide +kernel
theorem dX3_weightAt_4 : decode cX3_weightAt 4 = .ok (.iload_n 1, 1) := by decide +kernel
theorem dX3_weightAt_5 : decode cX3_weightAt 5 = .ok (.invokestatic 28, 3) := by decide +kernel
theorem dX3_weightAt_8 : decode cX3_weightAt 8 = .ok (.ireturn, 1) := by decide +kernel
set_option maxRecDepth 20000 in
theorem ggX3_targetAt_X5_at : GoodIn wsX3_targetAt wsX5_at := goodIn_r _ [4] (by decide +kernel) (by decide +kernel)
set_option maxRecDepth 20000 in
theorem gX3_targetAt_X5_at_n28 : GoodIn wsX3_targetAt (wsX5_at) := ggX3_targetAt_X5_at
theorem dX3_targetAt_0 : decode cX3_targetAt 0 = .ok (.aload_n 0, 1) := by decide +kernel
theorem dX3_targetAt_1 : decode cX3_targetAt 1 = .ok (.getfield 21, 3) := by decide +kernel
theorem dX3_targetAt_4 : decode cX3_targetAt 4 = .ok (.iload_n 1, 1) := by decide +kernel
theorem dX3_targetAt_5 : decode cX3_targetAt 5 = .ok (.invokestatic 28, 3) := by decide +kernel
theorem dX3_targetAt_8 : decode cX3_targetAt 8 = .ok (.ireturn, 1) := by decide +kernel
theorem dX3_prefersHeaviest_0 : decode cX3_prefersHeaviest 0 = .ok (.aload_n 0, 1) := by decide +kernel
theorem dX3_prefersHeaviest_1 : decode cX3_prefersHeaviest 1 = .ok (.getfield 32, 3) := by decide +kernel
theorem dX3_prefersHeaviest_4 : decode cX3_prefersHeaviest 4 = .ok (.ireturn, 1) := by decide +kernel
theorem dX3_setPreference_0 : decode cX3_setPreference 0 = .ok (.aload_n 0, 1) := by decide +kernel
theorem dX3_setPreference_1 : decode cX3_setPreference 1 = .ok (.iload_n 1, 1) := by decide +kernel
theorem dX3_setPreference_2 : decode cX3_setPreference 2 = .ok (.putfield 32, 3) := by decide +kernel
theorem dX3_setPreference_5 : decode cX3_setPreference 5 = .ok (.return_, 1) := by decide +kernel
set_option maxRecDepth 20000 in
theorem ggX3_copyFrom_X5_copy : GoodIn wsX3_copyFrom wsX5_copy := goodIn_r _ [9, 10, 11, 12, 13, 14, 15, 16, 17] (by decide +kernel) (by decide +kernel)
set_option maxRecDepth 20000 in
theorem gX3_copyFrom_X5_copy_n36 : GoodIn wsX3_copyFrom (wsX5_copy) := ggX3_copyFrom_X5_copy
theorem dX3_copyFrom_0 : decode cX3_copyFrom 0 = .ok (.aload_n 1, 1) := by decide +kernel
theorem dX3_copyFrom_1 : decode cX3_copyFrom 1 = .ok (.getfield 9, 3) := by decide +kernel
theorem dX3_copyFrom_4 : decode cX3_copyFrom 4 = .ok (.aload_n 0, 1) := by decide +kernel
theorem dX3_copyFrom_5 : decode cX3_copyFrom 5 = .ok (.getfield 9, 3) := by decide +kernel
theorem dX3_copyFrom_8 : decode cX3_copyFrom 8 = .ok (.invokestatic 36, 3) := by decide +kernel
theorem dX3_copyFrom_11 : decode cX3_copyFrom 11 = .ok (.aload_n 1, 1) := by decide +kernel
theorem dX3_copyFrom_12 : decode cX3_copyFrom 12 = .ok (.getfield 15, 3) := by decide +kernel
theorem dX3_copyFrom_15 : decode cX3_copyFrom 15 = .ok (.aload_n 0, 1) := by decide +kernel
theorem dX3_copyFrom_16 : decode cX3_copyFrom 16 = .ok (.getfield 15, 3) := by decide +kernel
theorem dX3_copyFrom_19 : decode cX3_copyFrom 19 = .ok (.invokestatic 36, 3) := by decide +kernel
theorem dX3_copyFrom_22 : decode cX3_copyFrom 22 = .ok (.aload_n 1, 1) := by decide +kernel
theorem dX3_copyFrom_23 : decode cX3_copyFrom 23 = .ok (.getfield 18, 3) := by decide +kernel
theorem dX3_copyFrom_26 : decode cX3_copyFrom 26 = .ok (.aload_n 0, 1) := by decide +kernel
theorem dX3_copyFrom_27 : decode cX3_copyFrom 27 = .ok (.getfield 18, 3) := by decide +kernel
theorem dX3_copyFrom_30 : decode cX3_copyFrom 30 = .ok (.invokestatic 36, 3) := by decide +kernel
theorem dX3_copyFrom_33 : decode cX3_copyFrom 33 = .ok (.aload_n 1, 1) := by decide +kernel
theorem dX3_copyFrom_34 : decode cX3_copyFrom 34 = .ok (.getfield 21, 3) := by decide +kernel
theorem dX3_copyFrom_37 : decode cX3_copyFrom 37 = .ok (.aload_n 0, 1) := by decide +kernel
theorem dX3_copyFrom_38 : decode cX3_copyFrom 38 = .ok (.getfield 21, 3) := by decide +kernel
theorem dX3_copyFrom_41 : decode cX3_copyFrom 41 = .ok (.invokestatic 36, 3) := by decide +kernel
theorem dX3_copyFrom_44 : decode cX3_copyFrom 44 = .ok (.aload_n 0, 1) := by decide +kernel
theorem dX3_copyFrom_45 : decode cX3_copyFrom 45 = .ok (.aload_n 1, 1) := by decide +kernel
theorem dX3_copyFrom_46 : decode cX3_copyFrom 46 = .ok (.getfield 24, 3) := by decide +kernel
theorem dX3_copyFrom_49 : decode cX3_copyFrom 49 = .ok (.putfield 24, 3) := by decide +kernel
theorem dX3_copyFrom_52 : decode cX3_copyFrom 52 = .ok (.aload_n 0, 1) := by decide +kernel
theorem dX3_copyFrom_53 : decode cX3_copyFrom 53 = .ok (.aload_n 1, 1) := by decide +kernel
theorem dX3_copyFrom_54 : decode cX3_copyFrom 54 = .ok (.getfield 32, 3) := by decide +kernel
theorem dX3_copyFrom_57 : decode cX3_copyFrom 57 = .ok (.putfield 32, 3) := by decide +kernel
theorem dX3_copyFrom_60 : decode cX3_copyFrom 60 = .ok (.return_, 1) := by decide +kernel
theorem dX3_empty_0 : decode cX3_empty 0 = .ok (.aload_n 0, 1) := by decide +kernel
theorem dX3_empty_1 : decode cX3_empty 1 = .ok (.iconst 0, 1) := by decide +kernel
theorem dX3_empty_2 : decode cX3_empty 2 = .ok (.putfield 24, 3) := by decide +kernel
theorem dX3_empty_5 : decode cX3_empty 5 = .ok (.return_, 1) := by decide +kernel
set_option maxRecDepth 20000 in
theorem ggX3_append_X3_room : GoodIn wsX3_append wsX3_room := goodIn_r _ [10, 2, 14, 15, 16, 17, 18, 19] (by decide +kernel) (by decide +kernel)
set_option maxRecDepth 20000 in
theorem gX3_append_X3_room : GoodIn wsX3_append (wsV RX3 40 RX3 yX3_room wsX3_room) := goodIn_app (goodIn_of _ (by decide +kernel)) ggX3_append_X3_room
set_option maxRecDepth 20000 in
theorem ggX3_append_X5_put : GoodIn wsX3_append wsX5_put := goodIn_r _ [13] (by decide +kernel) (by decide +kernel)
set_option maxRecDepth 20000 in
theorem gX3_append_X5_put_n44 : GoodIn wsX3_append (wsX5_put) := ggX3_append_X5_put
theorem dX3_append_0 : decode cX3_append 0 = .ok (.aload_n 0, 1) := by decide +kernel
theorem dX3_append_1 : decode cX3_append 1 = .ok (.invokevirtual 40, 3) := by decide +kernel
theorem dX3_append_4 : decode cX3_append 4 = .ok (.ifCond .le 62, 3) := by decide +kernel
theorem dX3_append_7 : decode cX3_append 7 = .ok (.aload_n 0, 1) := by decide +kernel
theorem dX3_append_8 : decode cX3_append 8 = .ok (.getfield 9, 3) := by decide +kernel
theorem dX3_append_11 : decode cX3_append 11 = .ok (.aload_n 0, 1) := by decide +kernel
theorem dX3_append_12 : decode cX3_append 12 = .ok (.getfield 24, 3) := by decide +kernel
theorem dX3_append_15 : decode cX3_append 15 = .ok (.iload_n 1, 1) := by decide +kernel
theorem dX3_append_16 : decode cX3_append 16 = .ok (.invokestatic 44, 3) := by decide +kernel
theorem dX3_append_19 : decode cX3_append 19 = .ok (.aload_n 0, 1) := by decide +kernel
theorem dX3_append_20 : decode cX3_append 20 = .ok (.getfield 15, 3) := by decide +kernel
theorem dX3_append_23 : decode cX3_append 23 = .ok (.aload_n 0, 1) := by decide +kernel
theorem dX3_append_24 : decode cX3_append 24 = .ok (.getfield 24, 3) := by decide +kernel
theorem dX3_append_27 : decode cX3_append 27 = .ok (.iload_n 2, 1) := by decide +kernel
theorem dX3_append_28 : decode cX3_append 28 = .ok (.invokestatic 44, 3) := by decide +kernel
theorem dX3_append_31 : decode cX3_append 31 = .ok (.aload_n 0, 1) := by decide +kernel
theorem dX3_append_32 : decode cX3_append 32 = .ok (.getfield 18, 3) := by decide +kernel
theorem dX3_append_35 : decode cX3_append 35 = .ok (.aload_n 0, 1) := by decide +kernel
theorem dX3_append_36 : decode cX3_append 36 = .ok (.getfield 24, 3) := by decide +kernel
theorem dX3_append_39 : decode cX3_append 39 = .ok (.iload_n 3, 1) := by decide +kernel
theorem dX3_append_40 : decode cX3_append 40 = .ok (.invokestatic 44, 3) := by decide +kernel
theorem dX3_append_43 : decode cX3_append 43 = .ok (.aload_n 0, 1) := by decide +kernel
theorem dX3_append_44 : decode cX3_append 44 = .ok (.getfield 21, 3) := by decide +kernel
theorem dX3_append_47 : decode cX3_append 47 = .ok (.aload_n 0, 1) := by decide +kernel
theorem dX3_append_48 : decode cX3_append 48 = .ok (.getfield 24, 3) := by decide +kernel
theorem dX3_append_51 : decode cX3_append 51 = .ok (.iload 4, 2) := by decide +kernel
theorem dX3_append_53 : decode cX3_append 53 = .ok (.invokestatic 44, 3) := by decide +kernel
theorem dX3_append_56 : decode cX3_append 56 = .ok (.aload_n 0, 1) := by decide +kernel
theorem dX3_append_57 : decode cX3_append 57 = .ok (.dup, 1) := by decide +kernel
theorem dX3_append_58 : decode cX3_append 58 = .ok (.getfield 24, 3) := by decide +kernel
theorem dX3_append_61 : decode cX3_append 61 = .ok (.iconst 1, 1) := by decide +kernel
theorem dX3_append_62 : decode cX3_append 62 = .ok (.iadd, 1) := by decide +kernel
theorem dX3_append_63 : decode cX3_append 63 = .ok (.putfield 24, 3) := by decide +kernel
theorem dX3_append_66 : decode cX3_append 66 = .ok (.return_, 1) := by decide +kernel
set_option maxRecDepth 20000 in
theorem ggX3_appendAll_X3_keyAt : GoodIn wsX3_appendAll wsX3_keyAt := goodIn_r _ [6, 7, 8, 9, 10, 36, 37, 38, 39, 40, 41] (by decide +kernel) (by decide +kernel)
set_option maxRecDepth 20000 in
theorem gX3_appendAll_X3_keyAt : GoodIn wsX3_appendAll (wsV RX3 48 RX3 yX3_keyAt wsX3_keyAt) := goodIn_app (goodIn_of _ (by decide +kernel)) ggX3_appendAll_X3_keyAt
set_option maxRecDepth 20000 in
theorem ggX3_appendAll_X3_valueAt : GoodIn wsX3_appendAll wsX3_valueAt := goodIn_r _ [14, 15, 8, 9, 10, 36, 37, 38, 39, 40, 41] (by decide +kernel) (by decide +kernel)
set_option maxRecDepth 20000 in
theorem gX3_appendAll_X3_valueAt : GoodIn wsX3_appendAll (wsV RX3 52 RX3 yX3_valueAt wsX3_valueAt) := goodIn_app (goodIn_of _ (by decide +kernel)) ggX3_appendAll_X3_valueAt
set_option maxRecDepth 20000 in
theorem ggX3_appendAll_X3_weightAt : GoodIn wsX3_appendAll wsX3_weightAt := goodIn_r _ [19, 20, 8, 9, 10, 36, 37, 38, 39, 40, 41] (by decide +kernel) (by decide +kernel)
set_option maxRecDepth 20000 in
theorem gX3_appendAll_X3_weightAt : GoodIn wsX3_appendAll (wsV RX3 55 RX3 yX3_weightAt wsX3_weightAt) := goodIn_app (goodIn_of _ (by decide +kernel)) ggX3_appendAll_X3_weightAt
set_option maxRecDepth 20000 in
theorem ggX3_appendAll_X3_targetAt : GoodIn wsX3_appendAll wsX3_targetAt := goodIn_r _ [24, 25, 8, 9, 10, 36, 37, 38, 39, 40, 41] (by decide +kernel) (by decide +kernel)
set_option maxRecDepth 20000 in
theorem gX3_appendAll_X3_targetAt : GoodIn wsX3_appendAll (wsV RX3 58 RX3 yX3_targetAt wsX3_targetAt) := goodIn_app (goodIn_of _ (by decide +kernel)) ggX3_appendAll_X3_targetAt
set_option maxRecDepth 20000 in
theorem ggX3_appendAll_X3_append : GoodIn wsX3_appendAll wsX3_append := goodIn_r _ [29, 7, 1, 15, 20, 25, 30, 31, 32, 5, 33, 34, 9, 35, 36, 37, 38, 39, 40, 41] (by decide +kernel) (by decide +kernel)
set_option maxRecDepth 20000 in
theorem gX3_appendAll_X3_append : GoodIn wsX3_appendAll (wsV RX3 61 RX3 yX3_append wsX3_append) := goodIn_app (goodIn_of _ (by decide +kernel)) ggX3_appendAll_X3_append
theorem dX3_appendAll_0 : decode cX3_appendAll 0 = .ok (.iconst 0, 1) := by decide +kernel
theorem dX3_appendAll_1 : decode cX3_appendAll 1 = .ok (.istore_n 2, 1) := by decide +kernel
theorem dX3_appendAll_2 : decode cX3_appendAll 2 = .ok (.iload_n 2, 1) := by decide +kernel
theorem dX3_appendAll_3 : decode cX3_appendAll 3 = .ok (.aload_n 1, 1) := by decide +kernel
theorem dX3_appendAll_4 : decode cX3_appendAll 4 = .ok (.getfield 24, 3) := by decide +kernel
theorem dX3_appendAll_7 : decode cX3_appendAll 7 = .ok (.if_icmp .ge 33, 3) := by decide +kernel
theorem dX3_appendAll_10 : decode cX3_appendAll 10 = .ok (.aload_n 0, 1) := by decide +kernel
theorem dX3_appendAll_11 : decode cX3_appendAll 11 = .ok (.aload_n 1, 1) := by decide +kernel
theorem dX3_appendAll_12 : decode cX3_appendAll 12 = .ok (.iload_n 2, 1) := by decide +kernel
theorem dX3_appendAll_13 : decode cX3_appendAll 13 = .ok (.invokevirtual 48, 3) := by decide +kernel
theorem dX3_appendAll_16 : decode cX3_appendAll 16 = .ok (.aload_n 1, 1) := by decide +kernel
theorem dX3_appendAll_17 : decode cX3_appendAll 17 = .ok (.iload_n 2, 1) := by decide +kernel
theorem dX3_appendAll_18 : decode cX3_appendAll 18 = .ok (.invokevirtual 52, 3) := by decide +kernel
theorem dX3_appendAll_21 : decode cX3_appendAll 21 = .ok (.aload_n 1, 1) := by decide +kernel
theorem dX3_appendAll_22 : decode cX3_appendAll 22 = .ok (.iload_n 2, 1) := by decide +kernel
theorem dX3_appendAll_23 : decode cX3_appendAll 23 = .ok (.invokevirtual 55, 3) := by decide +kernel
theorem dX3_appendAll_26 : decode cX3_appendAll 26 = .ok (.aload_n 1, 1) := by decide +kernel
theorem dX3_appendAll_27 : decode cX3_appendAll 27 = .ok (.iload_n 2, 1) := by decide +kernel
theorem dX3_appendAll_28 : decode cX3_appendAll 28 = .ok (.invokevirtual 58, 3) := by decide +kernel
theorem dX3_appendAll_31 : decode cX3_appendAll 31 = .ok (.invokevirtual 61, 3) := by decide +kernel
theorem dX3_appendAll_34 : decode cX3_appendAll 34 = .ok (.iinc 2 1, 3) := by decide +kernel
theorem dX3_appendAll_37 : decode cX3_appendAll 37 = .ok (.goto (-35), 3) := by decide +kernel
theorem dX3_appendAll_40 : decode cX3_appendAll 40 = .ok (.return_, 1) := by decide +kernel
set_option maxRecDepth 20000 in
theorem ggX3_drop_X3_has : GoodIn wsX3_drop wsX3_has := goodIn_r _ [6, 1, 36, 37, 38, 39, 40, 41] (by decide +kernel) (by decide +kernel)
set_option maxRecDepth 20000 in
theorem gX3_drop_X3_has : GoodIn wsX3_drop (wsV RX3 65 RX3 yX3_has wsX3_has) := goodIn_app (goodIn_of _ (by decide +kernel)) ggX3_drop_X3_has
set_option maxRecDepth 20000 in
theorem ggX3_drop_X3_move : GoodIn wsX3_drop wsX3_move := goodIn_r _ [10, 11, 12, 13, 14, 15, 16, 17, 5, 18, 19, 20, 21, 22, 23, 24, 25, 26, 27, 28, 29, 30, 31, 32, 33, 34, 35, 36, 37, 38, 39, 40, 41] (by decide +kernel) (by decide +kernel)
set_option maxRecDepth 20000 in
theorem gX3_drop_X3_move : GoodIn wsX3_drop (wsV RX3 69 RX3 yX3_move wsX3_move) := goodIn_app (goodIn_of _ (by decide +kernel)) ggX3_drop_X3_move
theorem dX3_drop_0 : decode cX3_drop 0 = .ok (.aload_n 0, 1) := by decide +kernel
theorem dX3_drop_1 : decode cX3_drop 1 = .ok (.iload_n 1, 1) := by decide +kernel
theorem dX3_drop_2 : decode cX3_drop 2 = .ok (.invokevirtual 65, 3) := by decide +kernel
theorem dX3_drop_5 : decode cX3_drop 5 = .ok (.ifCond .eq 39, 3) := by decide +kernel
theorem dX3_drop_8 : decode cX3_drop 8 = .ok (.iload_n 1, 1) := by decide +kernel
theorem dX3_drop_9 : decode cX3_drop 9 = .ok (.iconst 1, 1) := by decide +kernel
theorem dX3_drop_10 : decode cX3_drop 10 = .ok (.iadd, 1) := by decide +kernel
theorem dX3_drop_11 : decode cX3_drop 11 = .ok (.istore_n 2, 1) := by decide +kernel
theorem dX3_drop_12 : decode cX3_drop 12 = .ok (.iload_n 2, 1) := by decide +kernel
theorem dX3_drop_13 : decode cX3_drop 13 = .ok (.aload_n 0, 1) := by decide +kernel
theorem dX3_drop_14 : decode cX3_drop 14 = .ok (.getfield 24, 3) := by decide +kernel
theorem dX3_drop_17 : decode cX3_drop 17 = .ok (.if_icmp .ge 17, 3) := by decide +kernel
theorem dX3_drop_20 : decode cX3_drop 20 = .ok (.aload_n 0, 1) := by decide +kernel
theorem dX3_drop_21 : decode cX3_drop 21 = .ok (.iload_n 2, 1) := by decide +kernel
theorem dX3_drop_22 : decode cX3_drop 22 = .ok (.iload_n 2, 1) := by decide +kernel
theorem dX3_drop_23 : decode cX3_drop 23 = .ok (.iconst 1, 1) := by decide +kernel
theorem dX3_drop_24 : decode cX3_drop 24 = .ok (.isub, 1) := by decide +kernel
theorem dX3_drop_25 : decode cX3_drop 25 = .ok (.invokevirtual 69, 3) := by decide +kernel
theorem dX3_drop_28 : decode cX3_drop 28 = .ok (.iinc 2 1, 3) := by decide +kernel
theorem dX3_drop_31 : decode cX3_drop 31 = .ok (.goto (-19), 3) := by decide +kernel
theorem dX3_drop_34 : decode cX3_drop 34 = .ok (.aload_n 0, 1) := by decide +kernel
theorem dX3_drop_35 : decode cX3_drop 35 = .ok (.dup, 1) := by decide +kernel
theorem dX3_drop_36 : decode cX3_drop 36 = .ok (.getfield 24, 3) := by decide +kernel
theorem dX3_drop_39 : decode cX3_drop 39 = .ok (.iconst 1, 1) := by decide +kernel
theorem dX3_drop_40 : decode cX3_drop 40 = .ok (.isub, 1) := by decide +kernel
theorem dX3_drop_41 : decode cX3_drop 41 = .ok (.putfield 24, 3) := by decide +kernel
theorem dX3_drop_44 : decode cX3_drop 44 = .ok (.return_, 1) := by decide +kernel
set_option maxRecDepth 20000 in
theorem ggX3_dropOthersLike_X3_has : GoodIn wsX3_dropOthersLike wsX3_has := goodIn_r _ [6, 1, 36, 37, 38, 39, 40, 41] (by decide +kernel) (by decide +kernel)
set_option maxRecDepth 20000 in
theorem gX3_dropOthersLike_X3_has : GoodIn wsX3_dropOthersLike (wsV RX3 65 RX3 yX3_has wsX3_has) := goodIn_app (goodIn_of _ (by decide +kernel)) ggX3_dropOthersLike_X3_has
set_option maxRecDepth 20000 in
theorem ggX3_dropOthersLike_X3_keyAt : GoodIn wsX3_dropOthersLike wsX3_keyAt := goodIn_r _ [10, 11, 12, 13, 14, 36, 37, 38, 39, 40, 41] (by decide +kernel) (by decide +kernel)
set_option maxRecDepth 20000 in
theorem gX3_dropOthersLike_X3_keyAt : GoodIn wsX3_dropOthersLike (wsV RX3 48 RX3 yX3_keyAt wsX3_keyAt) := goodIn_app (goodIn_of _ (by decide +kernel)) ggX3_dropOthersLike_X3_keyAt
set_option maxRecDepth 20000 in
theorem ggX3_dropOthersLike_X3_move : GoodIn wsX3_dropOthersLike wsX3_move := goodIn_r _ [18, 11, 19, 20, 21, 7, 8, 9, 5, 10, 12, 13, 14, 22, 23, 24, 25, 26, 27, 28, 29, 30, 31, 32, 33, 34, 35, 36, 37, 38, 39, 40, 41] (by decide +kernel) (by decide +kernel)
set_option maxRecDepth 20000 in
theorem gX3_dropOthersLike_X3_move : GoodIn wsX3_dropOthersLike (wsV RX3 69 RX3 yX3_move wsX3_move) := goodIn_app (goodIn_of _ (by decide +kernel)) ggX3_dropOthersLike_X3_move
theorem dX3_dropOthersLike_0 : decode cX3_dropOthersLike 0 = .ok (.aload_n 0, 1) := by decide +kernel
theorem dX3_dropOthersLike_1 : decode cX3_dropOthersLike 1 = .ok (.iload_n 1, 1) := by decide +kernel
theorem dX3_dropOthersLike_2 : decode cX3_dropOthersLike 2 = .ok (.invokevirtual 65, 3) := by decide +kernel
theorem dX3_dropOthersLike_5 : decode cX3_dropOthersLike 5 = .ok (.ifCond .eq 60, 3) := by decide +kernel
theorem dX3_dropOthersLike_8 : decode cX3_dropOthersLike 8 = .ok (.aload_n 0, 1) := by decide +kernel
theorem dX3_dropOthersLike_9 : decode cX3_dropOthersLike 9 = .ok (.iload_n 1, 1) := by decide +kernel
theorem dX3_dropOthersLike_10 : decode cX3_dropOthersLike 10 = .ok (.invokevirtual 48, 3) := by decide +kernel
theorem dX3_dropOthersLike_13 : decode cX3_dropOthersLike 13 = .ok (.istore_n 2, 1) := by decide +kernel
theorem dX3_dropOthersLike_14 : decode cX3_dropOthersLike 14 = .ok (.iconst 0, 1) := by decide +kernel
theorem dX3_dropOthersLike_15 : decode cX3_dropOthersLike 15 = .ok (.istore_n 3, 1) := by decide +kernel
theorem dX3_dropOthersLike_16 : decode cX3_dropOthersLike 16 = .ok (.iconst 0, 1) := by decide +kernel
theorem dX3_dropOthersLike_17 : decode cX3_dropOthersLike 17 = .ok (.istore 4, 2) := by decide +kernel
theorem dX3_dropOthersLike_19 : decode cX3_dropOthersLike 19 = .ok (.iload 4, 2) := by decide +kernel
theorem dX3_dropOthersLike_21 : decode cX3_dropOthersLike 21 = .ok (.aload_n 0, 1) := by decide +kernel
theorem dX3_dropOthersLike_22 : decode cX3_dropOthersLike 22 = .ok (.getfield 24, 3) := by decide +kernel
theorem dX3_dropOthersLike_25 : decode cX3_dropOthersLike 25 = .ok (.if_icmp .ge 35, 3) := by decide +kernel
theorem dX3_dropOthersLike_28 : decode cX3_dropOthersLike 28 = .ok (.iload 4, 2) := by decide +kernel
theorem dX3_dropOthersLike_30 : decode cX3_dropOthersLike 30 = .ok (.iload_n 1, 1) := by decide +kernel
theorem dX3_dropOthersLike_31 : decode cX3_dropOthersLike 31 = .ok (.if_icmp .eq 13, 3) := by decide +kernel
theorem dX3_dropOthersLike_34 : decode cX3_dropOthersLike 34 = .ok (.aload_n 0, 1) := by decide +kernel
theorem dX3_dropOthersLike_35 : decode cX3_dropOthersLike 35 = .ok (.iload 4, 2) := by decide +kernel
theorem dX3_dropOthersLike_37 : decode cX3_dropOthersLike 37 = .ok (.invokevirtual 48, 3) := by decide +kernel
theorem dX3_dropOthersLike_40 : decode cX3_dropOthersLike 40 = .ok (.iload_n 2, 1) := by decide +kernel
theorem dX3_dropOthersLike_41 : decode cX3_dropOthersLike 41 = .ok (.if_icmp .eq 13, 3) := by decide +kernel
theorem dX3_dropOthersLike_44 : decode cX3_dropOthersLike 44 = .ok (.aload_n 0, 1) := by decide +kernel
theorem dX3_dropOthersLike_45 : decode cX3_dropOthersLike 45 = .ok (.iload 4, 2) := by decide +kernel
theorem dX3_dropOthersLike_47 : decode cX3_dropOthersLike 47 = .ok (.iload_n 3, 1) := by decide +kernel
theorem dX3_dropOthersLike_48 : decode cX3_dropOthersLike 48 = .ok (.invokevirtual 69, 3) := by decide +kernel
theorem dX3_dropOthersLike_51 : decode cX3_dropOthersLike 51 = .ok (.iinc 3 1, 3) := by decide +kernel
theorem dX3_dropOthersLike_54 : decode cX3_dropOthersLike 54 = .ok (.iinc 4 1, 3) := by decide +kernel
theorem dX3_dropOthersLike_57 : decode cX3_dropOthersLike 57 = .ok (.goto (-38), 3) := by decide +kernel
theorem dX3_dropOthersLike_60 : decode cX3_dropOthersLike 60 = .ok (.aload_n 0, 1) := by decide +kernel
theorem dX3_dropOthersLike_61 : decode cX3_dropOthersLike 61 = .ok (.iload_n 3, 1) := by decide +kernel
theorem dX3_dropOthersLike_62 : decode cX3_dropOthersLike 62 = .ok (.putfield 24, 3) := by decide +kernel
theorem dX3_dropOthersLike_65 : decode cX3_dropOthersLike 65 = .ok (.return_, 1) := by decide +kernel
set_option maxRecDepth 20000 in
theorem ggX3_move_X3_keyAt : GoodIn wsX3_move wsX3_keyAt := goodIn_r _ [9, 1, 10, 11, 12, 27, 28, 29, 30, 31, 32] (by decide +kernel) (by decide +kernel)
set_option maxRecDepth 20000 in
theorem gX3_move_X3_keyAt : GoodIn wsX3_move (wsV RX3 48 RX3 yX3_keyAt wsX3_keyAt) := goodIn_app (goodIn_of _ (by decide +kernel)) ggX3_move_X3_keyAt
set_option maxRecDepth 20000 in
theorem ggX3_move_X5_put : GoodIn wsX3_move wsX5_put := goodIn_r _ [14] (by decide +kernel) (by decide +kernel)
set_option maxRecDepth 20000 in
theorem gX3_move_X5_put_n44 : GoodIn wsX3_move (wsX5_put) := ggX3_move_X5_put
set_option maxRecDepth 20000 in
theorem ggX3_move_X3_valueAt : GoodIn wsX3_move wsX3_valueAt := goodIn_r _ [18, 2, 10, 11, 12, 27, 28, 29, 30, 31, 32] (by decide +kernel) (by decide +kernel)
set_option maxRecDepth 20000 in
theorem gX3_move_X3_valueAt : GoodIn wsX3_move (wsV RX3 52 RX3 yX3_valueAt wsX3_valueAt) := goodIn_app (goodIn_of _ (by decide +kernel)) ggX3_move_X3_valueAt
set_option maxRecDepth 20000 in
theorem ggX3_move_X3_weightAt : GoodIn wsX3_move wsX3_weightAt := goodIn_r _ [22, 3, 10, 11, 12, 27, 28, 29, 30, 31, 32] (by decide +kernel) (by decide +kernel)
set_option maxRecDepth 20000 in
theorem gX3_move_X3_weightAt : GoodIn wsX3_move (wsV RX3 55 RX3 yX3_weightAt wsX3_weightAt) := goodIn_app (goodIn_of _ (by decide +kernel)) ggX3_move_X3_weightAt
set_option maxRecDepth 20000 in
theorem ggX3_move_X3_targetAt : GoodIn wsX3_move wsX3_targetAt := goodIn_r _ [26, 4, 10, 11, 12, 27, 28, 29, 30, 31, 32] (by decide +kernel) (by decide +kernel)
set_option maxRecDepth 20000 in
theorem gX3_move_X3_targetAt : GoodIn wsX3_move (wsV RX3 58 RX3 yX3_targetAt wsX3_targetAt) := goodIn_app (goodIn_of _ (by decide +kernel)) ggX3_move_X3_targetAt
theorem dX3_move_0 : decode cX3_move 0 = .ok (.aload_n 0, 1) := by decide +kernel
theorem dX3_move_1 : decode cX3_move 1 = .ok (.getfield 9, 3) := by decide +kernel
theorem dX3_move_4 : decode cX3_move 4 = .ok (.iload_n 2, 1) := by decide +kernel
theorem dX3_move_5 : decode cX3_move 5 = .ok (.aload_n 0, 1) := by decide +kernel
theorem dX3_move_6 : decode cX3_move 6 = .ok (.iload_n 1, 1) := by decide +kernel
theorem dX3_move_7 : decode cX3_move 7 = .ok (.invokevirtual 48, 3) := by decide +kernel
theorem dX3_move_10 : decode cX3_move 10 = .ok (.invokestatic 44, 3) := by decide +kernel
theorem dX3_move_13 : decode cX3_move 13 = .ok (.aload_n 0, 1) := by decide +kernel
theorem dX3_move_14 : decode cX3_move 14 = .ok (.getfield 15, 3) := by decide +kernel
theorem dX3_move_17 : decode cX3_move 17 = .ok (.iload_n 2, 1) := by decide +kernel
theorem dX3_move_18 : decode cX3_move 18 = .ok (.aload_n 0, 1) := by decide +kernel
theorem dX3_move_19 : decode cX3_move 19 = .ok (.iload_n 1, 1) := by decide +kernel
theorem dX3_move_20 : decode cX3_move 20 = .ok (.invokevirtual 52, 3) := by decide +kernel
theorem dX3_move_23 : decode cX3_move 23 = .ok (.invokestatic 44, 3) := by decide +kernel
theorem dX3_move_26 : decode cX3_move 26 = .ok (.aload_n 0, 1) := by decide +kernel
theorem dX3_move_27 : decode cX3_move 27 = .ok (.getfield 18, 3) := by decide +kernel
theorem dX3_move_30 : decode cX3_move 30 = .ok (.iload_n 2, 1) := by decide +kernel
theorem dX3_move_31 : decode cX3_move 31 = .ok (.aload_n 0, 1) := by decide +kernel
theorem dX3_move_32 : decode cX3_move 32 = .ok (.iload_n 1, 1) := by decide +kernel
theorem dX3_move_33 : decode cX3_move 33 = .ok (.invokevirtual 55, 3) := by decide +kernel
theorem dX3_move_36 : decode cX3_move 36 = .ok (.invokestatic 44, 3) := by decide +kernel
theorem dX3_move_39 : decode cX3_move 39 = .ok (.aload_n 0, 1) := by decide +kernel
theorem dX3_move_40 : decode cX3_move 40 = .ok (.getfield 21, 3) := by decide +kernel
theorem dX3_move_43 : decode cX3_move 43 = .ok (.iload_n 2, 1) := by decide +kernel
theorem dX3_move_44 : decode cX3_move 44 = .ok (.aload_n 0, 1) := by decide +kernel
theorem dX3_move_45 : decode cX3_move 45 = .ok (.iload_n 1, 1) := by decide +kernel
theorem dX3_move_46 : decode cX3_move 46 = .ok (.invokevirtual 58, 3) := by decide +kernel
theorem dX3_move_49 : decode cX3_move 49 = .ok (.invokestatic 44, 3) := by decide +kernel
theorem dX3_move_52 : decode cX3_move 52 = .ok (.return_, 1) := by decide +kernel
set_option maxRecDepth 20000 in
theorem ggX3_rowsWith_X3_keyAt : GoodIn wsX3_rowsWith wsX3_keyAt := goodIn_r _ [6, 7, 8, 9, 10, 11, 12, 13, 14, 15, 16] (by decide +kernel) (by decide +kernel)
set_option maxRecDepth 20000 in
theorem gX3_rowsWith_X3_keyAt : GoodIn wsX3_rowsWith (wsV RX3 48 RX3 yX3_keyAt wsX3_keyAt) := goodIn_app (goodIn_of _ (by decide +kernel)) ggX3_rowsWith_X3_keyAt
theorem dX3_rowsWith_0 : decode cX3_rowsWith 0 = .ok (.iconst 0, 1) := by decide +kernel
theorem dX3_rowsWith_1 : decode cX3_rowsWith 1 = .ok (.istore_n 2, 1) := by decide +kernel
theorem dX3_rowsWith_2 : decode cX3_rowsWith 2 = .ok (.iconst 0, 1) := by decide +kernel
theorem dX3_rowsWith_3 : decode cX3_rowsWith 3 = .ok (.istore_n 3, 1) := by decide +kernel
theorem dX3_rowsWith_4 : decode cX3_rowsWith 4 = .ok (.iload_n 3, 1) := by decide +kernel
theorem dX3_rowsWith_5 : decode cX3_rowsWith 5 = .ok (.aload_n 0, 1) := by decide +kernel
theorem dX3_rowsWith_6 : decode cX3_rowsWith 6 = .ok (.getfield 24, 3) := by decide +kernel
theorem dX3_rowsWith_9 : decode cX3_rowsWith 9 = .ok (.if_icmp .ge 21, 3) := by decide +kernel
theorem dX3_rowsWith_12 : decode cX3_rowsWith 12 = .ok (.aload_n 0, 1) := by decide +kernel
theorem dX3_rowsWith_13 : decode cX3_rowsWith 13 = .ok (.iload_n 3, 1) := by decide +kernel
theorem dX3_rowsWith_14 : decode cX3_rowsWith 14 = .ok (.invokevirtual 48, 3) := by decide +kernel
theorem dX3_rowsWith_17 : decode cX3_rowsWith 17 = .ok (.iload_n 1, 1) := by decide +kernel
theorem dX3_rowsWith_18 : decode cX3_rowsWith 18 = .ok (.if_icmp .ne 6, 3) := by decide +kernel
theorem dX3_rowsWith_21 : decode cX3_rowsWith 21 = .ok (.iinc 2 1, 3) := by decide +kernel
theorem dX3_rowsWith_24 : decode cX3_rowsWith 24 = .ok (.iinc 3 1, 3) := by decide +kernel
theorem dX3_rowsWith_27 : decode cX3_rowsWith 27 = .ok (.goto (-23), 3) := by decide +kernel
theorem dX3_rowsWith_30 : decode cX3_rowsWith 30 = .ok (.iload_n 2, 1) := by decide +kernel
theorem dX3_rowsWith_31 : decode cX3_rowsWith 31 = .ok (.ireturn, 1) := by decide +kernel
set_option maxRecDepth 20000 in
theorem ggX3_rowsPointingTo_X3_targetAt : GoodIn wsX3_rowsPointingTo wsX3_targetAt := goodIn_r _ [6, 7, 8, 9, 10, 11, 12, 13, 14, 15, 16] (by decide +kernel) (by decide +kernel)
set_option maxRecDepth 20000 in
theorem gX3_rowsPointingTo_X3_targetAt : GoodIn wsX3_rowsPointingTo (wsV RX3 58 RX3 yX3_targetAt wsX3_targetAt) := goodIn_app (goodIn_of _ (by decide +kernel)) ggX3_rowsPointingTo_X3_targetAt
theorem dX3_rowsPointingTo_0 : decode cX3_rowsPointingTo 0 = .ok (.iconst 0, 1) := by decide +kernel
theorem dX3_rowsPointingTo_1 : decode cX3_rowsPointingTo 1 = .ok (.istore_n 2, 1) := by decide +kernel
theorem dX3_rowsPointingTo_2 : decode cX3_rowsPointingTo 2 = .ok (.iconst 0, 1) := by decide +kernel
theorem dX3_rowsPointingTo_3 : decode cX3_rowsPointingTo 3 = .ok (.istore_n 3, 1) := by decide +kernel
theorem dX3_rowsPointingTo_4 : decode cX3_rowsPointingTo 4 = .ok (.iload_n 3, 1) := by decide +kernel
theorem dX3_rowsPointingTo_5 : decode cX3_rowsPointingTo 5 = .ok (.aload_n 0, 1) := by decide +kernel
theorem dX3_rowsPointingTo_6 : decode cX3_rowsPointingTo 6 = .ok (.getfield 24, 3) := by decide +kernel
theorem dX3_rowsPointingTo_9 : decode cX3_rowsPointingTo 9 = .ok (.if_icmp .ge 21, 3) := by decide +kernel
theorem dX3_rowsPointingTo_12 : decode cX3_rowsPointingTo 12 = .ok (.aload_n 0, 1) := by decide +kernel
theorem dX3_rowsPointingTo_13 : decode cX3_rowsPointingTo 13 = .ok (.iload_n 3, 1) := by decide +kernel
theorem dX3_rowsPointingTo_14 : decode cX3_rowsPointingTo 14 = .ok (.invokevirtual 58, 3) := by decide +kernel
theorem dX3_rowsPointingTo_17 : decode cX3_rowsPointingTo 17 = .ok (.iload_n 1, 1) := by decide +kernel
theorem dX3_rowsPointingTo_18 : decode cX3_rowsPointingTo 18 = .ok (.if_icmp .ne 6, 3) := by decide +kernel
theorem dX3_rowsPointingTo_21 : decode cX3_rowsPointingTo 21 = .ok (.iinc 2 1, 3) := by decide +kernel
theorem dX3_rowsPointingTo_24 : decode cX3_rowsPointingTo 24 = .ok (.iinc 3 1, 3) := by decide +kernel
theorem dX3_rowsPointingTo_27 : decode cX3_rowsPointingTo 27 = .ok (.goto (-23), 3) := by decide +kernel
theorem dX3_rowsPointingTo_30 : decode cX3_rowsPointingTo 30 = .ok (.iload_n 2, 1) := by decide +kernel
theorem dX3_rowsPointingTo_31 : decode cX3_rowsPointingTo 31 = .ok (.ireturn, 1) := by decide +kernel
set_option maxRecDepth 20000 in
theorem ggX3_keysThere_X3_keysWithAtLeast : GoodIn wsX3_keysThere wsX3_keysWithAtLeast := goodIn_r _ [5, 6, 7, 8, 4, 9, 10, 11, 12, 13, 14, 15, 16, 17, 18, 19, 20, 21, 22, 23, 24] (by decide +kernel) (by decide +kernel)
set_option maxRecDepth 20000 in
theorem gX3_keysThere_X3_keysWithAtLeast : GoodIn wsX3_keysThere (wsV RX3 73 RX3 yX3_keysWithAtLeast wsX3_keysWithAtLeast) := goodIn_app (goodIn_of _ (by decide +kernel)) ggX3_keysThere_X3_keysWithAtLeast
theorem dX3_keysThere_0 : decode cX3_keysThere 0 = .ok (.aload_n 0, 1) := by decide +kernel
theorem dX3_keysThere_1 : decode cX3_keysThere 1 = .ok (.iconst 1, 1) := by decide +kernel
theorem dX3_keysThere_2 : decode cX3_keysThere 2 = .ok (.invokevirtual 73, 3) := by decide +kernel
theorem dX3_keysThere_5 : decode cX3_keysThere 5 = .ok (.ireturn, 1) := by decide +kernel
set_option maxRecDepth 20000 in
theorem ggX3_doubledKeys_X3_keysWithAtLeast : GoodIn wsX3_doubledKeys wsX3_keysWithAtLeast := goodIn_r _ [5, 6, 7, 8, 4, 9, 10, 11, 12, 13, 14, 15, 16, 17, 18, 19, 20, 21, 22, 23, 24] (by decide +kernel) (by decide +kernel)
set_option maxRecDepth 20000 in
theorem gX3_doubledKeys_X3_keysWithAtLeast : GoodIn wsX3_doubledKeys (wsV RX3 73 RX3 yX3_keysWithAtLeast wsX3_keysWithAtLeast) := goodIn_app (goodIn_of _ (by decide +kernel)) ggX3_doubledKeys_X3_keysWithAtLeast
theorem dX3_doubledKeys_0 : decode cX3_doubledKeys 0 = .ok (.aload_n 0, 1) := by decide +kernel
theorem dX3_doubledKeys_1 : decode cX3_doubledKeys 1 = .ok (.iconst 2, 1) := by decide +kernel
theorem dX3_doubledKeys_2 : decode cX3_doubledKeys 2 = .ok (.invokevirtual 73, 3) := by decide +kernel
theorem dX3_doubledKeys_5 : decode cX3_doubledKeys 5 = .ok (.ireturn, 1) := by decide +kernel
set_option maxRecDepth 20000 in
theorem ggX3_keysWithAtLeast_X3_rowsWith : GoodIn wsX3_keysWithAtLeast wsX3_rowsWith := goodIn_r _ [5, 6, 7, 8, 9, 4, 10, 11, 12, 13, 14, 15, 16, 17, 18, 19, 20] (by decide +kernel) (by decide +kernel)
set_option maxRecDepth 20000 in
theorem gX3_keysWithAtLeast_X3_rowsWith : GoodIn wsX3_keysWithAtLeast (wsV RX3 76 RX3 yX3_rowsWith wsX3_rowsWith) := goodIn_app (goodIn_of _ (by decide +kernel)) ggX3_keysWithAtLeast_X3_rowsWith
theorem dX3_keysWithAtLeast_0 : decode cX3_keysWithAtLeast 0 = .ok (.iconst 0, 1) := by decide +kernel
theorem dX3_keysWithAtLeast_1 : decode cX3_keysWithAtLeast 1 = .ok (.istore_n 2, 1) := by decide +kernel
theorem dX3_keysWithAtLeast_2 : decode cX3_keysWithAtLeast 2 = .ok (.iconst 0, 1) := by decide +kernel
theorem dX3_keysWithAtLeast_3 : decode cX3_keysWithAtLeast 3 = .ok (.istore_n 3, 1) := by decide +kernel
theorem dX3_keysWithAtLeast_4 : decode cX3_keysWithAtLeast 4 = .ok (.iload_n 3, 1) := by decide +kernel
theorem dX3_keysWithAtLeast_5 : decode cX3_keysWithAtLeast 5 = .ok (.bipush 10, 2) := by decide +kernel
theorem dX3_keysWithAtLeast_7 : decode cX3_keysWithAtLeast 7 = .ok (.if_icmp .ge 21, 3) := by decide +kernel
theorem dX3_keysWithAtLeast_10 : decode cX3_keysWithAtLeast 10 = .ok (.aload_n 0, 1) := by decide +kernel
theorem dX3_keysWithAtLeast_11 : decode cX3_keysWithAtLeast 11 = .ok (.iload_n 3, 1) := by decide +kernel
theorem dX3_keysWithAtLeast_12 : decode cX3_keysWithAtLeast 12 = .ok (.invokevirtual 76, 3) := by decide +kernel
theorem dX3_keysWithAtLeast_15 : decode cX3_keysWithAtLeast 15 = .ok (.iload_n 1, 1) := by decide +kernel
theorem dX3_keysWithAtLeast_16 : decode cX3_keysWithAtLeast 16 = .ok (.if_icmp .lt 6, 3) := by decide +kernel
theorem dX3_keysWithAtLeast_19 : decode cX3_keysWithAtLeast 19 = .ok (.iinc 2 1, 3) := by decide +kernel
theorem dX3_keysWithAtLeast_22 : decode cX3_keysWithAtLeast 22 = .ok (.iinc 3 1, 3) := by decide +kernel
theorem dX3_keysWithAtLeast_25 : decode cX3_keysWithAtLeast 25 = .ok (.goto (-21), 3) := by decide +kernel
theorem dX3_keysWithAtLeast_28 : decode cX3_keysWithAtLeast 28 = .ok (.iload_n 2, 1) := by decide +kernel
theorem dX3_keysWithAtLeast_29 : decode cX3_keysWithAtLeast 29 = .ok (.ireturn, 1) := by decide +kernel
set_option maxRecDepth 20000 in
theorem ggX3_firstWith_X3_keyAt : GoodIn wsX3_firstWith wsX3_keyAt := goodIn_r _ [6, 7, 8, 9, 10, 11, 12, 13, 14, 15, 16] (by decide +kernel) (by decide +kernel)
set_option maxRecDepth 20000 in
theorem gX3_firstWith_X3_keyAt : GoodIn wsX3_firstWith (wsV RX3 48 RX3 yX3_keyAt wsX3_keyAt) := goodIn_app (goodIn_of _ (by decide +kernel)) ggX3_firstWith_X3_keyAt
theorem dX3_firstWith_0 : decode cX3_firstWith 0 = .ok (.iconst 0, 1) := by decide +kernel
theorem dX3_firstWith_1 : decode cX3_firstWith 1 = .ok (.istore_n 2, 1) := by decide +kernel
theorem dX3_firstWith_2 : decode cX3_firstWith 2 = .ok (.iload_n 2, 1) := by decide +kernel
theorem dX3_firstWith_3 : decode cX3_firstWith 3 = .ok (.aload_n 0, 1) := by decide +kernel
theorem dX3_firstWith_4 : decode cX3_firstWith 4 = .ok (.getfield 24, 3) := by decide +kernel
theorem dX3_firstWith_7 : decode cX3_firstWith 7 = .ok (.if_icmp .ge 20, 3) := by decide +kernel
theorem dX3_firstWith_10 : decode cX3_firstWith 10 = .ok (.aload_n 0, 1) := by decide +kernel
theorem dX3_firstWith_11 : decode cX3_firstWith 11 = .ok (.iload_n 2, 1) := by decide +kernel
theorem dX3_firstWith_12 : decode cX3_firstWith 12 = .ok (.invokevirtual 48, 3) := by decide +kernel
theorem dX3_firstWith_15 : decode cX3_firstWith 15 = .ok (.iload_n 1, 1) := by decide +kernel
theorem dX3_firstWith_16 : decode cX3_firstWith 16 = .ok (.if_icmp .ne 5, 3) := by decide +kernel
theorem dX3_firstWith_19 : decode cX3_firstWith 19 = .ok (.iload_n 2, 1) := by decide +kernel
theorem dX3_firstWith_20 : decode cX3_firstWith 20 = .ok (.ireturn, 1) := by decide +kernel
theorem dX3_firstWith_21 : decode cX3_firstWith 21 = .ok (.iinc 2 1, 3) := by decide +kernel
theorem dX3_firstWith_24 : decode cX3_firstWith 24 = .ok (.goto (-22), 3) := by decide +kernel
theorem dX3_firstWith_27 : decode cX3_firstWith 27 = .ok (.bipush (-5), 2) := by decide +kernel
theorem dX3_firstWith_29 : decode cX3_firstWith 29 = .ok (.ireturn, 1) := by decide +kernel
set_option maxRecDepth 20000 in
theorem ggX3_lastWith_X3_keyAt : GoodIn wsX3_lastWith wsX3_keyAt := goodIn_r _ [6, 7, 8, 9, 10, 11, 12, 13, 14, 15, 16] (by decide +kernel) (by decide +kernel)
set_option maxRecDepth 20000 in
theorem gX3_lastWith_X3_keyAt : GoodIn wsX3_lastWith (wsV RX3 48 RX3 yX3_keyAt wsX3_keyAt) := goodIn_app (goodIn_of _ (by decide +kernel)) ggX3_lastWith_X3_keyAt
theorem dX3_lastWith_0 : decode cX3_lastWith 0 = .ok (.aload_n 0, 1) := by decide +kernel
theorem dX3_lastWith_1 : decode cX3_lastWith 1 = .ok (.getfield 24, 3) := by decide +kernel
theorem dX3_lastWith_4 : decode cX3_lastWith 4 = .ok (.iconst 1, 1) := by decide +kernel
theorem dX3_lastWith_5 : decode cX3_lastWith 5 = .ok (.isub, 1) := by decide +kernel
theorem dX3_lastWith_6 : decode cX3_lastWith 6 = .ok (.istore_n 2, 1) := by decide +kernel
theorem dX3_lastWith_7 : decode cX3_lastWith 7 = .ok (.iload_n 2, 1) := by decide +kernel
theorem dX3_lastWith_8 : decode cX3_lastWith 8 = .ok (.ifCond .lt 20, 3) := by decide +kernel
theorem dX3_lastWith_11 : decode cX3_lastWith 11 = .ok (.aload_n 0, 1) := by decide +kernel
theorem dX3_lastWith_12 : decode cX3_lastWith 12 = .ok (.iload_n 2, 1) := by decide +kernel
theorem dX3_lastWith_13 : decode cX3_lastWith 13 = .ok (.invokevirtual 48, 3) := by decide +kernel
theorem dX3_lastWith_16 : decode cX3_lastWith 16 = .ok (.iload_n 1, 1) := by decide +kernel
theorem dX3_lastWith_17 : decode cX3_lastWith 17 = .ok (.if_icmp .ne 5, 3) := by decide +kernel
theorem dX3_lastWith_20 : decode cX3_lastWith 20 = .ok (.iload_n 2, 1) := by decide +kernel
theorem dX3_lastWith_21 : decode cX3_lastWith 21 = .ok (.ireturn, 1) := by decide +kernel
theorem dX3_lastWith_22 : decode cX3_lastWith 22 = .ok (.iinc 2 (-1), 3) := by decide +kernel
theorem dX3_lastWith_25 : decode cX3_lastWith 25 = .ok (.goto (-18), 3) := by decide +kernel
theorem dX3_lastWith_28 : decode cX3_lastWith 28 = .ok (.bipush (-5), 2) := by decide +kernel
theorem dX3_lastWith_30 : decode cX3_lastWith 30 = .ok (.ireturn, 1) := by decide +kernel
set_option maxRecDepth 20000 in
theorem ggX3_lightestWith_X3_keyAt : GoodIn wsX3_lightestWith wsX3_keyAt := goodIn_r _ [6, 7, 8, 9, 10, 16, 17, 18, 19, 20, 21] (by decide +kernel) (by decide +kernel)
set_option maxRecDepth 20000 in
theorem gX3_lightestWith_X3_keyAt : GoodIn wsX3_lightestWith (wsV RX3 48 RX3 yX3_keyAt wsX3_keyAt) := goodIn_app (goodIn_of _ (by decide +kernel)) ggX3_lightestWith_X3_keyAt
set_option maxRecDepth 20000 in
theorem ggX3_lightestWith_X3_weightAt : GoodIn wsX3_lightestWith wsX3_weightAt := goodIn_r _ [14, 15, 8, 9, 10, 16, 17, 18, 19, 20, 21] (by decide +kernel) (by decide +kernel)
set_option maxRecDepth 20000 in
theorem gX3_lightestWith_X3_weightAt : GoodIn wsX3_lightestWith (wsV RX3 55 RX3 yX3_weightAt wsX3_weightAt) := goodIn_app (goodIn_of _ (by decide +kernel)) ggX3_lightestWith_X3_weightAt
theorem dX3_lightestWith_0 : decode cX3_lightestWith 0 = .ok (.bipush (-5), 2) := by decide +kernel
theorem dX3_lightestWith_2 : decode cX3_lightestWith 2 = .ok (.istore_n 2, 1) := by decide +kernel
theorem dX3_lightestWith_3 : decode cX3_lightestWith 3 = .ok (.iconst 0, 1) := by decide +kernel
theorem dX3_lightestWith_4 : decode cX3_lightestWith 4 = .ok (.istore_n 3, 1) := by decide +kernel
theorem dX3_lightestWith_5 : decode cX3_lightestWith 5 = .ok (.iload_n 3, 1) := by decide +kernel
theorem dX3_lightestWith_6 : decode cX3_lightestWith 6 = .ok (.aload_n 0, 1) := by decide +kernel
theorem dX3_lightestWith_7 : decode cX3_lightestWith 7 = .ok (.getfield 24, 3) := by decide +kernel
theorem dX3_lightestWith_10 : decode cX3_lightestWith 10 = .ok (.if_icmp .ge 39, 3) := by decide +kernel
theorem dX3_lightestWith_13 : decode cX3_lightestWith 13 = .ok (.aload_n 0, 1) := by decide +kernel
theorem dX3_lightestWith_14 : decode cX3_lightestWith 14 = .ok (.iload_n 3, 1) := by decide +kernel
theorem dX3_lightestWith_15 : decode cX3_lightestWith 15 = .ok (.invokevirtual 48, 3) := by decide +kernel
theorem dX3_lightestWith_18 : decode cX3_lightestWith 18 = .ok (.iload_n 1, 1) := by decide +kernel
theorem dX3_lightestWith_19 : decode cX3_lightestWith 19 = .ok (.if_icmp .ne 24, 3) := by decide +kernel
theorem dX3_lightestWith_22 : decode cX3_lightestWith 22 = .ok (.iload_n 2, 1) := by decide +kernel
theorem dX3_lightestWith_23 : decode cX3_lightestWith 23 = .ok (.bipush (-5), 2) := by decide +kernel
theorem dX3_lightestWith_25 : decode cX3_lightestWith 25 = .ok (.if_icmp .eq 16, 3) := by decide +kernel
theorem dX3_lightestWith_28 : decode cX3_lightestWith 28 = .ok (.aload_n 0, 1) := by decide +kernel
theorem dX3_lightestWith_29 : decode cX3_lightestWith 29 = .ok (.iload_n 3, 1) := by decide +kernel
theorem dX3_lightestWith_30 : decode cX3_lightestWith 30 = .ok (.invokevirtual 55, 3) := by decide +kernel
theorem dX3_lightestWith_33 : decode cX3_lightestWith 33 = .ok (.aload_n 0, 1) := by decide +kernel
theorem dX3_lightestWith_34 : decode cX3_lightestWith 34 = .ok (.iload_n 2, 1) := by decide +kernel
theorem dX3_lightestWith_35 : decode cX3_lightestWith 35 = .ok (.invokevirtual 55, 3) := by decide +kernel
theorem dX3_lightestWith_38 : decode cX3_lightestWith 38 = .ok (.if_icmp .ge 5, 3) := by decide +kernel
theorem dX3_lightestWith_41 : decode cX3_lightestWith 41 = .ok (.iload_n 3, 1) := by decide +kernel
theorem dX3_lightestWith_42 : decode cX3_lightestWith 42 = .ok (.istore_n 2, 1) := by decide +kernel
theorem dX3_lightestWith_43 : decode cX3_lightestWith 43 = .ok (.iinc 3 1, 3) := by decide +kernel
theorem dX3_lightestWith_46 : decode cX3_lightestWith 46 = .ok (.goto (-41), 3) := by decide +kernel
theorem dX3_lightestWith_49 : decode cX3_lightestWith 49 = .ok (.iload_n 2, 1) := by decide +kernel
theorem dX3_lightestWith_50 : decode cX3_lightestWith 50 = .ok (.ireturn, 1) := by decide +kernel
set_option maxRecDepth 20000 in
theorem ggX3_heaviestWith_X3_keyAt : GoodIn wsX3_heaviestWith wsX3_keyAt := goodIn_r _ [6, 7, 8, 9, 10, 16, 17, 18, 19, 20, 21] (by decide +kernel) (by decide +kernel)
set_option maxRecDepth 20000 in
theorem gX3_heaviestWith_X3_keyAt : GoodIn wsX3_heaviestWith (wsV RX3 48 RX3 yX3_keyAt wsX3_keyAt) := goodIn_app (goodIn_of _ (by decide +kernel)) ggX3_heaviestWith_X3_keyAt
set_option maxRecDepth 20000 in
theorem ggX3_heaviestWith_X3_weightAt : GoodIn wsX3_heaviestWith wsX3_weightAt := goodIn_r _ [14, 15, 8, 9, 10, 16, 17, 18, 19, 20, 21] (by decide +kernel) (by decide +kernel)
set_option maxRecDepth 20000 in
theorem gX3_heaviestWith_X3_weightAt : GoodIn wsX3_heaviestWith (wsV RX3 55 RX3 yX3_weightAt wsX3_weightAt) := goodIn_app (goodIn_of _ (by decide +kernel)) ggX3_heaviestWith_X3_weightAt
theorem dX3_heaviestWith_0 : decode cX3_heaviestWith 0 = .ok (.bipush (-5), 2) := by decide +kernel
theorem dX3_heaviestWith_2 : decode cX3_heaviestWith 2 = .ok (.istore_n 2, 1) := by decide +kernel
theorem dX3_heaviestWith_3 : decode cX3_heaviestWith 3 = .ok (.iconst 0, 1) := by decide +kernel
theorem dX3_heaviestWith_4 : decode cX3_heaviestWith 4 = .ok (.istore_n 3, 1) := by decide +kernel
theorem dX3_heaviestWith_5 : decode cX3_heaviestWith 5 = .ok (.iload_n 3, 1) := by decide +kernel
theorem dX3_heaviestWith_6 : decode cX3_heaviestWith 6 = .ok (.aload_n 0, 1) := by decide +kernel
theorem dX3_heaviestWith_7 : decode cX3_heaviestWith 7 = .ok (.getfield 24, 3) := by decide +kernel
theorem dX3_heaviestWith_10 : decode cX3_heaviestWith 10 = .ok (.if_icmp .ge 39, 3) := by decide +kernel
theorem dX3_heaviestWith_13 : decode cX3_heaviestWith 13 = .ok (.aload_n 0, 1) := by decide +kernel
theorem dX3_heaviestWith_14 : decode cX3_heaviestWith 14 = .ok (.iload_n 3, 1) := by decide +kernel
theorem dX3_heaviestWith_15 : decode cX3_heaviestWith 15 = .ok (.invokevirtual 48, 3) := by decide +kernel
theorem dX3_heaviestWith_18 : decode cX3_heaviestWith 18 = .ok (.iload_n 1, 1) := by decide +kernel
theorem dX3_heaviestWith_19 : decode cX3_heaviestWith 19 = .ok (.if_icmp .ne 24, 3) := by decide +kernel
theorem dX3_heaviestWith_22 : decode cX3_heaviestWith 22 = .ok (.iload_n 2, 1) := by decide +kernel
theorem dX3_heaviestWith_23 : decode cX3_heaviestWith 23 = .ok (.bipush (-5), 2) := by decide +kernel
theorem dX3_heaviestWith_25 : decode cX3_heaviestWith 25 = .ok (.if_icmp .eq 16, 3) := by decide +kernel
theorem dX3_heaviestWith_28 : decode cX3_heaviestWith 28 = .ok (.aload_n 0, 1) := by decide +kernel
theorem dX3_heaviestWith_29 : decode cX3_heaviestWith 29 = .ok (.iload_n 3, 1) := by decide +kernel
theorem dX3_heaviestWith_30 : decode cX3_heaviestWith 30 = .ok (.invokevirtual 55, 3) := by decide +kernel
theorem dX3_heaviestWith_33 : decode cX3_heaviestWith 33 = .ok (.aload_n 0, 1) := by decide +kernel
theorem dX3_heaviestWith_34 : decode cX3_heaviestWith 34 = .ok (.iload_n 2, 1) := by decide +kernel
theorem dX3_heaviestWith_35 : decode cX3_heaviestWith 35 = .ok (.invokevirtual 55, 3) := by decide +kernel
theorem dX3_heaviestWith_38 : decode cX3_heaviestWith 38 = .ok (.if_icmp .le 5, 3) := by decide +kernel
theorem dX3_heaviestWith_41 : decode cX3_heaviestWith 41 = .ok (.iload_n 3, 1) := by decide +kernel
theorem dX3_heaviestWith_42 : decode cX3_heaviestWith 42 = .ok (.istore_n 2, 1) := by decide +kernel
theorem dX3_heaviestWith_43 : decode cX3_heaviestWith 43 = .ok (.iinc 3 1, 3) := by decide +kernel
theorem dX3_heaviestWith_46 : decode cX3_heaviestWith 46 = .ok (.goto (-41), 3) := by decide +kernel
theorem dX3_heaviestWith_49 : decode cX3_heaviestWith 49 = .ok (.iload_n 2, 1) := by decide +kernel
theorem dX3_heaviestWith_50 : decode cX3_heaviestWith 50 = .ok (.ireturn, 1) := by decide +kernel
set_option maxRecDepth 20000 in
theorem ggX3_canBeKept_X3_weightAt : GoodIn wsX3_canBeKept wsX3_weightAt := goodIn_r _ [6, 7, 8, 9, 10, 21, 22, 23, 24, 25, 26] (by decide +kernel) (by decide +kernel)
set_option maxRecDepth 20000 in
theorem gX3_canBeKept_X3_weightAt : GoodIn wsX3_canBeKept (wsV RX3 55 RX3 yX3_weightAt wsX3_weightAt) := goodIn_app (goodIn_of _ (by decide +kernel)) ggX3_canBeKept_X3_weightAt
set_option maxRecDepth 20000 in
theorem ggX3_canBeKept_X3_keyAt : GoodIn wsX3_canBeKept wsX3_keyAt := goodIn_r _ [14, 15, 8, 9, 10, 21, 22, 23, 24, 25, 26] (by decide +kernel) (by decide +kernel)
set_option maxRecDepth 20000 in
theorem gX3_canBeKept_X3_keyAt : GoodIn wsX3_canBeKept (wsV RX3 48 RX3 yX3_keyAt wsX3_keyAt) := goodIn_app (goodIn_of _ (by decide +kernel)) ggX3_canBeKept_X3_keyAt
set_option maxRecDepth 20000 in
theorem ggX3_canBeKept_X3_heaviestWith : GoodIn wsX3_canBeKept wsX3_heaviestWith := goodIn_r _ [19, 20, 11, 12, 13, 5, 14, 15, 8, 9, 10, 2, 3, 4, 6, 7, 21, 22, 23, 24, 25, 26] (by decide +kernel) (by decide +kernel)
set_option maxRecDepth 20000 in
theorem gX3_canBeKept_X3_heaviestWith : GoodIn wsX3_canBeKept (wsV RX3 79 RX3 yX3_heaviestWith wsX3_heaviestWith) := goodIn_app (goodIn_of _ (by decide +kernel)) ggX3_canBeKept_X3_heaviestWith
theorem dX3_canBeKept_0 : decode cX3_canBeKept 0 = .ok (.aload_n 0, 1) := by decide +kernel
theorem dX3_canBeKept_1 : decode cX3_canBeKept 1 = .ok (.getfield 32, 3) := by decide +kernel
theorem dX3_canBeKept_4 : decode cX3_canBeKept 4 = .ok (.ifCond .eq 24, 3) := by decide +kernel
theorem dX3_canBeKept_7 : decode cX3_canBeKept 7 = .ok (.aload_n 0, 1) := by decide +kernel
theorem dX3_canBeKept_8 : decode cX3_canBeKept 8 = .ok (.iload_n 1, 1) := by decide +kernel
theorem dX3_canBeKept_9 : decode cX3_canBeKept 9 = .ok (.invokevirtual 55, 3) := by decide +kernel
theorem dX3_canBeKept_12 : decode cX3_canBeKept 12 = .ok (.aload_n 0, 1) := by decide +kernel
theorem dX3_canBeKept_13 : decode cX3_canBeKept 13 = .ok (.aload_n 0, 1) := by decide +kernel
theorem dX3_canBeKept_14 : decode cX3_canBeKept 14 = .ok (.aload_n 0, 1) := by decide +kernel
theorem dX3_canBeKept_15 : decode cX3_canBeKept 15 = .ok (.iload_n 1, 1) := by decide +kernel
theorem dX3_canBeKept_16 : decode cX3_canBeKept 16 = .ok (.invokevirtual 48, 3) := by decide +kernel
theorem dX3_canBeKept_19 : decode cX3_canBeKept 19 = .ok (.invokevirtual 79, 3) := by decide +kernel
theorem dX3_canBeKept_22 : decode cX3_canBeKept 22 = .ok (.invokevirtual 55, 3) := by decide +kernel
theorem dX3_canBeKept_25 : decode cX3_canBeKept 25 = .ok (.if_icmp .ne 7, 3) := by decide +kernel
theorem dX3_canBeKept_28 : decode cX3_canBeKept 28 = .ok (.iconst 1, 1) := by decide +kernel
theorem dX3_canBeKept_29 : decode cX3_canBeKept 29 = .ok (.goto 4, 3) := by decide +kernel
theorem dX3_canBeKept_32 : decode cX3_canBeKept 32 = .ok (.iconst 0, 1) := by decide +kernel
theorem dX3_canBeKept_33 : decode cX3_canBeKept 33 = .ok (.ireturn, 1) := by decide +kernel
theorem dX4_init_0 : decode cX4_init 0 = .ok (.aload_n 0, 1) := by decide +kernel
theorem dX4_init_1 : decode cX4_init 1 = .ok (.invokespecial 3, 3) := by decide +kernel
theorem dX4_init_4 : decode cX4_init 4 = .ok (.aload_n 0, 1) := by decide +kernel
theorem dX4_init_5 : decode cX4_init 5 = .ok (.bipush 80, 2) := by decide +kernel
theorem dX4_init_7 : decode cX4_init 7 = .ok (.newarray .char, 2) := by decide +kernel
theorem dX4_init_9 : decode cX4_init 9 = .ok (.putfield 9, 3) := by decide +kernel
theorem dX4_init_12 : decode cX4_init 12 = .ok (.return_, 1) := by decide +kernel
theorem dX4_length_0 : decode cX4_length 0 = .ok (.aload_n 0, 1) := by decide +kernel
theorem dX4_length_1 : decode cX4_length 1 = .ok (.getfield 15, 3) := by decide +kernel
theorem dX4_length_4 : decode cX4_length 4 = .ok (.ireturn, 1) := by decide +kernel
theorem dX4_append_0 : decode cX4_append 0 = .ok (.aload_n 0, 1) := by decide +kernel
theorem dX4_append_1 : decode cX4_append 1 = .ok (.getfield 15, 3) := by decide +kernel
theorem dX4_append_4 : decode cX4_append 4 = .ok (.ifCond .lt 15, 3) := by decide +kernel
theorem dX4_append_7 : decode cX4_append 7 = .ok (.aload_n 0, 1) := by decide +kernel
theorem dX4_append_8 : decode cX4_append 8 = .ok (.getfield 15, 3) := by decide +kernel
theorem dX4_append_11 : decode cX4_append 11 = .ok (.aload_n 0, 1) := by decide +kernel
theorem dX4_append_12 : decode cX4_append 12 = .ok (.getfield 9, 3) := by decide +kernel
theorem dX4_append_15 : decode cX4_append 15 = .ok (.arraylength, 1) := by decide +kernel
theorem dX4_append_16 : decode cX4_append 16 = .ok (.if_icmp .lt 5, 3) := by decide +kernel
theorem dX4_append_19 : decode cX4_append 19 = .ok (.iconst 0, 1) := by decide +kernel
theorem dX4_append_20 : decode cX4_append 20 = .ok (.ireturn, 1) := by decide +kernel
theorem dX4_append_21 : decode cX4_append 21 = .ok (.aload_n 0, 1) := by decide +kernel
theorem dX4_append_22 : decode cX4_append 22 = .ok (.getfield 9, 3) := by decide +kernel
theorem dX4_append_25 : decode cX4_append 25 = .ok (.aload_n 0, 1) := by decide +kernel
theorem dX4_append_26 : decode cX4_append 26 = .ok (.getfield 15, 3) := by decide +kernel
theorem dX4_append_29 : decode cX4_append 29 = .ok (.iload_n 1, 1) := by decide +kernel
theorem dX4_append_30 : decode cX4_append 30 = .ok (.castore, 1) := by decide +kernel
theorem dX4_append_31 : decode cX4_append 31 = .ok (.aload_n 0, 1) := by decide +kernel
theorem dX4_append_32 : decode cX4_append 32 = .ok (.dup, 1) := by decide +kernel
theorem dX4_append_33 : decode cX4_append 33 = .ok (.getfield 15, 3) := by decide +kernel
theorem dX4_append_36 : decode cX4_append 36 = .ok (.iconst 1, 1) := by decide +kernel
theorem dX4_append_37 : decode cX4_append 37 = .ok (.iadd, 1) := by decide +kernel
theorem dX4_append_38 : decode cX4_append 38 = .ok (.putfield 15, 3) := by decide +kernel
theorem dX4_append_41 : decode cX4_append 41 = .ok (.iconst 1, 1) := by decide +kernel
theorem dX4_append_42 : decode cX4_append 42 = .ok (.ireturn, 1) := by decide +kernel
theorem dX4_empty_0 : decode cX4_empty 0 = .ok (.aload_n 0, 1) := by decide +kernel
theorem dX4_empty_1 : decode cX4_empty 1 = .ok (.iconst 0, 1) := by decide +kernel
theorem dX4_empty_2 : decode cX4_empty 2 = .ok (.putfield 15, 3) := by decide +kernel
theorem dX4_empty_5 : decode cX4_empty 5 = .ok (.return_, 1) := by decide +kernel
theorem dX4_characterAt_0 : decode cX4_characterAt 0 = .ok (.iload_n 1, 1) := by decide +kernel
theorem dX4_characterAt_1 : decode cX4_characterAt 1 = .ok (.ifCond .lt 29, 3) := by decide +kernel
theorem dX4_characterAt_4 : decode cX4_characterAt 4 = .ok (.iload_n 1, 1) := by decide +kernel
theorem dX4_characterAt_5 : decode cX4_characterAt 5 = .ok (.aload_n 0, 1) := by decide +kernel
theorem dX4_characterAt_6 : decode cX4_characterAt 6 = .ok (.getfield 15, 3) := by decide +kernel
theorem dX4_characterAt_9 : decode cX4_characterAt 9 = .ok (.if_icmp .ge 21, 3) := by decide +kernel
theorem dX4_characterAt_12 : decode cX4_characterAt 12 = .ok (.iload_n 1, 1) := by decide +kernel
theorem dX4_characterAt_13 : decode cX4_characterAt 13 = .ok (.aload_n 0, 1) := by decide +kernel
theorem dX4_characterAt_14 : decode cX4_characterAt 14 = .ok (.getfield 9, 3) := by decide +kernel
theorem dX4_characterAt_17 : decode cX4_characterAt 17 = .ok (.arraylength, 1) := by decide +kernel
theorem dX4_characterAt_18 : decode cX4_characterAt 18 = .ok (.if_icmp .ge 12, 3) := by decide +kernel
theorem dX4_characterAt_21 : decode cX4_characterAt 21 = .ok (.aload_n 0, 1) := by decide +kernel
theorem dX4_characterAt_22 : decode cX4_characterAt 22 = .ok (.getfield 9, 3) := by decide +kernel
theorem dX4_characterAt_25 : decode cX4_characterAt 25 = .ok (.iload_n 1, 1) := by decide +kernel
theorem dX4_characterAt_26 : decode cX4_characterAt 26 = .ok (.caload, 1) := by decide +kernel
theorem dX4_characterAt_27 : decode cX4_characterAt 27 = .ok (.goto 5, 3) := by decide +kernel
theorem dX4_characterAt_30 : decode cX4_characterAt 30 = .ok (.bipush (-5), 2) := by decide +kernel
theorem dX4_characterAt_32 : decode cX4_characterAt 32 = .ok (.ireturn, 1) := by decide +kernel
set_option maxRecDepth 20000 in
theorem ggX5_init_X3_init : GoodIn wsX5_init wsX3_init := goodIn_r _ [27, 28, 2, 3, 29, 30, 31, 32, 33, 61, 62, 63, 64, 65, 66] (by decide +kernel) (by decide +kernel)
set_option maxRecDepth 20000 in
theorem gX5_init_X3_init_n9 : GoodIn wsX5_init (wsX3_init) := ggX5_init_X3_init
set_option maxRecDepth 20000 in
theorem ggX5_init_X0_init : GoodIn wsX5_init wsX0_init := goodIn_r _ [36, 37, 2, 3, 29, 38, 39, 40, 41, 42, 74, 75, 76, 77, 78, 79] (by decide +kernel) (by decide +kernel)
set_option maxRecDepth 20000 in
theorem gX5_init_X0_init : GoodIn wsX5_init (wsX0_init) := ggX5_init_X0_init
set_option maxRecDepth 20000 in
theorem ggX5_init_X1_init : GoodIn wsX5_init wsX1_init := goodIn_r _ [45, 46, 2, 3, 47, 48, 5, 6, 26, 27, 28, 29, 30, 31, 32, 33, 80, 81, 82, 61, 62, 63, 64, 65, 66] (by decide +kernel) (by decide +kernel)
set_option maxRecDepth 20000 in
theorem gX5_init_X1_init : GoodIn wsX5_init (wsX1_init) := ggX5_init_X1_init
set_option maxRecDepth 20000 in
theorem ggX5_init_X4_init : GoodIn wsX5_init wsX4_init := goodIn_r _ [50, 51, 2, 3, 52, 53, 83, 84] (by decide +kernel) (by decide +kernel)
set_option maxRecDepth 20000 in
theorem gX5_init_X4_init_n41 : GoodIn wsX5_init (wsX4_init) := ggX5_init_X4_init
set_option maxRecDepth 20000 in
theorem ggX5_init_X2_init : GoodIn wsX5_init wsX2_init := goodIn_r _ [56, 57, 2, 3, 58, 5, 6, 59, 60, 26, 27, 28, 29, 30, 31, 32, 33, 61, 62, 63, 64, 65, 66, 85, 86, 87] (by decide +kernel) (by decide +kernel)
set_option maxRecDepth 20000 in
theorem gX5_init_X2_init : GoodIn wsX5_init (wsX2_init) := ggX5_init_X2_init
theorem dX5_init_0 : decode cX5_init 0 = .ok (.aload_n 0, 1) := by decide +kernel
theorem dX5_init_1 : decode cX5_init 1 = .ok (.invokespecial 1, 3) := by decide +kernel
theorem dX5_init_4 : decode cX5_init 4 = .ok (.aload_n 0, 1) := by decide +kernel
theorem dX5_init_5 : decode cX5_init 5 = .ok (.new 7, 3) := by decide +kernel
theorem dX5_init_8 : decode cX5_init 8 = .ok (.dup, 1) := by decide +kernel
theorem dX5_init_9 : decode cX5_init 9 = .ok (.invokespecial 9, 3) := by decide +kernel
theorem dX5_init_12 : decode cX5_init 12 = .ok (.putfield 10, 3) := by decide +kernel
theorem dX5_init_15 : decode cX5_init 15 = .ok (.aload_n 0, 1) := by decide +kernel
theorem dX5_init_16 : decode cX5_init 16 = .ok (.new 16, 3) := by decide +kernel
theorem dX5_init_19 : decode cX5_init 19 = .ok (.dup, 1) := by decide +kernel
theorem dX5_init_20 : decode cX5_init 20 = .ok (.aload_n 0, 1) := by decide +kernel
theorem dX5_init_21 : decode cX5_init 21 = .ok (.getfield 10, 3) := by decide +kernel
theorem dX5_init_24 : decode cX5_init 24 = .ok (.invokespecial 18, 3) := by decide +kernel
theorem dX5_init_27 : decode cX5_init 27 = .ok (.putfield 21, 3) := by decide +kernel
theorem dX5_init_30 : decode cX5_init 30 = .ok (.aload_n 0, 1) := by decide +kernel
theorem dX5_init_31 : decode cX5_init 31 = .ok (.new 25, 3) := by decide +kernel
theorem dX5_init_34 : decode cX5_init 34 = .ok (.dup, 1) := by decide +kernel
theorem dX5_init_35 : decode cX5_init 35 = .ok (.invokespecial 27, 3) := by decide +kernel
theorem dX5_init_38 : decode cX5_init 38 = .ok (.putfield 28, 3) := by decide +kernel
theorem dX5_init_41 : decode cX5_init 41 = .ok (.aload_n 0, 1) := by decide +kernel
theorem dX5_init_42 : decode cX5_init 42 = .ok (.new 7, 3) := by decide +kernel
theorem dX5_init_45 : decode cX5_init 45 = .ok (.dup, 1) := by decide +kernel
theorem dX5_init_46 : decode cX5_init 46 = .ok (.invokespecial 9, 3) := by decide +kernel
theorem dX5_init_49 : decode cX5_init 49 = .ok (.putfield 32, 3) := by decide +kernel
theorem dX5_init_52 : decode cX5_init 52 = .ok (.aload_n 0, 1) := by decide +kernel
theorem dX5_init_53 : decode cX5_init 53 = .ok (.iconst 0, 1) := by decide +kernel
theorem dX5_init_54 : decode cX5_init 54 = .ok (.putfield 35, 3) := by decide +kernel
theorem dX5_init_57 : decode cX5_init 57 = .ok (.aload_n 0, 1) := by decide +kernel
theorem dX5_init_58 : decode cX5_init 58 = .ok (.new 39, 3) := by decide +kernel
theorem dX5_init_61 : decode cX5_init 61 = .ok (.dup, 1) := by decide +kernel
theorem dX5_init_62 : decode cX5_init 62 = .ok (.invokespecial 41, 3) := by decide +kernel
theorem dX5_init_65 : decode cX5_init 65 = .ok (.putfield 42, 3) := by decide +kernel
theorem dX5_init_68 : decode cX5_init 68 = .ok (.aload_n 0, 1) := by decide +kernel
theorem dX5_init_69 : decode cX5_init 69 = .ok (.new 46, 3) := by decide +kernel
theorem dX5_init_72 : decode cX5_init 72 = .ok (.dup, 1) := by decide +kernel
theorem dX5_init_73 : decode cX5_init 73 = .ok (.aload_n 0, 1) := by decide +kernel
theorem dX5_init_74 : decode cX5_init 74 = .ok (.getfield 42, 3) := by decide +kernel
theorem dX5_init_77 : decode cX5_init 77 = .ok (.invokespecial 48, 3) := by decide +kernel
theorem dX5_init_80 : decode cX5_init 80 = .ok (.putfield 51, 3) := by decide +kernel
theorem dX5_init_83 : decode cX5_init 83 = .ok (.return_, 1) := by decide +kernel
set_option maxRecDepth 20000 in
theorem ggX5_add_X5_isKey : GoodIn wsX5_add wsX5_isKey := goodIn_r _ [6] (by decide +kernel) (by decide +kernel)
set_option maxRecDepth 20000 in
theorem gX5_add_X5_isKey : GoodIn wsX5_add (va_wsS RX5 55 yX5_isKey wsX5_isKey) := goodIn_app (goodIn_of _ (by decide +kernel)) ggX5_add_X5_isKey
set_option maxRecDepth 20000 in
theorem ggX5_add_X5_isValue : GoodIn wsX5_add wsX5_isValue := goodIn_r _ [9] (by decide +kernel) (by decide +kernel)
set_option maxRecDepth 20000 in
theorem gX5_add_X5_isValue : GoodIn wsX5_add (va_wsS RX5 59 yX5_isValue wsX5_isValue) := goodIn_app (goodIn_of _ (by decide +kernel)) ggX5_add_X5_isValue
set_option maxRecDepth 20000 in
theorem ggX5_add_X3_room : GoodIn wsX5_add wsX3_room := goodIn_r _ [14, 15, 66, 67, 68, 69, 70, 71] (by decide +kernel) (by decide +kernel)
set_option maxRecDepth 20000 in
theorem gX5_add_X3_room : GoodIn wsX5_add (wsV RX5 63 RX3 yX3_room wsX3_room) := goodIn_app (goodIn_of _ (by decide +kernel)) ggX5_add_X3_room
set_option maxRecDepth 20000 in
theorem ggX5_add_X1_remember : GoodIn wsX5_add wsX1_remember := goodIn_r _ [20, 21, 22, 23, 24, 25, 26, 27, 28, 29, 19, 30, 31, 32, 33, 34, 13, 35, 36, 37, 38, 39, 15, 40, 41, 5, 42, 43, 44, 45, 46, 47, 72, 73, 74, 66, 67, 68, 69, 70, 71] (by decide +kernel) (by decide +kernel)
set_option maxRecDepth 20000 in
theorem gX5_add_X1_remember : GoodIn wsX5_add (wsV RX5 67 RX1 yX1_remember wsX1_remember) := goodIn_app (goodIn_of _ (by decide +kernel)) ggX5_add_X1_remember
set_option maxRecDepth 20000 in
theorem ggX5_add_X3_append : GoodIn wsX5_add wsX3_append := goodIn_r _ [51, 36, 15, 37, 38, 39, 52, 11, 12, 13, 14, 53, 5, 54, 66, 67, 68, 69, 70, 71] (by decide +kernel) (by decide +kernel)
set_option maxRecDepth 20000 in
theorem gX5_add_X3_append : GoodIn wsX5_add (wsV RX5 70 RX3 yX3_append wsX3_append) := goodIn_app (goodIn_of _ (by decide +kernel)) ggX5_add_X3_append
set_option maxRecDepth 20000 in
theorem ggX5_add_X3_size : GoodIn wsX5_add wsX3_size := goodIn_r _ [58, 15, 66, 67, 68, 69, 70, 71] (by decide +kernel) (by decide +kernel)
set_option maxRecDepth 20000 in
theorem gX5_add_X3_size : GoodIn wsX5_add (wsV RX5 74 RX3 yX3_size wsX3_size) := goodIn_app (goodIn_of _ (by decide +kernel)) ggX5_add_X3_size
theorem dX5_add_0 : decode cX5_add 0 = .ok (.iload_n 1, 1) := by decide +kernel
theorem dX5_add_1 : decode cX5_add 1 = .ok (.invokestatic 55, 3) := by decide +kernel
theorem dX5_add_4 : decode cX5_add 4 = .ok (.ifCond .eq 18, 3) := by decide +kernel
theorem dX5_add_7 : decode cX5_add 7 = .ok (.iload 4, 2) := by decide +kernel
theorem dX5_add_9 : decode cX5_add 9 = .ok (.invokestatic 55, 3) := by decide +kernel
theorem dX5_add_12 : decode cX5_add 12 = .ok (.ifCond .ne 12, 3) := by decide +kernel
theorem dX5_add_15 : decode cX5_add 15 = .ok (.iload 4, 2) := by decide +kernel
theorem dX5_add_17 : decode cX5_add 17 = .ok (.bipush (-5), 2) := by decide +kernel
theorem dX5_add_19 : decode cX5_add 19 = .ok (.if_icmp .eq 5, 3) := by decide +kernel
theorem dX5_add_22 : decode cX5_add 22 = .ok (.iconst (-1), 1) := by decide +kernel
theorem dX5_add_23 : decode cX5_add 23 = .ok (.ireturn, 1) := by decide +kernel
theorem dX5_add_24 : decode cX5_add 24 = .ok (.iload_n 2, 1) := by decide +kernel
theorem dX5_add_25 : decode cX5_add 25 = .ok (.invokestatic 59, 3) := by decide +kernel
theorem dX5_add_28 : decode cX5_add 28 = .ok (.ifCond .eq 13, 3) := by decide +kernel
theorem dX5_add_31 : decode cX5_add 31 = .ok (.iload_n 3, 1) := by decide +kernel
theorem dX5_add_32 : decode cX5_add 32 = .ok (.ifCond .lt 9, 3) := by decide +kernel
theorem dX5_add_35 : decode cX5_add 35 = .ok (.iload_n 3, 1) := by decide +kernel
theorem dX5_add_36 : decode cX5_add 36 = .ok (.bipush 99, 2) := by decide +kernel
theorem dX5_add_38 : decode cX5_add 38 = .ok (.if_icmp .le 6, 3) := by decide +kernel
theorem dX5_add_41 : decode cX5_add 41 = .ok (.bipush (-2), 2) := by decide +kernel
theorem dX5_add_43 : decode cX5_add 43 = .ok (.ireturn, 1) := by decide +kernel
theorem dX5_add_44 : decode cX5_add 44 = .ok (.aload_n 0, 1) := by decide +kernel
theorem dX5_add_45 : decode cX5_add 45 = .ok (.getfield 10, 3) := by decide +kernel
theorem dX5_add_48 : decode cX5_add 48 = .ok (.invokevirtual 63, 3) := by decide +kernel
theorem dX5_add_51 : decode cX5_add 51 = .ok (.iconst 1, 1) := by decide +kernel
theorem dX5_add_52 : decode cX5_add 52 = .ok (.if_icmp .ge 6, 3) := by decide +kernel
theorem dX5_add_55 : decode cX5_add 55 = .ok (.bipush (-3), 2) := by decide +kernel
theorem dX5_add_57 : decode cX5_add 57 = .ok (.ireturn, 1) := by decide +kernel
theorem dX5_add_58 : decode cX5_add 58 = .ok (.aload_n 0, 1) := by decide +kernel
theorem dX5_add_59 : decode cX5_add 59 = .ok (.getfield 28, 3) := by decide +kernel
theorem dX5_add_62 : decode cX5_add 62 = .ok (.aload_n 0, 1) := by decide +kernel
theorem dX5_add_63 : decode cX5_add 63 = .ok (.getfield 10, 3) := by decide +kernel
theorem dX5_add_66 : decode cX5_add 66 = .ok (.invokevirtual 67, 3) := by decide +kernel
theorem dX5_add_69 : decode cX5_add 69 = .ok (.aload_n 0, 1) := by decide +kernel
theorem dX5_add_70 : decode cX5_add 70 = .ok (.getfield 10, 3) := by decide +kernel
theorem dX5_add_73 : decode cX5_add 73 = .ok (.iload_n 1, 1) := by decide +kernel
theorem dX5_add_74 : decode cX5_add 74 = .ok (.iload_n 2, 1) := by decide +kernel
theorem dX5_add_75 : decode cX5_add 75 = .ok (.iload_n 3, 1) := by decide +kernel
theorem dX5_add_76 : decode cX5_add 76 = .ok (.iload 4, 2) := by decide +kernel
theorem dX5_add_78 : decode cX5_add 78 = .ok (.invokevirtual 70, 3) := by decide +kernel
theorem dX5_add_81 : decode cX5_add 81 = .ok (.aload_n 0, 1) := by decide +kernel
theorem dX5_add_82 : decode cX5_add 82 = .ok (.getfield 10, 3) := by decide +kernel
theorem dX5_add_85 : decode cX5_add 85 = .ok (.invokevirtual 74, 3) := by decide +kernel
theorem dX5_add_88 : decode cX5_add 88 = .ok (.iconst 1, 1) := by decide +kernel
theorem dX5_add_89 : decode cX5_add 89 = .ok (.isub, 1) := by decide +kernel
theorem dX5_add_90 : decode cX5_add 90 = .ok (.ireturn, 1) := by decide +kernel
set_option maxRecDepth 20000 in
theorem ggX5_readRows_X2_readAll : GoodIn wsX5_readRows wsX2_readAll := goodIn_r _ [8, 9, 10, 11, 12, 13, 14, 15, 16, 17, 18, 19, 20, 7, 21, 22, 23, 24, 25, 26, 27, 28, 29, 30, 31, 32, 33, 34, 35, 36, 37, 38, 39, 40, 41, 42, 43, 44, 45, 46, 47, 48, 49, 50, 51, 52, 53, 54, 55, 56, 57, 58, 59, 131, 132, 133, 134, 135, 136, 137, 138, 139, 140, 141] (by decide +kernel) (by decide +kernel)
set_option maxRecDepth 20000 in
theorem gX5_readRows_X2_readAll : GoodIn wsX5_readRows (wsV RX5 77 RX2 yX2_readAll wsX2_readAll) := goodIn_app (goodIn_of _ (by decide +kernel)) ggX5_readRows_X2_readAll
set_option maxRecDepth 20000 in
theorem ggX5_readRows_X2_position : GoodIn wsX5_readRows wsX2_position := goodIn_r _ [63, 9, 131, 132, 133] (by decide +kernel) (by decide +kernel)
set_option maxRecDepth 20000 in
theorem gX5_readRows_X2_position : GoodIn wsX5_readRows (wsV RX5 81 RX2 yX2_position wsX2_position) := goodIn_app (goodIn_of _ (by decide +kernel)) ggX5_readRows_X2_position
set_option maxRecDepth 20000 in
theorem ggX5_readRows_X3_room : GoodIn wsX5_readRows wsX3_room := goodIn_r _ [52, 17, 134, 135, 136, 137, 138, 139] (by decide +kernel) (by decide +kernel)
set_option maxRecDepth 20000 in
theorem gX5_readRows_X3_room : GoodIn wsX5_readRows (wsV RX5 63 RX3 yX3_room wsX3_room) := goodIn_app (goodIn_of _ (by decide +kernel)) ggX5_readRows_X3_room
set_option maxRecDepth 20000 in
theorem ggX5_readRows_X2_rowsRead : GoodIn wsX5_readRows wsX2_rowsRead := goodIn_r _ [68, 10, 131, 132, 133] (by decide +kernel) (by decide +kernel)
set_option maxRecDepth 20000 in
theorem gX5_readRows_X2_rowsRead : GoodIn wsX5_readRows (wsV RX5 84 RX2 yX2_rowsRead wsX2_rowsRead) := goodIn_app (goodIn_of _ (by decide +kernel)) ggX5_readRows_X2_rowsRead
set_option maxRecDepth 20000 in
theorem ggX5_readRows_X3_size : GoodIn wsX5_readRows wsX3_size := goodIn_r _ [72, 17, 134, 135, 136, 137, 138, 139] (by decide +kernel) (by decide +kernel)
set_option maxRecDepth 20000 in
theorem gX5_readRows_X3_size : GoodIn wsX5_readRows (wsV RX5 74 RX3 yX3_size wsX3_size) := goodIn_app (goodIn_of _ (by decide +kernel)) ggX5_readRows_X3_size
set_option maxRecDepth 20000 in
theorem ggX5_readRows_X1_remember : GoodIn wsX5_readRows wsX1_remember := goodIn_r _ [77, 78, 79, 80, 81, 82, 83, 84, 85, 86, 76, 87, 88, 89, 90, 91, 15, 92, 45, 46, 47, 48, 17, 93, 94, 54, 95, 96, 97, 98, 99, 100, 142, 143, 144, 134, 135, 136, 137, 138, 139] (by decide +kernel) (by decide +kernel)
set_option maxRecDepth 20000 in
theorem gX5_readRows_X1_remember : GoodIn wsX5_readRows (wsV RX5 67 RX1 yX1_remember wsX1_remember) := goodIn_app (goodIn_of _ (by decide +kernel)) ggX5_readRows_X1_remember
set_option maxRecDepth 20000 in
theorem ggX5_readRows_X3_appendAll : GoodIn wsX5_readRows wsX3_appendAll := goodIn_r _ [104, 17, 105, 106, 107, 15, 108, 45, 109, 54, 110, 111, 112, 113, 114, 46, 115, 116, 117, 118, 47, 119, 120, 121, 122, 48, 123, 42, 43, 44, 49, 50, 51, 52, 53, 55, 134, 135, 136, 137, 138, 139] (by decide +kernel) (by decide +kernel)
set_option maxRecDepth 20000 in
theorem gX5_readRows_X3_appendAll : GoodIn wsX5_readRows (wsV RX5 88 RX3 yX3_appendAll wsX3_appendAll) := goodIn_app (goodIn_of _ (by decide +kernel)) ggX5_readRows_X3_appendAll
theorem dX5_readRows_0 : decode cX5_readRows 0 = .ok (.aload_n 0, 1) := by decide +kernel
theorem dX5_readRows_1 : decode cX5_readRows 1 = .ok (.getfield 51, 3) := by decide +kernel
theorem dX5_readRows_4 : decode cX5_readRows 4 = .ok (.invokevirtual 77, 3) := by decide +kernel
theorem dX5_readRows_7 : decode cX5_readRows 7 = .ok (.ifCond .ne 14, 3) := by decide +kernel
theorem dX5_readRows_10 : decode cX5_readRows 10 = .ok (.bipush (-100), 2) := by decide +kernel
theorem dX5_readRows_12 : decode cX5_readRows 12 = .ok (.aload_n 0, 1) := by decide +kernel
theorem dX5_readRows_13 : decode cX5_readRows 13 = .ok (.getfield 51, 3) := by decide +kernel
theorem dX5_readRows_16 : decode cX5_readRows 16 = .ok (.invokevirtual 81, 3) := by decide +kernel
theorem dX5_readRows_19 : decode cX5_readRows 19 = .ok (.isub, 1) := by decide +kernel
theorem dX5_readRows_20 : decode cX5_readRows 20 = .ok (.ireturn, 1) := by decide +kernel
theorem dX5_readRows_21 : decode cX5_readRows 21 = .ok (.aload_n 0, 1) := by decide +kernel
theorem dX5_readRows_22 : decode cX5_readRows 22 = .ok (.getfield 10, 3) := by decide +kernel
theorem dX5_readRows_25 : decode cX5_readRows 25 = .ok (.invokevirtual 63, 3) := by decide +kernel
theorem dX5_readRows_28 : decode cX5_readRows 28 = .ok (.aload_n 0, 1) := by decide +kernel
theorem dX5_readRows_29 : decode cX5_readRows 29 = .ok (.getfield 51, 3) := by decide +kernel
theorem dX5_readRows_32 : decode cX5_readRows 32 = .ok (.invokevirtual 84, 3) := by decide +kernel
theorem dX5_readRows_35 : decode cX5_readRows 35 = .ok (.invokevirtual 74, 3) := by decide +kernel
theorem dX5_readRows_38 : decode cX5_readRows 38 = .ok (.if_icmp .ge 6, 3) := by decide +kernel
theorem dX5_readRows_41 : decode cX5_readRows 41 = .ok (.bipush (-3), 2) := by decide +kernel
theorem dX5_readRows_43 : decode cX5_readRows 43 = .ok (.ireturn, 1) := by decide +kernel
theorem dX5_readRows_44 : decode cX5_readRows 44 = .ok (.aload_n 0, 1) := by decide +kernel
theorem dX5_readRows_45 : decode cX5_readRows 45 = .ok (.getfield 28, 3) := by decide +kernel
theorem dX5_readRows_48 : decode cX5_readRows 48 = .ok (.aload_n 0, 1) := by decide +kernel
theorem dX5_readRows_49 : decode cX5_readRows 49 = .ok (.getfield 10, 3) := by decide +kernel
theorem dX5_readRows_52 : decode cX5_readRows 52 = .ok (.invokevirtual 67, 3) := by decide +kernel
theorem dX5_readRows_55 : decode cX5_readRows 55 = .ok (.aload_n 0, 1) := by decide +kernel
theorem dX5_readRows_56 : decode cX5_readRows 56 = .ok (.getfield 10, 3) := by decide +kernel
theorem dX5_readRows_59 : decode cX5_readRows 59 = .ok (.aload_n 0, 1) := by decide +kernel
theorem dX5_readRows_60 : decode cX5_readRows 60 = .ok (.getfield 51, 3) := by decide +kernel
theorem dX5_readRows_63 : decode cX5_readRows 63 = .ok (.invokevirtual 84, 3) := by decide +kernel
theorem dX5_readRows_66 : decode cX5_readRows 66 = .ok (.invokevirtual 88, 3) := by decide +kernel
theorem dX5_readRows_69 : decode cX5_readRows 69 = .ok (.aload_n 0, 1) := by decide +kernel
theorem dX5_readRows_70 : decode cX5_readRows 70 = .ok (.getfield 10, 3) := by decide +kernel
theorem dX5_readRows_73 : decode cX5_readRows 73 = .ok (.invokevirtual 74, 3) := by decide +kernel
theorem dX5_readRows_76 : decode cX5_readRows 76 = .ok (.ireturn, 1) := by decide +kernel
set_option maxRecDepth 20000 in
theorem ggX5_remove_X3_has : GoodIn wsX5_remove wsX3_has := goodIn_r _ [7, 8, 82, 83, 84, 85, 86, 87] (by decide +kernel) (by decide +kernel)
set_option maxRecDepth 20000 in
theorem gX5_remove_X3_has : GoodIn wsX5_remove (wsV RX5 91 RX3 yX3_has wsX3_has) := goodIn_app (goodIn_of _ (by decide +kernel)) ggX5_remove_X3_has
set_option maxRecDepth 20000 in
theorem ggX5_remove_X1_remember : GoodIn wsX5_remove wsX1_remember := goodIn_r _ [13, 14, 15, 16, 17, 18, 19, 20, 21, 22, 12, 23, 24, 25, 26, 27, 6, 28, 29, 30, 31, 32, 8, 33, 34, 35, 36, 37, 38, 39, 40, 41, 88, 89, 90, 82, 83, 84, 85, 86, 87] (by decide +kernel) (by decide +kernel)
set_option maxRecDepth 20000 in
theorem gX5_remove_X1_remember : GoodIn wsX5_remove (wsV RX5 67 RX1 yX1_remember wsX1_remember) := goodIn_app (goodIn_of _ (by decide +kernel)) ggX5_remove_X1_remember
set_option maxRecDepth 20000 in
theorem ggX5_remove_X3_drop : GoodIn wsX5_remove wsX3_drop := goodIn_r _ [45, 8, 46, 4, 5, 6, 7, 47, 48, 49, 50, 29, 30, 31, 32, 51, 52, 53, 54, 55, 35, 56, 57, 58, 59, 60, 61, 62, 63, 64, 65, 66, 67, 68, 69, 70, 82, 83, 84, 85, 86, 87] (by decide +kernel) (by decide +kernel)
set_option maxRecDepth 20000 in
theorem gX5_remove_X3_drop : GoodIn wsX5_remove (wsV RX5 94 RX3 yX3_drop wsX3_drop) := goodIn_app (goodIn_of _ (by decide +kernel)) ggX5_remove_X3_drop
set_option maxRecDepth 20000 in
theorem ggX5_remove_X3_size : GoodIn wsX5_remove wsX3_size := goodIn_r _ [74, 8, 82, 83, 84, 85, 86, 87] (by decide +kernel) (by decide +kernel)
set_option maxRecDepth 20000 in
theorem gX5_remove_X3_size : GoodIn wsX5_remove (wsV RX5 74 RX3 yX3_size wsX3_size) := goodIn_app (goodIn_of _ (by decide +kernel)) ggX5_remove_X3_size
theorem dX5_remove_0 : decode cX5_remove 0 = .ok (.aload_n 0, 1) := by decide +kernel
theorem dX5_remove_1 : decode cX5_remove 1 = .ok (.getfield 10, 3) := by decide +kernel
theorem dX5_remove_4 : decode cX5_remove 4 = .ok (.iload_n 1, 1) := by decide +kernel
theorem dX5_remove_5 : decode cX5_remove 5 = .ok (.invokevirtual 91, 3) := by decide +kernel
theorem dX5_remove_8 : decode cX5_remove 8 = .ok (.ifCond .ne 5, 3) := by decide +kernel
theorem dX5_remove_11 : decode cX5_remove 11 = .ok (.iconst (-1), 1) := by decide +kernel
theorem dX5_remove_12 : decode cX5_remove 12 = .ok (.ireturn, 1) := by decide +kernel
theorem dX5_remove_13 : decode cX5_remove 13 = .ok (.aload_n 0, 1) := by decide +kernel
theorem dX5_remove_14 : decode cX5_remove 14 = .ok (.getfield 28, 3) := by decide +kernel
theorem dX5_remove_17 : decode cX5_remove 17 = .ok (.aload_n 0, 1) := by decide +kernel
theorem dX5_remove_18 : decode cX5_remove 18 = .ok (.getfield 10, 3) := by decide +kernel
theorem dX5_remove_21 : decode cX5_remove 21 = .ok (.invokevirtual 67, 3) := by decide +kernel
theorem dX5_remove_24 : decode cX5_remove 24 = .ok (.aload_n 0, 1) := by decide +kernel
theorem dX5_remove_25 : decode cX5_remove 25 = .ok (.getfield 10, 3) := by decide +kernel
theorem dX5_remove_28 : decode cX5_remove 28 = .ok (.iload_n 1, 1) := by decide +kernel
theorem dX5_remove_29 : decode cX5_remove 29 = .ok (.invokevirtual 94, 3) := by decide +kernel
theorem dX5_remove_32 : decode cX5_remove 32 = .ok (.aload_n 0, 1) := by decide +kernel
theorem dX5_remove_33 : decode cX5_remove 33 = .ok (.getfield 10, 3) := by decide +kernel
theorem dX5_remove_36 : decode cX5_remove 36 = .ok (.invokevirtual 74, 3) := by decide +kernel
theorem dX5_remove_39 : decode cX5_remove 39 = .ok (.ireturn, 1) := by decide +kernel
set_option maxRecDepth 20000 in
theorem ggX5_mend_X3_has : GoodIn wsX5_mend wsX3_has := goodIn_r _ [7, 8, 83, 84, 85, 86, 87, 88] (by decide +kernel) (by decide +kernel)
set_option maxRecDepth 20000 in
theorem gX5_mend_X3_has : GoodIn wsX5_mend (wsV RX5 91 RX3 yX3_has wsX3_has) := goodIn_app (goodIn_of _ (by decide +kernel)) ggX5_mend_X3_has
set_option maxRecDepth 20000 in
theorem ggX5_mend_X3_keyAt : GoodIn wsX5_mend wsX3_keyAt := goodIn_r _ [12, 13, 14, 15, 16, 83, 84, 85, 86, 87, 88] (by decide +kernel) (by decide +kernel)
set_option maxRecDepth 20000 in
theorem gX5_mend_X3_keyAt : GoodIn wsX5_mend (wsV RX5 98 RX3 yX3_keyAt wsX3_keyAt) := goodIn_app (goodIn_of _ (by decide +kernel)) ggX5_mend_X3_keyAt
set_option maxRecDepth 20000 in
theorem ggX5_mend_X3_rowsWith : GoodIn wsX5_mend wsX3_rowsWith := goodIn_r _ [20, 8, 21, 10, 11, 6, 12, 13, 14, 15, 16, 83, 84, 85, 86, 87, 88] (by decide +kernel) (by decide +kernel)
set_option maxRecDepth 20000 in
theorem gX5_mend_X3_rowsWith : GoodIn wsX5_mend (wsV RX5 102 RX3 yX3_rowsWith wsX3_rowsWith) := goodIn_app (goodIn_of _ (by decide +kernel)) ggX5_mend_X3_rowsWith
set_option maxRecDepth 20000 in
theorem ggX5_mend_X1_remember : GoodIn wsX5_mend wsX1_remember := goodIn_r _ [26, 27, 28, 29, 30, 31, 32, 33, 34, 35, 25, 36, 37, 38, 39, 40, 6, 41, 13, 42, 43, 44, 8, 45, 46, 15, 47, 48, 49, 50, 51, 52, 89, 90, 91, 83, 84, 85, 86, 87, 88] (by decide +kernel) (by decide +kernel)
set_option maxRecDepth 20000 in
theorem gX5_mend_X1_remember : GoodIn wsX5_mend (wsV RX5 67 RX1 yX1_remember wsX1_remember) := goodIn_app (goodIn_of _ (by decide +kernel)) ggX5_mend_X1_remember
set_option maxRecDepth 20000 in
theorem ggX5_mend_X3_dropOthersLike : GoodIn wsX5_mend wsX3_dropOthersLike := goodIn_r _ [56, 8, 57, 4, 5, 6, 7, 21, 10, 11, 12, 13, 14, 15, 16, 58, 59, 60, 61, 42, 43, 44, 62, 63, 64, 65, 66, 67, 68, 69, 70, 71, 72, 73, 74, 75, 83, 84, 85, 86, 87, 88] (by decide +kernel) (by decide +kernel)
set_option maxRecDepth 20000 in
theorem gX5_mend_X3_dropOthersLike : GoodIn wsX5_mend (wsV RX5 105 RX3 yX3_dropOthersLike wsX3_dropOthersLike) := goodIn_app (goodIn_of _ (by decide +kernel)) ggX5_mend_X3_dropOthersLike
theorem dX5_mend_0 : decode cX5_mend 0 = .ok (.aload_n 0, 1) := by decide +kernel
theorem dX5_mend_1 : decode cX5_mend 1 = .ok (.getfield 10, 3) := by decide +kernel
theorem dX5_mend_4 : decode cX5_mend 4 = .ok (.iload_n 1, 1) := by decide +kernel
theorem dX5_mend_5 : decode cX5_mend 5 = .ok (.invokevirtual 91, 3) := by decide +kernel
theorem dX5_mend_8 : decode cX5_mend 8 = .ok (.ifCond .ne 5, 3) := by decide +kernel
theorem dX5_mend_11 : decode cX5_mend 11 = .ok (.iconst (-1), 1) := by decide +kernel
theorem dX5_mend_12 : decode cX5_mend 12 = .ok (.ireturn, 1) := by decide +kernel
theorem dX5_mend_13 : decode cX5_mend 13 = .ok (.aload_n 0, 1) := by decide +kernel
theorem dX5_mend_14 : decode cX5_mend 14 = .ok (.getfield 10, 3) := by decide +kernel
theorem dX5_mend_17 : decode cX5_mend 17 = .ok (.aload_n 0, 1) := by decide +kernel
theorem dX5_mend_18 : decode cX5_mend 18 = .ok (.getfield 10, 3) := by decide +kernel
theorem dX5_mend_21 : decode cX5_mend 21 = .ok (.iload_n 1, 1) := by decide +kernel
theorem dX5_mend_22 : decode cX5_mend 22 = .ok (.invokevirtual 98, 3) := by decide +kernel
theorem dX5_mend_25 : decode cX5_mend 25 = .ok (.invokevirtual 102, 3) := by decide +kernel
theorem dX5_mend_28 : decode cX5_mend 28 = .ok (.iconst 1, 1) := by decide +kernel
theorem dX5_mend_29 : decode cX5_mend 29 = .ok (.isub, 1) := by decide +kernel
theorem dX5_mend_30 : decode cX5_mend 30 = .ok (.istore_n 2, 1) := by decide +kernel
theorem dX5_mend_31 : decode cX5_mend 31 = .ok (.iload_n 2, 1) := by decide +kernel
theorem dX5_mend_32 : decode cX5_mend 32 = .ok (.ifCond .ne 6, 3) := by decide +kernel
theorem dX5_mend_35 : decode cX5_mend 35 = .ok (.bipush (-5), 2) := by decide +kernel
theorem dX5_mend_37 : decode cX5_mend 37 = .ok (.ireturn, 1) := by decide +kernel
theorem dX5_mend_38 : decode cX5_mend 38 = .ok (.aload_n 0, 1) := by decide +kernel
theorem dX5_mend_39 : decode cX5_mend 39 = .ok (.getfield 28, 3) := by decide +kernel
theorem dX5_mend_42 : decode cX5_mend 42 = .ok (.aload_n 0, 1) := by decide +kernel
theorem dX5_mend_43 : decode cX5_mend 43 = .ok (.getfield 10, 3) := by decide +kernel
theorem dX5_mend_46 : decode cX5_mend 46 = .ok (.invokevirtual 67, 3) := by decide +kernel
theorem dX5_mend_49 : decode cX5_mend 49 = .ok (.aload_n 0, 1) := by decide +kernel
theorem dX5_mend_50 : decode cX5_mend 50 = .ok (.getfield 10, 3) := by decide +kernel
theorem dX5_mend_53 : decode cX5_mend 53 = .ok (.iload_n 1, 1) := by decide +kernel
theorem dX5_mend_54 : decode cX5_mend 54 = .ok (.invokevirtual 105, 3) := by decide +kernel
theorem dX5_mend_57 : decode cX5_mend 57 = .ok (.iload_n 2, 1) := by decide +kernel
theorem dX5_mend_58 : decode cX5_mend 58 = .ok (.ireturn, 1) := by decide +kernel
set_option maxRecDepth 20000 in
theorem ggX5_mendAll_X3_doubledKeys : GoodIn wsX5_mendAll wsX3_doubledKeys := goodIn_r _ [7, 8, 9, 10, 6, 11, 12, 13, 14, 15, 16, 17, 18, 19, 20, 21, 22, 23, 24, 109, 110, 111, 112, 113, 114] (by decide +kernel) (by decide +kernel)
set_option maxRecDepth 20000 in
theorem gX5_mendAll_X3_doubledKeys : GoodIn wsX5_mendAll (wsV RX5 108 RX3 yX3_doubledKeys wsX3_doubledKeys) := goodIn_app (goodIn_of _ (by decide +kernel)) ggX5_mendAll_X3_doubledKeys
set_option maxRecDepth 20000 in
theorem ggX5_mendAll_X1_remember : GoodIn wsX5_mendAll wsX1_remember := goodIn_r _ [29, 30, 31, 32, 33, 34, 35, 36, 37, 38, 28, 39, 40, 41, 42, 43, 6, 44, 21, 45, 46, 47, 16, 48, 49, 23, 50, 51, 52, 53, 54, 55, 115, 116, 117, 109, 110, 111, 112, 113, 114] (by decide +kernel) (by decide +kernel)
set_option maxRecDepth 20000 in
theorem gX5_mendAll_X1_remember : GoodIn wsX5_mendAll (wsV RX5 67 RX1 yX1_remember wsX1_remember) := goodIn_app (goodIn_of _ (by decide +kernel)) ggX5_mendAll_X1_remember
set_option maxRecDepth 20000 in
theorem ggX5_mendAll_X3_size : GoodIn wsX5_mendAll wsX3_size := goodIn_r _ [59, 16, 109, 110, 111, 112, 113, 114] (by decide +kernel) (by decide +kernel)
set_option maxRecDepth 20000 in
theorem gX5_mendAll_X3_size : GoodIn wsX5_mendAll (wsV RX5 74 RX3 yX3_size wsX3_size) := goodIn_app (goodIn_of _ (by decide +kernel)) ggX5_mendAll_X3_size
set_option maxRecDepth 20000 in
theorem ggX5_mendAll_X5_chosenBy : GoodIn wsX5_mendAll wsX5_chosenBy := goodIn_r _ [63, 1, 64, 65, 66, 6, 67, 16, 17, 18, 19, 20, 21, 22, 23, 24, 68, 69, 70, 71, 72, 73, 74, 75, 76, 77, 78, 79, 46, 102, 103, 104, 105, 106, 107, 108, 109, 110, 111, 112, 113, 114] (by decide +kernel) (by decide +kernel)
set_option maxRecDepth 20000 in
theorem gX5_mendAll_X5_chosenBy : GoodIn wsX5_mendAll (wsV RX5 111 RX5 yX5_chosenBy wsX5_chosenBy) := goodIn_app (goodIn_of _ (by decide +kernel)) ggX5_mendAll_X5_chosenBy
set_option maxRecDepth 20000 in
theorem ggX5_mendAll_X3_dropOthersLike : GoodIn wsX5_mendAll wsX3_dropOthersLike := goodIn_r _ [83, 16, 84, 85, 86, 6, 87, 17, 18, 19, 20, 21, 22, 23, 24, 88, 89, 90, 91, 45, 46, 47, 92, 93, 94, 95, 96, 97, 76, 77, 78, 79, 98, 99, 100, 101, 109, 110, 111, 112, 113, 114] (by decide +kernel) (by decide +kernel)
set_option maxRecDepth 20000 in
theorem gX5_mendAll_X3_dropOthersLike : GoodIn wsX5_mendAll (wsV RX5 105 RX3 yX3_dropOthersLike wsX3_dropOthersLike) := goodIn_app (goodIn_of _ (by decide +kernel)) ggX5_mendAll_X3_dropOthersLike
theorem dX5_mendAll_0 : decode cX5_mendAll 0 = .ok (.iload_n 1, 1) := by decide +kernel
theorem dX5_mendAll_1 : decode cX5_mendAll 1 = .ok (.ifCond .lt 8, 3) := by decide +kernel
theorem dX5_mendAll_4 : decode cX5_mendAll 4 = .ok (.iload_n 1, 1) := by decide +kernel
theorem dX5_mendAll_5 : decode cX5_mendAll 5 = .ok (.iconst 2, 1) := by decide +kernel
theorem dX5_mendAll_6 : decode cX5_mendAll 6 = .ok (.if_icmp .le 6, 3) := by decide +kernel
theorem dX5_mendAll_9 : decode cX5_mendAll 9 = .ok (.bipush (-2), 2) := by decide +kernel
theorem dX5_mendAll_11 : decode cX5_mendAll 11 = .ok (.ireturn, 1) := by decide +kernel
theorem dX5_mendAll_12 : decode cX5_mendAll 12 = .ok (.aload_n 0, 1) := by decide +kernel
theorem dX5_mendAll_13 : decode cX5_mendAll 13 = .ok (.getfield 10, 3) := by decide +kernel
theorem dX5_mendAll_16 : decode cX5_mendAll 16 = .ok (.invokevirtual 108, 3) := by decide +kernel
theorem dX5_mendAll_19 : decode cX5_mendAll 19 = .ok (.ifCond .ne 6, 3) := by decide +kernel
theorem dX5_mendAll_22 : decode cX5_mendAll 22 = .ok (.bipush (-5), 2) := by decide +kernel
theorem dX5_mendAll_24 : decode cX5_mendAll 24 = .ok (.ireturn, 1) := by decide +kernel
theorem dX5_mendAll_25 : decode cX5_mendAll 25 = .ok (.aload_n 0, 1) := by decide +kernel
theorem dX5_mendAll_26 : decode cX5_mendAll 26 = .ok (.getfield 28, 3) := by decide +kernel
theorem dX5_mendAll_29 : decode cX5_mendAll 29 = .ok (.aload_n 0, 1) := by decide +kernel
theorem dX5_mendAll_30 : decode cX5_mendAll 30 = .ok (.getfield 10, 3) := by decide +kernel
theorem dX5_mendAll_33 : decode cX5_mendAll 33 = .ok (.invokevirtual 67, 3) := by decide +kernel
theorem dX5_mendAll_36 : decode cX5_mendAll 36 = .ok (.aload_n 0, 1) := by decide +kernel
theorem dX5_mendAll_37 : decode cX5_mendAll 37 = .ok (.getfield 10, 3) := by decide +kernel
theorem dX5_mendAll_40 : decode cX5_mendAll 40 = .ok (.invokevirtual 74, 3) := by decide +kernel
theorem dX5_mendAll_43 : decode cX5_mendAll 43 = .ok (.istore_n 2, 1) := by decide +kernel
theorem dX5_mendAll_44 : decode cX5_mendAll 44 = .ok (.iconst 0, 1) := by decide +kernel
theorem dX5_mendAll_45 : decode cX5_mendAll 45 = .ok (.istore_n 3, 1) := by decide +kernel
theorem dX5_mendAll_46 : decode cX5_mendAll 46 = .ok (.iload_n 3, 1) := by decide +kernel
theorem dX5_mendAll_47 : decode cX5_mendAll 47 = .ok (.bipush 10, 2) := by decide +kernel
theorem dX5_mendAll_49 : decode cX5_mendAll 49 = .ok (.if_icmp .ge 22, 3) := by decide +kernel
theorem dX5_mendAll_52 : decode cX5_mendAll 52 = .ok (.aload_n 0, 1) := by decide +kernel
theorem dX5_mendAll_53 : decode cX5_mendAll 53 = .ok (.getfield 10, 3) := by decide +kernel
theorem dX5_mendAll_56 : decode cX5_mendAll 56 = .ok (.aload_n 0, 1) := by decide +kernel
theorem dX5_mendAll_57 : decode cX5_mendAll 57 = .ok (.iload_n 1, 1) := by decide +kernel
theorem dX5_mendAll_58 : decode cX5_mendAll 58 = .ok (.iload_n 3, 1) := by decide +kernel
theorem dX5_mendAll_59 : decode cX5_mendAll 59 = .ok (.invokevirtual 111, 3) := by decide +kernel
theorem dX5_mendAll_62 : decode cX5_mendAll 62 = .ok (.invokevirtual 105, 3) := by decide +kernel
theorem dX5_mendAll_65 : decode cX5_mendAll 65 = .ok (.iinc 3 1, 3) := by decide +kernel
theorem dX5_mendAll_68 : decode cX5_mendAll 68 = .ok (.goto (-22), 3) := by decide +kernel
theorem dX5_mendAll_71 : decode cX5_mendAll 71 = .ok (.iload_n 2, 1) := by decide +kernel
theorem dX5_mendAll_72 : decode cX5_mendAll 72 = .ok (.aload_n 0, 1) := by decide +kernel
theorem dX5_mendAll_73 : decode cX5_mendAll 73 = .ok (.getfield 10, 3) := by decide +kernel
theorem dX5_mendAll_76 : decode cX5_mendAll 76 = .ok (.invokevirtual 74, 3) := by decide +kernel
theorem dX5_mendAll_79 : decode cX5_mendAll 79 = .ok (.isub, 1) := by decide +kernel
theorem dX5_mendAll_80 : decode cX5_mendAll 80 = .ok (.ireturn, 1) := by decide +kernel
set_option maxRecDepth 20000 in
theorem ggX5_prefer_X3_prefersHeaviest : GoodIn wsX5_prefer wsX3_prefersHeaviest := goodIn_r _ [7, 8, 124, 125, 126, 127, 128, 129] (by decide +kernel) (by decide +kernel)
set_option maxRecDepth 20000 in
theorem gX5_prefer_X3_prefersHeaviest : GoodIn wsX5_prefer (wsV RX5 115 RX3 yX3_prefersHeaviest wsX3_prefersHeaviest) := goodIn_app (goodIn_of _ (by decide +kernel)) ggX5_prefer_X3_prefersHeaviest
set_option maxRecDepth 20000 in
theorem ggX5_prefer_X1_remember : GoodIn wsX5_prefer wsX1_remember := goodIn_r _ [13, 14, 15, 16, 17, 18, 19, 20, 21, 22, 12, 23, 24, 25, 26, 27, 6, 28, 29, 30, 31, 32, 33, 8, 34, 35, 36, 37, 38, 39, 40, 41, 130, 131, 132, 124, 125, 126, 127, 128, 129] (by decide +kernel) (by decide +kernel)
set_option maxRecDepth 20000 in
theorem gX5_prefer_X1_remember : GoodIn wsX5_prefer (wsV RX5 67 RX1 yX1_remember wsX1_remember) := goodIn_app (goodIn_of _ (by decide +kernel)) ggX5_prefer_X1_remember
set_option maxRecDepth 20000 in
theorem ggX5_prefer_X3_setPreference : GoodIn wsX5_prefer wsX3_setPreference := goodIn_r _ [45, 8, 124, 125, 126, 127, 128, 129] (by decide +kernel) (by decide +kernel)
set_option maxRecDepth 20000 in
theorem gX5_prefer_X3_setPreference : GoodIn wsX5_prefer (wsV RX5 118 RX3 yX3_setPreference wsX3_setPreference) := goodIn_app (goodIn_of _ (by decide +kernel)) ggX5_prefer_X3_setPreference
set_option maxRecDepth 20000 in
theorem ggX5_prefer_X5_choicesNow : GoodIn wsX5_prefer wsX5_choicesNow := goodIn_r _ [49, 50, 51, 52, 53, 54, 55, 56, 57, 58, 59, 60, 61, 62, 63, 64, 65, 66, 67, 6, 68, 33, 69, 70, 71, 72, 8, 73, 74, 75, 76, 31, 77, 35, 78, 79, 80, 81, 82, 29, 83, 84, 85, 86, 87, 88, 89, 90, 91, 92, 93, 94, 95, 96, 97, 98, 99, 100, 101, 102, 103, 104, 105, 106, 32, 107, 108, 109, 110, 111, 112, 117, 118, 119, 120, 121, 122, 123, 133, 134, 135, 136, 137, 138, 124, 125, 126, 127, 128, 129] (by decide +kernel) (by decide +kernel)
set_option maxRecDepth 20000 in
theorem gX5_prefer_X5_choicesNow : GoodIn wsX5_prefer (wsV RX5 122 RX5 yX5_choicesNow wsX5_choicesNow) := goodIn_app (goodIn_of _ (by decide +kernel)) ggX5_prefer_X5_choicesNow
set_option maxRecDepth 20000 in
theorem ggX5_prefer_X0_mendings : GoodIn wsX5_prefer wsX0_mendings := goodIn_r _ [116, 59, 133, 134, 135, 136, 137, 138] (by decide +kernel) (by decide +kernel)
set_option maxRecDepth 20000 in
theorem gX5_prefer_X0_mendings : GoodIn wsX5_prefer (wsV RX5 126 RX0 yX0_mendings wsX0_mendings) := goodIn_app (goodIn_of _ (by decide +kernel)) ggX5_prefer_X0_mendings
theorem dX5_prefer_0 : decode cX5_prefer 0 = .ok (.iload_n 1, 1) := by decide +kernel
theorem dX5_prefer_1 : decode cX5_prefer 1 = .ok (.aload_n 0, 1) := by decide +kernel
theorem dX5_prefer_2 : decode cX5_prefer 2 = .ok (.getfield 10, 3) := by decide +kernel
theorem dX5_prefer_5 : decode cX5_prefer 5 = .ok (.invokevirtual 115, 3) := by decide +kernel
theorem dX5_prefer_8 : decode cX5_prefer 8 = .ok (.if_icmp .ne 6, 3) := by decide +kernel
theorem dX5_prefer_11 : decode cX5_prefer 11 = .ok (.bipush (-5), 2) := by decide +kernel
theorem dX5_prefer_13 : decode cX5_prefer 13 = .ok (.ireturn, 1) := by decide +kernel
theorem dX5_prefer_14 : decode cX5_prefer 14 = .ok (.aload_n 0, 1) := by decide +kernel
theorem dX5_prefer_15 : decode cX5_prefer 15 = .ok (.getfield 28, 3) := by decide +kernel
theorem dX5_prefer_18 : decode cX5_prefer 18 = .ok (.aload_n 0, 1) := by decide +kernel
theorem dX5_prefer_19 : decode cX5_prefer 19 = .ok (.getfield 10, 3) := by decide +kernel
theorem dX5_prefer_22 : decode cX5_prefer 22 = .ok (.invokevirtual 67, 3) := by decide +kernel
theorem dX5_prefer_25 : decode cX5_prefer 25 = .ok (.aload_n 0, 1) := by decide +kernel
theorem dX5_prefer_26 : decode cX5_prefer 26 = .ok (.getfield 10, 3) := by decide +kernel
theorem dX5_prefer_29 : decode cX5_prefer 29 = .ok (.iload_n 1, 1) := by decide +kernel
theorem dX5_prefer_30 : decode cX5_prefer 30 = .ok (.invokevirtual 118, 3) := by decide +kernel
theorem dX5_prefer_33 : decode cX5_prefer 33 = .ok (.aload_n 0, 1) := by decide +kernel
theorem dX5_prefer_34 : decode cX5_prefer 34 = .ok (.invokevirtual 122, 3) := by decide +kernel
theorem dX5_prefer_37 : decode cX5_prefer 37 = .ok (.invokevirtual 126, 3) := by decide +kernel
theorem dX5_prefer_40 : decode cX5_prefer 40 = .ok (.ireturn, 1) := by decide +kernel
set_option maxRecDepth 20000 in
theorem ggX5_type_X4_append : GoodIn wsX5_type wsX4_append := goodIn_r _ [6, 7, 8, 20, 21] (by decide +kernel) (by decide +kernel)
set_option maxRecDepth 20000 in
theorem gX5_type_X4_append : GoodIn wsX5_type (wsV RX5 129 RX4 yX4_append wsX4_append) := goodIn_app (goodIn_of _ (by decide +kernel)) ggX5_type_X4_append
set_option maxRecDepth 20000 in
theorem ggX5_type_X4_length : GoodIn wsX5_type wsX4_length := goodIn_r _ [12, 7, 20, 21] (by decide +kernel) (by decide +kernel)
set_option maxRecDepth 20000 in
theorem gX5_type_X4_length : GoodIn wsX5_type (wsV RX5 131 RX4 yX4_length wsX4_length) := goodIn_app (goodIn_of _ (by decide +kernel)) ggX5_type_X4_length
theorem dX5_type_0 : decode cX5_type 0 = .ok (.aload_n 0, 1) := by decide +kernel
theorem dX5_type_1 : decode cX5_type 1 = .ok (.getfield 42, 3) := by decide +kernel
theorem dX5_type_4 : decode cX5_type 4 = .ok (.iload_n 1, 1) := by decide +kernel
theorem dX5_type_5 : decode cX5_type 5 = .ok (.invokevirtual 129, 3) := by decide +kernel
theorem dX5_type_8 : decode cX5_type 8 = .ok (.ifCond .eq 13, 3) := by decide +kernel
theorem dX5_type_11 : decode cX5_type 11 = .ok (.aload_n 0, 1) := by decide +kernel
theorem dX5_type_12 : decode cX5_type 12 = .ok (.getfield 42, 3) := by decide +kernel
theorem dX5_type_15 : decode cX5_type 15 = .ok (.invokevirtual 131, 3) := by decide +kernel
theorem dX5_type_18 : decode cX5_type 18 = .ok (.goto 5, 3) := by decide +kernel
theorem dX5_type_21 : decode cX5_type 21 = .ok (.bipush (-3), 2) := by decide +kernel
theorem dX5_type_23 : decode cX5_type 23 = .ok (.ireturn, 1) := by decide +kernel
set_option maxRecDepth 20000 in
theorem ggX5_clearText_X4_length : GoodIn wsX5_clearText wsX4_length := goodIn_r _ [6, 7, 19, 20] (by decide +kernel) (by decide +kernel)
set_option maxRecDepth 20000 in
theorem gX5_clearText_X4_length : GoodIn wsX5_clearText (wsV RX5 131 RX4 yX4_length wsX4_length) := goodIn_app (goodIn_of _ (by decide +kernel)) ggX5_clearText_X4_length
set_option maxRecDepth 20000 in
theorem ggX5_clearText_X4_empty : GoodIn wsX5_clearText wsX4_empty := goodIn_r _ [11, 7, 19, 20] (by decide +kernel) (by decide +kernel)
set_option maxRecDepth 20000 in
theorem gX5_clearText_X4_empty : GoodIn wsX5_clearText (wsV RX5 134 RX4 yX4_empty wsX4_empty) := goodIn_app (goodIn_of _ (by decide +kernel)) ggX5_clearText_X4_empty
theorem dX5_clearText_0 : decode cX5_clearText 0 = .ok (.aload_n 0, 1) := by decide +kernel
theorem dX5_clearText_1 : decode cX5_clearText 1 = .ok (.getfield 42, 3) := by decide +kernel
theorem dX5_clearText_4 : decode cX5_clearText 4 = .ok (.invokevirtual 131, 3) := by decide +kernel
theorem dX5_clearText_7 : decode cX5_clearText 7 = .ok (.istore_n 1, 1) := by decide +kernel
theorem dX5_clearText_8 : decode cX5_clearText 8 = .ok (.aload_n 0, 1) := by decide +kernel
theorem dX5_clearText_9 : decode cX5_clearText 9 = .ok (.getfield 42, 3) := by decide +kernel
theorem dX5_clearText_12 : decode cX5_clearText 12 = .ok (.invokevirtual 134, 3) := by decide +kernel
theorem dX5_clearText_15 : decode cX5_clearText 15 = .ok (.iload_n 1, 1) := by decide +kernel
theorem dX5_clearText_16 : decode cX5_clearText 16 = .ok (.ireturn, 1) := by decide +kernel
set_option maxRecDepth 20000 in
theorem ggX5_undo_X1_takeBack : GoodIn wsX5_undo wsX1_takeBack := goodIn_r _ [7, 8, 9, 10, 11, 12, 6, 13, 14, 15, 16, 17, 18, 19, 20, 21, 22, 23, 24, 25, 26, 27, 28, 29, 30, 31, 32, 33, 34, 35, 36, 48, 49, 50, 51, 52, 53, 54, 55, 56] (by decide +kernel) (by decide +kernel)
set_option maxRecDepth 20000 in
theorem gX5_undo_X1_takeBack : GoodIn wsX5_undo (wsV RX5 137 RX1 yX1_takeBack wsX1_takeBack) := goodIn_app (goodIn_of _ (by decide +kernel)) ggX5_undo_X1_takeBack
set_option maxRecDepth 20000 in
theorem ggX5_undo_X1_size : GoodIn wsX5_undo wsX1_size := goodIn_r _ [40, 9, 48, 49, 50] (by decide +kernel) (by decide +kernel)
set_option maxRecDepth 20000 in
theorem gX5_undo_X1_size : GoodIn wsX5_undo (wsV RX5 141 RX1 yX1_size wsX1_size) := goodIn_app (goodIn_of _ (by decide +kernel)) ggX5_undo_X1_size
theorem dX5_undo_0 : decode cX5_undo 0 = .ok (.aload_n 0, 1) := by decide +kernel
theorem dX5_undo_1 : decode cX5_undo 1 = .ok (.getfield 28, 3) := by decide +kernel
theorem dX5_undo_4 : decode cX5_undo 4 = .ok (.aload_n 0, 1) := by decide +kernel
theorem dX5_undo_5 : decode cX5_undo 5 = .ok (.getfield 10, 3) := by decide +kernel
theorem dX5_undo_8 : decode cX5_undo 8 = .ok (.invokevirtual 137, 3) := by decide +kernel
theorem dX5_undo_11 : decode cX5_undo 11 = .ok (.ifCond .eq 13, 3) := by decide +kernel
theorem dX5_undo_14 : decode cX5_undo 14 = .ok (.aload_n 0, 1) := by decide +kernel
theorem dX5_undo_15 : decode cX5_undo 15 = .ok (.getfield 28, 3) := by decide +kernel
theorem dX5_undo_18 : decode cX5_undo 18 = .ok (.invokevirtual 141, 3) := by decide +kernel
theorem dX5_undo_21 : decode cX5_undo 21 = .ok (.goto 5, 3) := by decide +kernel
theorem dX5_undo_24 : decode cX5_undo 24 = .ok (.bipush (-5), 2) := by decide +kernel
theorem dX5_undo_26 : decode cX5_undo 26 = .ok (.ireturn, 1) := by decide +kernel
set_option maxRecDepth 20000 in
theorem ggX5_keep_X3_copyFrom : GoodIn wsX5_keep wsX3_copyFrom := goodIn_r _ [8, 9, 10, 11, 12, 13, 14, 15, 16, 17, 18, 19, 20, 21, 22, 23, 24, 25, 37, 38, 39, 40, 41, 42] (by decide +kernel) (by decide +kernel)
set_option maxRecDepth 20000 in
theorem gX5_keep_X3_copyFrom : GoodIn wsX5_keep (wsV RX5 142 RX3 yX3_copyFrom wsX3_copyFrom) := goodIn_app (goodIn_of _ (by decide +kernel)) ggX5_keep_X3_copyFrom
set_option maxRecDepth 20000 in
theorem ggX5_keep_X3_size : GoodIn wsX5_keep wsX3_size := goodIn_r _ [29, 13, 37, 38, 39, 40, 41, 42] (by decide +kernel) (by decide +kernel)
set_option maxRecDepth 20000 in
theorem gX5_keep_X3_size : GoodIn wsX5_keep (wsV RX5 74 RX3 yX3_size wsX3_size) := goodIn_app (goodIn_of _ (by decide +kernel)) ggX5_keep_X3_size
theorem dX5_keep_0 : decode cX5_keep 0 = .ok (.aload_n 0, 1) := by decide +kernel
theorem dX5_keep_1 : decode cX5_keep 1 = .ok (.getfield 32, 3) := by decide +kernel
theorem dX5_keep_4 : decode cX5_keep 4 = .ok (.aload_n 0, 1) := by decide +kernel
theorem dX5_keep_5 : decode cX5_keep 5 = .ok (.getfield 10, 3) := by decide +kernel
theorem dX5_keep_8 : decode cX5_keep 8 = .ok (.invokevirtual 142, 3) := by decide +kernel
theorem dX5_keep_11 : decode cX5_keep 11 = .ok (.aload_n 0, 1) := by decide +kernel
theorem dX5_keep_12 : decode cX5_keep 12 = .ok (.iconst 1, 1) := by decide +kernel
theorem dX5_keep_13 : decode cX5_keep 13 = .ok (.putfield 35, 3) := by decide +kernel
theorem dX5_keep_16 : decode cX5_keep 16 = .ok (.aload_n 0, 1) := by decide +kernel
theorem dX5_keep_17 : decode cX5_keep 17 = .ok (.getfield 10, 3) := by decide +kernel
theorem dX5_keep_20 : decode cX5_keep 20 = .ok (.invokevirtual 74, 3) := by decide +kernel
theorem dX5_keep_23 : decode cX5_keep 23 = .ok (.ireturn, 1) := by decide +kernel
set_option maxRecDepth 20000 in
theorem ggX5_restore_X1_remember : GoodIn wsX5_restore wsX1_remember := goodIn_r _ [9, 10, 11, 12, 13, 14, 15, 16, 17, 18, 8, 19, 20, 21, 22, 23, 24, 25, 26, 27, 28, 29, 30, 31, 32, 33, 34, 35, 36, 37, 38, 39, 52, 53, 54, 55, 56, 57, 58, 59, 60] (by decide +kernel) (by decide +kernel)
set_option maxRecDepth 20000 in
theorem gX5_restore_X1_remember : GoodIn wsX5_restore (wsV RX5 67 RX1 yX1_remember wsX1_remember) := goodIn_app (goodIn_of _ (by decide +kernel)) ggX5_restore_X1_remember
set_option maxRecDepth 20000 in
theorem ggX5_restore_X3_copyFrom : GoodIn wsX5_restore wsX3_copyFrom := goodIn_r _ [25, 26, 27, 28, 29, 30, 31, 32, 33, 34, 35, 13, 14, 15, 36, 37, 38, 39, 55, 56, 57, 58, 59, 60] (by decide +kernel) (by decide +kernel)
set_option maxRecDepth 20000 in
theorem gX5_restore_X3_copyFrom : GoodIn wsX5_restore (wsV RX5 142 RX3 yX3_copyFrom wsX3_copyFrom) := goodIn_app (goodIn_of _ (by decide +kernel)) ggX5_restore_X3_copyFrom
set_option maxRecDepth 20000 in
theorem ggX5_restore_X3_size : GoodIn wsX5_restore wsX3_size := goodIn_r _ [44, 30, 55, 56, 57, 58, 59, 60] (by decide +kernel) (by decide +kernel)
set_option maxRecDepth 20000 in
theorem gX5_restore_X3_size : GoodIn wsX5_restore (wsV RX5 74 RX3 yX3_size wsX3_size) := goodIn_app (goodIn_of _ (by decide +kernel)) ggX5_restore_X3_size
theorem dX5_restore_0 : decode cX5_restore 0 = .ok (.aload_n 0, 1) := by decide +kernel
theorem dX5_restore_1 : decode cX5_restore 1 = .ok (.getfield 35, 3) := by decide +kernel
theorem dX5_restore_4 : decode cX5_restore 4 = .ok (.ifCond .ne 6, 3) := by decide +kernel
theorem dX5_restore_7 : decode cX5_restore 7 = .ok (.bipush (-5), 2) := by decide +kernel
theorem dX5_restore_9 : decode cX5_restore 9 = .ok (.ireturn, 1) := by decide +kernel
theorem dX5_restore_10 : decode cX5_restore 10 = .ok (.aload_n 0, 1) := by decide +kernel
theorem dX5_restore_11 : decode cX5_restore 11 = .ok (.getfield 28, 3) := by decide +kernel
theorem dX5_restore_14 : decode cX5_restore 14 = .ok (.aload_n 0, 1) := by decide +kernel
theorem dX5_restore_15 : decode cX5_restore 15 = .ok (.getfield 10, 3) := by decide +kernel
theorem dX5_restore_18 : decode cX5_restore 18 = .ok (.invokevirtual 67, 3) := by decide +kernel
theorem dX5_restore_21 : decode cX5_restore 21 = .ok (.aload_n 0, 1) := by decide +kernel
theorem dX5_restore_22 : decode cX5_restore 22 = .ok (.getfield 10, 3) := by decide +kernel
theorem dX5_restore_25 : decode cX5_restore 25 = .ok (.aload_n 0, 1) := by decide +kernel
theorem dX5_restore_26 : decode cX5_restore 26 = .ok (.getfield 32, 3) := by decide +kernel
theorem dX5_restore_29 : decode cX5_restore 29 = .ok (.invokevirtual 142, 3) := by decide +kernel
theorem dX5_restore_32 : decode cX5_restore 32 = .ok (.aload_n 0, 1) := by decide +kernel
theorem dX5_restore_33 : decode cX5_restore 33 = .ok (.getfield 10, 3) := by decide +kernel
theorem dX5_restore_36 : decode cX5_restore 36 = .ok (.invokevirtual 74, 3) := by decide +kernel
theorem dX5_restore_39 : decode cX5_restore 39 = .ok (.ireturn, 1) := by decide +kernel
set_option maxRecDepth 20000 in
theorem ggX5_row_X3_has : GoodIn wsX5_row wsX3_has := goodIn_r _ [6, 7, 103, 104, 105, 106, 107, 108] (by decide +kernel) (by decide +kernel)
set_option maxRecDepth 20000 in
theorem gX5_row_X3_has : GoodIn wsX5_row (wsV RX5 91 RX3 yX3_has wsX3_has) := goodIn_app (goodIn_of _ (by decide +kernel)) ggX5_row_X3_has
set_option maxRecDepth 20000 in
theorem ggX5_row_X3_keyAt : GoodIn wsX5_row wsX3_keyAt := goodIn_r _ [11, 12, 13, 14, 15, 103, 104, 105, 106, 107, 108] (by decide +kernel) (by decide +kernel)
set_option maxRecDepth 20000 in
theorem gX5_row_X3_keyAt : GoodIn wsX5_row (wsV RX5 98 RX3 yX3_keyAt wsX3_keyAt) := goodIn_app (goodIn_of _ (by decide +kernel)) ggX5_row_X3_keyAt
set_option maxRecDepth 20000 in
theorem ggX5_row_X3_valueAt : GoodIn wsX5_row wsX3_valueAt := goodIn_r _ [19, 20, 13, 14, 15, 103, 104, 105, 106, 107, 108] (by decide +kernel) (by decide +kernel)
set_option maxRecDepth 20000 in
theorem gX5_row_X3_valueAt : GoodIn wsX5_row (wsV RX5 145 RX3 yX3_valueAt wsX3_valueAt) := goodIn_app (goodIn_of _ (by decide +kernel)) ggX5_row_X3_valueAt
set_option maxRecDepth 20000 in
theorem ggX5_row_X3_weightAt : GoodIn wsX5_row wsX3_weightAt := goodIn_r _ [24, 25, 13, 14, 15, 103, 104, 105, 106, 107, 108] (by decide +kernel) (by decide +kernel)
set_option maxRecDepth 20000 in
theorem gX5_row_X3_weightAt : GoodIn wsX5_row (wsV RX5 148 RX3 yX3_weightAt wsX3_weightAt) := goodIn_app (goodIn_of _ (by decide +kernel)) ggX5_row_X3_weightAt
set_option maxRecDepth 20000 in
theorem ggX5_row_X3_targetAt : GoodIn wsX5_row wsX3_targetAt := goodIn_r _ [29, 30, 13, 14, 15, 103, 104, 105, 106, 107, 108] (by decide +kernel) (by decide +kernel)
set_option maxRecDepth 20000 in
theorem gX5_row_X3_targetAt : GoodIn wsX5_row (wsV RX5 151 RX3 yX3_targetAt wsX3_targetAt) := goodIn_app (goodIn_of _ (by decide +kernel)) ggX5_row_X3_targetAt
set_option maxRecDepth 20000 in
theorem ggX5_row_X3_canBeKept : GoodIn wsX5_row wsX3_canBeKept := goodIn_r _ [34, 35, 36, 22, 23, 5, 24, 25, 13, 14, 15, 37, 9, 10, 11, 12, 38, 39, 40, 41, 7, 103, 104, 105, 106, 107, 108] (by decide +kernel) (by decide +kernel)
set_option maxRecDepth 20000 in
theorem gX5_row_X3_canBeKept : GoodIn wsX5_row (wsV RX5 154 RX3 yX3_canBeKept wsX3_canBeKept) := goodIn_app (goodIn_of _ (by decide +kernel)) ggX5_row_X3_canBeKept
set_option maxRecDepth 20000 in
theorem ggX5_row_X5_oneIf : GoodIn wsX5_row wsX5_oneIf := goodIn_r _ [44] (by decide +kernel) (by decide +kernel)
set_option maxRecDepth 20000 in
theorem gX5_row_X5_oneIf : GoodIn wsX5_row (va_wsS RX5 157 yX5_oneIf wsX5_oneIf) := goodIn_app (goodIn_of _ (by decide +kernel)) ggX5_row_X5_oneIf
set_option maxRecDepth 20000 in
theorem ggX5_row_X5_choicesNow : GoodIn wsX5_row wsX5_choicesNow := goodIn_r _ [48, 49, 50, 51, 52, 53, 54, 55, 56, 57, 58, 59, 60, 61, 62, 63, 64, 65, 66, 5, 67, 7, 68, 32, 33, 34, 35, 36, 22, 23, 24, 25, 13, 14, 15, 37, 9, 10, 11, 12, 38, 39, 40, 41, 69, 70, 71, 72, 73, 74, 75, 76, 77, 78, 79, 80, 81, 82, 83, 84, 85, 27, 28, 29, 30, 86, 87, 88, 89, 90, 91, 96, 97, 98, 99, 100, 101, 102, 109, 110, 111, 112, 113, 114, 103, 104, 105, 106, 107, 108] (by decide +kernel) (by decide +kernel)
set_option maxRecDepth 20000 in
theorem gX5_row_X5_choicesNow : GoodIn wsX5_row (wsV RX5 122 RX5 yX5_choicesNow wsX5_choicesNow) := goodIn_app (goodIn_of _ (by decide +kernel)) ggX5_row_X5_choicesNow
set_option maxRecDepth 20000 in
theorem ggX5_row_X0_isSureRow : GoodIn wsX5_row wsX0_isSureRow := goodIn_r _ [95, 57, 68, 32, 33, 5, 34, 35, 36, 22, 23, 24, 25, 13, 14, 15, 37, 9, 10, 11, 12, 38, 39, 40, 41, 7, 69, 75, 76, 77, 53, 78, 55, 109, 110, 111, 112, 113, 114, 103, 104, 105, 106, 107, 108] (by decide +kernel) (by decide +kernel)
set_option maxRecDepth 20000 in
theorem gX5_row_X0_isSureRow : GoodIn wsX5_row (wsV RX5 161 RX0 yX0_isSureRow wsX0_isSureRow) := goodIn_app (goodIn_of _ (by decide +kernel)) ggX5_row_X0_isSureRow
theorem dX5_row_0 : decode cX5_row 0 = .ok (.aload_n 0, 1) := by decide +kernel
theorem dX5_row_1 : decode cX5_row 1 = .ok (.getfield 10, 3) := by decide +kernel
theorem dX5_row_4 : decode cX5_row 4 = .ok (.iload_n 1, 1) := by decide +kernel
theorem dX5_row_5 : decode cX5_row 5 = .ok (.invokevirtual 91, 3) := by decide +kernel
theorem dX5_row_8 : decode cX5_row 8 = .ok (.ifCond .ne 5, 3) := by decide +kernel
theorem dX5_row_11 : decode cX5_row 11 = .ok (.iconst (-1), 1) := by decide +kernel
theorem dX5_row_12 : decode cX5_row 12 = .ok (.ireturn, 1) := by decide +kernel
theorem dX5_row_13 : decode cX5_row 13 = .ok (.iload_n 2, 1) := by decide +kernel
theorem dX5_row_14 : decode cX5_row 14 = .ok (.tableswitch 98 0 5 #[38, 47, 56, 65, 74, 86], 38) := by decide +kernel
theorem dX5_row_52 : decode cX5_row 52 = .ok (.aload_n 0, 1) := by decide +kernel
theorem dX5_row_53 : decode cX5_row 53 = .ok (.getfield 10, 3) := by decide +kernel
theorem dX5_row_56 : decode cX5_row 56 = .ok (.iload_n 1, 1) := by decide +kernel
theorem dX5_row_57 : decode cX5_row 57 = .ok (.invokevirtual 98, 3) := by decide +kernel
theorem dX5_row_60 : decode cX5_row 60 = .ok (.ireturn, 1) := by decide +kernel
theorem dX5_row_61 : decode cX5_row 61 = .ok (.aload_n 0, 1) := by decide +kernel
theorem dX5_row_62 : decode cX5_row 62 = .ok (.getfield 10, 3) := by decide +kernel
theorem dX5_row_65 : decode cX5_row 65 = .ok (.iload_n 1, 1) := by decide +kernel
theorem dX5_row_66 : decode cX5_row 66 = .ok (.invokevirtual 145, 3) := by decide +kernel
theorem dX5_row_69 : decode cX5_row 69 = .ok (.ireturn, 1) := by decide +kernel
theorem dX5_row_70 : decode cX5_row 70 = .ok (.aload_n 0, 1) := by decide +kernel
theorem dX5_row_71 : decode cX5_row 71 = .ok (.getfield 10, 3) := by decide +kernel
theorem dX5_row_74 : decode cX5_row 74 = .ok (.iload_n 1, 1) := by decide +kernel
theorem dX5_row_75 : decode cX5_row 75 = .ok (.invokevirtual 148, 3) := by decide +kernel
theorem dX5_row_78 : decode cX5_row 78 = .ok (.ireturn, 1) := by decide +kernel
theorem dX5_row_79 : decode cX5_row 79 = .ok (.aload_n 0, 1) := by decide +kernel
theorem dX5_row_80 : decode cX5_row 80 = .ok (.getfield 10, 3) := by decide +kernel
theorem dX5_row_83 : decode cX5_row 83 = .ok (.iload_n 1, 1) := by decide +kernel
theorem dX5_row_84 : decode cX5_row 84 = .ok (.invokevirtual 151, 3) := by decide +kernel
theorem dX5_row_87 : decode cX5_row 87 = .ok (.ireturn, 1) := by decide +kernel
theorem dX5_row_88 : decode cX5_row 88 = .ok (.aload_n 0, 1) := by decide +kernel
theorem dX5_row_89 : decode cX5_row 89 = .ok (.getfield 10, 3) := by decide +kernel
theorem dX5_row_92 : decode cX5_row 92 = .ok (.iload_n 1, 1) := by decide +kernel
theorem dX5_row_93 : decode cX5_row 93 = .ok (.invokevirtual 154, 3) := by decide +kernel
theorem dX5_row_96 : decode cX5_row 96 = .ok (.invokestatic 157, 3) := by decide +kernel
theorem dX5_row_99 : decode cX5_row 99 = .ok (.ireturn, 1) := by decide +kernel
theorem dX5_row_100 : decode cX5_row 100 = .ok (.aload_n 0, 1) := by decide +kernel
theorem dX5_row_101 : decode cX5_row 101 = .ok (.invokevirtual 122, 3) := by decide +kernel
theorem dX5_row_104 : decode cX5_row 104 = .ok (.iload_n 1, 1) := by decide +kernel
theorem dX5_row_105 : decode cX5_row 105 = .ok (.invokevirtual 161, 3) := by decide +kernel
theorem dX5_row_108 : decode cX5_row 108 = .ok (.invokestatic 157, 3) := by decide +kernel
theorem dX5_row_111 : decode cX5_row 111 = .ok (.ireturn, 1) := by decide +kernel
theorem dX5_row_112 : decode cX5_row 112 = .ok (.bipush (-2), 2) := by decide +kernel
theorem dX5_row_114 : decode cX5_row 114 = .ok (.ireturn, 1) := by decide +kernel
set_option maxRecDepth 20000 in
theorem ggX5_key_X5_isKey : GoodIn wsX5_key wsX5_isKey := goodIn_r _ [5] (by decide +kernel) (by decide +kernel)
