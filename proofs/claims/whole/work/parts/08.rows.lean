theorem zf_2_15 : z_fld 2 15 = some (2, 0) := by decide +kernel
theorem zf_2_21 : z_fld 2 21 = some (2, 1) := by decide +kernel
theorem zf_4_11 : z_fld 4 11 = some (4, 0) := by decide +kernel
theorem zf_1_9 : z_fld 1 9 = some (1, 0) := by decide +kernel
theorem zf_1_15 : z_fld 1 15 = some (1, 1) := by decide +kernel
theorem zf_3_9 : z_fld 3 9 = some (3, 0) := by decide +kernel
theorem zf_3_15 : z_fld 3 15 = some (3, 1) := by decide +kernel
theorem zf_3_19 : z_fld 3 19 = some (3, 2) := by decide +kernel
theorem zf_3_22 : z_fld 3 22 = some (3, 3) := by decide +kernel
theorem zf_0_9 : z_fld 0 9 = some (0, 0) := by decide +kernel
theorem zf_0_15 : z_fld 0 15 = some (0, 1) := by decide +kernel
theorem zf_5_14 : z_fld 5 14 = some (5, 0) := by decide +kernel
theorem zf_5_18 : z_fld 5 18 = some (5, 1) := by decide +kernel
theorem zf_5_21 : z_fld 5 21 = some (5, 2) := by decide +kernel
theorem zf_5_24 : z_fld 5 24 = some (5, 3) := by decide +kernel
theorem zf_5_27 : z_fld 5 27 = some (5, 4) := by decide +kernel
theorem zf_5_30 : z_fld 5 30 = some (5, 5) := by decide +kernel
theorem zf_5_33 : z_fld 5 33 = some (5, 6) := by decide +kernel
theorem zf_5_39 : z_fld 5 39 = some (5, 7) := by decide +kernel
theorem zf_5_43 : z_fld 5 43 = some (5, 8) := by decide +kernel
theorem zf_5_50 : z_fld 5 50 = some (5, 9) := by decide +kernel
theorem zf_5_57 : z_fld 5 57 = some (5, 10) := by decide +kernel
theorem zf_5_64 : z_fld 5 64 = some (5, 11) := by decide +kernel
theorem zf_5_68 : z_fld 5 68 = some (5, 12) := by decide +kernel
theorem zf_5_72 : z_fld 5 72 = some (5, 13) := by decide +kernel
theorem zf_6_7 : z_fld 6 7 = some (6, 0) := by decide +kernel
theorem zf_6_13 : z_fld 6 13 = some (6, 1) := by decide +kernel
theorem zf_6_16 : z_fld 6 16 = some (6, 2) := by decide +kernel
theorem zf_6_20 : z_fld 6 20 = some (6, 3) := by decide +kernel
theorem zf_6_61 : z_fld 6 61 = some (6, 4) := by decide +kernel
theorem zf_6_23 : z_fld 6 23 = some (6, 5) := by decide +kernel
theorem zf_6_27 : z_fld 6 27 = some (6, 6) := by decide +kernel
theorem zf_6_30 : z_fld 6 30 = some (6, 7) := by decide +kernel
theorem zf_6_33 : z_fld 6 33 = some (6, 8) := by decide +kernel
theorem zf_6_36 : z_fld 6 36 = some (6, 9) := by decide +kernel
theorem zf_6_39 : z_fld 6 39 = some (6, 10) := by decide +kernel
theorem zf_6_42 : z_fld 6 42 = some (6, 11) := by decide +kernel
theorem zf_6_98 : z_fld 6 98 = some (6, 12) := by decide +kernel
theorem zf_6_45 : z_fld 6 45 = some (6, 13) := by decide +kernel
theorem zf_6_48 : z_fld 6 48 = some (6, 14) := by decide +kernel
theorem zf_6_131 : z_fld 6 131 = some (6, 15) := by decide +kernel
theorem zf_6_51 : z_fld 6 51 = some (6, 16) := by decide +kernel
theorem zf_6_145 : z_fld 6 145 = some (6, 17) := by decide +kernel
theorem zf_6_54 : z_fld 6 54 = some (6, 18) := by decide +kernel
theorem zt_0_0 (x : Nat) : z_fit 0 true 0 0 (.ref x) = True := eq_true ⟨rfl, rfl, fun _ => ⟨rfl, rfl⟩⟩
theorem zt_0_1 (x : Nat) : z_fit 0 true 0 1 (.ref x) = True := eq_true ⟨rfl, rfl, fun _ => ⟨rfl, rfl⟩⟩
theorem zt_1_0 (cn : Nat) (ini : Bool) (x : Int32) : z_fit cn ini 1 0 (.int x) = True := eq_true ⟨rfl, rfl, fun h => absurd h (by decide +kernel)⟩
theorem zt_1_1 (cn : Nat) (ini : Bool) (x : Int32) : z_fit cn ini 1 1 (.int x) = z_bo x := propext ⟨fun h => ⟨h.1, h.2.1⟩, fun h => ⟨h.1, h.2, fun h => absurd h (by decide +kernel)⟩⟩
theorem zt_2_0 (x : Nat) : z_fit 2 true 2 0 (.ref x) = True := eq_true ⟨rfl, rfl, fun _ => ⟨rfl, rfl⟩⟩
theorem zt_2_1 (cn : Nat) (ini : Bool) (x : Int32) : z_fit cn ini 2 1 (.int x) = True := eq_true ⟨rfl, rfl, fun h => absurd h (by decide +kernel)⟩
theorem zt_3_0 (x : Nat) : z_fit 3 true 3 0 (.ref x) = True := eq_true ⟨rfl, rfl, fun _ => ⟨rfl, rfl⟩⟩
theorem zt_3_1 (x : Nat) : z_fit 3 true 3 1 (.ref x) = True := eq_true ⟨rfl, rfl, fun _ => ⟨rfl, rfl⟩⟩
theorem zt_3_2 (x : Nat) : z_fit 3 true 3 2 (.ref x) = True := eq_true ⟨rfl, rfl, fun _ => ⟨rfl, rfl⟩⟩
theorem zt_3_3 (x : Nat) : z_fit 3 true 3 3 (.ref x) = True := eq_true ⟨rfl, rfl, fun _ => ⟨rfl, rfl⟩⟩
theorem zt_4_0 (x : Nat) : z_fit 4 true 4 0 (.ref x) = True := eq_true ⟨rfl, rfl, fun _ => ⟨rfl, rfl⟩⟩
theorem zt_5_0 (x : Nat) : z_fit 5 true 5 0 (.ref x) = True := eq_true ⟨rfl, rfl, fun _ => ⟨rfl, rfl⟩⟩
theorem zt_5_1 (x : Nat) : z_fit 5 true 5 1 (.ref x) = True := eq_true ⟨rfl, rfl, fun _ => ⟨rfl, rfl⟩⟩
theorem zt_5_2 (x : Nat) : z_fit 5 true 5 2 (.ref x) = True := eq_true ⟨rfl, rfl, fun _ => ⟨rfl, rfl⟩⟩
theorem zt_5_3 (x : Nat) : z_fit 5 true 5 3 (.ref x) = True := eq_true ⟨rfl, rfl, fun _ => ⟨rfl, rfl⟩⟩
theorem zt_5_4 (x : Nat) : z_fit 5 true 5 4 (.ref x) = True := eq_true ⟨rfl, rfl, fun _ => ⟨rfl, rfl⟩⟩
theorem zt_5_5 (x : Nat) : z_fit 5 true 5 5 (.ref x) = True := eq_true ⟨rfl, rfl, fun _ => ⟨rfl, rfl⟩⟩
theorem zt_5_6 (x : Nat) : z_fit 5 true 5 6 (.ref x) = True := eq_true ⟨rfl, rfl, fun _ => ⟨rfl, rfl⟩⟩
theorem zt_5_7 (x : Nat) : z_fit 5 true 5 7 (.ref x) = True := eq_true ⟨rfl, rfl, fun _ => ⟨rfl, rfl⟩⟩
theorem zt_5_8 (x : Nat) : z_fit 5 true 5 8 (.ref x) = True := eq_true ⟨rfl, rfl, fun _ => ⟨rfl, rfl⟩⟩
theorem zt_5_9 (x : Nat) : z_fit 5 true 5 9 (.ref x) = True := eq_true ⟨rfl, rfl, fun _ => ⟨rfl, rfl⟩⟩
theorem zt_5_10 (x : Nat) : z_fit 5 true 5 10 (.ref x) = True := eq_true ⟨rfl, rfl, fun _ => ⟨rfl, rfl⟩⟩
theorem zt_5_11 (x : Nat) : z_fit 5 true 5 11 (.ref x) = True := eq_true ⟨rfl, rfl, fun _ => ⟨rfl, rfl⟩⟩
theorem zt_5_12 (cn : Nat) (ini : Bool) (x : Int32) : z_fit cn ini 5 12 (.int x) = True := eq_true ⟨rfl, rfl, fun h => absurd h (by decide +kernel)⟩
theorem zt_5_13 (cn : Nat) (ini : Bool) (x : Int32) : z_fit cn ini 5 13 (.int x) = True := eq_true ⟨rfl, rfl, fun h => absurd h (by decide +kernel)⟩
theorem zt_6_0 (x : Nat) : z_fit 6 true 6 0 (.ref x) = True := eq_true ⟨rfl, rfl, fun _ => ⟨rfl, rfl⟩⟩
theorem zt_6_1 (x : Nat) : z_fit 6 true 6 1 (.ref x) = True := eq_true ⟨rfl, rfl, fun _ => ⟨rfl, rfl⟩⟩
theorem zt_6_2 (x : Nat) : z_fit 6 true 6 2 (.ref x) = True := eq_true ⟨rfl, rfl, fun _ => ⟨rfl, rfl⟩⟩
theorem zt_6_3 (x : Nat) : z_fit 6 true 6 3 (.ref x) = True := eq_true ⟨rfl, rfl, fun _ => ⟨rfl, rfl⟩⟩
theorem zt_6_4 (cn : Nat) (ini : Bool) (x : Int32) : z_fit cn ini 6 4 (.int x) = True := eq_true ⟨rfl, rfl, fun h => absurd h (by decide +kernel)⟩
theorem zt_6_5 (cn : Nat) (ini : Bool) (x : Int32) : z_fit cn ini 6 5 (.int x) = True := eq_true ⟨rfl, rfl, fun h => absurd h (by decide +kernel)⟩
theorem zt_6_6 (x : Nat) : z_fit 6 true 6 6 (.ref x) = True := eq_true ⟨rfl, rfl, fun _ => ⟨rfl, rfl⟩⟩
theorem zt_6_7 (x : Nat) : z_fit 6 true 6 7 (.ref x) = True := eq_true ⟨rfl, rfl, fun _ => ⟨rfl, rfl⟩⟩
theorem zt_6_8 (x : Nat) : z_fit 6 true 6 8 (.ref x) = True := eq_true ⟨rfl, rfl, fun _ => ⟨rfl, rfl⟩⟩
theorem zt_6_9 (x : Nat) : z_fit 6 true 6 9 (.ref x) = True := eq_true ⟨rfl, rfl, fun _ => ⟨rfl, rfl⟩⟩
theorem zt_6_10 (x : Nat) : z_fit 6 true 6 10 (.ref x) = True := eq_true ⟨rfl, rfl, fun _ => ⟨rfl, rfl⟩⟩
theorem zt_6_11 (x : Nat) : z_fit 6 true 6 11 (.ref x) = True := eq_true ⟨rfl, rfl, fun _ => ⟨rfl, rfl⟩⟩
theorem zt_6_12 (cn : Nat) (ini : Bool) (x : Int32) : z_fit cn ini 6 12 (.int x) = True := eq_true ⟨rfl, rfl, fun h => absurd h (by decide +kernel)⟩
theorem zt_6_13 (x : Nat) : z_fit 6 true 6 13 (.ref x) = True := eq_true ⟨rfl, rfl, fun _ => ⟨rfl, rfl⟩⟩
theorem zt_6_14 (x : Nat) : z_fit 6 true 6 14 (.ref x) = True := eq_true ⟨rfl, rfl, fun _ => ⟨rfl, rfl⟩⟩
theorem zt_6_15 (cn : Nat) (ini : Bool) (x : Int32) : z_fit cn ini 6 15 (.int x) = True := eq_true ⟨rfl, rfl, fun h => absurd h (by decide +kernel)⟩
theorem zt_6_16 (x : Nat) : z_fit 6 true 6 16 (.ref x) = True := eq_true ⟨rfl, rfl, fun _ => ⟨rfl, rfl⟩⟩
theorem zt_6_17 (cn : Nat) (ini : Bool) (x : Int32) : z_fit cn ini 6 17 (.int x) = True := eq_true ⟨rfl, rfl, fun h => absurd h (by decide +kernel)⟩
theorem zt_6_18 (x : Nat) : z_fit 6 true 6 18 (.ref x) = True := eq_true ⟨rfl, rfl, fun _ => ⟨rfl, rfl⟩⟩
theorem zk_0 : (0 : Fin 4).val = 0 := rfl
theorem zk_1 : (1 : Fin 4).val = 1 := rfl
theorem zk_2 : (2 : Fin 4).val = 2 := rfl
theorem zk_3 : (3 : Fin 4).val = 3 := rfl
theorem zi_m1 : Int32.ofInt (-1) = (-1) := by decide
theorem zi_0 : Int32.ofInt (0) = (0) := by decide
theorem zi_1 : Int32.ofInt (1) = (1) := by decide
theorem zi_2 : Int32.ofInt (2) = (2) := by decide
theorem zi_3 : Int32.ofInt (3) = (3) := by decide
theorem zi_4 : Int32.ofInt (4) = (4) := by decide
theorem zi_5 : Int32.ofInt (5) = (5) := by decide
theorem zb_m7 : (Int8.ofInt (-7)).toInt32 = (-7) := by decide
theorem zb_m6 : (Int8.ofInt (-6)).toInt32 = (-6) := by decide
theorem zb_m4 : (Int8.ofInt (-4)).toInt32 = (-4) := by decide
theorem zb_m3 : (Int8.ofInt (-3)).toInt32 = (-3) := by decide
theorem zb_m2 : (Int8.ofInt (-2)).toInt32 = (-2) := by decide
theorem zb_7 : (Int8.ofInt (7)).toInt32 = (7) := by decide
theorem zb_8 : (Int8.ofInt (8)).toInt32 = (8) := by decide
theorem zb_9 : (Int8.ofInt (9)).toInt32 = (9) := by decide
theorem zb_10 : (Int8.ofInt (10)).toInt32 = (10) := by decide
theorem zb_15 : (Int8.ofInt (15)).toInt32 = (15) := by decide
theorem zb_16 : (Int8.ofInt (16)).toInt32 = (16) := by decide
theorem zb_17 : (Int8.ofInt (17)).toInt32 = (17) := by decide
theorem zb_31 : (Int8.ofInt (31)).toInt32 = (31) := by decide
theorem zb_33 : (Int8.ofInt (33)).toInt32 = (33) := by decide
theorem zb_40 : (Int8.ofInt (40)).toInt32 = (40) := by decide
theorem zb_41 : (Int8.ofInt (41)).toInt32 = (41) := by decide
theorem zb_48 : (Int8.ofInt (48)).toInt32 = (48) := by decide
theorem zb_49 : (Int8.ofInt (49)).toInt32 = (49) := by decide
theorem zb_50 : (Int8.ofInt (50)).toInt32 = (50) := by decide
theorem zb_51 : (Int8.ofInt (51)).toInt32 = (51) := by decide
theorem zb_57 : (Int8.ofInt (57)).toInt32 = (57) := by decide
theorem zb_60 : (Int8.ofInt (60)).toInt32 = (60) := by decide
theorem zb_67 : (Int8.ofInt (67)).toInt32 = (67) := by decide
theorem zb_68 : (Int8.ofInt (68)).toInt32 = (68) := by decide
theorem zb_80 : (Int8.ofInt (80)).toInt32 = (80) := by decide
theorem zb_84 : (Int8.ofInt (84)).toInt32 = (84) := by decide
theorem zb_85 : (Int8.ofInt (85)).toInt32 = (85) := by decide
theorem zb_120 : (Int8.ofInt (120)).toInt32 = (120) := by decide
theorem zb_126 : (Int8.ofInt (126)).toInt32 = (126) := by decide
theorem zs_240 : (Int16.ofInt (240)).toInt32 = (240) := by decide
theorem zs_244 : (Int16.ofInt (244)).toInt32 = (244) := by decide
theorem zs_255 : (Int16.ofInt (255)).toInt32 = (255) := by decide
theorem zs_488 : (Int16.ofInt (488)).toInt32 = (488) := by decide
theorem zs_1023 : (Int16.ofInt (1023)).toInt32 = (1023) := by decide
