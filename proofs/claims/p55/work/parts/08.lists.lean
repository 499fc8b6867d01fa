/-! the fields' words, the fresh fields, class by class -/
theorem inB_X0 : ∀ w ∈ u_ws RX0 TX0 2, w ∈ bW := by decide +kernel
theorem df_X0 : ∀ j, j < 2 → defaultValue (tyX0 j) = vp_V [.null, .null] j := fun j hj => by rcases (show j = 0 ∨ j = 1 by omega) with rfl | rfl <;> rfl
theorem inB_X1 : ∀ w ∈ u_ws RX1 TX1 4, w ∈ bW := by decide +kernel
theorem df_X1 : ∀ j, j < 4 → defaultValue (tyX1 j) = vp_V [.int 0, .null, .null, .null] j := fun j hj => by rcases (show j = 0 ∨ j = 1 ∨ j = 2 ∨ j = 3 by omega) with rfl | rfl | rfl | rfl <;> rfl
theorem inB_X2 : ∀ w ∈ u_ws RX2 TX2 6, w ∈ bW := by decide +kernel
theorem df_X2 : ∀ j, j < 6 → defaultValue (tyX2 j) = vp_V [.null, .null, .null, .null, .null, .null] j := fun j hj => by rcases (show j = 0 ∨ j = 1 ∨ j = 2 ∨ j = 3 ∨ j = 4 ∨ j = 5 by omega) with rfl | rfl | rfl | rfl | rfl | rfl <;> rfl
theorem inB_X3 : ∀ w ∈ u_ws RX3 TX3 5, w ∈ bW := by decide +kernel
theorem df_X3 : ∀ j, j < 5 → defaultValue (tyX3 j) = vp_V [.null, .null, .null, .null, .null] j := fun j hj => by rcases (show j = 0 ∨ j = 1 ∨ j = 2 ∨ j = 3 ∨ j = 4 by omega) with rfl | rfl | rfl | rfl | rfl <;> rfl
theorem inB_X4 : ∀ w ∈ u_ws RX4 TX4 3, w ∈ bW := by decide +kernel
theorem df_X4 : ∀ j, j < 3 → defaultValue (tyX4 j) = vp_V [.int 0, .int 0, .null] j := fun j hj => by rcases (show j = 0 ∨ j = 1 ∨ j = 2 by omega) with rfl | rfl | rfl <;> rfl
theorem inB_X5 : ∀ w ∈ u_ws RX5 TX5 3, w ∈ bW := by decide +kernel
theorem df_X5 : ∀ j, j < 3 → defaultValue (tyX5 j) = vp_V [.null, .null, .int 0] j := fun j hj => by rcases (show j = 0 ∨ j = 1 ∨ j = 2 by omega) with rfl | rfl | rfl <;> rfl
theorem inB_X6 : ∀ w ∈ u_ws RX6 TX6 4, w ∈ bW := by decide +kernel
theorem df_X6 : ∀ j, j < 4 → defaultValue (tyX6 j) = vp_V [.int 0, .int 0, .null, .null] j := fun j hj => by rcases (show j = 0 ∨ j = 1 ∨ j = 2 ∨ j = 3 by omega) with rfl | rfl | rfl | rfl <;> rfl
theorem inB_X7 : ∀ w ∈ u_ws RX7 TX7 6, w ∈ bW := by decide +kernel
theorem df_X7 : ∀ j, j < 6 → defaultValue (tyX7 j) = vp_V [.null, .int 0, .int 0, .int 0, .int 0, .int 0] j := fun j hj => by rcases (show j = 0 ∨ j = 1 ∨ j = 2 ∨ j = 3 ∨ j = 4 ∨ j = 5 by omega) with rfl | rfl | rfl | rfl | rfl | rfl <;> rfl
theorem inB_X8 : ∀ w ∈ u_ws RX8 TX8 18, w ∈ bW := by decide +kernel
theorem df_X8 : ∀ j, j < 18 → defaultValue (tyX8 j) = vp_V [.int 0, .int 0, .int 0, .int 0, .int 0, .int 0, .null, .null, .null, .null, .int 0, .int 0, .null, .null, .null, .null, .null, .int 0] j := fun j hj => by rcases (show j = 0 ∨ j = 1 ∨ j = 2 ∨ j = 3 ∨ j = 4 ∨ j = 5 ∨ j = 6 ∨ j = 7 ∨ j = 8 ∨ j = 9 ∨ j = 10 ∨ j = 11 ∨ j = 12 ∨ j = 13 ∨ j = 14 ∨ j = 15 ∨ j = 16 ∨ j = 17 by omega) with rfl | rfl | rfl | rfl | rfl | rfl | rfl | rfl | rfl | rfl | rfl | rfl | rfl | rfl | rfl | rfl | rfl | rfl <;> rfl
theorem inB_X9 : ∀ w ∈ u_ws RX9 TX9 4, w ∈ bW := by decide +kernel
theorem df_X9 : ∀ j, j < 4 → defaultValue (tyX9 j) = vp_V [.null, .null, .int 0, .int 0] j := fun j hj => by rcases (show j = 0 ∨ j = 1 ∨ j = 2 ∨ j = 3 by omega) with rfl | rfl | rfl | rfl <;> rfl
theorem inB_X10 : ∀ w ∈ u_ws RX10 TX10 1, w ∈ bW := by decide +kernel
theorem df_X10 : ∀ j, j < 1 → defaultValue (tyX10 j) = vp_V [.null] j := fun j hj => by rcases (show j = 0 by omega) with rfl <;> rfl
theorem inB_X11 : ∀ w ∈ u_ws RX11 TX11 15, w ∈ bW := by decide +kernel
theorem df_X11 : ∀ j, j < 15 → defaultValue (tyX11 j) = vp_V [.null, .int 0, .null, .null, .null, .null, .null, .null, .null, .null, .null, .int 0, .int 0, .int 0, .int 0] j := fun j hj => by rcases (show j = 0 ∨ j = 1 ∨ j = 2 ∨ j = 3 ∨ j = 4 ∨ j = 5 ∨ j = 6 ∨ j = 7 ∨ j = 8 ∨ j = 9 ∨ j = 10 ∨ j = 11 ∨ j = 12 ∨ j = 13 ∨ j = 14 by omega) with rfl | rfl | rfl | rfl | rfl | rfl | rfl | rfl | rfl | rfl | rfl | rfl | rfl | rfl | rfl <;> rfl
theorem inB_X12 : ∀ w ∈ u_ws RX12 TX12 38, w ∈ bW := by decide +kernel
theorem df_X12 : ∀ j, j < 38 → defaultValue (tyX12 j) = vp_V [.int 0, .null, .null, .null, .null, .int 0, .null, .int 0, .int 0, .int 0, .int 0, .int 0, .int 0, .int 0, .null, .null, .null, .null, .null, .null, .null, .null, .null, .int 0, .null, .int 0, .null, .int 0, .null, .null, .null, .int 0, .null, .int 0, .null, .null, .null, .null] j := fun j hj => by rcases (show j = 0 ∨ j = 1 ∨ j = 2 ∨ j = 3 ∨ j = 4 ∨ j = 5 ∨ j = 6 ∨ j = 7 ∨ j = 8 ∨ j = 9 ∨ j = 10 ∨ j = 11 ∨ j = 12 ∨ j = 13 ∨ j = 14 ∨ j = 15 ∨ j = 16 ∨ j = 17 ∨ j = 18 ∨ j = 19 ∨ j = 20 ∨ j = 21 ∨ j = 22 ∨ j = 23 ∨ j = 24 ∨ j = 25 ∨ j = 26 ∨ j = 27 ∨ j = 28 ∨ j = 29 ∨ j = 30 ∨ j = 31 ∨ j = 32 ∨ j = 33 ∨ j = 34 ∨ j = 35 ∨ j = 36 ∨ j = 37 by omega) with rfl | rfl | rfl | rfl | rfl | rfl | rfl | rfl | rfl | rfl | rfl | rfl | rfl | rfl | rfl | rfl | rfl | rfl | rfl | rfl | rfl | rfl | rfl | rfl | rfl | rfl | rfl | rfl | rfl | rfl | rfl | rfl | rfl | rfl | rfl | rfl | rfl | rfl <;> rfl
