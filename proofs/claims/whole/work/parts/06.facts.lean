theorem fl_X9_15 : fl RX9 15 9 0 1 := ⟨RX9, TX9, 2, rfl, by decide, by decide, iw_X9, wF_X9_15, rfl⟩
theorem fp_X9_15 : fp RX9 15 9 0 1 (.array .int) true := ⟨RX9, TX9, 2, tyX9, rfl, by decide, by decide, iw_X9, wF_X9_15, rfl, tyX9_ok, nmX9, rfl, rfl, by decide +kernel⟩
theorem fl_X9_21 : fl RX9 21 9 1 0 := ⟨RX9, TX9, 2, rfl, by decide, by decide, iw_X9, wF_X9_21, rfl⟩
theorem fp_X9_21 : fp RX9 21 9 1 0 .int false := ⟨RX9, TX9, 2, tyX9, rfl, by decide, by decide, iw_X9, wF_X9_21, rfl, tyX9_ok, nmX9, rfl, rfl, by decide +kernel⟩
theorem fl_X3_23 : fl RX3 23 9 1 0 := ⟨RX9, TX9, 2, rfl, by decide, by decide, iw_X9, wF_X3_23, rfl⟩
theorem fp_X3_23 : fp RX3 23 9 1 0 .int false := ⟨RX9, TX9, 2, tyX9, rfl, by decide, by decide, iw_X9, wF_X3_23, rfl, tyX9_ok, nmX9, rfl, rfl, by decide +kernel⟩
theorem fl_X4_13 : fl RX4 13 9 1 0 := ⟨RX9, TX9, 2, rfl, by decide, by decide, iw_X9, wF_X4_13, rfl⟩
theorem fp_X4_13 : fp RX4 13 9 1 0 .int false := ⟨RX9, TX9, 2, tyX9, rfl, by decide, by decide, iw_X9, wF_X4_13, rfl, tyX9_ok, nmX9, rfl, rfl, by decide +kernel⟩
theorem fl_X7_27 : fl RX7 27 9 1 0 := ⟨RX9, TX9, 2, rfl, by decide, by decide, iw_X9, wF_X7_27, rfl⟩
theorem fp_X7_27 : fp RX7 27 9 1 0 .int false := ⟨RX9, TX9, 2, tyX9, rfl, by decide, by decide, iw_X9, wF_X7_27, rfl, tyX9_ok, nmX9, rfl, rfl, by decide +kernel⟩
theorem fl_X6_55 : fl RX6 55 9 1 0 := ⟨RX9, TX9, 2, rfl, by decide, by decide, iw_X9, wF_X6_55, rfl⟩
theorem fp_X6_55 : fp RX6 55 9 1 0 .int false := ⟨RX9, TX9, 2, tyX9, rfl, by decide, by decide, iw_X9, wF_X6_55, rfl, tyX9_ok, nmX9, rfl, rfl, by decide +kernel⟩
theorem fl_X2_28 : fl RX2 28 9 1 0 := ⟨RX9, TX9, 2, rfl, by decide, by decide, iw_X9, wF_X2_28, rfl⟩
theorem fp_X2_28 : fp RX2 28 9 1 0 .int false := ⟨RX9, TX9, 2, tyX9, rfl, by decide, by decide, iw_X9, wF_X2_28, rfl, tyX9_ok, nmX9, rfl, rfl, by decide +kernel⟩
theorem fl_X11_87 : fl RX11 87 9 1 0 := ⟨RX9, TX9, 2, rfl, by decide, by decide, iw_X9, wF_X11_87, rfl⟩
theorem fp_X11_87 : fp RX11 87 9 1 0 .int false := ⟨RX9, TX9, 2, tyX9, rfl, by decide, by decide, iw_X9, wF_X11_87, rfl, tyX9_ok, nmX9, rfl, rfl, by decide +kernel⟩
theorem fl_X8_41 : fl RX8 41 9 1 0 := ⟨RX9, TX9, 2, rfl, by decide, by decide, iw_X9, wF_X8_41, rfl⟩
theorem fp_X8_41 : fp RX8 41 9 1 0 .int false := ⟨RX9, TX9, 2, tyX9, rfl, by decide, by decide, iw_X9, wF_X8_41, rfl, tyX9_ok, nmX9, rfl, rfl, by decide +kernel⟩
theorem fl_X2_14 : fl RX2 14 2 0 1 := ⟨RX2, TX2, 3, rfl, by decide, by decide, iw_X2, wF_X2_14, rfl⟩
theorem fp_X2_14 : fp RX2 14 2 0 1 (.object "PackedLists$Row") true := ⟨RX2, TX2, 3, tyX2, rfl, by decide, by decide, iw_X2, wF_X2_14, rfl, tyX2_ok, nmX2, rfl, rfl, by decide +kernel⟩
theorem fl_X11_81 : fl RX11 81 2 0 1 := ⟨RX2, TX2, 3, rfl, by decide, by decide, iw_X2, wF_X11_81, rfl⟩
theorem fp_X11_81 : fp RX11 81 2 0 1 (.object "PackedLists$Row") true := ⟨RX2, TX2, 3, tyX2, rfl, by decide, by decide, iw_X2, wF_X11_81, rfl, tyX2_ok, nmX2, rfl, rfl, by decide +kernel⟩
theorem fl_X8_31 : fl RX8 31 2 0 1 := ⟨RX2, TX2, 3, rfl, by decide, by decide, iw_X2, wF_X8_31, rfl⟩
theorem fp_X8_31 : fp RX8 31 2 0 1 (.object "PackedLists$Row") true := ⟨RX2, TX2, 3, tyX2, rfl, by decide, by decide, iw_X2, wF_X8_31, rfl, tyX2_ok, nmX2, rfl, rfl, by decide +kernel⟩
theorem fl_X6_98 : fl RX6 98 2 0 1 := ⟨RX2, TX2, 3, rfl, by decide, by decide, iw_X2, wF_X6_98, rfl⟩
theorem fp_X6_98 : fp RX6 98 2 0 1 (.object "PackedLists$Row") true := ⟨RX2, TX2, 3, tyX2, rfl, by decide, by decide, iw_X2, wF_X6_98, rfl, tyX2_ok, nmX2, rfl, rfl, by decide +kernel⟩
theorem fl_X2_20 : fl RX2 20 2 1 1 := ⟨RX2, TX2, 3, rfl, by decide, by decide, iw_X2, wF_X2_20, rfl⟩
theorem fp_X2_20 : fp RX2 20 2 1 1 (.array .int) true := ⟨RX2, TX2, 3, tyX2, rfl, by decide, by decide, iw_X2, wF_X2_20, rfl, tyX2_ok, nmX2, rfl, rfl, by decide +kernel⟩
theorem fl_X2_24 : fl RX2 24 2 2 0 := ⟨RX2, TX2, 3, rfl, by decide, by decide, iw_X2, wF_X2_24, rfl⟩
theorem fp_X2_24 : fp RX2 24 2 2 0 .int false := ⟨RX2, TX2, 3, tyX2, rfl, by decide, by decide, iw_X2, wF_X2_24, rfl, tyX2_ok, nmX2, rfl, rfl, by decide +kernel⟩
theorem fl_X8_37 : fl RX8 37 2 2 0 := ⟨RX2, TX2, 3, rfl, by decide, by decide, iw_X2, wF_X8_37, rfl⟩
theorem fp_X8_37 : fp RX8 37 2 2 0 .int false := ⟨RX2, TX2, 3, tyX2, rfl, by decide, by decide, iw_X2, wF_X8_37, rfl, tyX2_ok, nmX2, rfl, rfl, by decide +kernel⟩
theorem fl_X11_147 : fl RX11 147 2 2 0 := ⟨RX2, TX2, 3, rfl, by decide, by decide, iw_X2, wF_X11_147, rfl⟩
theorem fp_X11_147 : fp RX11 147 2 2 0 .int false := ⟨RX2, TX2, 3, tyX2, rfl, by decide, by decide, iw_X2, wF_X11_147, rfl, tyX2_ok, nmX2, rfl, rfl, by decide +kernel⟩
theorem fl_X5_9 : fl RX5 9 5 0 1 := ⟨RX5, TX5, 4, rfl, by decide, by decide, iw_X5, wF_X5_9, rfl⟩
theorem fp_X5_9 : fp RX5 9 5 0 1 (.array .int) true := ⟨RX5, TX5, 4, tyX5, rfl, by decide, by decide, iw_X5, wF_X5_9, rfl, tyX5_ok, nmX5, rfl, rfl, by decide +kernel⟩
theorem fl_X5_17 : fl RX5 17 5 1 1 := ⟨RX5, TX5, 4, rfl, by decide, by decide, iw_X5, wF_X5_17, rfl⟩
theorem fp_X5_17 : fp RX5 17 5 1 1 (.array (.object "PackedLists$CutList")) true := ⟨RX5, TX5, 4, tyX5, rfl, by decide, by decide, iw_X5, wF_X5_17, rfl, tyX5_ok, nmX5, rfl, rfl, by decide +kernel⟩
theorem fl_X5_22 : fl RX5 22 5 2 0 := ⟨RX5, TX5, 4, rfl, by decide, by decide, iw_X5, wF_X5_22, rfl⟩
theorem fp_X5_22 : fp RX5 22 5 2 0 .int false := ⟨RX5, TX5, 4, tyX5, rfl, by decide, by decide, iw_X5, wF_X5_22, rfl, tyX5_ok, nmX5, rfl, rfl, by decide +kernel⟩
theorem fl_X5_30 : fl RX5 30 5 3 0 := ⟨RX5, TX5, 4, rfl, by decide, by decide, iw_X5, wF_X5_30, rfl⟩
theorem fp_X5_30 : fp RX5 30 5 3 0 .int false := ⟨RX5, TX5, 4, tyX5, rfl, by decide, by decide, iw_X5, wF_X5_30, rfl, tyX5_ok, nmX5, rfl, rfl, by decide +kernel⟩
theorem fl_X11_136 : fl RX11 136 5 3 0 := ⟨RX5, TX5, 4, rfl, by decide, by decide, iw_X5, wF_X11_136, rfl⟩
theorem fp_X11_136 : fp RX11 136 5 3 0 .int false := ⟨RX5, TX5, 4, tyX5, rfl, by decide, by decide, iw_X5, wF_X11_136, rfl, tyX5_ok, nmX5, rfl, rfl, by decide +kernel⟩
theorem fl_X1_9 : fl RX1 9 1 0 1 := ⟨RX1, TX1, 5, rfl, by decide, by decide, iw_X1, wF_X1_9, rfl⟩
theorem fp_X1_9 : fp RX1 9 1 0 1 (.array .int) true := ⟨RX1, TX1, 5, tyX1, rfl, by decide, by decide, iw_X1, wF_X1_9, rfl, tyX1_ok, nmX1, rfl, rfl, by decide +kernel⟩
theorem fl_X1_15 : fl RX1 15 1 1 1 := ⟨RX1, TX1, 5, rfl, by decide, by decide, iw_X1, wF_X1_15, rfl⟩
theorem fp_X1_15 : fp RX1 15 1 1 1 (.array .int) true := ⟨RX1, TX1, 5, tyX1, rfl, by decide, by decide, iw_X1, wF_X1_15, rfl, tyX1_ok, nmX1, rfl, rfl, by decide +kernel⟩
theorem fl_X1_18 : fl RX1 18 1 2 0 := ⟨RX1, TX1, 5, rfl, by decide, by decide, iw_X1, wF_X1_18, rfl⟩
theorem fp_X1_18 : fp RX1 18 1 2 0 .int false := ⟨RX1, TX1, 5, tyX1, rfl, by decide, by decide, iw_X1, wF_X1_18, rfl, tyX1_ok, nmX1, rfl, rfl, by decide +kernel⟩
theorem fl_X11_243 : fl RX11 243 1 2 0 := ⟨RX1, TX1, 5, rfl, by decide, by decide, iw_X1, wF_X11_243, rfl⟩
theorem fp_X11_243 : fp RX11 243 1 2 0 .int false := ⟨RX1, TX1, 5, tyX1, rfl, by decide, by decide, iw_X1, wF_X11_243, rfl, tyX1_ok, nmX1, rfl, rfl, by decide +kernel⟩
theorem fl_X1_26 : fl RX1 26 1 3 0 := ⟨RX1, TX1, 5, rfl, by decide, by decide, iw_X1, wF_X1_26, rfl⟩
theorem fp_X1_26 : fp RX1 26 1 3 0 .int false := ⟨RX1, TX1, 5, tyX1, rfl, by decide, by decide, iw_X1, wF_X1_26, rfl, tyX1_ok, nmX1, rfl, rfl, by decide +kernel⟩
theorem fl_X11_244 : fl RX11 244 1 3 0 := ⟨RX1, TX1, 5, rfl, by decide, by decide, iw_X1, wF_X11_244, rfl⟩
theorem fp_X11_244 : fp RX11 244 1 3 0 .int false := ⟨RX1, TX1, 5, tyX1, rfl, by decide, by decide, iw_X1, wF_X11_244, rfl, tyX1_ok, nmX1, rfl, rfl, by decide +kernel⟩
theorem fl_X1_29 : fl RX1 29 1 4 0 := ⟨RX1, TX1, 5, rfl, by decide, by decide, iw_X1, wF_X1_29, rfl⟩
theorem fp_X1_29 : fp RX1 29 1 4 0 .int false := ⟨RX1, TX1, 5, tyX1, rfl, by decide, by decide, iw_X1, wF_X1_29, rfl, tyX1_ok, nmX1, rfl, rfl, by decide +kernel⟩
theorem fl_X11_247 : fl RX11 247 1 4 0 := ⟨RX1, TX1, 5, rfl, by decide, by decide, iw_X1, wF_X11_247, rfl⟩
theorem fp_X11_247 : fp RX11 247 1 4 0 .int false := ⟨RX1, TX1, 5, tyX1, rfl, by decide, by decide, iw_X1, wF_X11_247, rfl, tyX1_ok, nmX1, rfl, rfl, by decide +kernel⟩
theorem fl_X0_9 : fl RX0 9 0 0 1 := ⟨RX0, TX0, 7, rfl, by decide, by decide, iw_X0, wF_X0_9, rfl⟩
theorem fp_X0_9 : fp RX0 9 0 0 1 (.array .int) true := ⟨RX0, TX0, 7, tyX0, rfl, by decide, by decide, iw_X0, wF_X0_9, rfl, tyX0_ok, nmX0, rfl, rfl, by decide +kernel⟩
theorem fl_X0_15 : fl RX0 15 0 1 1 := ⟨RX0, TX0, 7, rfl, by decide, by decide, iw_X0, wF_X0_15, rfl⟩
theorem fp_X0_15 : fp RX0 15 0 1 1 (.object "PackedLists$Row") false := ⟨RX0, TX0, 7, tyX0, rfl, by decide, by decide, iw_X0, wF_X0_15, rfl, tyX0_ok, nmX0, rfl, rfl, by decide +kernel⟩
theorem fl_X0_19 : fl RX0 19 0 2 0 := ⟨RX0, TX0, 7, rfl, by decide, by decide, iw_X0, wF_X0_19, rfl⟩
theorem fp_X0_19 : fp RX0 19 0 2 0 .int false := ⟨RX0, TX0, 7, tyX0, rfl, by decide, by decide, iw_X0, wF_X0_19, rfl, tyX0_ok, nmX0, rfl, rfl, by decide +kernel⟩
theorem fl_X0_23 : fl RX0 23 0 3 0 := ⟨RX0, TX0, 7, rfl, by decide, by decide, iw_X0, wF_X0_23, rfl⟩
theorem fp_X0_23 : fp RX0 23 0 3 0 .int false := ⟨RX0, TX0, 7, tyX0, rfl, by decide, by decide, iw_X0, wF_X0_23, rfl, tyX0_ok, nmX0, rfl, rfl, by decide +kernel⟩
theorem fl_X11_174 : fl RX11 174 0 3 0 := ⟨RX0, TX0, 7, rfl, by decide, by decide, iw_X0, wF_X11_174, rfl⟩
theorem fp_X11_174 : fp RX11 174 0 3 0 .int false := ⟨RX0, TX0, 7, tyX0, rfl, by decide, by decide, iw_X0, wF_X11_174, rfl, tyX0_ok, nmX0, rfl, rfl, by decide +kernel⟩
theorem fl_X0_51 : fl RX0 51 0 4 0 := ⟨RX0, TX0, 7, rfl, by decide, by decide, iw_X0, wF_X0_51, rfl⟩
theorem fp_X0_51 : fp RX0 51 0 4 0 .int false := ⟨RX0, TX0, 7, tyX0, rfl, by decide, by decide, iw_X0, wF_X0_51, rfl, tyX0_ok, nmX0, rfl, rfl, by decide +kernel⟩
theorem fl_X11_202 : fl RX11 202 0 4 0 := ⟨RX0, TX0, 7, rfl, by decide, by decide, iw_X0, wF_X11_202, rfl⟩
theorem fp_X11_202 : fp RX11 202 0 4 0 .int false := ⟨RX0, TX0, 7, tyX0, rfl, by decide, by decide, iw_X0, wF_X11_202, rfl, tyX0_ok, nmX0, rfl, rfl, by decide +kernel⟩
theorem fl_X0_54 : fl RX0 54 0 5 0 := ⟨RX0, TX0, 7, rfl, by decide, by decide, iw_X0, wF_X0_54, rfl⟩
theorem fp_X0_54 : fp RX0 54 0 5 0 .int false := ⟨RX0, TX0, 7, tyX0, rfl, by decide, by decide, iw_X0, wF_X0_54, rfl, tyX0_ok, nmX0, rfl, rfl, by decide +kernel⟩
theorem fl_X11_205 : fl RX11 205 0 5 0 := ⟨RX0, TX0, 7, rfl, by decide, by decide, iw_X0, wF_X11_205, rfl⟩
theorem fp_X11_205 : fp RX11 205 0 5 0 .int false := ⟨RX0, TX0, 7, tyX0, rfl, by decide, by decide, iw_X0, wF_X11_205, rfl, tyX0_ok, nmX0, rfl, rfl, by decide +kernel⟩
theorem fl_X0_60 : fl RX0 60 0 6 0 := ⟨RX0, TX0, 7, rfl, by decide, by decide, iw_X0, wF_X0_60, rfl⟩
theorem fp_X0_60 : fp RX0 60 0 6 0 .int false := ⟨RX0, TX0, 7, tyX0, rfl, by decide, by decide, iw_X0, wF_X0_60, rfl, tyX0_ok, nmX0, rfl, rfl, by decide +kernel⟩
theorem fl_X11_199 : fl RX11 199 0 6 0 := ⟨RX0, TX0, 7, rfl, by decide, by decide, iw_X0, wF_X11_199, rfl⟩
theorem fp_X11_199 : fp RX11 199 0 6 0 .int false := ⟨RX0, TX0, 7, tyX0, rfl, by decide, by decide, iw_X0, wF_X11_199, rfl, tyX0_ok, nmX0, rfl, rfl, by decide +kernel⟩
theorem fl_X10_18 : fl RX10 18 10 0 0 := ⟨RX10, TX10, 6, rfl, by decide, by decide, iw_X10, wF_X10_18, rfl⟩
theorem fp_X10_18 : fp RX10 18 10 0 0 .int true := ⟨RX10, TX10, 6, tyX10, rfl, by decide, by decide, iw_X10, wF_X10_18, rfl, tyX10_ok, nmX10, rfl, rfl, by decide +kernel⟩
theorem fl_X10_9 : fl RX10 9 10 1 1 := ⟨RX10, TX10, 6, rfl, by decide, by decide, iw_X10, wF_X10_9, rfl⟩
theorem fp_X10_9 : fp RX10 9 10 1 1 (.array .int) true := ⟨RX10, TX10, 6, tyX10, rfl, by decide, by decide, iw_X10, wF_X10_9, rfl, tyX10_ok, nmX10, rfl, rfl, by decide +kernel⟩
theorem fl_X10_15 : fl RX10 15 10 2 1 := ⟨RX10, TX10, 6, rfl, by decide, by decide, iw_X10, wF_X10_15, rfl⟩
theorem fp_X10_15 : fp RX10 15 10 2 1 (.array .int) true := ⟨RX10, TX10, 6, tyX10, rfl, by decide, by decide, iw_X10, wF_X10_15, rfl, tyX10_ok, nmX10, rfl, rfl, by decide +kernel⟩
theorem fl_X10_22 : fl RX10 22 10 3 0 := ⟨RX10, TX10, 6, rfl, by decide, by decide, iw_X10, wF_X10_22, rfl⟩
theorem fp_X10_22 : fp RX10 22 10 3 0 .int false := ⟨RX10, TX10, 6, tyX10, rfl, by decide, by decide, iw_X10, wF_X10_22, rfl, tyX10_ok, nmX10, rfl, rfl, by decide +kernel⟩
theorem fl_X10_25 : fl RX10 25 10 4 0 := ⟨RX10, TX10, 6, rfl, by decide, by decide, iw_X10, wF_X10_25, rfl⟩
theorem fp_X10_25 : fp RX10 25 10 4 0 .int false := ⟨RX10, TX10, 6, tyX10, rfl, by decide, by decide, iw_X10, wF_X10_25, rfl, tyX10_ok, nmX10, rfl, rfl, by decide +kernel⟩
theorem fl_X10_28 : fl RX10 28 10 5 0 := ⟨RX10, TX10, 6, rfl, by decide, by decide, iw_X10, wF_X10_28, rfl⟩
theorem fp_X10_28 : fp RX10 28 10 5 0 .int false := ⟨RX10, TX10, 6, tyX10, rfl, by decide, by decide, iw_X10, wF_X10_28, rfl, tyX10_ok, nmX10, rfl, rfl, by decide +kernel⟩
theorem fl_X8_9 : fl RX8 9 8 0 1 := ⟨RX8, TX8, 3, rfl, by decide, by decide, iw_X8, wF_X8_9, rfl⟩
theorem fp_X8_9 : fp RX8 9 8 0 1 (.array .int) true := ⟨RX8, TX8, 3, tyX8, rfl, by decide, by decide, iw_X8, wF_X8_9, rfl, tyX8_ok, nmX8, rfl, rfl, by decide +kernel⟩
theorem fl_X8_15 : fl RX8 15 8 1 1 := ⟨RX8, TX8, 3, rfl, by decide, by decide, iw_X8, wF_X8_15, rfl⟩
theorem fp_X8_15 : fp RX8 15 8 1 1 (.array .int) true := ⟨RX8, TX8, 3, tyX8, rfl, by decide, by decide, iw_X8, wF_X8_15, rfl, tyX8_ok, nmX8, rfl, rfl, by decide +kernel⟩
theorem fl_X8_20 : fl RX8 20 8 2 1 := ⟨RX8, TX8, 3, rfl, by decide, by decide, iw_X8, wF_X8_20, rfl⟩
theorem fp_X8_20 : fp RX8 20 8 2 1 (.array (.object "PackedLists$Window")) true := ⟨RX8, TX8, 3, tyX8, rfl, by decide, by decide, iw_X8, wF_X8_20, rfl, tyX8_ok, nmX8, rfl, rfl, by decide +kernel⟩
theorem fl_X4_7 : fl RX4 7 4 0 0 := ⟨RX4, TX4, 2, rfl, by decide, by decide, iw_X4, wF_X4_7, rfl⟩
theorem fp_X4_7 : fp RX4 7 4 0 0 .int false := ⟨RX4, TX4, 2, tyX4, rfl, by decide, by decide, iw_X4, wF_X4_7, rfl, tyX4_ok, nmX4, rfl, rfl, by decide +kernel⟩
theorem fl_X11_237 : fl RX11 237 4 0 0 := ⟨RX4, TX4, 2, rfl, by decide, by decide, iw_X4, wF_X11_237, rfl⟩
theorem fp_X11_237 : fp RX11 237 4 0 0 .int false := ⟨RX4, TX4, 2, tyX4, rfl, by decide, by decide, iw_X4, wF_X11_237, rfl, tyX4_ok, nmX4, rfl, rfl, by decide +kernel⟩
theorem fl_X6_51 : fl RX6 51 4 1 0 := ⟨RX4, TX4, 2, rfl, by decide, by decide, iw_X4, wF_X6_51, rfl⟩
theorem fp_X6_51 : fp RX6 51 4 1 0 .int false := ⟨RX4, TX4, 2, tyX4, rfl, by decide, by decide, iw_X4, wF_X6_51, rfl, tyX4_ok, nmX4, rfl, rfl, by decide +kernel⟩
theorem fl_X4_36 : fl RX4 36 4 1 0 := ⟨RX4, TX4, 2, rfl, by decide, by decide, iw_X4, wF_X4_36, rfl⟩
theorem fp_X4_36 : fp RX4 36 4 1 0 .int false := ⟨RX4, TX4, 2, tyX4, rfl, by decide, by decide, iw_X4, wF_X4_36, rfl, tyX4_ok, nmX4, rfl, rfl, by decide +kernel⟩
theorem fl_X11_230 : fl RX11 230 4 1 0 := ⟨RX4, TX4, 2, rfl, by decide, by decide, iw_X4, wF_X11_230, rfl⟩
theorem fp_X11_230 : fp RX11 230 4 1 0 .int false := ⟨RX4, TX4, 2, tyX4, rfl, by decide, by decide, iw_X4, wF_X11_230, rfl, tyX4_ok, nmX4, rfl, rfl, by decide +kernel⟩
theorem fl_X7_14 : fl RX7 14 7 0 1 := ⟨RX7, TX7, 4, rfl, by decide, by decide, iw_X7, wF_X7_14, rfl⟩
theorem fp_X7_14 : fp RX7 14 7 0 1 (.object "PackedLists$Row") true := ⟨RX7, TX7, 4, tyX7, rfl, by decide, by decide, iw_X7, wF_X7_14, rfl, tyX7_ok, nmX7, rfl, rfl, by decide +kernel⟩
theorem fl_X11_119 : fl RX11 119 7 0 1 := ⟨RX7, TX7, 4, rfl, by decide, by decide, iw_X7, wF_X11_119, rfl⟩
theorem fp_X11_119 : fp RX11 119 7 0 1 (.object "PackedLists$Row") true := ⟨RX7, TX7, 4, tyX7, rfl, by decide, by decide, iw_X7, wF_X11_119, rfl, tyX7_ok, nmX7, rfl, rfl, by decide +kernel⟩
theorem fl_X7_20 : fl RX7 20 7 1 1 := ⟨RX7, TX7, 4, rfl, by decide, by decide, iw_X7, wF_X7_20, rfl⟩
theorem fp_X7_20 : fp RX7 20 7 1 1 (.object "PackedLists$Row") false := ⟨RX7, TX7, 4, tyX7, rfl, by decide, by decide, iw_X7, wF_X7_20, rfl, tyX7_ok, nmX7, rfl, rfl, by decide +kernel⟩
theorem fl_X7_23 : fl RX7 23 7 2 0 := ⟨RX7, TX7, 4, rfl, by decide, by decide, iw_X7, wF_X7_23, rfl⟩
theorem fp_X7_23 : fp RX7 23 7 2 0 .int false := ⟨RX7, TX7, 4, tyX7, rfl, by decide, by decide, iw_X7, wF_X7_23, rfl, tyX7_ok, nmX7, rfl, rfl, by decide +kernel⟩
theorem fl_X7_40 : fl RX7 40 7 3 0 := ⟨RX7, TX7, 4, rfl, by decide, by decide, iw_X7, wF_X7_40, rfl⟩
theorem fp_X7_40 : fp RX7 40 7 3 0 .int false := ⟨RX7, TX7, 4, tyX7, rfl, by decide, by decide, iw_X7, wF_X7_40, rfl, tyX7_ok, nmX7, rfl, rfl, by decide +kernel⟩
theorem fl_X3_14 : fl RX3 14 3 0 1 := ⟨RX3, TX3, 4, rfl, by decide, by decide, iw_X3, wF_X3_14, rfl⟩
theorem fp_X3_14 : fp RX3 14 3 0 1 (.object "PackedLists$Row") true := ⟨RX3, TX3, 4, tyX3, rfl, by decide, by decide, iw_X3, wF_X3_14, rfl, tyX3_ok, nmX3, rfl, rfl, by decide +kernel⟩
theorem fl_X11_223 : fl RX11 223 3 0 1 := ⟨RX3, TX3, 4, rfl, by decide, by decide, iw_X3, wF_X11_223, rfl⟩
theorem fp_X11_223 : fp RX11 223 3 0 1 (.object "PackedLists$Row") true := ⟨RX3, TX3, 4, tyX3, rfl, by decide, by decide, iw_X3, wF_X11_223, rfl, tyX3_ok, nmX3, rfl, rfl, by decide +kernel⟩
theorem fl_X3_20 : fl RX3 20 3 1 1 := ⟨RX3, TX3, 4, rfl, by decide, by decide, iw_X3, wF_X3_20, rfl⟩
theorem fp_X3_20 : fp RX3 20 3 1 1 (.object "PackedLists$Row") true := ⟨RX3, TX3, 4, tyX3, rfl, by decide, by decide, iw_X3, wF_X3_20, rfl, tyX3_ok, nmX3, rfl, rfl, by decide +kernel⟩
theorem fl_X3_27 : fl RX3 27 3 2 0 := ⟨RX3, TX3, 4, rfl, by decide, by decide, iw_X3, wF_X3_27, rfl⟩
theorem fp_X3_27 : fp RX3 27 3 2 0 .int false := ⟨RX3, TX3, 4, tyX3, rfl, by decide, by decide, iw_X3, wF_X3_27, rfl, tyX3_ok, nmX3, rfl, rfl, by decide +kernel⟩
theorem fl_X3_30 : fl RX3 30 3 3 0 := ⟨RX3, TX3, 4, rfl, by decide, by decide, iw_X3, wF_X3_30, rfl⟩
theorem fp_X3_30 : fp RX3 30 3 3 0 .boolean false := ⟨RX3, TX3, 4, tyX3, rfl, by decide, by decide, iw_X3, wF_X3_30, rfl, tyX3_ok, nmX3, rfl, rfl, by decide +kernel⟩
theorem fl_X11_11 : fl RX11 11 11 0 1 := ⟨RX11, TX11, 10, rfl, by decide, by decide, iw_X11, wF_X11_11, rfl⟩
theorem fp_X11_11 : fp RX11 11 11 0 1 (.array (.object "PackedLists$CutList")) true := ⟨RX11, TX11, 10, tyX11, rfl, by decide, by decide, iw_X11, wF_X11_11, rfl, tyX11_ok, nmX11, rfl, rfl, by decide +kernel⟩
theorem fl_X11_18 : fl RX11 18 11 1 1 := ⟨RX11, TX11, 10, rfl, by decide, by decide, iw_X11, wF_X11_18, rfl⟩
theorem fp_X11_18 : fp RX11 18 11 1 1 (.object "PackedLists$History") true := ⟨RX11, TX11, 10, tyX11, rfl, by decide, by decide, iw_X11, wF_X11_18, rfl, tyX11_ok, nmX11, rfl, rfl, by decide +kernel⟩
theorem fl_X11_25 : fl RX11 25 11 2 1 := ⟨RX11, TX11, 10, rfl, by decide, by decide, iw_X11, wF_X11_25, rfl⟩
theorem fp_X11_25 : fp RX11 25 11 2 1 (.object "PackedLists$Cache") true := ⟨RX11, TX11, 10, tyX11, rfl, by decide, by decide, iw_X11, wF_X11_25, rfl, tyX11_ok, nmX11, rfl, rfl, by decide +kernel⟩
theorem fl_X11_34 : fl RX11 34 11 3 1 := ⟨RX11, TX11, 10, rfl, by decide, by decide, iw_X11, wF_X11_34, rfl⟩
theorem fp_X11_34 : fp RX11 34 11 3 1 (.object "PackedLists$Row") true := ⟨RX11, TX11, 10, tyX11, rfl, by decide, by decide, iw_X11, wF_X11_34, rfl, tyX11_ok, nmX11, rfl, rfl, by decide +kernel⟩
theorem fl_X11_41 : fl RX11 41 11 4 1 := ⟨RX11, TX11, 10, rfl, by decide, by decide, iw_X11, wF_X11_41, rfl⟩
theorem fp_X11_41 : fp RX11 41 11 4 1 (.object "PackedLists$BlockView") true := ⟨RX11, TX11, 10, tyX11, rfl, by decide, by decide, iw_X11, wF_X11_41, rfl, tyX11_ok, nmX11, rfl, rfl, by decide +kernel⟩
theorem fl_X11_48 : fl RX11 48 11 5 1 := ⟨RX11, TX11, 10, rfl, by decide, by decide, iw_X11, wF_X11_48, rfl⟩
theorem fp_X11_48 : fp RX11 48 11 5 1 (.object "PackedLists$Packer") true := ⟨RX11, TX11, 10, tyX11, rfl, by decide, by decide, iw_X11, wF_X11_48, rfl, tyX11_ok, nmX11, rfl, rfl, by decide +kernel⟩
theorem fl_X11_55 : fl RX11 55 11 6 1 := ⟨RX11, TX11, 10, rfl, by decide, by decide, iw_X11, wF_X11_55, rfl⟩
theorem fp_X11_55 : fp RX11 55 11 6 1 (.object "PackedLists$Galloper") true := ⟨RX11, TX11, 10, tyX11, rfl, by decide, by decide, iw_X11, wF_X11_55, rfl, tyX11_ok, nmX11, rfl, rfl, by decide +kernel⟩
theorem fl_X11_62 : fl RX11 62 11 7 1 := ⟨RX11, TX11, 10, rfl, by decide, by decide, iw_X11, wF_X11_62, rfl⟩
theorem fp_X11_62 : fp RX11 62 11 7 1 (.object "PackedLists$NumberReader") true := ⟨RX11, TX11, 10, tyX11, rfl, by decide, by decide, iw_X11, wF_X11_62, rfl, tyX11_ok, nmX11, rfl, rfl, by decide +kernel⟩
theorem fl_X11_69 : fl RX11 69 11 8 1 := ⟨RX11, TX11, 10, rfl, by decide, by decide, iw_X11, wF_X11_69, rfl⟩
theorem fp_X11_69 : fp RX11 69 11 8 1 (.object "PackedLists$ExpressionReader") true := ⟨RX11, TX11, 10, tyX11, rfl, by decide, by decide, iw_X11, wF_X11_69, rfl, tyX11_ok, nmX11, rfl, rfl, by decide +kernel⟩
theorem fl_X11_124 : fl RX11 124 11 9 1 := ⟨RX11, TX11, 10, rfl, by decide, by decide, iw_X11, wF_X11_124, rfl⟩
theorem fp_X11_124 : fp RX11 124 11 9 1 (.object "PackedLists$Joiner") false := ⟨RX11, TX11, 10, tyX11, rfl, by decide, by decide, iw_X11, wF_X11_124, rfl, tyX11_ok, nmX11, rfl, rfl, by decide +kernel⟩
theorem fl_X6_12 : fl RX6 12 6 0 1 := ⟨RX6, TX6, 8, rfl, by decide, by decide, iw_X6, wF_X6_12, rfl⟩
theorem fp_X6_12 : fp RX6 12 6 0 1 (.object "PackedLists$Galloper") true := ⟨RX6, TX6, 8, tyX6, rfl, by decide, by decide, iw_X6, wF_X6_12, rfl, tyX6_ok, nmX6, rfl, rfl, by decide +kernel⟩
theorem fl_X11_250 : fl RX11 250 6 0 1 := ⟨RX6, TX6, 8, rfl, by decide, by decide, iw_X6, wF_X11_250, rfl⟩
theorem fp_X11_250 : fp RX11 250 6 0 1 (.object "PackedLists$Galloper") true := ⟨RX6, TX6, 8, tyX6, rfl, by decide, by decide, iw_X6, wF_X11_250, rfl, tyX6_ok, nmX6, rfl, rfl, by decide +kernel⟩
theorem fl_X6_23 : fl RX6 23 6 1 1 := ⟨RX6, TX6, 8, rfl, by decide, by decide, iw_X6, wF_X6_23, rfl⟩
theorem fp_X6_23 : fp RX6 23 6 1 1 (.object "PackedLists$Row") true := ⟨RX6, TX6, 8, tyX6, rfl, by decide, by decide, iw_X6, wF_X6_23, rfl, tyX6_ok, nmX6, rfl, rfl, by decide +kernel⟩
theorem fl_X11_128 : fl RX11 128 6 1 1 := ⟨RX6, TX6, 8, rfl, by decide, by decide, iw_X6, wF_X11_128, rfl⟩
theorem fp_X11_128 : fp RX11 128 6 1 1 (.object "PackedLists$Row") true := ⟨RX6, TX6, 8, tyX6, rfl, by decide, by decide, iw_X6, wF_X11_128, rfl, tyX6_ok, nmX6, rfl, rfl, by decide +kernel⟩
theorem fl_X6_27 : fl RX6 27 6 2 1 := ⟨RX6, TX6, 8, rfl, by decide, by decide, iw_X6, wF_X6_27, rfl⟩
theorem fp_X6_27 : fp RX6 27 6 2 1 (.object "PackedLists$Row") true := ⟨RX6, TX6, 8, tyX6, rfl, by decide, by decide, iw_X6, wF_X6_27, rfl, tyX6_ok, nmX6, rfl, rfl, by decide +kernel⟩
theorem fl_X6_30 : fl RX6 30 6 3 1 := ⟨RX6, TX6, 8, rfl, by decide, by decide, iw_X6, wF_X6_30, rfl⟩
theorem fp_X6_30 : fp RX6 30 6 3 1 (.array .int) true := ⟨RX6, TX6, 8, tyX6, rfl, by decide, by decide, iw_X6, wF_X6_30, rfl, tyX6_ok, nmX6, rfl, rfl, by decide +kernel⟩
theorem fl_X6_34 : fl RX6 34 6 4 1 := ⟨RX6, TX6, 8, rfl, by decide, by decide, iw_X6, wF_X6_34, rfl⟩
theorem fp_X6_34 : fp RX6 34 6 4 1 (.object "PackedLists$Row") true := ⟨RX6, TX6, 8, tyX6, rfl, by decide, by decide, iw_X6, wF_X6_34, rfl, tyX6_ok, nmX6, rfl, rfl, by decide +kernel⟩
theorem fl_X6_37 : fl RX6 37 6 5 1 := ⟨RX6, TX6, 8, rfl, by decide, by decide, iw_X6, wF_X6_37, rfl⟩
theorem fp_X6_37 : fp RX6 37 6 5 1 (.object "PackedLists$Row") true := ⟨RX6, TX6, 8, tyX6, rfl, by decide, by decide, iw_X6, wF_X6_37, rfl, tyX6_ok, nmX6, rfl, rfl, by decide +kernel⟩
theorem fl_X6_40 : fl RX6 40 6 6 1 := ⟨RX6, TX6, 8, rfl, by decide, by decide, iw_X6, wF_X6_40, rfl⟩
theorem fp_X6_40 : fp RX6 40 6 6 1 (.array .long) true := ⟨RX6, TX6, 8, tyX6, rfl, by decide, by decide, iw_X6, wF_X6_40, rfl, tyX6_ok, nmX6, rfl, rfl, by decide +kernel⟩
theorem fl_X6_44 : fl RX6 44 6 7 1 := ⟨RX6, TX6, 8, rfl, by decide, by decide, iw_X6, wF_X6_44, rfl⟩
theorem fp_X6_44 : fp RX6 44 6 7 1 (.array .int) true := ⟨RX6, TX6, 8, tyX6, rfl, by decide, by decide, iw_X6, wF_X6_44, rfl, tyX6_ok, nmX6, rfl, rfl, by decide +kernel⟩
theorem fl_X12_7 : fl RX12 7 12 0 1 := ⟨RX12, TX12, 35, rfl, by decide, by decide, iw_X12, wF_X12_7, rfl⟩
theorem fp_X12_7 : fp RX12 7 12 0 1 (.array .int) true := ⟨RX12, TX12, 35, tyX12, rfl, by decide, by decide, iw_X12, wF_X12_7, rfl, tyX12_ok, nmX12, rfl, rfl, by decide +kernel⟩
theorem fl_X12_13 : fl RX12 13 12 1 1 := ⟨RX12, TX12, 35, rfl, by decide, by decide, iw_X12, wF_X12_13, rfl⟩
theorem fp_X12_13 : fp RX12 13 12 1 1 (.array .int) true := ⟨RX12, TX12, 35, tyX12, rfl, by decide, by decide, iw_X12, wF_X12_13, rfl, tyX12_ok, nmX12, rfl, rfl, by decide +kernel⟩
theorem fl_X12_88 : fl RX12 88 12 2 0 := ⟨RX12, TX12, 35, rfl, by decide, by decide, iw_X12, wF_X12_88, rfl⟩
theorem fp_X12_88 : fp RX12 88 12 2 0 .int false := ⟨RX12, TX12, 35, tyX12, rfl, by decide, by decide, iw_X12, wF_X12_88, rfl, tyX12_ok, nmX12, rfl, rfl, by decide +kernel⟩
theorem fl_X12_16 : fl RX12 16 12 3 1 := ⟨RX12, TX12, 35, rfl, by decide, by decide, iw_X12, wF_X12_16, rfl⟩
theorem fp_X12_16 : fp RX12 16 12 3 1 (.array .int) true := ⟨RX12, TX12, 35, tyX12, rfl, by decide, by decide, iw_X12, wF_X12_16, rfl, tyX12_ok, nmX12, rfl, rfl, by decide +kernel⟩
theorem fl_X12_19 : fl RX12 19 12 4 1 := ⟨RX12, TX12, 35, rfl, by decide, by decide, iw_X12, wF_X12_19, rfl⟩
theorem fp_X12_19 : fp RX12 19 12 4 1 (.array .int) true := ⟨RX12, TX12, 35, tyX12, rfl, by decide, by decide, iw_X12, wF_X12_19, rfl, tyX12_ok, nmX12, rfl, rfl, by decide +kernel⟩
theorem fl_X12_91 : fl RX12 91 12 5 0 := ⟨RX12, TX12, 35, rfl, by decide, by decide, iw_X12, wF_X12_91, rfl⟩
theorem fp_X12_91 : fp RX12 91 12 5 0 .int false := ⟨RX12, TX12, 35, tyX12, rfl, by decide, by decide, iw_X12, wF_X12_91, rfl, tyX12_ok, nmX12, rfl, rfl, by decide +kernel⟩
theorem fl_X12_97 : fl RX12 97 12 6 0 := ⟨RX12, TX12, 35, rfl, by decide, by decide, iw_X12, wF_X12_97, rfl⟩
theorem fp_X12_97 : fp RX12 97 12 6 0 .int false := ⟨RX12, TX12, 35, tyX12, rfl, by decide, by decide, iw_X12, wF_X12_97, rfl, tyX12_ok, nmX12, rfl, rfl, by decide +kernel⟩
theorem fl_X12_100 : fl RX12 100 12 7 0 := ⟨RX12, TX12, 35, rfl, by decide, by decide, iw_X12, wF_X12_100, rfl⟩
theorem fp_X12_100 : fp RX12 100 12 7 0 .int false := ⟨RX12, TX12, 35, tyX12, rfl, by decide, by decide, iw_X12, wF_X12_100, rfl, tyX12_ok, nmX12, rfl, rfl, by decide +kernel⟩
theorem fl_X12_22 : fl RX12 22 12 8 1 := ⟨RX12, TX12, 35, rfl, by decide, by decide, iw_X12, wF_X12_22, rfl⟩
theorem fp_X12_22 : fp RX12 22 12 8 1 (.array .int) true := ⟨RX12, TX12, 35, tyX12, rfl, by decide, by decide, iw_X12, wF_X12_22, rfl, tyX12_ok, nmX12, rfl, rfl, by decide +kernel⟩
theorem fl_X12_25 : fl RX12 25 12 9 0 := ⟨RX12, TX12, 35, rfl, by decide, by decide, iw_X12, wF_X12_25, rfl⟩
theorem fp_X12_25 : fp RX12 25 12 9 0 .int false := ⟨RX12, TX12, 35, tyX12, rfl, by decide, by decide, iw_X12, wF_X12_25, rfl, tyX12_ok, nmX12, rfl, rfl, by decide +kernel⟩
theorem fl_X12_29 : fl RX12 29 12 10 0 := ⟨RX12, TX12, 35, rfl, by decide, by decide, iw_X12, wF_X12_29, rfl⟩
theorem fp_X12_29 : fp RX12 29 12 10 0 .int false := ⟨RX12, TX12, 35, tyX12, rfl, by decide, by decide, iw_X12, wF_X12_29, rfl, tyX12_ok, nmX12, rfl, rfl, by decide +kernel⟩
theorem fl_X12_32 : fl RX12 32 12 11 1 := ⟨RX12, TX12, 35, rfl, by decide, by decide, iw_X12, wF_X12_32, rfl⟩
theorem fp_X12_32 : fp RX12 32 12 11 1 (.array .int) true := ⟨RX12, TX12, 35, tyX12, rfl, by decide, by decide, iw_X12, wF_X12_32, rfl, tyX12_ok, nmX12, rfl, rfl, by decide +kernel⟩
theorem fl_X12_35 : fl RX12 35 12 12 1 := ⟨RX12, TX12, 35, rfl, by decide, by decide, iw_X12, wF_X12_35, rfl⟩
theorem fp_X12_35 : fp RX12 35 12 12 1 (.array .int) true := ⟨RX12, TX12, 35, tyX12, rfl, by decide, by decide, iw_X12, wF_X12_35, rfl, tyX12_ok, nmX12, rfl, rfl, by decide +kernel⟩
theorem fl_X12_134 : fl RX12 134 12 13 0 := ⟨RX12, TX12, 35, rfl, by decide, by decide, iw_X12, wF_X12_134, rfl⟩
theorem fp_X12_134 : fp RX12 134 12 13 0 .int false := ⟨RX12, TX12, 35, tyX12, rfl, by decide, by decide, iw_X12, wF_X12_134, rfl, tyX12_ok, nmX12, rfl, rfl, by decide +kernel⟩
theorem fl_X12_38 : fl RX12 38 12 14 1 := ⟨RX12, TX12, 35, rfl, by decide, by decide, iw_X12, wF_X12_38, rfl⟩
theorem fp_X12_38 : fp RX12 38 12 14 1 (.array .int) true := ⟨RX12, TX12, 35, tyX12, rfl, by decide, by decide, iw_X12, wF_X12_38, rfl, tyX12_ok, nmX12, rfl, rfl, by decide +kernel⟩
theorem fl_X12_41 : fl RX12 41 12 15 1 := ⟨RX12, TX12, 35, rfl, by decide, by decide, iw_X12, wF_X12_41, rfl⟩
theorem fp_X12_41 : fp RX12 41 12 15 1 (.array .int) true := ⟨RX12, TX12, 35, tyX12, rfl, by decide, by decide, iw_X12, wF_X12_41, rfl, tyX12_ok, nmX12, rfl, rfl, by decide +kernel⟩
theorem fl_X12_44 : fl RX12 44 12 16 1 := ⟨RX12, TX12, 35, rfl, by decide, by decide, iw_X12, wF_X12_44, rfl⟩
theorem fp_X12_44 : fp RX12 44 12 16 1 (.array .int) true := ⟨RX12, TX12, 35, tyX12, rfl, by decide, by decide, iw_X12, wF_X12_44, rfl, tyX12_ok, nmX12, rfl, rfl, by decide +kernel⟩
theorem fl_X12_47 : fl RX12 47 12 17 1 := ⟨RX12, TX12, 35, rfl, by decide, by decide, iw_X12, wF_X12_47, rfl⟩
theorem fp_X12_47 : fp RX12 47 12 17 1 (.array .int) true := ⟨RX12, TX12, 35, tyX12, rfl, by decide, by decide, iw_X12, wF_X12_47, rfl, tyX12_ok, nmX12, rfl, rfl, by decide +kernel⟩
theorem fl_X12_170 : fl RX12 170 12 18 0 := ⟨RX12, TX12, 35, rfl, by decide, by decide, iw_X12, wF_X12_170, rfl⟩
theorem fp_X12_170 : fp RX12 170 12 18 0 .int false := ⟨RX12, TX12, 35, tyX12, rfl, by decide, by decide, iw_X12, wF_X12_170, rfl, tyX12_ok, nmX12, rfl, rfl, by decide +kernel⟩
theorem fl_X12_173 : fl RX12 173 12 19 0 := ⟨RX12, TX12, 35, rfl, by decide, by decide, iw_X12, wF_X12_173, rfl⟩
theorem fp_X12_173 : fp RX12 173 12 19 0 .int false := ⟨RX12, TX12, 35, tyX12, rfl, by decide, by decide, iw_X12, wF_X12_173, rfl, tyX12_ok, nmX12, rfl, rfl, by decide +kernel⟩
theorem fl_X12_180 : fl RX12 180 12 20 0 := ⟨RX12, TX12, 35, rfl, by decide, by decide, iw_X12, wF_X12_180, rfl⟩
theorem fp_X12_180 : fp RX12 180 12 20 0 .int false := ⟨RX12, TX12, 35, tyX12, rfl, by decide, by decide, iw_X12, wF_X12_180, rfl, tyX12_ok, nmX12, rfl, rfl, by decide +kernel⟩
theorem fl_X12_50 : fl RX12 50 12 21 1 := ⟨RX12, TX12, 35, rfl, by decide, by decide, iw_X12, wF_X12_50, rfl⟩
theorem fp_X12_50 : fp RX12 50 12 21 1 (.array .int) true := ⟨RX12, TX12, 35, tyX12, rfl, by decide, by decide, iw_X12, wF_X12_50, rfl, tyX12_ok, nmX12, rfl, rfl, by decide +kernel⟩
theorem fl_X12_195 : fl RX12 195 12 22 0 := ⟨RX12, TX12, 35, rfl, by decide, by decide, iw_X12, wF_X12_195, rfl⟩
theorem fp_X12_195 : fp RX12 195 12 22 0 .int false := ⟨RX12, TX12, 35, tyX12, rfl, by decide, by decide, iw_X12, wF_X12_195, rfl, tyX12_ok, nmX12, rfl, rfl, by decide +kernel⟩
theorem fl_X12_186 : fl RX12 186 12 23 0 := ⟨RX12, TX12, 35, rfl, by decide, by decide, iw_X12, wF_X12_186, rfl⟩
theorem fp_X12_186 : fp RX12 186 12 23 0 .int false := ⟨RX12, TX12, 35, tyX12, rfl, by decide, by decide, iw_X12, wF_X12_186, rfl, tyX12_ok, nmX12, rfl, rfl, by decide +kernel⟩
theorem fl_X12_53 : fl RX12 53 12 24 1 := ⟨RX12, TX12, 35, rfl, by decide, by decide, iw_X12, wF_X12_53, rfl⟩
theorem fp_X12_53 : fp RX12 53 12 24 1 (.array .int) true := ⟨RX12, TX12, 35, tyX12, rfl, by decide, by decide, iw_X12, wF_X12_53, rfl, tyX12_ok, nmX12, rfl, rfl, by decide +kernel⟩
theorem fl_X12_56 : fl RX12 56 12 25 1 := ⟨RX12, TX12, 35, rfl, by decide, by decide, iw_X12, wF_X12_56, rfl⟩
theorem fp_X12_56 : fp RX12 56 12 25 1 (.array .int) true := ⟨RX12, TX12, 35, tyX12, rfl, by decide, by decide, iw_X12, wF_X12_56, rfl, tyX12_ok, nmX12, rfl, rfl, by decide +kernel⟩
theorem fl_X12_59 : fl RX12 59 12 26 1 := ⟨RX12, TX12, 35, rfl, by decide, by decide, iw_X12, wF_X12_59, rfl⟩
theorem fp_X12_59 : fp RX12 59 12 26 1 (.array .int) true := ⟨RX12, TX12, 35, tyX12, rfl, by decide, by decide, iw_X12, wF_X12_59, rfl, tyX12_ok, nmX12, rfl, rfl, by decide +kernel⟩
theorem fl_X12_233 : fl RX12 233 12 27 0 := ⟨RX12, TX12, 35, rfl, by decide, by decide, iw_X12, wF_X12_233, rfl⟩
theorem fp_X12_233 : fp RX12 233 12 27 0 .int false := ⟨RX12, TX12, 35, tyX12, rfl, by decide, by decide, iw_X12, wF_X12_233, rfl, tyX12_ok, nmX12, rfl, rfl, by decide +kernel⟩
theorem fl_X12_227 : fl RX12 227 12 28 0 := ⟨RX12, TX12, 35, rfl, by decide, by decide, iw_X12, wF_X12_227, rfl⟩
theorem fp_X12_227 : fp RX12 227 12 28 0 .int false := ⟨RX12, TX12, 35, tyX12, rfl, by decide, by decide, iw_X12, wF_X12_227, rfl, tyX12_ok, nmX12, rfl, rfl, by decide +kernel⟩
theorem fl_X12_62 : fl RX12 62 12 29 1 := ⟨RX12, TX12, 35, rfl, by decide, by decide, iw_X12, wF_X12_62, rfl⟩
theorem fp_X12_62 : fp RX12 62 12 29 1 (.array .int) true := ⟨RX12, TX12, 35, tyX12, rfl, by decide, by decide, iw_X12, wF_X12_62, rfl, tyX12_ok, nmX12, rfl, rfl, by decide +kernel⟩
theorem fl_X12_243 : fl RX12 243 12 30 0 := ⟨RX12, TX12, 35, rfl, by decide, by decide, iw_X12, wF_X12_243, rfl⟩
theorem fp_X12_243 : fp RX12 243 12 30 0 .int false := ⟨RX12, TX12, 35, tyX12, rfl, by decide, by decide, iw_X12, wF_X12_243, rfl, tyX12_ok, nmX12, rfl, rfl, by decide +kernel⟩
theorem fl_X12_65 : fl RX12 65 12 31 1 := ⟨RX12, TX12, 35, rfl, by decide, by decide, iw_X12, wF_X12_65, rfl⟩
theorem fp_X12_65 : fp RX12 65 12 31 1 (.array .int) true := ⟨RX12, TX12, 35, tyX12, rfl, by decide, by decide, iw_X12, wF_X12_65, rfl, tyX12_ok, nmX12, rfl, rfl, by decide +kernel⟩
theorem fl_X12_249 : fl RX12 249 12 32 0 := ⟨RX12, TX12, 35, rfl, by decide, by decide, iw_X12, wF_X12_249, rfl⟩
theorem fp_X12_249 : fp RX12 249 12 32 0 .int false := ⟨RX12, TX12, 35, tyX12, rfl, by decide, by decide, iw_X12, wF_X12_249, rfl, tyX12_ok, nmX12, rfl, rfl, by decide +kernel⟩
theorem fl_X12_246 : fl RX12 246 12 33 0 := ⟨RX12, TX12, 35, rfl, by decide, by decide, iw_X12, wF_X12_246, rfl⟩
theorem fp_X12_246 : fp RX12 246 12 33 0 .int false := ⟨RX12, TX12, 35, tyX12, rfl, by decide, by decide, iw_X12, wF_X12_246, rfl, tyX12_ok, nmX12, rfl, rfl, by decide +kernel⟩
theorem fl_X12_284 : fl RX12 284 12 34 2 := ⟨RX12, TX12, 35, rfl, by decide, by decide, iw_X12, wF_X12_284, rfl⟩
theorem fp_X12_284 : fp RX12 284 12 34 2 .long false := ⟨RX12, TX12, 35, tyX12, rfl, by decide, by decide, iw_X12, wF_X12_284, rfl, tyX12_ok, nmX12, rfl, rfl, by decide +kernel⟩
theorem cf_X0 : cf 0 7 RX0 := ⟨TX0, tyX0, rfl, by decide, iw_X0, tyX0_ok, wA_X0, wN_X0, by decide +kernel⟩
theorem cf_X1 : cf 1 5 RX1 := ⟨TX1, tyX1, rfl, by decide, iw_X1, tyX1_ok, wA_X1, wN_X1, by decide +kernel⟩
theorem cf_X2 : cf 2 3 RX2 := ⟨TX2, tyX2, rfl, by decide, iw_X2, tyX2_ok, wA_X2, wN_X2, by decide +kernel⟩
theorem cf_X3 : cf 3 4 RX3 := ⟨TX3, tyX3, rfl, by decide, iw_X3, tyX3_ok, wA_X3, wN_X3, by decide +kernel⟩
theorem cf_X4 : cf 4 2 RX4 := ⟨TX4, tyX4, rfl, by decide, iw_X4, tyX4_ok, wA_X4, wN_X4, by decide +kernel⟩
theorem cf_X5 : cf 5 4 RX5 := ⟨TX5, tyX5, rfl, by decide, iw_X5, tyX5_ok, wA_X5, wN_X5, by decide +kernel⟩
theorem cf_X6 : cf 6 8 RX6 := ⟨TX6, tyX6, rfl, by decide, iw_X6, tyX6_ok, wA_X6, wN_X6, by decide +kernel⟩
theorem cf_X7 : cf 7 4 RX7 := ⟨TX7, tyX7, rfl, by decide, iw_X7, tyX7_ok, wA_X7, wN_X7, by decide +kernel⟩
theorem cf_X8 : cf 8 3 RX8 := ⟨TX8, tyX8, rfl, by decide, iw_X8, tyX8_ok, wA_X8, wN_X8, by decide +kernel⟩
theorem cf_X9 : cf 9 2 RX9 := ⟨TX9, tyX9, rfl, by decide, iw_X9, tyX9_ok, wA_X9, wN_X9, by decide +kernel⟩
theorem cf_X10 : cf 10 6 RX10 := ⟨TX10, tyX10, rfl, by decide, iw_X10, tyX10_ok, wA_X10, wN_X10, by decide +kernel⟩
theorem cf_X11 : cf 11 10 RX11 := ⟨TX11, tyX11, rfl, by decide, iw_X11, tyX11_ok, wA_X11, wN_X11, by decide +kernel⟩
theorem cf_X12 : cf 12 35 RX12 := ⟨TX12, tyX12, rfl, by decide, iw_X12, tyX12_ok, wA_X12, wN_X12, by decide +kernel⟩
theorem cb_yX11_init : cb mX11_init 0 := ⟨wN_X11, wC_yX11_init, by decide, by decide, by decide +kernel, by decide, by decide⟩
theorem cb_yX5_init : cb mX5_init 0 := ⟨wN_X5, wC_yX5_init, by decide, by decide, by decide +kernel, by decide, by decide⟩
theorem cb_yX2_init : cb mX2_init 0 := ⟨wN_X2, wC_yX2_init, by decide, by decide, by decide +kernel, by decide, by decide⟩
theorem cb_yX9_init : cb mX9_init 1 := ⟨wN_X9, wC_yX9_init, by decide, by decide, by decide +kernel, by decide, by decide⟩
theorem cb_yX1_init : cb mX1_init 0 := ⟨wN_X1, wC_yX1_init, by decide, by decide, by decide +kernel, by decide, by decide⟩
theorem cb_yX0_init : cb mX0_init 0 := ⟨wN_X0, wC_yX0_init, by decide, by decide, by decide +kernel, by decide, by decide⟩
theorem cb_yX8_init : cb mX8_init 0 := ⟨wN_X8, wC_yX8_init, by decide, by decide, by decide +kernel, by decide, by decide⟩
theorem cb_yX10_init : cb mX10_init 1 := ⟨wN_X10, wC_yX10_init, by decide, by decide, by decide +kernel, by decide, by decide⟩
theorem cb_yX4_init : cb mX4_init 0 := ⟨wN_X4, wC_yX4_init, by decide, by decide, by decide +kernel, by decide, by decide⟩
theorem cb_yX7_init : cb mX7_init 0 := ⟨wN_X7, wC_yX7_init, by decide, by decide, by decide +kernel, by decide, by decide⟩
theorem cb_yX3_init : cb mX3_init 0 := ⟨wN_X3, wC_yX3_init, by decide, by decide, by decide +kernel, by decide, by decide⟩
theorem cb_yX11_add : cb mX11_add 2 := ⟨wN_X11, wC_yX11_add, by decide, by decide, by decide +kernel, by decide, by decide⟩
theorem ci_yX11_add : ci mX11_add 11 := ⟨wI_yX11_add, wS_yX11_add, by decide, _, _, rfl⟩
theorem cb_yX11_isList : cb mX11_isList 1 := ⟨wN_X11, wC_yX11_isList, by decide, by decide, by decide +kernel, by decide, by decide⟩
theorem cb_yX11_isValue : cb mX11_isValue 1 := ⟨wN_X11, wC_yX11_isValue, by decide, by decide, by decide +kernel, by decide, by decide⟩
theorem cb_yX9_has : cb mX9_has 1 := ⟨wN_X9, wC_yX9_has, by decide, by decide, by decide +kernel, by decide, by decide⟩
theorem ci_yX9_has : ci mX9_has 9 := ⟨wI_yX9_has, wS_yX9_has, by decide, _, _, rfl⟩
theorem cb_yX9_firstAtLeast : cb mX9_firstAtLeast 1 := ⟨wN_X9, wC_yX9_firstAtLeast, by decide, by decide, by decide +kernel, by decide, by decide⟩
theorem ci_yX9_firstAtLeast : ci mX9_firstAtLeast 9 := ⟨wI_yX9_firstAtLeast, wS_yX9_firstAtLeast, by decide, _, _, rfl⟩
theorem cb_yX9_get : cb mX9_get 1 := ⟨wN_X9, wC_yX9_get, by decide, by decide, by decide +kernel, by decide, by decide⟩
theorem ci_yX9_get : ci mX9_get 9 := ⟨wI_yX9_get, wS_yX9_get, by decide, _, _, rfl⟩
theorem cb_yX11_beginChange : cb mX11_beginChange 1 := ⟨wN_X11, wC_yX11_beginChange, by decide, by decide, by decide +kernel, by decide, by decide⟩
theorem ci_yX11_beginChange : ci mX11_beginChange 11 := ⟨wI_yX11_beginChange, wS_yX11_beginChange, by decide, _, _, rfl⟩
theorem cb_yX5_record : cb mX5_record 2 := ⟨wN_X5, wC_yX5_record, by decide, by decide, by decide +kernel, by decide, by decide⟩
theorem ci_yX5_record : ci mX5_record 5 := ⟨wI_yX5_record, wS_yX5_record, by decide, _, _, rfl⟩
theorem cb_yX2_copyFrom : cb mX2_copyFrom 1 := ⟨wN_X2, wC_yX2_copyFrom, by decide, by decide, by decide +kernel, by decide, by decide⟩
theorem ci_yX2_copyFrom : ci mX2_copyFrom 2 := ⟨wI_yX2_copyFrom, wS_yX2_copyFrom, by decide, _, _, rfl⟩
theorem cb_yX9_copyFrom : cb mX9_copyFrom 1 := ⟨wN_X9, wC_yX9_copyFrom, by decide, by decide, by decide +kernel, by decide, by decide⟩
theorem ci_yX9_copyFrom : ci mX9_copyFrom 9 := ⟨wI_yX9_copyFrom, wS_yX9_copyFrom, by decide, _, _, rfl⟩
theorem cb_yX1_forget : cb mX1_forget 1 := ⟨wN_X1, wC_yX1_forget, by decide, by decide, by decide +kernel, by decide, by decide⟩
theorem ci_yX1_forget : ci mX1_forget 1 := ⟨wI_yX1_forget, wS_yX1_forget, by decide, _, _, rfl⟩
theorem cb_yX2_insert : cb mX2_insert 1 := ⟨wN_X2, wC_yX2_insert, by decide, by decide, by decide +kernel, by decide, by decide⟩
theorem ci_yX2_insert : ci mX2_insert 2 := ⟨wI_yX2_insert, wS_yX2_insert, by decide, _, _, rfl⟩
theorem cb_yX2_lastBlockUpTo : cb mX2_lastBlockUpTo 1 := ⟨wN_X2, wC_yX2_lastBlockUpTo, by decide, by decide, by decide +kernel, by decide, by decide⟩
theorem ci_yX2_lastBlockUpTo : ci mX2_lastBlockUpTo 2 := ⟨wI_yX2_lastBlockUpTo, wS_yX2_lastBlockUpTo, by decide, _, _, rfl⟩
theorem cb_yX2_startOf : cb mX2_startOf 1 := ⟨wN_X2, wC_yX2_startOf, by decide, by decide, by decide +kernel, by decide, by decide⟩
theorem ci_yX2_startOf : ci mX2_startOf 2 := ⟨wI_yX2_startOf, wS_yX2_startOf, by decide, _, _, rfl⟩
theorem cb_yX2_startBlock : cb mX2_startBlock 1 := ⟨wN_X2, wC_yX2_startBlock, by decide, by decide, by decide +kernel, by decide, by decide⟩
theorem ci_yX2_startBlock : ci mX2_startBlock 2 := ⟨wI_yX2_startBlock, wS_yX2_startBlock, by decide, _, _, rfl⟩
theorem cb_yX9_insert : cb mX9_insert 1 := ⟨wN_X9, wC_yX9_insert, by decide, by decide, by decide +kernel, by decide, by decide⟩
theorem ci_yX9_insert : ci mX9_insert 9 := ⟨wI_yX9_insert, wS_yX9_insert, by decide, _, _, rfl⟩
theorem cb_yX2_moveStarts : cb mX2_moveStarts 2 := ⟨wN_X2, wC_yX2_moveStarts, by decide, by decide, by decide +kernel, by decide, by decide⟩
theorem ci_yX2_moveStarts : ci mX2_moveStarts 2 := ⟨wI_yX2_moveStarts, wS_yX2_moveStarts, by decide, _, _, rfl⟩
theorem cb_yX2_split : cb mX2_split 2 := ⟨wN_X2, wC_yX2_split, by decide, by decide, by decide +kernel, by decide, by decide⟩
theorem ci_yX2_split : ci mX2_split 2 := ⟨wI_yX2_split, wS_yX2_split, by decide, _, _, rfl⟩
theorem cb_yX11_remove : cb mX11_remove 2 := ⟨wN_X11, wC_yX11_remove, by decide, by decide, by decide +kernel, by decide, by decide⟩
theorem ci_yX11_remove : ci mX11_remove 11 := ⟨wI_yX11_remove, wS_yX11_remove, by decide, _, _, rfl⟩
theorem cb_yX2_delete : cb mX2_delete 1 := ⟨wN_X2, wC_yX2_delete, by decide, by decide, by decide +kernel, by decide, by decide⟩
theorem ci_yX2_delete : ci mX2_delete 2 := ⟨wI_yX2_delete, wS_yX2_delete, by decide, _, _, rfl⟩
theorem cb_yX9_delete : cb mX9_delete 1 := ⟨wN_X9, wC_yX9_delete, by decide, by decide, by decide +kernel, by decide, by decide⟩
theorem ci_yX9_delete : ci mX9_delete 9 := ⟨wI_yX9_delete, wS_yX9_delete, by decide, _, _, rfl⟩
theorem cb_yX2_dropBlock : cb mX2_dropBlock 1 := ⟨wN_X2, wC_yX2_dropBlock, by decide, by decide, by decide +kernel, by decide, by decide⟩
theorem ci_yX2_dropBlock : ci mX2_dropBlock 2 := ⟨wI_yX2_dropBlock, wS_yX2_dropBlock, by decide, _, _, rfl⟩
theorem cb_yX11_pack : cb mX11_pack 2 := ⟨wN_X11, wC_yX11_pack, by decide, by decide, by decide +kernel, by decide, by decide⟩
theorem ci_yX11_pack : ci mX11_pack 11 := ⟨wI_yX11_pack, wS_yX11_pack, by decide, _, _, rfl⟩
theorem cb_yX11_isPacking : cb mX11_isPacking 1 := ⟨wN_X11, wC_yX11_isPacking, by decide, by decide, by decide +kernel, by decide, by decide⟩
theorem cb_yX8_cut : cb mX8_cut 1 := ⟨wN_X8, wC_yX8_cut, by decide, by decide, by decide +kernel, by decide, by decide⟩
theorem ci_yX8_cut : ci mX8_cut 8 := ⟨wI_yX8_cut, wS_yX8_cut, by decide, _, _, rfl⟩
theorem cb_yX8_plan : cb mX8_plan 1 := ⟨wN_X8, wC_yX8_plan, by decide, by decide, by decide +kernel, by decide, by decide⟩
theorem ci_yX8_plan : ci mX8_plan 8 := ⟨wI_yX8_plan, wS_yX8_plan, by decide, _, _, rfl⟩
theorem cb_yX8_widestOf : cb mX8_widestOf 1 := ⟨wN_X8, wC_yX8_widestOf, by decide, by decide, by decide +kernel, by decide, by decide⟩
theorem cb_yX9_gapBefore : cb mX9_gapBefore 1 := ⟨wN_X9, wC_yX9_gapBefore, by decide, by decide, by decide +kernel, by decide, by decide⟩
theorem ci_yX9_gapBefore : ci mX9_gapBefore 9 := ⟨wI_yX9_gapBefore, wS_yX9_gapBefore, by decide, _, _, rfl⟩
theorem cb_yX11_bitsOf : cb mX11_bitsOf 1 := ⟨wN_X11, wC_yX11_bitsOf, by decide, by decide, by decide +kernel, by decide, by decide⟩
theorem cb_yX10_makeEmpty : cb mX10_makeEmpty 0 := ⟨wN_X10, wC_yX10_makeEmpty, by decide, by decide, by decide +kernel, by decide, by decide⟩
theorem ci_yX10_makeEmpty : ci mX10_makeEmpty 10 := ⟨wI_yX10_makeEmpty, wS_yX10_makeEmpty, by decide, _, _, rfl⟩
theorem cb_yX8_chooseEnd : cb mX8_chooseEnd 2 := ⟨wN_X8, wC_yX8_chooseEnd, by decide, by decide, by decide +kernel, by decide, by decide⟩
theorem ci_yX8_chooseEnd : ci mX8_chooseEnd 8 := ⟨wI_yX8_chooseEnd, wS_yX8_chooseEnd, by decide, _, _, rfl⟩
theorem cb_yX10_admit : cb mX10_admit 2 := ⟨wN_X10, wC_yX10_admit, by decide, by decide, by decide +kernel, by decide, by decide⟩
theorem ci_yX10_admit : ci mX10_admit 10 := ⟨wI_yX10_admit, wS_yX10_admit, by decide, _, _, rfl⟩
theorem cb_yX10_slot : cb mX10_slot 1 := ⟨wN_X10, wC_yX10_slot, by decide, by decide, by decide +kernel, by decide, by decide⟩
theorem ci_yX10_slot : ci mX10_slot 10 := ⟨wI_yX10_slot, wS_yX10_slot, by decide, _, _, rfl⟩
theorem cb_yX10_leastRank : cb mX10_leastRank 0 := ⟨wN_X10, wC_yX10_leastRank, by decide, by decide, by decide +kernel, by decide, by decide⟩
theorem ci_yX10_leastRank : ci mX10_leastRank 10 := ⟨wI_yX10_leastRank, wS_yX10_leastRank, by decide, _, _, rfl⟩
theorem cb_yX10_endOfLeast : cb mX10_endOfLeast 0 := ⟨wN_X10, wC_yX10_endOfLeast, by decide, by decide, by decide +kernel, by decide, by decide⟩
theorem ci_yX10_endOfLeast : ci mX10_endOfLeast 10 := ⟨wI_yX10_endOfLeast, wS_yX10_endOfLeast, by decide, _, _, rfl⟩
theorem cb_yX8_passGap : cb mX8_passGap 2 := ⟨wN_X8, wC_yX8_passGap, by decide, by decide, by decide +kernel, by decide, by decide⟩
theorem ci_yX8_passGap : ci mX8_passGap 8 := ⟨wI_yX8_passGap, wS_yX8_passGap, by decide, _, _, rfl⟩
theorem cb_yX10_passGap : cb mX10_passGap 1 := ⟨wN_X10, wC_yX10_passGap, by decide, by decide, by decide +kernel, by decide, by decide⟩
theorem ci_yX10_passGap : ci mX10_passGap 10 := ⟨wI_yX10_passGap, wS_yX10_passGap, by decide, _, _, rfl⟩
theorem cb_yX2_cutBy : cb mX2_cutBy 1 := ⟨wN_X2, wC_yX2_cutBy, by decide, by decide, by decide +kernel, by decide, by decide⟩
theorem ci_yX2_cutBy : ci mX2_cutBy 2 := ⟨wI_yX2_cutBy, wS_yX2_cutBy, by decide, _, _, rfl⟩
theorem cb_yX11_sumOfBlocks : cb mX11_sumOfBlocks 2 := ⟨wN_X11, wC_yX11_sumOfBlocks, by decide, by decide, by decide +kernel, by decide, by decide⟩
theorem ci_yX11_sumOfBlocks : ci mX11_sumOfBlocks 11 := ⟨wI_yX11_sumOfBlocks, wS_yX11_sumOfBlocks, by decide, _, _, rfl⟩
theorem cb_yX11_measured : cb mX11_measured 2 := ⟨wN_X11, wC_yX11_measured, by decide, by decide, by decide +kernel, by decide, by decide⟩
theorem ci_yX11_measured : ci mX11_measured 11 := ⟨wI_yX11_measured, wS_yX11_measured, by decide, _, _, rfl⟩
theorem cb_yX0_measure : cb mX0_measure 3 := ⟨wN_X0, wC_yX0_measure, by decide, by decide, by decide +kernel, by decide, by decide⟩
theorem ci_yX0_measure : ci mX0_measure 0 := ⟨wI_yX0_measure, wS_yX0_measure, by decide, _, _, rfl⟩
theorem cb_yJ7_fill_53178 : cb mJ7_fill_53178 2 := ⟨wN_J7, wC_yJ7_fill_53178, by decide, by decide, by decide +kernel, by decide, by decide⟩
theorem cb_yX0_chooseWidth : cb mX0_chooseWidth 1 := ⟨wN_X0, wC_yX0_chooseWidth, by decide, by decide, by decide +kernel, by decide, by decide⟩
theorem ci_yX0_chooseWidth : ci mX0_chooseWidth 0 := ⟨wI_yX0_chooseWidth, wS_yX0_chooseWidth, by decide, _, _, rfl⟩
theorem cb_yX0_costWith : cb mX0_costWith 2 := ⟨wN_X0, wC_yX0_costWith, by decide, by decide, by decide +kernel, by decide, by decide⟩
theorem ci_yX0_costWith : ci mX0_costWith 0 := ⟨wI_yX0_costWith, wS_yX0_costWith, by decide, _, _, rfl⟩
theorem cb_yX0_property : cb mX0_property 1 := ⟨wN_X0, wC_yX0_property, by decide, by decide, by decide +kernel, by decide, by decide⟩
theorem ci_yX0_property : ci mX0_property 0 := ⟨wI_yX0_property, wS_yX0_property, by decide, _, _, rfl⟩
theorem cb_yX0_words : cb mX0_words 0 := ⟨wN_X0, wC_yX0_words, by decide, by decide, by decide +kernel, by decide, by decide⟩
theorem ci_yX0_words : ci mX0_words 0 := ⟨wI_yX0_words, wS_yX0_words, by decide, _, _, rfl⟩
theorem cb_yX11_load : cb mX11_load 1 := ⟨wN_X11, wC_yX11_load, by decide, by decide, by decide +kernel, by decide, by decide⟩
theorem ci_yX11_load : ci mX11_load 11 := ⟨wI_yX11_load, wS_yX11_load, by decide, _, _, rfl⟩
theorem cb_yX7_read : cb mX7_read 1 := ⟨wN_X7, wC_yX7_read, by decide, by decide, by decide +kernel, by decide, by decide⟩
theorem ci_yX7_read : ci mX7_read 7 := ⟨wI_yX7_read, wS_yX7_read, by decide, _, _, rfl⟩
theorem cb_yX7_skipBlanks : cb mX7_skipBlanks 0 := ⟨wN_X7, wC_yX7_skipBlanks, by decide, by decide, by decide +kernel, by decide, by decide⟩
theorem ci_yX7_skipBlanks : ci mX7_skipBlanks 7 := ⟨wI_yX7_skipBlanks, wS_yX7_skipBlanks, by decide, _, _, rfl⟩
theorem cb_yX7_readPart : cb mX7_readPart 1 := ⟨wN_X7, wC_yX7_readPart, by decide, by decide, by decide +kernel, by decide, by decide⟩
theorem ci_yX7_readPart : ci mX7_readPart 7 := ⟨wI_yX7_readPart, wS_yX7_readPart, by decide, _, _, rfl⟩
theorem cb_yX7_readNumber : cb mX7_readNumber 1 := ⟨wN_X7, wC_yX7_readNumber, by decide, by decide, by decide +kernel, by decide, by decide⟩
theorem ci_yX7_readNumber : ci mX7_readNumber 7 := ⟨wI_yX7_readNumber, wS_yX7_readNumber, by decide, _, _, rfl⟩
theorem cb_yX7_isDigit : cb mX7_isDigit 1 := ⟨wN_X7, wC_yX7_isDigit, by decide, by decide, by decide +kernel, by decide, by decide⟩
theorem cb_yX7_stepOver : cb mX7_stepOver 0 := ⟨wN_X7, wC_yX7_stepOver, by decide, by decide, by decide +kernel, by decide, by decide⟩
theorem ci_yX7_stepOver : ci mX7_stepOver 7 := ⟨wI_yX7_stepOver, wS_yX7_stepOver, by decide, _, _, rfl⟩
theorem cb_yX9_append : cb mX9_append 1 := ⟨wN_X9, wC_yX9_append, by decide, by decide, by decide +kernel, by decide, by decide⟩
theorem ci_yX9_append : ci mX9_append 9 := ⟨wI_yX9_append, wS_yX9_append, by decide, _, _, rfl⟩
theorem cb_yX11_replaceNumbers : cb mX11_replaceNumbers 2 := ⟨wN_X11, wC_yX11_replaceNumbers, by decide, by decide, by decide +kernel, by decide, by decide⟩
theorem ci_yX11_replaceNumbers : ci mX11_replaceNumbers 11 := ⟨wI_yX11_replaceNumbers, wS_yX11_replaceNumbers, by decide, _, _, rfl⟩
theorem cb_yX11_store : cb mX11_store 1 := ⟨wN_X11, wC_yX11_store, by decide, by decide, by decide +kernel, by decide, by decide⟩
theorem ci_yX11_store : ci mX11_store 11 := ⟨wI_yX11_store, wS_yX11_store, by decide, _, _, rfl⟩
theorem cb_yX11_clear : cb mX11_clear 1 := ⟨wN_X11, wC_yX11_clear, by decide, by decide, by decide +kernel, by decide, by decide⟩
theorem ci_yX11_clear : ci mX11_clear 11 := ⟨wI_yX11_clear, wS_yX11_clear, by decide, _, _, rfl⟩
theorem cb_yX2_makeEmpty : cb mX2_makeEmpty 0 := ⟨wN_X2, wC_yX2_makeEmpty, by decide, by decide, by decide +kernel, by decide, by decide⟩
theorem ci_yX2_makeEmpty : ci mX2_makeEmpty 2 := ⟨wI_yX2_makeEmpty, wS_yX2_makeEmpty, by decide, _, _, rfl⟩
theorem cb_yX11_undo : cb mX11_undo 0 := ⟨wN_X11, wC_yX11_undo, by decide, by decide, by decide +kernel, by decide, by decide⟩
theorem ci_yX11_undo : ci mX11_undo 11 := ⟨wI_yX11_undo, wS_yX11_undo, by decide, _, _, rfl⟩
theorem cb_yX5_restoreLatest : cb mX5_restoreLatest 1 := ⟨wN_X5, wC_yX5_restoreLatest, by decide, by decide, by decide +kernel, by decide, by decide⟩
theorem ci_yX5_restoreLatest : ci mX5_restoreLatest 5 := ⟨wI_yX5_restoreLatest, wS_yX5_restoreLatest, by decide, _, _, rfl⟩
theorem cb_yX1_forgetAll : cb mX1_forgetAll 0 := ⟨wN_X1, wC_yX1_forgetAll, by decide, by decide, by decide +kernel, by decide, by decide⟩
theorem ci_yX1_forgetAll : ci mX1_forgetAll 1 := ⟨wI_yX1_forgetAll, wS_yX1_forgetAll, by decide, _, _, rfl⟩
theorem cb_yX11_type : cb mX11_type 1 := ⟨wN_X11, wC_yX11_type, by decide, by decide, by decide +kernel, by decide, by decide⟩
theorem ci_yX11_type : ci mX11_type 11 := ⟨wI_yX11_type, wS_yX11_type, by decide, _, _, rfl⟩
theorem cb_yX11_erase : cb mX11_erase 0 := ⟨wN_X11, wC_yX11_erase, by decide, by decide, by decide +kernel, by decide, by decide⟩
theorem ci_yX11_erase : ci mX11_erase 11 := ⟨wI_yX11_erase, wS_yX11_erase, by decide, _, _, rfl⟩
theorem cb_yX11_list : cb mX11_list 2 := ⟨wN_X11, wC_yX11_list, by decide, by decide, by decide +kernel, by decide, by decide⟩
theorem ci_yX11_list : ci mX11_list 11 := ⟨wI_yX11_list, wS_yX11_list, by decide, _, _, rfl⟩
theorem cb_yX11_block : cb mX11_block 3 := ⟨wN_X11, wC_yX11_block, by decide, by decide, by decide +kernel, by decide, by decide⟩
theorem ci_yX11_block : ci mX11_block 11 := ⟨wI_yX11_block, wS_yX11_block, by decide, _, _, rfl⟩
theorem cb_yX11_isBlock : cb mX11_isBlock 2 := ⟨wN_X11, wC_yX11_isBlock, by decide, by decide, by decide +kernel, by decide, by decide⟩
theorem ci_yX11_isBlock : ci mX11_isBlock 11 := ⟨wI_yX11_isBlock, wS_yX11_isBlock, by decide, _, _, rfl⟩
theorem cb_yX11_word : cb mX11_word 3 := ⟨wN_X11, wC_yX11_word, by decide, by decide, by decide +kernel, by decide, by decide⟩
theorem ci_yX11_word : ci mX11_word 11 := ⟨wI_yX11_word, wS_yX11_word, by decide, _, _, rfl⟩
theorem cb_yX0_wordAt : cb mX0_wordAt 1 := ⟨wN_X0, wC_yX0_wordAt, by decide, by decide, by decide +kernel, by decide, by decide⟩
theorem ci_yX0_wordAt : ci mX0_wordAt 0 := ⟨wI_yX0_wordAt, wS_yX0_wordAt, by decide, _, _, rfl⟩
theorem cb_yX11_exception : cb mX11_exception 4 := ⟨wN_X11, wC_yX11_exception, by decide, by decide, by decide +kernel, by decide, by decide⟩
theorem ci_yX11_exception : ci mX11_exception 11 := ⟨wI_yX11_exception, wS_yX11_exception, by decide, _, _, rfl⟩
theorem cb_yX0_highPart : cb mX0_highPart 1 := ⟨wN_X0, wC_yX0_highPart, by decide, by decide, by decide +kernel, by decide, by decide⟩
theorem ci_yX0_highPart : ci mX0_highPart 0 := ⟨wI_yX0_highPart, wS_yX0_highPart, by decide, _, _, rfl⟩
theorem cb_yX11_gaps : cb mX11_gaps 2 := ⟨wN_X11, wC_yX11_gaps, by decide, by decide, by decide +kernel, by decide, by decide⟩
theorem ci_yX11_gaps : ci mX11_gaps 11 := ⟨wI_yX11_gaps, wS_yX11_gaps, by decide, _, _, rfl⟩
theorem cb_yX11_costBy : cb mX11_costBy 2 := ⟨wN_X11, wC_yX11_costBy, by decide, by decide, by decide +kernel, by decide, by decide⟩
theorem ci_yX11_costBy : ci mX11_costBy 11 := ⟨wI_yX11_costBy, wS_yX11_costBy, by decide, _, _, rfl⟩
theorem cb_yX8_leastCost : cb mX8_leastCost 1 := ⟨wN_X8, wC_yX8_leastCost, by decide, by decide, by decide +kernel, by decide, by decide⟩
theorem ci_yX8_leastCost : ci mX8_leastCost 8 := ⟨wI_yX8_leastCost, wS_yX8_leastCost, by decide, _, _, rfl⟩
theorem cb_yX11_part : cb mX11_part 4 := ⟨wN_X11, wC_yX11_part, by decide, by decide, by decide +kernel, by decide, by decide⟩
theorem ci_yX11_part : ci mX11_part 11 := ⟨wI_yX11_part, wS_yX11_part, by decide, _, _, rfl⟩
theorem cb_yX11_at : cb mX11_at 2 := ⟨wN_X11, wC_yX11_at, by decide, by decide, by decide +kernel, by decide, by decide⟩
theorem ci_yX11_at : ci mX11_at 11 := ⟨wI_yX11_at, wS_yX11_at, by decide, _, _, rfl⟩
theorem cb_yX1_look : cb mX1_look 2 := ⟨wN_X1, wC_yX1_look, by decide, by decide, by decide +kernel, by decide, by decide⟩
theorem ci_yX1_look : ci mX1_look 1 := ⟨wI_yX1_look, wS_yX1_look, by decide, _, _, rfl⟩
theorem cb_yX1_placeOf : cb mX1_placeOf 2 := ⟨wN_X1, wC_yX1_placeOf, by decide, by decide, by decide +kernel, by decide, by decide⟩
theorem ci_yX1_placeOf : ci mX1_placeOf 1 := ⟨wI_yX1_placeOf, wS_yX1_placeOf, by decide, _, _, rfl⟩
theorem cb_yX11_find : cb mX11_find 3 := ⟨wN_X11, wC_yX11_find, by decide, by decide, by decide +kernel, by decide, by decide⟩
theorem ci_yX11_find : ci mX11_find 11 := ⟨wI_yX11_find, wS_yX11_find, by decide, _, _, rfl⟩
theorem cb_yX11_cached : cb mX11_cached 2 := ⟨wN_X11, wC_yX11_cached, by decide, by decide, by decide +kernel, by decide, by decide⟩
theorem ci_yX11_cached : ci mX11_cached 11 := ⟨wI_yX11_cached, wS_yX11_cached, by decide, _, _, rfl⟩
theorem cb_yX11_query : cb mX11_query 0 := ⟨wN_X11, wC_yX11_query, by decide, by decide, by decide +kernel, by decide, by decide⟩
theorem ci_yX11_query : ci mX11_query 11 := ⟨wI_yX11_query, wS_yX11_query, by decide, _, _, rfl⟩
theorem cb_yX3_read : cb mX3_read 1 := ⟨wN_X3, wC_yX3_read, by decide, by decide, by decide +kernel, by decide, by decide⟩
theorem ci_yX3_read : ci mX3_read 3 := ⟨wI_yX3_read, wS_yX3_read, by decide, _, _, rfl⟩
theorem cb_yX3_take : cb mX3_take 1 := ⟨wN_X3, wC_yX3_take, by decide, by decide, by decide +kernel, by decide, by decide⟩
theorem ci_yX3_take : ci mX3_take 3 := ⟨wI_yX3_take, wS_yX3_take, by decide, _, _, rfl⟩
theorem cb_yX3_takeFactor : cb mX3_takeFactor 1 := ⟨wN_X3, wC_yX3_takeFactor, by decide, by decide, by decide +kernel, by decide, by decide⟩
theorem ci_yX3_takeFactor : ci mX3_takeFactor 3 := ⟨wI_yX3_takeFactor, wS_yX3_takeFactor, by decide, _, _, rfl⟩
theorem cb_yX3_takeSign : cb mX3_takeSign 1 := ⟨wN_X3, wC_yX3_takeSign, by decide, by decide, by decide +kernel, by decide, by decide⟩
theorem ci_yX3_takeSign : ci mX3_takeSign 3 := ⟨wI_yX3_takeSign, wS_yX3_takeSign, by decide, _, _, rfl⟩
theorem cb_yX3_releaseFrom : cb mX3_releaseFrom 1 := ⟨wN_X3, wC_yX3_releaseFrom, by decide, by decide, by decide +kernel, by decide, by decide⟩
theorem ci_yX3_releaseFrom : ci mX3_releaseFrom 3 := ⟨wI_yX3_releaseFrom, wS_yX3_releaseFrom, by decide, _, _, rfl⟩
theorem cb_yX3_strengthOf : cb mX3_strengthOf 1 := ⟨wN_X3, wC_yX3_strengthOf, by decide, by decide, by decide +kernel, by decide, by decide⟩
theorem cb_yX6_init : cb mX6_init 0 := ⟨wN_X6, wC_yX6_init, by decide, by decide, by decide +kernel, by decide, by decide⟩
theorem cb_yX6_carryOut : cb mX6_carryOut 2 := ⟨wN_X6, wC_yX6_carryOut, by decide, by decide, by decide +kernel, by decide, by decide⟩
theorem ci_yX6_carryOut : ci mX6_carryOut 6 := ⟨wI_yX6_carryOut, wS_yX6_carryOut, by decide, _, _, rfl⟩
theorem cb_yX6_gatherAll : cb mX6_gatherAll 1 := ⟨wN_X6, wC_yX6_gatherAll, by decide, by decide, by decide +kernel, by decide, by decide⟩
theorem ci_yX6_gatherAll : ci mX6_gatherAll 6 := ⟨wI_yX6_gatherAll, wS_yX6_gatherAll, by decide, _, _, rfl⟩
theorem cb_yX6_leastAtCursors : cb mX6_leastAtCursors 1 := ⟨wN_X6, wC_yX6_leastAtCursors, by decide, by decide, by decide +kernel, by decide, by decide⟩
theorem ci_yX6_leastAtCursors : ci mX6_leastAtCursors 6 := ⟨wI_yX6_leastAtCursors, wS_yX6_leastAtCursors, by decide, _, _, rfl⟩
theorem cb_yX6_passCursors : cb mX6_passCursors 2 := ⟨wN_X6, wC_yX6_passCursors, by decide, by decide, by decide +kernel, by decide, by decide⟩
theorem ci_yX6_passCursors : ci mX6_passCursors 6 := ⟨wI_yX6_passCursors, wS_yX6_passCursors, by decide, _, _, rfl⟩
theorem cb_yX6_join : cb mX6_join 3 := ⟨wN_X6, wC_yX6_join, by decide, by decide, by decide +kernel, by decide, by decide⟩
theorem ci_yX6_join : ci mX6_join 6 := ⟨wI_yX6_join, wS_yX6_join, by decide, _, _, rfl⟩
theorem cb_yX6_makeRow : cb mX6_makeRow 2 := ⟨wN_X6, wC_yX6_makeRow, by decide, by decide, by decide +kernel, by decide, by decide⟩
theorem ci_yX6_makeRow : ci mX6_makeRow 6 := ⟨wI_yX6_makeRow, wS_yX6_makeRow, by decide, _, _, rfl⟩
theorem cb_yX4_intersect : cb mX4_intersect 2 := ⟨wN_X4, wC_yX4_intersect, by decide, by decide, by decide +kernel, by decide, by decide⟩
theorem ci_yX4_intersect : ci mX4_intersect 4 := ⟨wI_yX4_intersect, wS_yX4_intersect, by decide, _, _, rfl⟩
theorem cb_yX4_gallop : cb mX4_gallop 3 := ⟨wN_X4, wC_yX4_gallop, by decide, by decide, by decide +kernel, by decide, by decide⟩
theorem ci_yX4_gallop : ci mX4_gallop 4 := ⟨wI_yX4_gallop, wS_yX4_gallop, by decide, _, _, rfl⟩
theorem cb_yX4_reaches : cb mX4_reaches 3 := ⟨wN_X4, wC_yX4_reaches, by decide, by decide, by decide +kernel, by decide, by decide⟩
theorem ci_yX4_reaches : ci mX4_reaches 4 := ⟨wI_yX4_reaches, wS_yX4_reaches, by decide, _, _, rfl⟩
theorem cb_yX11_result : cb mX11_result 1 := ⟨wN_X11, wC_yX11_result, by decide, by decide, by decide +kernel, by decide, by decide⟩
theorem ci_yX11_result : ci mX11_result 11 := ⟨wI_yX11_result, wS_yX11_result, by decide, _, _, rfl⟩
theorem cb_yX11_common : cb mX11_common 3 := ⟨wN_X11, wC_yX11_common, by decide, by decide, by decide +kernel, by decide, by decide⟩
theorem ci_yX11_common : ci mX11_common 11 := ⟨wI_yX11_common, wS_yX11_common, by decide, _, _, rfl⟩
theorem cb_yX11_count : cb mX11_count 1 := ⟨wN_X11, wC_yX11_count, by decide, by decide, by decide +kernel, by decide, by decide⟩
theorem ci_yX11_count : ci mX11_count 11 := ⟨wI_yX11_count, wS_yX11_count, by decide, _, _, rfl⟩
theorem cb_yX11_digest : cb mX11_digest 0 := ⟨wN_X11, wC_yX11_digest, by decide, by decide, by decide +kernel, by decide, by decide⟩
theorem ci_yX11_digest : ci mX11_digest 11 := ⟨wI_yX11_digest, wS_yX11_digest, by decide, _, _, rfl⟩
theorem cb_yX11_mix : cb mX11_mix 2 := ⟨wN_X11, wC_yX11_mix, by decide, by decide, by decide +kernel, by decide, by decide⟩
theorem cb_yX11_mixBlocks : cb mX11_mixBlocks 2 := ⟨wN_X11, wC_yX11_mixBlocks, by decide, by decide, by decide +kernel, by decide, by decide⟩
theorem ci_yX11_mixBlocks : ci mX11_mixBlocks 11 := ⟨wI_yX11_mixBlocks, wS_yX11_mixBlocks, by decide, _, _, rfl⟩
theorem cb_yX11_mixBlock : cb mX11_mixBlock 2 := ⟨wN_X11, wC_yX11_mixBlock, by decide, by decide, by decide +kernel, by decide, by decide⟩
theorem cb_yX11_mixRow : cb mX11_mixRow 2 := ⟨wN_X11, wC_yX11_mixRow, by decide, by decide, by decide +kernel, by decide, by decide⟩
theorem cb_yX12_init : cb mX12_init 0 := ⟨wN_X12, wC_yX12_init, by decide, by decide, by decide +kernel, by decide, by decide⟩
theorem cb_yX12_undo : cb mX12_undo 0 := ⟨wN_X12, wC_yX12_undo, by decide, by decide, by decide +kernel, by decide, by decide⟩
theorem ci_yX12_undo : ci mX12_undo 12 := ⟨wI_yX12_undo, wS_yX12_undo, by decide, _, _, rfl⟩
theorem cb_yX12_add : cb mX12_add 2 := ⟨wN_X12, wC_yX12_add, by decide, by decide, by decide +kernel, by decide, by decide⟩
theorem ci_yX12_add : ci mX12_add 12 := ⟨wI_yX12_add, wS_yX12_add, by decide, _, _, rfl⟩
theorem cb_yX12_isList : cb mX12_isList 1 := ⟨wN_X12, wC_yX12_isList, by decide, by decide, by decide +kernel, by decide, by decide⟩
theorem cb_yX12_in : cb mX12_in 3 := ⟨wN_X12, wC_yX12_in, by decide, by decide, by decide +kernel, by decide, by decide⟩
theorem cb_yX12_isValue : cb mX12_isValue 1 := ⟨wN_X12, wC_yX12_isValue, by decide, by decide, by decide +kernel, by decide, by decide⟩
theorem cb_yX12_has : cb mX12_has 2 := ⟨wN_X12, wC_yX12_has, by decide, by decide, by decide +kernel, by decide, by decide⟩
theorem ci_yX12_has : ci mX12_has 12 := ⟨wI_yX12_has, wS_yX12_has, by decide, _, _, rfl⟩
theorem cb_yX12_place : cb mX12_place 2 := ⟨wN_X12, wC_yX12_place, by decide, by decide, by decide +kernel, by decide, by decide⟩
theorem ci_yX12_place : ci mX12_place 12 := ⟨wI_yX12_place, wS_yX12_place, by decide, _, _, rfl⟩
theorem cb_yX12_many : cb mX12_many 1 := ⟨wN_X12, wC_yX12_many, by decide, by decide, by decide +kernel, by decide, by decide⟩
theorem ci_yX12_many : ci mX12_many 12 := ⟨wI_yX12_many, wS_yX12_many, by decide, _, _, rfl⟩
theorem cb_yX12_number : cb mX12_number 2 := ⟨wN_X12, wC_yX12_number, by decide, by decide, by decide +kernel, by decide, by decide⟩
theorem ci_yX12_number : ci mX12_number 12 := ⟨wI_yX12_number, wS_yX12_number, by decide, _, _, rfl⟩
theorem cb_yX12_keeps : cb mX12_keeps 1 := ⟨wN_X12, wC_yX12_keeps, by decide, by decide, by decide +kernel, by decide, by decide⟩
theorem ci_yX12_keeps : ci mX12_keeps 12 := ⟨wI_yX12_keeps, wS_yX12_keeps, by decide, _, _, rfl⟩
theorem cb_yX12_lastBlock : cb mX12_lastBlock 2 := ⟨wN_X12, wC_yX12_lastBlock, by decide, by decide, by decide +kernel, by decide, by decide⟩
theorem ci_yX12_lastBlock : ci mX12_lastBlock 12 := ⟨wI_yX12_lastBlock, wS_yX12_lastBlock, by decide, _, _, rfl⟩
theorem cb_yX12_blocks : cb mX12_blocks 1 := ⟨wN_X12, wC_yX12_blocks, by decide, by decide, by decide +kernel, by decide, by decide⟩
theorem ci_yX12_blocks : ci mX12_blocks 12 := ⟨wI_yX12_blocks, wS_yX12_blocks, by decide, _, _, rfl⟩
theorem cb_yX12_begin : cb mX12_begin 2 := ⟨wN_X12, wC_yX12_begin, by decide, by decide, by decide +kernel, by decide, by decide⟩
theorem ci_yX12_begin : ci mX12_begin 12 := ⟨wI_yX12_begin, wS_yX12_begin, by decide, _, _, rfl⟩
theorem cb_yX12_length : cb mX12_length 2 := ⟨wN_X12, wC_yX12_length, by decide, by decide, by decide +kernel, by decide, by decide⟩
theorem ci_yX12_length : ci mX12_length 12 := ⟨wI_yX12_length, wS_yX12_length, by decide, _, _, rfl⟩
theorem cb_yX12_splits : cb mX12_splits 2 := ⟨wN_X12, wC_yX12_splits, by decide, by decide, by decide +kernel, by decide, by decide⟩
theorem ci_yX12_splits : ci mX12_splits 12 := ⟨wI_yX12_splits, wS_yX12_splits, by decide, _, _, rfl⟩
theorem cb_yX12_remove : cb mX12_remove 2 := ⟨wN_X12, wC_yX12_remove, by decide, by decide, by decide +kernel, by decide, by decide⟩
theorem ci_yX12_remove : ci mX12_remove 12 := ⟨wI_yX12_remove, wS_yX12_remove, by decide, _, _, rfl⟩
theorem cb_yX12_blockOf : cb mX12_blockOf 2 := ⟨wN_X12, wC_yX12_blockOf, by decide, by decide, by decide +kernel, by decide, by decide⟩
theorem ci_yX12_blockOf : ci mX12_blockOf 12 := ⟨wI_yX12_blockOf, wS_yX12_blockOf, by decide, _, _, rfl⟩
theorem cb_yX12_pack : cb mX12_pack 2 := ⟨wN_X12, wC_yX12_pack, by decide, by decide, by decide +kernel, by decide, by decide⟩
theorem ci_yX12_pack : ci mX12_pack 12 := ⟨wI_yX12_pack, wS_yX12_pack, by decide, _, _, rfl⟩
theorem cb_yX12_packs : cb mX12_packs 2 := ⟨wN_X12, wC_yX12_packs, by decide, by decide, by decide +kernel, by decide, by decide⟩
theorem ci_yX12_packs : ci mX12_packs 12 := ⟨wI_yX12_packs, wS_yX12_packs, by decide, _, _, rfl⟩
theorem cb_yX12_plans : cb mX12_plans 2 := ⟨wN_X12, wC_yX12_plans, by decide, by decide, by decide +kernel, by decide, by decide⟩
theorem ci_yX12_plans : ci mX12_plans 12 := ⟨wI_yX12_plans, wS_yX12_plans, by decide, _, _, rfl⟩
theorem cb_yX12_solves : cb mX12_solves 2 := ⟨wN_X12, wC_yX12_solves, by decide, by decide, by decide +kernel, by decide, by decide⟩
theorem ci_yX12_solves : ci mX12_solves 12 := ⟨wI_yX12_solves, wS_yX12_solves, by decide, _, _, rfl⟩
theorem cb_yX12_gap : cb mX12_gap 2 := ⟨wN_X12, wC_yX12_gap, by decide, by decide, by decide +kernel, by decide, by decide⟩
theorem ci_yX12_gap : ci mX12_gap 12 := ⟨wI_yX12_gap, wS_yX12_gap, by decide, _, _, rfl⟩
theorem cb_yX12_bitsOf : cb mX12_bitsOf 1 := ⟨wN_X12, wC_yX12_bitsOf, by decide, by decide, by decide +kernel, by decide, by decide⟩
theorem cb_yX12_best : cb mX12_best 1 := ⟨wN_X12, wC_yX12_best, by decide, by decide, by decide +kernel, by decide, by decide⟩
theorem ci_yX12_best : ci mX12_best 12 := ⟨wI_yX12_best, wS_yX12_best, by decide, _, _, rfl⟩
theorem cb_yX12_above : cb mX12_above 1 := ⟨wN_X12, wC_yX12_above, by decide, by decide, by decide +kernel, by decide, by decide⟩
theorem ci_yX12_above : ci mX12_above 12 := ⟨wI_yX12_above, wS_yX12_above, by decide, _, _, rfl⟩
theorem cb_yX12_costOf : cb mX12_costOf 2 := ⟨wN_X12, wC_yX12_costOf, by decide, by decide, by decide +kernel, by decide, by decide⟩
theorem ci_yX12_costOf : ci mX12_costOf 12 := ⟨wI_yX12_costOf, wS_yX12_costOf, by decide, _, _, rfl⟩
theorem cb_yX12_counts : cb mX12_counts 3 := ⟨wN_X12, wC_yX12_counts, by decide, by decide, by decide +kernel, by decide, by decide⟩
theorem ci_yX12_counts : ci mX12_counts 12 := ⟨wI_yX12_counts, wS_yX12_counts, by decide, _, _, rfl⟩
theorem cb_yX12_clear : cb mX12_clear 1 := ⟨wN_X12, wC_yX12_clear, by decide, by decide, by decide +kernel, by decide, by decide⟩
theorem ci_yX12_clear : ci mX12_clear 12 := ⟨wI_yX12_clear, wS_yX12_clear, by decide, _, _, rfl⟩
theorem cb_yX12_store : cb mX12_store 1 := ⟨wN_X12, wC_yX12_store, by decide, by decide, by decide +kernel, by decide, by decide⟩
theorem ci_yX12_store : ci mX12_store 12 := ⟨wI_yX12_store, wS_yX12_store, by decide, _, _, rfl⟩
theorem cb_yX12_type : cb mX12_type 1 := ⟨wN_X12, wC_yX12_type, by decide, by decide, by decide +kernel, by decide, by decide⟩
theorem ci_yX12_type : ci mX12_type 12 := ⟨wI_yX12_type, wS_yX12_type, by decide, _, _, rfl⟩
theorem cb_yX12_erase : cb mX12_erase 0 := ⟨wN_X12, wC_yX12_erase, by decide, by decide, by decide +kernel, by decide, by decide⟩
theorem ci_yX12_erase : ci mX12_erase 12 := ⟨wI_yX12_erase, wS_yX12_erase, by decide, _, _, rfl⟩
theorem cb_yX12_load : cb mX12_load 1 := ⟨wN_X12, wC_yX12_load, by decide, by decide, by decide +kernel, by decide, by decide⟩
theorem ci_yX12_load : ci mX12_load 12 := ⟨wI_yX12_load, wS_yX12_load, by decide, _, _, rfl⟩
theorem cb_yX12_readsNumbers : cb mX12_readsNumbers 0 := ⟨wN_X12, wC_yX12_readsNumbers, by decide, by decide, by decide +kernel, by decide, by decide⟩
theorem ci_yX12_readsNumbers : ci mX12_readsNumbers 12 := ⟨wI_yX12_readsNumbers, wS_yX12_readsNumbers, by decide, _, _, rfl⟩
theorem cb_yX12_skips : cb mX12_skips 0 := ⟨wN_X12, wC_yX12_skips, by decide, by decide, by decide +kernel, by decide, by decide⟩
theorem ci_yX12_skips : ci mX12_skips 12 := ⟨wI_yX12_skips, wS_yX12_skips, by decide, _, _, rfl⟩
theorem cb_yX12_next : cb mX12_next 0 := ⟨wN_X12, wC_yX12_next, by decide, by decide, by decide +kernel, by decide, by decide⟩
theorem ci_yX12_next : ci mX12_next 12 := ⟨wI_yX12_next, wS_yX12_next, by decide, _, _, rfl⟩
theorem cb_yX12_readsPart : cb mX12_readsPart 1 := ⟨wN_X12, wC_yX12_readsPart, by decide, by decide, by decide +kernel, by decide, by decide⟩
theorem ci_yX12_readsPart : ci mX12_readsPart 12 := ⟨wI_yX12_readsPart, wS_yX12_readsPart, by decide, _, _, rfl⟩
theorem cb_yX12_readsNumber : cb mX12_readsNumber 1 := ⟨wN_X12, wC_yX12_readsNumber, by decide, by decide, by decide +kernel, by decide, by decide⟩
theorem ci_yX12_readsNumber : ci mX12_readsNumber 12 := ⟨wI_yX12_readsNumber, wS_yX12_readsNumber, by decide, _, _, rfl⟩
theorem cb_yX12_fails : cb mX12_fails 1 := ⟨wN_X12, wC_yX12_fails, by decide, by decide, by decide +kernel, by decide, by decide⟩
theorem ci_yX12_fails : ci mX12_fails 12 := ⟨wI_yX12_fails, wS_yX12_fails, by decide, _, _, rfl⟩
theorem cb_yX12_list : cb mX12_list 2 := ⟨wN_X12, wC_yX12_list, by decide, by decide, by decide +kernel, by decide, by decide⟩
theorem ci_yX12_list : ci mX12_list 12 := ⟨wI_yX12_list, wS_yX12_list, by decide, _, _, rfl⟩
theorem cb_yX12_listPart : cb mX12_listPart 2 := ⟨wN_X12, wC_yX12_listPart, by decide, by decide, by decide +kernel, by decide, by decide⟩
theorem ci_yX12_listPart : ci mX12_listPart 12 := ⟨wI_yX12_listPart, wS_yX12_listPart, by decide, _, _, rfl⟩
theorem cb_yX12_costOfList : cb mX12_costOfList 1 := ⟨wN_X12, wC_yX12_costOfList, by decide, by decide, by decide +kernel, by decide, by decide⟩
theorem ci_yX12_costOfList : ci mX12_costOfList 12 := ⟨wI_yX12_costOfList, wS_yX12_costOfList, by decide, _, _, rfl⟩
theorem cb_yX12_cost : cb mX12_cost 2 := ⟨wN_X12, wC_yX12_cost, by decide, by decide, by decide +kernel, by decide, by decide⟩
theorem ci_yX12_cost : ci mX12_cost 12 := ⟨wI_yX12_cost, wS_yX12_cost, by decide, _, _, rfl⟩
theorem cb_yX12_width : cb mX12_width 2 := ⟨wN_X12, wC_yX12_width, by decide, by decide, by decide +kernel, by decide, by decide⟩
theorem ci_yX12_width : ci mX12_width 12 := ⟨wI_yX12_width, wS_yX12_width, by decide, _, _, rfl⟩
theorem cb_yX12_exceptionsOf : cb mX12_exceptionsOf 1 := ⟨wN_X12, wC_yX12_exceptionsOf, by decide, by decide, by decide +kernel, by decide, by decide⟩
theorem ci_yX12_exceptionsOf : ci mX12_exceptionsOf 12 := ⟨wI_yX12_exceptionsOf, wS_yX12_exceptionsOf, by decide, _, _, rfl⟩
theorem cb_yX12_exceptions : cb mX12_exceptions 2 := ⟨wN_X12, wC_yX12_exceptions, by decide, by decide, by decide +kernel, by decide, by decide⟩
theorem ci_yX12_exceptions : ci mX12_exceptions 12 := ⟨wI_yX12_exceptions, wS_yX12_exceptions, by decide, _, _, rfl⟩
theorem cb_yX12_block : cb mX12_block 3 := ⟨wN_X12, wC_yX12_block, by decide, by decide, by decide +kernel, by decide, by decide⟩
theorem ci_yX12_block : ci mX12_block 12 := ⟨wI_yX12_block, wS_yX12_block, by decide, _, _, rfl⟩
theorem cb_yX12_isBlock : cb mX12_isBlock 2 := ⟨wN_X12, wC_yX12_isBlock, by decide, by decide, by decide +kernel, by decide, by decide⟩
theorem ci_yX12_isBlock : ci mX12_isBlock 12 := ⟨wI_yX12_isBlock, wS_yX12_isBlock, by decide, _, _, rfl⟩
theorem cb_yX12_words : cb mX12_words 2 := ⟨wN_X12, wC_yX12_words, by decide, by decide, by decide +kernel, by decide, by decide⟩
theorem ci_yX12_words : ci mX12_words 12 := ⟨wI_yX12_words, wS_yX12_words, by decide, _, _, rfl⟩
theorem cb_yX12_word : cb mX12_word 3 := ⟨wN_X12, wC_yX12_word, by decide, by decide, by decide +kernel, by decide, by decide⟩
theorem ci_yX12_word : ci mX12_word 12 := ⟨wI_yX12_word, wS_yX12_word, by decide, _, _, rfl⟩
theorem cb_yX12_exception : cb mX12_exception 4 := ⟨wN_X12, wC_yX12_exception, by decide, by decide, by decide +kernel, by decide, by decide⟩
theorem ci_yX12_exception : ci mX12_exception 12 := ⟨wI_yX12_exception, wS_yX12_exception, by decide, _, _, rfl⟩
theorem cb_yX12_gaps : cb mX12_gaps 2 := ⟨wN_X12, wC_yX12_gaps, by decide, by decide, by decide +kernel, by decide, by decide⟩
theorem ci_yX12_gaps : ci mX12_gaps 12 := ⟨wI_yX12_gaps, wS_yX12_gaps, by decide, _, _, rfl⟩
theorem cb_yX12_costBy : cb mX12_costBy 2 := ⟨wN_X12, wC_yX12_costBy, by decide, by decide, by decide +kernel, by decide, by decide⟩
theorem ci_yX12_costBy : ci mX12_costBy 12 := ⟨wI_yX12_costBy, wS_yX12_costBy, by decide, _, _, rfl⟩
theorem cb_yX12_part : cb mX12_part 4 := ⟨wN_X12, wC_yX12_part, by decide, by decide, by decide +kernel, by decide, by decide⟩
theorem ci_yX12_part : ci mX12_part 12 := ⟨wI_yX12_part, wS_yX12_part, by decide, _, _, rfl⟩
theorem cb_yX12_at : cb mX12_at 2 := ⟨wN_X12, wC_yX12_at, by decide, by decide, by decide +kernel, by decide, by decide⟩
theorem ci_yX12_at : ci mX12_at 12 := ⟨wI_yX12_at, wS_yX12_at, by decide, _, _, rfl⟩
theorem cb_yX12_looks : cb mX12_looks 2 := ⟨wN_X12, wC_yX12_looks, by decide, by decide, by decide +kernel, by decide, by decide⟩
theorem ci_yX12_looks : ci mX12_looks 12 := ⟨wI_yX12_looks, wS_yX12_looks, by decide, _, _, rfl⟩
theorem cb_yX12_cachePlace : cb mX12_cachePlace 2 := ⟨wN_X12, wC_yX12_cachePlace, by decide, by decide, by decide +kernel, by decide, by decide⟩
theorem ci_yX12_cachePlace : ci mX12_cachePlace 12 := ⟨wI_yX12_cachePlace, wS_yX12_cachePlace, by decide, _, _, rfl⟩
theorem cb_yX12_find : cb mX12_find 3 := ⟨wN_X12, wC_yX12_find, by decide, by decide, by decide +kernel, by decide, by decide⟩
theorem ci_yX12_find : ci mX12_find 12 := ⟨wI_yX12_find, wS_yX12_find, by decide, _, _, rfl⟩
theorem cb_yX12_cached : cb mX12_cached 2 := ⟨wN_X12, wC_yX12_cached, by decide, by decide, by decide +kernel, by decide, by decide⟩
theorem ci_yX12_cached : ci mX12_cached 12 := ⟨wI_yX12_cached, wS_yX12_cached, by decide, _, _, rfl⟩
theorem cb_yX12_query : cb mX12_query 0 := ⟨wN_X12, wC_yX12_query, by decide, by decide, by decide +kernel, by decide, by decide⟩
theorem ci_yX12_query : ci mX12_query 12 := ⟨wI_yX12_query, wS_yX12_query, by decide, _, _, rfl⟩
theorem cb_yX12_readsExpression : cb mX12_readsExpression 0 := ⟨wN_X12, wC_yX12_readsExpression, by decide, by decide, by decide +kernel, by decide, by decide⟩
theorem ci_yX12_readsExpression : ci mX12_readsExpression 12 := ⟨wI_yX12_readsExpression, wS_yX12_readsExpression, by decide, _, _, rfl⟩
theorem cb_yX12_readsOperand : cb mX12_readsOperand 0 := ⟨wN_X12, wC_yX12_readsOperand, by decide, by decide, by decide +kernel, by decide, by decide⟩
theorem ci_yX12_readsOperand : ci mX12_readsOperand 12 := ⟨wI_yX12_readsOperand, wS_yX12_readsOperand, by decide, _, _, rfl⟩
theorem cb_yX12_orders : cb mX12_orders 1 := ⟨wN_X12, wC_yX12_orders, by decide, by decide, by decide +kernel, by decide, by decide⟩
theorem ci_yX12_orders : ci mX12_orders 12 := ⟨wI_yX12_orders, wS_yX12_orders, by decide, _, _, rfl⟩
theorem cb_yX12_readsSign : cb mX12_readsSign 0 := ⟨wN_X12, wC_yX12_readsSign, by decide, by decide, by decide +kernel, by decide, by decide⟩
theorem ci_yX12_readsSign : ci mX12_readsSign 12 := ⟨wI_yX12_readsSign, wS_yX12_readsSign, by decide, _, _, rfl⟩
theorem cb_yX12_rank : cb mX12_rank 1 := ⟨wN_X12, wC_yX12_rank, by decide, by decide, by decide +kernel, by decide, by decide⟩
theorem cb_yX12_copies : cb mX12_copies 2 := ⟨wN_X12, wC_yX12_copies, by decide, by decide, by decide +kernel, by decide, by decide⟩
theorem ci_yX12_copies : ci mX12_copies 12 := ⟨wI_yX12_copies, wS_yX12_copies, by decide, _, _, rfl⟩
theorem cb_yX12_joins : cb mX12_joins 3 := ⟨wN_X12, wC_yX12_joins, by decide, by decide, by decide +kernel, by decide, by decide⟩
theorem ci_yX12_joins : ci mX12_joins 12 := ⟨wI_yX12_joins, wS_yX12_joins, by decide, _, _, rfl⟩
theorem cb_yX12_intersects : cb mX12_intersects 2 := ⟨wN_X12, wC_yX12_intersects, by decide, by decide, by decide +kernel, by decide, by decide⟩
theorem ci_yX12_intersects : ci mX12_intersects 12 := ⟨wI_yX12_intersects, wS_yX12_intersects, by decide, _, _, rfl⟩
theorem cb_yX12_puts : cb mX12_puts 1 := ⟨wN_X12, wC_yX12_puts, by decide, by decide, by decide +kernel, by decide, by decide⟩
theorem ci_yX12_puts : ci mX12_puts 12 := ⟨wI_yX12_puts, wS_yX12_puts, by decide, _, _, rfl⟩
theorem cb_yX12_gallops : cb mX12_gallops 3 := ⟨wN_X12, wC_yX12_gallops, by decide, by decide, by decide +kernel, by decide, by decide⟩
theorem ci_yX12_gallops : ci mX12_gallops 12 := ⟨wI_yX12_gallops, wS_yX12_gallops, by decide, _, _, rfl⟩
theorem cb_yX12_probe : cb mX12_probe 3 := ⟨wN_X12, wC_yX12_probe, by decide, by decide, by decide +kernel, by decide, by decide⟩
theorem ci_yX12_probe : ci mX12_probe 12 := ⟨wI_yX12_probe, wS_yX12_probe, by decide, _, _, rfl⟩
theorem cb_yX12_merges : cb mX12_merges 3 := ⟨wN_X12, wC_yX12_merges, by decide, by decide, by decide +kernel, by decide, by decide⟩
theorem ci_yX12_merges : ci mX12_merges 12 := ⟨wI_yX12_merges, wS_yX12_merges, by decide, _, _, rfl⟩
theorem cb_yX12_result : cb mX12_result 1 := ⟨wN_X12, wC_yX12_result, by decide, by decide, by decide +kernel, by decide, by decide⟩
theorem ci_yX12_result : ci mX12_result 12 := ⟨wI_yX12_result, wS_yX12_result, by decide, _, _, rfl⟩
theorem cb_yX12_common : cb mX12_common 3 := ⟨wN_X12, wC_yX12_common, by decide, by decide, by decide +kernel, by decide, by decide⟩
theorem ci_yX12_common : ci mX12_common 12 := ⟨wI_yX12_common, wS_yX12_common, by decide, _, _, rfl⟩
theorem cb_yX12_count : cb mX12_count 1 := ⟨wN_X12, wC_yX12_count, by decide, by decide, by decide +kernel, by decide, by decide⟩
theorem ci_yX12_count : ci mX12_count 12 := ⟨wI_yX12_count, wS_yX12_count, by decide, _, _, rfl⟩
theorem cb_yX12_over : cb mX12_over 1 := ⟨wN_X12, wC_yX12_over, by decide, by decide, by decide +kernel, by decide, by decide⟩
theorem ci_yX12_over : ci mX12_over 12 := ⟨wI_yX12_over, wS_yX12_over, by decide, _, _, rfl⟩
theorem cb_yX12_digest : cb mX12_digest 0 := ⟨wN_X12, wC_yX12_digest, by decide, by decide, by decide +kernel, by decide, by decide⟩
theorem ci_yX12_digest : ci mX12_digest 12 := ⟨wI_yX12_digest, wS_yX12_digest, by decide, _, _, rfl⟩
theorem cb_yX12_mixes : cb mX12_mixes 1 := ⟨wN_X12, wC_yX12_mixes, by decide, by decide, by decide +kernel, by decide, by decide⟩
theorem ci_yX12_mixes : ci mX12_mixes 12 := ⟨wI_yX12_mixes, wS_yX12_mixes, by decide, _, _, rfl⟩
theorem cb_yX12_mixesBlock : cb mX12_mixesBlock 2 := ⟨wN_X12, wC_yX12_mixesBlock, by decide, by decide, by decide +kernel, by decide, by decide⟩
theorem ci_yX12_mixesBlock : ci mX12_mixesBlock 12 := ⟨wI_yX12_mixesBlock, wS_yX12_mixesBlock, by decide, _, _, rfl⟩
theorem wX_X5_21 : Cond.methodLinkNest RX5 21 yX2_init RX11 ∈ fm_nest := List.mem_of_getElem? (i := 0) rfl
theorem wX_X11_24 : Cond.methodLinkNest RX11 24 yX1_init RX11 ∈ fm_nest := List.mem_of_getElem? (i := 1) rfl
theorem wX_X11_40 : Cond.methodLinkNest RX11 40 yX0_init RX11 ∈ fm_nest := List.mem_of_getElem? (i := 2) rfl
theorem wX_X11_54 : Cond.methodLinkNest RX11 54 yX4_init RX11 ∈ fm_nest := List.mem_of_getElem? (i := 3) rfl
theorem wX_X11_61 : Cond.methodLinkNest RX11 61 yX7_init RX11 ∈ fm_nest := List.mem_of_getElem? (i := 4) rfl
theorem wX_X11_68 : Cond.methodLinkNest RX11 68 yX3_init RX11 ∈ fm_nest := List.mem_of_getElem? (i := 5) rfl
theorem wX_X11_73 : Cond.methodLinkNest RX11 73 yX2_init RX11 ∈ fm_nest := List.mem_of_getElem? (i := 6) rfl
theorem wX_X8_64 : Cond.methodLinkNest RX8 64 yX11_bitsOf RX11 ∈ fm_nest := List.mem_of_getElem? (i := 7) rfl
theorem wX_X0_38 : Cond.methodLinkNest RX0 38 yX11_bitsOf RX11 ∈ fm_nest := List.mem_of_getElem? (i := 8) rfl
theorem wX_X11_222 : Cond.methodLinkNest RX11 222 yX6_init RX11 ∈ fm_nest := List.mem_of_getElem? (i := 9) rfl
theorem wX_X6_11 : Cond.methodLinkNest RX6 11 yX4_init RX11 ∈ fm_nest := List.mem_of_getElem? (i := 10) rfl
section FW
variable {G : fG} {x0 : Nat} {l : Launch} {M : fM} {d : Nat} {Z : fZ} {k n pc : Nat} {lv : List (Nat × Value)} {st : List Value} {T : fT} {I : fI} {J : fJ}
theorem s_topi {x y : Int32} (h : x = y) (kk : PW G x0 l M d Z k n pc lv (.int y :: st) T I J) : PW G x0 l M d Z k n pc lv (.int x :: st) T I J := h ▸ kk
theorem s_topl {x y : Int64} (h : x = y) (kk : PW G x0 l M d Z k n pc lv (.long y :: st) T I J) : PW G x0 l M d Z k n pc lv (.long x :: st) T I J := h ▸ kk
theorem s_st {st2 : List Value} (h : st = st2) (kk : PW G x0 l M d Z k n pc lv st2 T I J) : PW G x0 l M d Z k n pc lv st T I J := h ▸ kk
theorem s_cV_ {idx c b : Nat} {My : fM}  (hd : decode M.2.1 pc = .ok (.invokevirtual idx, 3)) (hw : Cond.methodLink M.1.cls idx My.1 ∈ WL) (hc : cb My 0) (hi : ci My c) (hb : b < T.1) (hk : T.2.1 b = c) (hst : (st.map fun v => v.category).sum ≤ 8) (hm : 1 ≤ My.2.2.1) (h : PW G x0 l My d (ZM G x0 (fun r T I J => PW G x0 l M (d + 1) Z k n (pc + 3) lv (rts r st) T I J)) 0 0 0 [(0, .ref (x0 + b))] [] T I J) : PW G x0 l M (d + 1) Z k n pc lv (.ref (x0 + b) :: st) T I J := s_callV (As := []) hd hw hc hi hb hk rfl hst hm h
theorem s_cS_ {idx : Nat} {My : fM}  (hd : decode M.2.1 pc = .ok (.invokestatic idx, 3)) (hw : Cond.methodLink M.1.cls idx My.1 ∈ WL) (hc : cb My 0) (hs : Cond.static My.1 ∈ WL) (hst : (st.map fun v => v.category).sum ≤ 8) (hm : 0 ≤ My.2.2.1) (h : PW G x0 l My d (ZM G x0 (fun r T I J => PW G x0 l M (d + 1) Z k n (pc + 3) lv (rts r st) T I J)) 0 0 0 [] [] T I J) : PW G x0 l M (d + 1) Z k n pc lv (st) T I J := s_callS (As := []) hd hw hc hs rfl hst hm h
theorem s_cI_ {idx b k' n' : Nat} {My : fM}  (hd : decode M.2.1 pc = .ok (.invokespecial idx, 3)) (hw : Cond.methodLink M.1.cls idx My.1 ∈ WL) (hc : cb My 0) (hi : Cond.instanceMethod My.1 ∈ WL) (hnm : My.1.name = "<init>") (hrt : My.2.2.2 = none) (hst : (st.map fun v => v.category).sum ≤ 8) (hm : 1 ≤ My.2.2.1) (h : PW G x0 l My d (ZM G x0 (fun r T I J => PW G x0 l M (d + 1) Z k n (pc + 3) lv (rts r st) T I J)) k' n' 0 [(0, .ref (x0 + b))] [] T I J) : PW G x0 l M (d + 1) Z (k + k') (n + n') pc lv (.ref (x0 + b) :: st) T I J := s_callI (As := []) hd hw hc hi hnm hrt rfl hst hm h
theorem s_cIN_ {idx b k' n' : Nat} {host : String} {My : fM}  (hd : decode M.2.1 pc = .ok (.invokespecial idx, 3)) (hw : Cond.methodLinkNest M.1.cls idx My.1 host ∈ fm_nest) (hc : cb My 0) (hi : Cond.instanceMethod My.1 ∈ WL) (hnm : My.1.name = "<init>") (hrt : My.2.2.2 = none) (hst : (st.map fun v => v.category).sum ≤ 8) (hm : 1 ≤ My.2.2.1) (h : PW G x0 l My d (ZM G x0 (fun r T I J => PW G x0 l M (d + 1) Z k n (pc + 3) lv (rts r st) T I J)) k' n' 0 [(0, .ref (x0 + b))] [] T I J) : PW G x0 l M (d + 1) Z (k + k') (n + n') pc lv (.ref (x0 + b) :: st) T I J := s_callIN (As := []) hd hw hc hi hnm hrt rfl hst hm h
theorem s_cSN_ {idx : Nat} {host : String} {My : fM}  (hd : decode M.2.1 pc = .ok (.invokestatic idx, 3)) (hw : Cond.methodLinkNest M.1.cls idx My.1 host ∈ fm_nest) (hc : cb My 0) (hs : Cond.static My.1 ∈ WL) (hst : (st.map fun v => v.category).sum ≤ 8) (hm : 0 ≤ My.2.2.1) (h : PW G x0 l My d (ZM G x0 (fun r T I J => PW G x0 l M (d + 1) Z k n (pc + 3) lv (rts r st) T I J)) 0 0 0 [] [] T I J) : PW G x0 l M (d + 1) Z k n pc lv (st) T I J := s_callSN (As := []) hd hw hc hs rfl hst hm h
theorem s_cV_I {idx c b : Nat} {My : fM} {x1 : Int32} (hd : decode M.2.1 pc = .ok (.invokevirtual idx, 3)) (hw : Cond.methodLink M.1.cls idx My.1 ∈ WL) (hc : cb My 1) (hi : ci My c) (hb : b < T.1) (hk : T.2.1 b = c) (hst : (st.map fun v => v.category).sum ≤ 8) (hm : 2 ≤ My.2.2.1) (h : PW G x0 l My d (ZM G x0 (fun r T I J => PW G x0 l M (d + 1) Z k n (pc + 3) lv (rts r st) T I J)) 0 0 0 [(0, .ref (x0 + b)), (1, .int x1)] [] T I J) : PW G x0 l M (d + 1) Z k n pc lv (.int x1 :: .ref (x0 + b) :: st) T I J := s_callV (As := [.int x1]) hd hw hc hi hb hk rfl hst hm h
theorem s_cS_I {idx : Nat} {My : fM} {x1 : Int32} (hd : decode M.2.1 pc = .ok (.invokestatic idx, 3)) (hw : Cond.methodLink M.1.cls idx My.1 ∈ WL) (hc : cb My 1) (hs : Cond.static My.1 ∈ WL) (hst : (st.map fun v => v.category).sum ≤ 8) (hm : 1 ≤ My.2.2.1) (h : PW G x0 l My d (ZM G x0 (fun r T I J => PW G x0 l M (d + 1) Z k n (pc + 3) lv (rts r st) T I J)) 0 0 0 [(0, .int x1)] [] T I J) : PW G x0 l M (d + 1) Z k n pc lv (.int x1 :: st) T I J := s_callS (As := [.int x1]) hd hw hc hs rfl hst hm h
theorem s_cI_I {idx b k' n' : Nat} {My : fM} {x1 : Int32} (hd : decode M.2.1 pc = .ok (.invokespecial idx, 3)) (hw : Cond.methodLink M.1.cls idx My.1 ∈ WL) (hc : cb My 1) (hi : Cond.instanceMethod My.1 ∈ WL) (hnm : My.1.name = "<init>") (hrt : My.2.2.2 = none) (hst : (st.map fun v => v.category).sum ≤ 8) (hm : 2 ≤ My.2.2.1) (h : PW G x0 l My d (ZM G x0 (fun r T I J => PW G x0 l M (d + 1) Z k n (pc + 3) lv (rts r st) T I J)) k' n' 0 [(0, .ref (x0 + b)), (1, .int x1)] [] T I J) : PW G x0 l M (d + 1) Z (k + k') (n + n') pc lv (.int x1 :: .ref (x0 + b) :: st) T I J := s_callI (As := [.int x1]) hd hw hc hi hnm hrt rfl hst hm h
theorem s_cIN_I {idx b k' n' : Nat} {host : String} {My : fM} {x1 : Int32} (hd : decode M.2.1 pc = .ok (.invokespecial idx, 3)) (hw : Cond.methodLinkNest M.1.cls idx My.1 host ∈ fm_nest) (hc : cb My 1) (hi : Cond.instanceMethod My.1 ∈ WL) (hnm : My.1.name = "<init>") (hrt : My.2.2.2 = none) (hst : (st.map fun v => v.category).sum ≤ 8) (hm : 2 ≤ My.2.2.1) (h : PW G x0 l My d (ZM G x0 (fun r T I J => PW G x0 l M (d + 1) Z k n (pc + 3) lv (rts r st) T I J)) k' n' 0 [(0, .ref (x0 + b)), (1, .int x1)] [] T I J) : PW G x0 l M (d + 1) Z (k + k') (n + n') pc lv (.int x1 :: .ref (x0 + b) :: st) T I J := s_callIN (As := [.int x1]) hd hw hc hi hnm hrt rfl hst hm h
theorem s_cSN_I {idx : Nat} {host : String} {My : fM} {x1 : Int32} (hd : decode M.2.1 pc = .ok (.invokestatic idx, 3)) (hw : Cond.methodLinkNest M.1.cls idx My.1 host ∈ fm_nest) (hc : cb My 1) (hs : Cond.static My.1 ∈ WL) (hst : (st.map fun v => v.category).sum ≤ 8) (hm : 1 ≤ My.2.2.1) (h : PW G x0 l My d (ZM G x0 (fun r T I J => PW G x0 l M (d + 1) Z k n (pc + 3) lv (rts r st) T I J)) 0 0 0 [(0, .int x1)] [] T I J) : PW G x0 l M (d + 1) Z k n pc lv (.int x1 :: st) T I J := s_callSN (As := [.int x1]) hd hw hc hs rfl hst hm h
theorem s_cV_J {idx c b : Nat} {My : fM} {x1 : Int64} (hd : decode M.2.1 pc = .ok (.invokevirtual idx, 3)) (hw : Cond.methodLink M.1.cls idx My.1 ∈ WL) (hc : cb My 1) (hi : ci My c) (hb : b < T.1) (hk : T.2.1 b = c) (hst : (st.map fun v => v.category).sum ≤ 8) (hm : 3 ≤ My.2.2.1) (h : PW G x0 l My d (ZM G x0 (fun r T I J => PW G x0 l M (d + 1) Z k n (pc + 3) lv (rts r st) T I J)) 0 0 0 [(0, .ref (x0 + b)), (1, .long x1)] [] T I J) : PW G x0 l M (d + 1) Z k n pc lv (.long x1 :: .ref (x0 + b) :: st) T I J := s_callV (As := [.long x1]) hd hw hc hi hb hk rfl hst hm h
theorem s_cS_J {idx : Nat} {My : fM} {x1 : Int64} (hd : decode M.2.1 pc = .ok (.invokestatic idx, 3)) (hw : Cond.methodLink M.1.cls idx My.1 ∈ WL) (hc : cb My 1) (hs : Cond.static My.1 ∈ WL) (hst : (st.map fun v => v.category).sum ≤ 8) (hm : 2 ≤ My.2.2.1) (h : PW G x0 l My d (ZM G x0 (fun r T I J => PW G x0 l M (d + 1) Z k n (pc + 3) lv (rts r st) T I J)) 0 0 0 [(0, .long x1)] [] T I J) : PW G x0 l M (d + 1) Z k n pc lv (.long x1 :: st) T I J := s_callS (As := [.long x1]) hd hw hc hs rfl hst hm h
theorem s_cI_J {idx b k' n' : Nat} {My : fM} {x1 : Int64} (hd : decode M.2.1 pc = .ok (.invokespecial idx, 3)) (hw : Cond.methodLink M.1.cls idx My.1 ∈ WL) (hc : cb My 1) (hi : Cond.instanceMethod My.1 ∈ WL) (hnm : My.1.name = "<init>") (hrt : My.2.2.2 = none) (hst : (st.map fun v => v.category).sum ≤ 8) (hm : 3 ≤ My.2.2.1) (h : PW G x0 l My d (ZM G x0 (fun r T I J => PW G x0 l M (d + 1) Z k n (pc + 3) lv (rts r st) T I J)) k' n' 0 [(0, .ref (x0 + b)), (1, .long x1)] [] T I J) : PW G x0 l M (d + 1) Z (k + k') (n + n') pc lv (.long x1 :: .ref (x0 + b) :: st) T I J := s_callI (As := [.long x1]) hd hw hc hi hnm hrt rfl hst hm h
theorem s_cIN_J {idx b k' n' : Nat} {host : String} {My : fM} {x1 : Int64} (hd : decode M.2.1 pc = .ok (.invokespecial idx, 3)) (hw : Cond.methodLinkNest M.1.cls idx My.1 host ∈ fm_nest) (hc : cb My 1) (hi : Cond.instanceMethod My.1 ∈ WL) (hnm : My.1.name = "<init>") (hrt : My.2.2.2 = none) (hst : (st.map fun v => v.category).sum ≤ 8) (hm : 3 ≤ My.2.2.1) (h : PW G x0 l My d (ZM G x0 (fun r T I J => PW G x0 l M (d + 1) Z k n (pc + 3) lv (rts r st) T I J)) k' n' 0 [(0, .ref (x0 + b)), (1, .long x1)] [] T I J) : PW G x0 l M (d + 1) Z (k + k') (n + n') pc lv (.long x1 :: .ref (x0 + b) :: st) T I J := s_callIN (As := [.long x1]) hd hw hc hi hnm hrt rfl hst hm h
theorem s_cSN_J {idx : Nat} {host : String} {My : fM} {x1 : Int64} (hd : decode M.2.1 pc = .ok (.invokestatic idx, 3)) (hw : Cond.methodLinkNest M.1.cls idx My.1 host ∈ fm_nest) (hc : cb My 1) (hs : Cond.static My.1 ∈ WL) (hst : (st.map fun v => v.category).sum ≤ 8) (hm : 2 ≤ My.2.2.1) (h : PW G x0 l My d (ZM G x0 (fun r T I J => PW G x0 l M (d + 1) Z k n (pc + 3) lv (rts r st) T I J)) 0 0 0 [(0, .long x1)] [] T I J) : PW G x0 l M (d + 1) Z k n pc lv (.long x1 :: st) T I J := s_callSN (As := [.long x1]) hd hw hc hs rfl hst hm h
theorem s_cV_R {idx c b : Nat} {My : fM} {x1 : Nat} (hd : decode M.2.1 pc = .ok (.invokevirtual idx, 3)) (hw : Cond.methodLink M.1.cls idx My.1 ∈ WL) (hc : cb My 1) (hi : ci My c) (hb : b < T.1) (hk : T.2.1 b = c) (hst : (st.map fun v => v.category).sum ≤ 8) (hm : 2 ≤ My.2.2.1) (h : PW G x0 l My d (ZM G x0 (fun r T I J => PW G x0 l M (d + 1) Z k n (pc + 3) lv (rts r st) T I J)) 0 0 0 [(0, .ref (x0 + b)), (1, .ref x1)] [] T I J) : PW G x0 l M (d + 1) Z k n pc lv (.ref x1 :: .ref (x0 + b) :: st) T I J := s_callV (As := [.ref x1]) hd hw hc hi hb hk rfl hst hm h
theorem s_cS_R {idx : Nat} {My : fM} {x1 : Nat} (hd : decode M.2.1 pc = .ok (.invokestatic idx, 3)) (hw : Cond.methodLink M.1.cls idx My.1 ∈ WL) (hc : cb My 1) (hs : Cond.static My.1 ∈ WL) (hst : (st.map fun v => v.category).sum ≤ 8) (hm : 1 ≤ My.2.2.1) (h : PW G x0 l My d (ZM G x0 (fun r T I J => PW G x0 l M (d + 1) Z k n (pc + 3) lv (rts r st) T I J)) 0 0 0 [(0, .ref x1)] [] T I J) : PW G x0 l M (d + 1) Z k n pc lv (.ref x1 :: st) T I J := s_callS (As := [.ref x1]) hd hw hc hs rfl hst hm h
theorem s_cI_R {idx b k' n' : Nat} {My : fM} {x1 : Nat} (hd : decode M.2.1 pc = .ok (.invokespecial idx, 3)) (hw : Cond.methodLink M.1.cls idx My.1 ∈ WL) (hc : cb My 1) (hi : Cond.instanceMethod My.1 ∈ WL) (hnm : My.1.name = "<init>") (hrt : My.2.2.2 = none) (hst : (st.map fun v => v.category).sum ≤ 8) (hm : 2 ≤ My.2.2.1) (h : PW G x0 l My d (ZM G x0 (fun r T I J => PW G x0 l M (d + 1) Z k n (pc + 3) lv (rts r st) T I J)) k' n' 0 [(0, .ref (x0 + b)), (1, .ref x1)] [] T I J) : PW G x0 l M (d + 1) Z (k + k') (n + n') pc lv (.ref x1 :: .ref (x0 + b) :: st) T I J := s_callI (As := [.ref x1]) hd hw hc hi hnm hrt rfl hst hm h
theorem s_cIN_R {idx b k' n' : Nat} {host : String} {My : fM} {x1 : Nat} (hd : decode M.2.1 pc = .ok (.invokespecial idx, 3)) (hw : Cond.methodLinkNest M.1.cls idx My.1 host ∈ fm_nest) (hc : cb My 1) (hi : Cond.instanceMethod My.1 ∈ WL) (hnm : My.1.name = "<init>") (hrt : My.2.2.2 = none) (hst : (st.map fun v => v.category).sum ≤ 8) (hm : 2 ≤ My.2.2.1) (h : PW G x0 l My d (ZM G x0 (fun r T I J => PW G x0 l M (d + 1) Z k n (pc + 3) lv (rts r st) T I J)) k' n' 0 [(0, .ref (x0 + b)), (1, .ref x1)] [] T I J) : PW G x0 l M (d + 1) Z (k + k') (n + n') pc lv (.ref x1 :: .ref (x0 + b) :: st) T I J := s_callIN (As := [.ref x1]) hd hw hc hi hnm hrt rfl hst hm h
theorem s_cSN_R {idx : Nat} {host : String} {My : fM} {x1 : Nat} (hd : decode M.2.1 pc = .ok (.invokestatic idx, 3)) (hw : Cond.methodLinkNest M.1.cls idx My.1 host ∈ fm_nest) (hc : cb My 1) (hs : Cond.static My.1 ∈ WL) (hst : (st.map fun v => v.category).sum ≤ 8) (hm : 1 ≤ My.2.2.1) (h : PW G x0 l My d (ZM G x0 (fun r T I J => PW G x0 l M (d + 1) Z k n (pc + 3) lv (rts r st) T I J)) 0 0 0 [(0, .ref x1)] [] T I J) : PW G x0 l M (d + 1) Z k n pc lv (.ref x1 :: st) T I J := s_callSN (As := [.ref x1]) hd hw hc hs rfl hst hm h
theorem s_cV_II {idx c b : Nat} {My : fM} {x1 : Int32} {x2 : Int32} (hd : decode M.2.1 pc = .ok (.invokevirtual idx, 3)) (hw : Cond.methodLink M.1.cls idx My.1 ∈ WL) (hc : cb My 2) (hi : ci My c) (hb : b < T.1) (hk : T.2.1 b = c) (hst : (st.map fun v => v.category).sum ≤ 8) (hm : 3 ≤ My.2.2.1) (h : PW G x0 l My d (ZM G x0 (fun r T I J => PW G x0 l M (d + 1) Z k n (pc + 3) lv (rts r st) T I J)) 0 0 0 [(0, .ref (x0 + b)), (1, .int x1), (2, .int x2)] [] T I J) : PW G x0 l M (d + 1) Z k n pc lv (.int x2 :: .int x1 :: .ref (x0 + b) :: st) T I J := s_callV (As := [.int x1, .int x2]) hd hw hc hi hb hk rfl hst hm h
theorem s_cS_II {idx : Nat} {My : fM} {x1 : Int32} {x2 : Int32} (hd : decode M.2.1 pc = .ok (.invokestatic idx, 3)) (hw : Cond.methodLink M.1.cls idx My.1 ∈ WL) (hc : cb My 2) (hs : Cond.static My.1 ∈ WL) (hst : (st.map fun v => v.category).sum ≤ 8) (hm : 2 ≤ My.2.2.1) (h : PW G x0 l My d (ZM G x0 (fun r T I J => PW G x0 l M (d + 1) Z k n (pc + 3) lv (rts r st) T I J)) 0 0 0 [(0, .int x1), (1, .int x2)] [] T I J) : PW G x0 l M (d + 1) Z k n pc lv (.int x2 :: .int x1 :: st) T I J := s_callS (As := [.int x1, .int x2]) hd hw hc hs rfl hst hm h
theorem s_cI_II {idx b k' n' : Nat} {My : fM} {x1 : Int32} {x2 : Int32} (hd : decode M.2.1 pc = .ok (.invokespecial idx, 3)) (hw : Cond.methodLink M.1.cls idx My.1 ∈ WL) (hc : cb My 2) (hi : Cond.instanceMethod My.1 ∈ WL) (hnm : My.1.name = "<init>") (hrt : My.2.2.2 = none) (hst : (st.map fun v => v.category).sum ≤ 8) (hm : 3 ≤ My.2.2.1) (h : PW G x0 l My d (ZM G x0 (fun r T I J => PW G x0 l M (d + 1) Z k n (pc + 3) lv (rts r st) T I J)) k' n' 0 [(0, .ref (x0 + b)), (1, .int x1), (2, .int x2)] [] T I J) : PW G x0 l M (d + 1) Z (k + k') (n + n') pc lv (.int x2 :: .int x1 :: .ref (x0 + b) :: st) T I J := s_callI (As := [.int x1, .int x2]) hd hw hc hi hnm hrt rfl hst hm h
theorem s_cIN_II {idx b k' n' : Nat} {host : String} {My : fM} {x1 : Int32} {x2 : Int32} (hd : decode M.2.1 pc = .ok (.invokespecial idx, 3)) (hw : Cond.methodLinkNest M.1.cls idx My.1 host ∈ fm_nest) (hc : cb My 2) (hi : Cond.instanceMethod My.1 ∈ WL) (hnm : My.1.name = "<init>") (hrt : My.2.2.2 = none) (hst : (st.map fun v => v.category).sum ≤ 8) (hm : 3 ≤ My.2.2.1) (h : PW G x0 l My d (ZM G x0 (fun r T I J => PW G x0 l M (d + 1) Z k n (pc + 3) lv (rts r st) T I J)) k' n' 0 [(0, .ref (x0 + b)), (1, .int x1), (2, .int x2)] [] T I J) : PW G x0 l M (d + 1) Z (k + k') (n + n') pc lv (.int x2 :: .int x1 :: .ref (x0 + b) :: st) T I J := s_callIN (As := [.int x1, .int x2]) hd hw hc hi hnm hrt rfl hst hm h
theorem s_cSN_II {idx : Nat} {host : String} {My : fM} {x1 : Int32} {x2 : Int32} (hd : decode M.2.1 pc = .ok (.invokestatic idx, 3)) (hw : Cond.methodLinkNest M.1.cls idx My.1 host ∈ fm_nest) (hc : cb My 2) (hs : Cond.static My.1 ∈ WL) (hst : (st.map fun v => v.category).sum ≤ 8) (hm : 2 ≤ My.2.2.1) (h : PW G x0 l My d (ZM G x0 (fun r T I J => PW G x0 l M (d + 1) Z k n (pc + 3) lv (rts r st) T I J)) 0 0 0 [(0, .int x1), (1, .int x2)] [] T I J) : PW G x0 l M (d + 1) Z k n pc lv (.int x2 :: .int x1 :: st) T I J := s_callSN (As := [.int x1, .int x2]) hd hw hc hs rfl hst hm h
theorem s_cV_IR {idx c b : Nat} {My : fM} {x1 : Int32} {x2 : Nat} (hd : decode M.2.1 pc = .ok (.invokevirtual idx, 3)) (hw : Cond.methodLink M.1.cls idx My.1 ∈ WL) (hc : cb My 2) (hi : ci My c) (hb : b < T.1) (hk : T.2.1 b = c) (hst : (st.map fun v => v.category).sum ≤ 8) (hm : 3 ≤ My.2.2.1) (h : PW G x0 l My d (ZM G x0 (fun r T I J => PW G x0 l M (d + 1) Z k n (pc + 3) lv (rts r st) T I J)) 0 0 0 [(0, .ref (x0 + b)), (1, .int x1), (2, .ref x2)] [] T I J) : PW G x0 l M (d + 1) Z k n pc lv (.ref x2 :: .int x1 :: .ref (x0 + b) :: st) T I J := s_callV (As := [.int x1, .ref x2]) hd hw hc hi hb hk rfl hst hm h
theorem s_cS_IR {idx : Nat} {My : fM} {x1 : Int32} {x2 : Nat} (hd : decode M.2.1 pc = .ok (.invokestatic idx, 3)) (hw : Cond.methodLink M.1.cls idx My.1 ∈ WL) (hc : cb My 2) (hs : Cond.static My.1 ∈ WL) (hst : (st.map fun v => v.category).sum ≤ 8) (hm : 2 ≤ My.2.2.1) (h : PW G x0 l My d (ZM G x0 (fun r T I J => PW G x0 l M (d + 1) Z k n (pc + 3) lv (rts r st) T I J)) 0 0 0 [(0, .int x1), (1, .ref x2)] [] T I J) : PW G x0 l M (d + 1) Z k n pc lv (.ref x2 :: .int x1 :: st) T I J := s_callS (As := [.int x1, .ref x2]) hd hw hc hs rfl hst hm h
theorem s_cI_IR {idx b k' n' : Nat} {My : fM} {x1 : Int32} {x2 : Nat} (hd : decode M.2.1 pc = .ok (.invokespecial idx, 3)) (hw : Cond.methodLink M.1.cls idx My.1 ∈ WL) (hc : cb My 2) (hi : Cond.instanceMethod My.1 ∈ WL) (hnm : My.1.name = "<init>") (hrt : My.2.2.2 = none) (hst : (st.map fun v => v.category).sum ≤ 8) (hm : 3 ≤ My.2.2.1) (h : PW G x0 l My d (ZM G x0 (fun r T I J => PW G x0 l M (d + 1) Z k n (pc + 3) lv (rts r st) T I J)) k' n' 0 [(0, .ref (x0 + b)), (1, .int x1), (2, .ref x2)] [] T I J) : PW G x0 l M (d + 1) Z (k + k') (n + n') pc lv (.ref x2 :: .int x1 :: .ref (x0 + b) :: st) T I J := s_callI (As := [.int x1, .ref x2]) hd hw hc hi hnm hrt rfl hst hm h
theorem s_cIN_IR {idx b k' n' : Nat} {host : String} {My : fM} {x1 : Int32} {x2 : Nat} (hd : decode M.2.1 pc = .ok (.invokespecial idx, 3)) (hw : Cond.methodLinkNest M.1.cls idx My.1 host ∈ fm_nest) (hc : cb My 2) (hi : Cond.instanceMethod My.1 ∈ WL) (hnm : My.1.name = "<init>") (hrt : My.2.2.2 = none) (hst : (st.map fun v => v.category).sum ≤ 8) (hm : 3 ≤ My.2.2.1) (h : PW G x0 l My d (ZM G x0 (fun r T I J => PW G x0 l M (d + 1) Z k n (pc + 3) lv (rts r st) T I J)) k' n' 0 [(0, .ref (x0 + b)), (1, .int x1), (2, .ref x2)] [] T I J) : PW G x0 l M (d + 1) Z (k + k') (n + n') pc lv (.ref x2 :: .int x1 :: .ref (x0 + b) :: st) T I J := s_callIN (As := [.int x1, .ref x2]) hd hw hc hi hnm hrt rfl hst hm h
theorem s_cSN_IR {idx : Nat} {host : String} {My : fM} {x1 : Int32} {x2 : Nat} (hd : decode M.2.1 pc = .ok (.invokestatic idx, 3)) (hw : Cond.methodLinkNest M.1.cls idx My.1 host ∈ fm_nest) (hc : cb My 2) (hs : Cond.static My.1 ∈ WL) (hst : (st.map fun v => v.category).sum ≤ 8) (hm : 2 ≤ My.2.2.1) (h : PW G x0 l My d (ZM G x0 (fun r T I J => PW G x0 l M (d + 1) Z k n (pc + 3) lv (rts r st) T I J)) 0 0 0 [(0, .int x1), (1, .ref x2)] [] T I J) : PW G x0 l M (d + 1) Z k n pc lv (.ref x2 :: .int x1 :: st) T I J := s_callSN (As := [.int x1, .ref x2]) hd hw hc hs rfl hst hm h
theorem s_cV_JI {idx c b : Nat} {My : fM} {x1 : Int64} {x2 : Int32} (hd : decode M.2.1 pc = .ok (.invokevirtual idx, 3)) (hw : Cond.methodLink M.1.cls idx My.1 ∈ WL) (hc : cb My 2) (hi : ci My c) (hb : b < T.1) (hk : T.2.1 b = c) (hst : (st.map fun v => v.category).sum ≤ 8) (hm : 4 ≤ My.2.2.1) (h : PW G x0 l My d (ZM G x0 (fun r T I J => PW G x0 l M (d + 1) Z k n (pc + 3) lv (rts r st) T I J)) 0 0 0 [(0, .ref (x0 + b)), (1, .long x1), (3, .int x2)] [] T I J) : PW G x0 l M (d + 1) Z k n pc lv (.int x2 :: .long x1 :: .ref (x0 + b) :: st) T I J := s_callV (As := [.long x1, .int x2]) hd hw hc hi hb hk rfl hst hm h
theorem s_cS_JI {idx : Nat} {My : fM} {x1 : Int64} {x2 : Int32} (hd : decode M.2.1 pc = .ok (.invokestatic idx, 3)) (hw : Cond.methodLink M.1.cls idx My.1 ∈ WL) (hc : cb My 2) (hs : Cond.static My.1 ∈ WL) (hst : (st.map fun v => v.category).sum ≤ 8) (hm : 3 ≤ My.2.2.1) (h : PW G x0 l My d (ZM G x0 (fun r T I J => PW G x0 l M (d + 1) Z k n (pc + 3) lv (rts r st) T I J)) 0 0 0 [(0, .long x1), (2, .int x2)] [] T I J) : PW G x0 l M (d + 1) Z k n pc lv (.int x2 :: .long x1 :: st) T I J := s_callS (As := [.long x1, .int x2]) hd hw hc hs rfl hst hm h
theorem s_cI_JI {idx b k' n' : Nat} {My : fM} {x1 : Int64} {x2 : Int32} (hd : decode M.2.1 pc = .ok (.invokespecial idx, 3)) (hw : Cond.methodLink M.1.cls idx My.1 ∈ WL) (hc : cb My 2) (hi : Cond.instanceMethod My.1 ∈ WL) (hnm : My.1.name = "<init>") (hrt : My.2.2.2 = none) (hst : (st.map fun v => v.category).sum ≤ 8) (hm : 4 ≤ My.2.2.1) (h : PW G x0 l My d (ZM G x0 (fun r T I J => PW G x0 l M (d + 1) Z k n (pc + 3) lv (rts r st) T I J)) k' n' 0 [(0, .ref (x0 + b)), (1, .long x1), (3, .int x2)] [] T I J) : PW G x0 l M (d + 1) Z (k + k') (n + n') pc lv (.int x2 :: .long x1 :: .ref (x0 + b) :: st) T I J := s_callI (As := [.long x1, .int x2]) hd hw hc hi hnm hrt rfl hst hm h
theorem s_cIN_JI {idx b k' n' : Nat} {host : String} {My : fM} {x1 : Int64} {x2 : Int32} (hd : decode M.2.1 pc = .ok (.invokespecial idx, 3)) (hw : Cond.methodLinkNest M.1.cls idx My.1 host ∈ fm_nest) (hc : cb My 2) (hi : Cond.instanceMethod My.1 ∈ WL) (hnm : My.1.name = "<init>") (hrt : My.2.2.2 = none) (hst : (st.map fun v => v.category).sum ≤ 8) (hm : 4 ≤ My.2.2.1) (h : PW G x0 l My d (ZM G x0 (fun r T I J => PW G x0 l M (d + 1) Z k n (pc + 3) lv (rts r st) T I J)) k' n' 0 [(0, .ref (x0 + b)), (1, .long x1), (3, .int x2)] [] T I J) : PW G x0 l M (d + 1) Z (k + k') (n + n') pc lv (.int x2 :: .long x1 :: .ref (x0 + b) :: st) T I J := s_callIN (As := [.long x1, .int x2]) hd hw hc hi hnm hrt rfl hst hm h
theorem s_cSN_JI {idx : Nat} {host : String} {My : fM} {x1 : Int64} {x2 : Int32} (hd : decode M.2.1 pc = .ok (.invokestatic idx, 3)) (hw : Cond.methodLinkNest M.1.cls idx My.1 host ∈ fm_nest) (hc : cb My 2) (hs : Cond.static My.1 ∈ WL) (hst : (st.map fun v => v.category).sum ≤ 8) (hm : 3 ≤ My.2.2.1) (h : PW G x0 l My d (ZM G x0 (fun r T I J => PW G x0 l M (d + 1) Z k n (pc + 3) lv (rts r st) T I J)) 0 0 0 [(0, .long x1), (2, .int x2)] [] T I J) : PW G x0 l M (d + 1) Z k n pc lv (.int x2 :: .long x1 :: st) T I J := s_callSN (As := [.long x1, .int x2]) hd hw hc hs rfl hst hm h
theorem s_cV_JJ {idx c b : Nat} {My : fM} {x1 : Int64} {x2 : Int64} (hd : decode M.2.1 pc = .ok (.invokevirtual idx, 3)) (hw : Cond.methodLink M.1.cls idx My.1 ∈ WL) (hc : cb My 2) (hi : ci My c) (hb : b < T.1) (hk : T.2.1 b = c) (hst : (st.map fun v => v.category).sum ≤ 8) (hm : 5 ≤ My.2.2.1) (h : PW G x0 l My d (ZM G x0 (fun r T I J => PW G x0 l M (d + 1) Z k n (pc + 3) lv (rts r st) T I J)) 0 0 0 [(0, .ref (x0 + b)), (1, .long x1), (3, .long x2)] [] T I J) : PW G x0 l M (d + 1) Z k n pc lv (.long x2 :: .long x1 :: .ref (x0 + b) :: st) T I J := s_callV (As := [.long x1, .long x2]) hd hw hc hi hb hk rfl hst hm h
theorem s_cS_JJ {idx : Nat} {My : fM} {x1 : Int64} {x2 : Int64} (hd : decode M.2.1 pc = .ok (.invokestatic idx, 3)) (hw : Cond.methodLink M.1.cls idx My.1 ∈ WL) (hc : cb My 2) (hs : Cond.static My.1 ∈ WL) (hst : (st.map fun v => v.category).sum ≤ 8) (hm : 4 ≤ My.2.2.1) (h : PW G x0 l My d (ZM G x0 (fun r T I J => PW G x0 l M (d + 1) Z k n (pc + 3) lv (rts r st) T I J)) 0 0 0 [(0, .long x1), (2, .long x2)] [] T I J) : PW G x0 l M (d + 1) Z k n pc lv (.long x2 :: .long x1 :: st) T I J := s_callS (As := [.long x1, .long x2]) hd hw hc hs rfl hst hm h
theorem s_cI_JJ {idx b k' n' : Nat} {My : fM} {x1 : Int64} {x2 : Int64} (hd : decode M.2.1 pc = .ok (.invokespecial idx, 3)) (hw : Cond.methodLink M.1.cls idx My.1 ∈ WL) (hc : cb My 2) (hi : Cond.instanceMethod My.1 ∈ WL) (hnm : My.1.name = "<init>") (hrt : My.2.2.2 = none) (hst : (st.map fun v => v.category).sum ≤ 8) (hm : 5 ≤ My.2.2.1) (h : PW G x0 l My d (ZM G x0 (fun r T I J => PW G x0 l M (d + 1) Z k n (pc + 3) lv (rts r st) T I J)) k' n' 0 [(0, .ref (x0 + b)), (1, .long x1), (3, .long x2)] [] T I J) : PW G x0 l M (d + 1) Z (k + k') (n + n') pc lv (.long x2 :: .long x1 :: .ref (x0 + b) :: st) T I J := s_callI (As := [.long x1, .long x2]) hd hw hc hi hnm hrt rfl hst hm h
theorem s_cIN_JJ {idx b k' n' : Nat} {host : String} {My : fM} {x1 : Int64} {x2 : Int64} (hd : decode M.2.1 pc = .ok (.invokespecial idx, 3)) (hw : Cond.methodLinkNest M.1.cls idx My.1 host ∈ fm_nest) (hc : cb My 2) (hi : Cond.instanceMethod My.1 ∈ WL) (hnm : My.1.name = "<init>") (hrt : My.2.2.2 = none) (hst : (st.map fun v => v.category).sum ≤ 8) (hm : 5 ≤ My.2.2.1) (h : PW G x0 l My d (ZM G x0 (fun r T I J => PW G x0 l M (d + 1) Z k n (pc + 3) lv (rts r st) T I J)) k' n' 0 [(0, .ref (x0 + b)), (1, .long x1), (3, .long x2)] [] T I J) : PW G x0 l M (d + 1) Z (k + k') (n + n') pc lv (.long x2 :: .long x1 :: .ref (x0 + b) :: st) T I J := s_callIN (As := [.long x1, .long x2]) hd hw hc hi hnm hrt rfl hst hm h
theorem s_cSN_JJ {idx : Nat} {host : String} {My : fM} {x1 : Int64} {x2 : Int64} (hd : decode M.2.1 pc = .ok (.invokestatic idx, 3)) (hw : Cond.methodLinkNest M.1.cls idx My.1 host ∈ fm_nest) (hc : cb My 2) (hs : Cond.static My.1 ∈ WL) (hst : (st.map fun v => v.category).sum ≤ 8) (hm : 4 ≤ My.2.2.1) (h : PW G x0 l My d (ZM G x0 (fun r T I J => PW G x0 l M (d + 1) Z k n (pc + 3) lv (rts r st) T I J)) 0 0 0 [(0, .long x1), (2, .long x2)] [] T I J) : PW G x0 l M (d + 1) Z k n pc lv (.long x2 :: .long x1 :: st) T I J := s_callSN (As := [.long x1, .long x2]) hd hw hc hs rfl hst hm h
theorem s_cV_JR {idx c b : Nat} {My : fM} {x1 : Int64} {x2 : Nat} (hd : decode M.2.1 pc = .ok (.invokevirtual idx, 3)) (hw : Cond.methodLink M.1.cls idx My.1 ∈ WL) (hc : cb My 2) (hi : ci My c) (hb : b < T.1) (hk : T.2.1 b = c) (hst : (st.map fun v => v.category).sum ≤ 8) (hm : 4 ≤ My.2.2.1) (h : PW G x0 l My d (ZM G x0 (fun r T I J => PW G x0 l M (d + 1) Z k n (pc + 3) lv (rts r st) T I J)) 0 0 0 [(0, .ref (x0 + b)), (1, .long x1), (3, .ref x2)] [] T I J) : PW G x0 l M (d + 1) Z k n pc lv (.ref x2 :: .long x1 :: .ref (x0 + b) :: st) T I J := s_callV (As := [.long x1, .ref x2]) hd hw hc hi hb hk rfl hst hm h
theorem s_cS_JR {idx : Nat} {My : fM} {x1 : Int64} {x2 : Nat} (hd : decode M.2.1 pc = .ok (.invokestatic idx, 3)) (hw : Cond.methodLink M.1.cls idx My.1 ∈ WL) (hc : cb My 2) (hs : Cond.static My.1 ∈ WL) (hst : (st.map fun v => v.category).sum ≤ 8) (hm : 3 ≤ My.2.2.1) (h : PW G x0 l My d (ZM G x0 (fun r T I J => PW G x0 l M (d + 1) Z k n (pc + 3) lv (rts r st) T I J)) 0 0 0 [(0, .long x1), (2, .ref x2)] [] T I J) : PW G x0 l M (d + 1) Z k n pc lv (.ref x2 :: .long x1 :: st) T I J := s_callS (As := [.long x1, .ref x2]) hd hw hc hs rfl hst hm h
theorem s_cI_JR {idx b k' n' : Nat} {My : fM} {x1 : Int64} {x2 : Nat} (hd : decode M.2.1 pc = .ok (.invokespecial idx, 3)) (hw : Cond.methodLink M.1.cls idx My.1 ∈ WL) (hc : cb My 2) (hi : Cond.instanceMethod My.1 ∈ WL) (hnm : My.1.name = "<init>") (hrt : My.2.2.2 = none) (hst : (st.map fun v => v.category).sum ≤ 8) (hm : 4 ≤ My.2.2.1) (h : PW G x0 l My d (ZM G x0 (fun r T I J => PW G x0 l M (d + 1) Z k n (pc + 3) lv (rts r st) T I J)) k' n' 0 [(0, .ref (x0 + b)), (1, .long x1), (3, .ref x2)] [] T I J) : PW G x0 l M (d + 1) Z (k + k') (n + n') pc lv (.ref x2 :: .long x1 :: .ref (x0 + b) :: st) T I J := s_callI (As := [.long x1, .ref x2]) hd hw hc hi hnm hrt rfl hst hm h
theorem s_cIN_JR {idx b k' n' : Nat} {host : String} {My : fM} {x1 : Int64} {x2 : Nat} (hd : decode M.2.1 pc = .ok (.invokespecial idx, 3)) (hw : Cond.methodLinkNest M.1.cls idx My.1 host ∈ fm_nest) (hc : cb My 2) (hi : Cond.instanceMethod My.1 ∈ WL) (hnm : My.1.name = "<init>") (hrt : My.2.2.2 = none) (hst : (st.map fun v => v.category).sum ≤ 8) (hm : 4 ≤ My.2.2.1) (h : PW G x0 l My d (ZM G x0 (fun r T I J => PW G x0 l M (d + 1) Z k n (pc + 3) lv (rts r st) T I J)) k' n' 0 [(0, .ref (x0 + b)), (1, .long x1), (3, .ref x2)] [] T I J) : PW G x0 l M (d + 1) Z (k + k') (n + n') pc lv (.ref x2 :: .long x1 :: .ref (x0 + b) :: st) T I J := s_callIN (As := [.long x1, .ref x2]) hd hw hc hi hnm hrt rfl hst hm h
theorem s_cSN_JR {idx : Nat} {host : String} {My : fM} {x1 : Int64} {x2 : Nat} (hd : decode M.2.1 pc = .ok (.invokestatic idx, 3)) (hw : Cond.methodLinkNest M.1.cls idx My.1 host ∈ fm_nest) (hc : cb My 2) (hs : Cond.static My.1 ∈ WL) (hst : (st.map fun v => v.category).sum ≤ 8) (hm : 3 ≤ My.2.2.1) (h : PW G x0 l My d (ZM G x0 (fun r T I J => PW G x0 l M (d + 1) Z k n (pc + 3) lv (rts r st) T I J)) 0 0 0 [(0, .long x1), (2, .ref x2)] [] T I J) : PW G x0 l M (d + 1) Z k n pc lv (.ref x2 :: .long x1 :: st) T I J := s_callSN (As := [.long x1, .ref x2]) hd hw hc hs rfl hst hm h
theorem s_cV_RI {idx c b : Nat} {My : fM} {x1 : Nat} {x2 : Int32} (hd : decode M.2.1 pc = .ok (.invokevirtual idx, 3)) (hw : Cond.methodLink M.1.cls idx My.1 ∈ WL) (hc : cb My 2) (hi : ci My c) (hb : b < T.1) (hk : T.2.1 b = c) (hst : (st.map fun v => v.category).sum ≤ 8) (hm : 3 ≤ My.2.2.1) (h : PW G x0 l My d (ZM G x0 (fun r T I J => PW G x0 l M (d + 1) Z k n (pc + 3) lv (rts r st) T I J)) 0 0 0 [(0, .ref (x0 + b)), (1, .ref x1), (2, .int x2)] [] T I J) : PW G x0 l M (d + 1) Z k n pc lv (.int x2 :: .ref x1 :: .ref (x0 + b) :: st) T I J := s_callV (As := [.ref x1, .int x2]) hd hw hc hi hb hk rfl hst hm h
theorem s_cS_RI {idx : Nat} {My : fM} {x1 : Nat} {x2 : Int32} (hd : decode M.2.1 pc = .ok (.invokestatic idx, 3)) (hw : Cond.methodLink M.1.cls idx My.1 ∈ WL) (hc : cb My 2) (hs : Cond.static My.1 ∈ WL) (hst : (st.map fun v => v.category).sum ≤ 8) (hm : 2 ≤ My.2.2.1) (h : PW G x0 l My d (ZM G x0 (fun r T I J => PW G x0 l M (d + 1) Z k n (pc + 3) lv (rts r st) T I J)) 0 0 0 [(0, .ref x1), (1, .int x2)] [] T I J) : PW G x0 l M (d + 1) Z k n pc lv (.int x2 :: .ref x1 :: st) T I J := s_callS (As := [.ref x1, .int x2]) hd hw hc hs rfl hst hm h
theorem s_cI_RI {idx b k' n' : Nat} {My : fM} {x1 : Nat} {x2 : Int32} (hd : decode M.2.1 pc = .ok (.invokespecial idx, 3)) (hw : Cond.methodLink M.1.cls idx My.1 ∈ WL) (hc : cb My 2) (hi : Cond.instanceMethod My.1 ∈ WL) (hnm : My.1.name = "<init>") (hrt : My.2.2.2 = none) (hst : (st.map fun v => v.category).sum ≤ 8) (hm : 3 ≤ My.2.2.1) (h : PW G x0 l My d (ZM G x0 (fun r T I J => PW G x0 l M (d + 1) Z k n (pc + 3) lv (rts r st) T I J)) k' n' 0 [(0, .ref (x0 + b)), (1, .ref x1), (2, .int x2)] [] T I J) : PW G x0 l M (d + 1) Z (k + k') (n + n') pc lv (.int x2 :: .ref x1 :: .ref (x0 + b) :: st) T I J := s_callI (As := [.ref x1, .int x2]) hd hw hc hi hnm hrt rfl hst hm h
theorem s_cIN_RI {idx b k' n' : Nat} {host : String} {My : fM} {x1 : Nat} {x2 : Int32} (hd : decode M.2.1 pc = .ok (.invokespecial idx, 3)) (hw : Cond.methodLinkNest M.1.cls idx My.1 host ∈ fm_nest) (hc : cb My 2) (hi : Cond.instanceMethod My.1 ∈ WL) (hnm : My.1.name = "<init>") (hrt : My.2.2.2 = none) (hst : (st.map fun v => v.category).sum ≤ 8) (hm : 3 ≤ My.2.2.1) (h : PW G x0 l My d (ZM G x0 (fun r T I J => PW G x0 l M (d + 1) Z k n (pc + 3) lv (rts r st) T I J)) k' n' 0 [(0, .ref (x0 + b)), (1, .ref x1), (2, .int x2)] [] T I J) : PW G x0 l M (d + 1) Z (k + k') (n + n') pc lv (.int x2 :: .ref x1 :: .ref (x0 + b) :: st) T I J := s_callIN (As := [.ref x1, .int x2]) hd hw hc hi hnm hrt rfl hst hm h
theorem s_cSN_RI {idx : Nat} {host : String} {My : fM} {x1 : Nat} {x2 : Int32} (hd : decode M.2.1 pc = .ok (.invokestatic idx, 3)) (hw : Cond.methodLinkNest M.1.cls idx My.1 host ∈ fm_nest) (hc : cb My 2) (hs : Cond.static My.1 ∈ WL) (hst : (st.map fun v => v.category).sum ≤ 8) (hm : 2 ≤ My.2.2.1) (h : PW G x0 l My d (ZM G x0 (fun r T I J => PW G x0 l M (d + 1) Z k n (pc + 3) lv (rts r st) T I J)) 0 0 0 [(0, .ref x1), (1, .int x2)] [] T I J) : PW G x0 l M (d + 1) Z k n pc lv (.int x2 :: .ref x1 :: st) T I J := s_callSN (As := [.ref x1, .int x2]) hd hw hc hs rfl hst hm h
theorem s_cV_RR {idx c b : Nat} {My : fM} {x1 : Nat} {x2 : Nat} (hd : decode M.2.1 pc = .ok (.invokevirtual idx, 3)) (hw : Cond.methodLink M.1.cls idx My.1 ∈ WL) (hc : cb My 2) (hi : ci My c) (hb : b < T.1) (hk : T.2.1 b = c) (hst : (st.map fun v => v.category).sum ≤ 8) (hm : 3 ≤ My.2.2.1) (h : PW G x0 l My d (ZM G x0 (fun r T I J => PW G x0 l M (d + 1) Z k n (pc + 3) lv (rts r st) T I J)) 0 0 0 [(0, .ref (x0 + b)), (1, .ref x1), (2, .ref x2)] [] T I J) : PW G x0 l M (d + 1) Z k n pc lv (.ref x2 :: .ref x1 :: .ref (x0 + b) :: st) T I J := s_callV (As := [.ref x1, .ref x2]) hd hw hc hi hb hk rfl hst hm h
theorem s_cS_RR {idx : Nat} {My : fM} {x1 : Nat} {x2 : Nat} (hd : decode M.2.1 pc = .ok (.invokestatic idx, 3)) (hw : Cond.methodLink M.1.cls idx My.1 ∈ WL) (hc : cb My 2) (hs : Cond.static My.1 ∈ WL) (hst : (st.map fun v => v.category).sum ≤ 8) (hm : 2 ≤ My.2.2.1) (h : PW G x0 l My d (ZM G x0 (fun r T I J => PW G x0 l M (d + 1) Z k n (pc + 3) lv (rts r st) T I J)) 0 0 0 [(0, .ref x1), (1, .ref x2)] [] T I J) : PW G x0 l M (d + 1) Z k n pc lv (.ref x2 :: .ref x1 :: st) T I J := s_callS (As := [.ref x1, .ref x2]) hd hw hc hs rfl hst hm h
theorem s_cI_RR {idx b k' n' : Nat} {My : fM} {x1 : Nat} {x2 : Nat} (hd : decode M.2.1 pc = .ok (.invokespecial idx, 3)) (hw : Cond.methodLink M.1.cls idx My.1 ∈ WL) (hc : cb My 2) (hi : Cond.instanceMethod My.1 ∈ WL) (hnm : My.1.name = "<init>") (hrt : My.2.2.2 = none) (hst : (st.map fun v => v.category).sum ≤ 8) (hm : 3 ≤ My.2.2.1) (h : PW G x0 l My d (ZM G x0 (fun r T I J => PW G x0 l M (d + 1) Z k n (pc + 3) lv (rts r st) T I J)) k' n' 0 [(0, .ref (x0 + b)), (1, .ref x1), (2, .ref x2)] [] T I J) : PW G x0 l M (d + 1) Z (k + k') (n + n') pc lv (.ref x2 :: .ref x1 :: .ref (x0 + b) :: st) T I J := s_callI (As := [.ref x1, .ref x2]) hd hw hc hi hnm hrt rfl hst hm h
theorem s_cIN_RR {idx b k' n' : Nat} {host : String} {My : fM} {x1 : Nat} {x2 : Nat} (hd : decode M.2.1 pc = .ok (.invokespecial idx, 3)) (hw : Cond.methodLinkNest M.1.cls idx My.1 host ∈ fm_nest) (hc : cb My 2) (hi : Cond.instanceMethod My.1 ∈ WL) (hnm : My.1.name = "<init>") (hrt : My.2.2.2 = none) (hst : (st.map fun v => v.category).sum ≤ 8) (hm : 3 ≤ My.2.2.1) (h : PW G x0 l My d (ZM G x0 (fun r T I J => PW G x0 l M (d + 1) Z k n (pc + 3) lv (rts r st) T I J)) k' n' 0 [(0, .ref (x0 + b)), (1, .ref x1), (2, .ref x2)] [] T I J) : PW G x0 l M (d + 1) Z (k + k') (n + n') pc lv (.ref x2 :: .ref x1 :: .ref (x0 + b) :: st) T I J := s_callIN (As := [.ref x1, .ref x2]) hd hw hc hi hnm hrt rfl hst hm h
theorem s_cSN_RR {idx : Nat} {host : String} {My : fM} {x1 : Nat} {x2 : Nat} (hd : decode M.2.1 pc = .ok (.invokestatic idx, 3)) (hw : Cond.methodLinkNest M.1.cls idx My.1 host ∈ fm_nest) (hc : cb My 2) (hs : Cond.static My.1 ∈ WL) (hst : (st.map fun v => v.category).sum ≤ 8) (hm : 2 ≤ My.2.2.1) (h : PW G x0 l My d (ZM G x0 (fun r T I J => PW G x0 l M (d + 1) Z k n (pc + 3) lv (rts r st) T I J)) 0 0 0 [(0, .ref x1), (1, .ref x2)] [] T I J) : PW G x0 l M (d + 1) Z k n pc lv (.ref x2 :: .ref x1 :: st) T I J := s_callSN (As := [.ref x1, .ref x2]) hd hw hc hs rfl hst hm h
theorem s_cV_III {idx c b : Nat} {My : fM} {x1 : Int32} {x2 : Int32} {x3 : Int32} (hd : decode M.2.1 pc = .ok (.invokevirtual idx, 3)) (hw : Cond.methodLink M.1.cls idx My.1 ∈ WL) (hc : cb My 3) (hi : ci My c) (hb : b < T.1) (hk : T.2.1 b = c) (hst : (st.map fun v => v.category).sum ≤ 8) (hm : 4 ≤ My.2.2.1) (h : PW G x0 l My d (ZM G x0 (fun r T I J => PW G x0 l M (d + 1) Z k n (pc + 3) lv (rts r st) T I J)) 0 0 0 [(0, .ref (x0 + b)), (1, .int x1), (2, .int x2), (3, .int x3)] [] T I J) : PW G x0 l M (d + 1) Z k n pc lv (.int x3 :: .int x2 :: .int x1 :: .ref (x0 + b) :: st) T I J := s_callV (As := [.int x1, .int x2, .int x3]) hd hw hc hi hb hk rfl hst hm h
theorem s_cS_III {idx : Nat} {My : fM} {x1 : Int32} {x2 : Int32} {x3 : Int32} (hd : decode M.2.1 pc = .ok (.invokestatic idx, 3)) (hw : Cond.methodLink M.1.cls idx My.1 ∈ WL) (hc : cb My 3) (hs : Cond.static My.1 ∈ WL) (hst : (st.map fun v => v.category).sum ≤ 8) (hm : 3 ≤ My.2.2.1) (h : PW G x0 l My d (ZM G x0 (fun r T I J => PW G x0 l M (d + 1) Z k n (pc + 3) lv (rts r st) T I J)) 0 0 0 [(0, .int x1), (1, .int x2), (2, .int x3)] [] T I J) : PW G x0 l M (d + 1) Z k n pc lv (.int x3 :: .int x2 :: .int x1 :: st) T I J := s_callS (As := [.int x1, .int x2, .int x3]) hd hw hc hs rfl hst hm h
theorem s_cI_III {idx b k' n' : Nat} {My : fM} {x1 : Int32} {x2 : Int32} {x3 : Int32} (hd : decode M.2.1 pc = .ok (.invokespecial idx, 3)) (hw : Cond.methodLink M.1.cls idx My.1 ∈ WL) (hc : cb My 3) (hi : Cond.instanceMethod My.1 ∈ WL) (hnm : My.1.name = "<init>") (hrt : My.2.2.2 = none) (hst : (st.map fun v => v.category).sum ≤ 8) (hm : 4 ≤ My.2.2.1) (h : PW G x0 l My d (ZM G x0 (fun r T I J => PW G x0 l M (d + 1) Z k n (pc + 3) lv (rts r st) T I J)) k' n' 0 [(0, .ref (x0 + b)), (1, .int x1), (2, .int x2), (3, .int x3)] [] T I J) : PW G x0 l M (d + 1) Z (k + k') (n + n') pc lv (.int x3 :: .int x2 :: .int x1 :: .ref (x0 + b) :: st) T I J := s_callI (As := [.int x1, .int x2, .int x3]) hd hw hc hi hnm hrt rfl hst hm h
theorem s_cIN_III {idx b k' n' : Nat} {host : String} {My : fM} {x1 : Int32} {x2 : Int32} {x3 : Int32} (hd : decode M.2.1 pc = .ok (.invokespecial idx, 3)) (hw : Cond.methodLinkNest M.1.cls idx My.1 host ∈ fm_nest) (hc : cb My 3) (hi : Cond.instanceMethod My.1 ∈ WL) (hnm : My.1.name = "<init>") (hrt : My.2.2.2 = none) (hst : (st.map fun v => v.category).sum ≤ 8) (hm : 4 ≤ My.2.2.1) (h : PW G x0 l My d (ZM G x0 (fun r T I J => PW G x0 l M (d + 1) Z k n (pc + 3) lv (rts r st) T I J)) k' n' 0 [(0, .ref (x0 + b)), (1, .int x1), (2, .int x2), (3, .int x3)] [] T I J) : PW G x0 l M (d + 1) Z (k + k') (n + n') pc lv (.int x3 :: .int x2 :: .int x1 :: .ref (x0 + b) :: st) T I J := s_callIN (As := [.int x1, .int x2, .int x3]) hd hw hc hi hnm hrt rfl hst hm h
theorem s_cSN_III {idx : Nat} {host : String} {My : fM} {x1 : Int32} {x2 : Int32} {x3 : Int32} (hd : decode M.2.1 pc = .ok (.invokestatic idx, 3)) (hw : Cond.methodLinkNest M.1.cls idx My.1 host ∈ fm_nest) (hc : cb My 3) (hs : Cond.static My.1 ∈ WL) (hst : (st.map fun v => v.category).sum ≤ 8) (hm : 3 ≤ My.2.2.1) (h : PW G x0 l My d (ZM G x0 (fun r T I J => PW G x0 l M (d + 1) Z k n (pc + 3) lv (rts r st) T I J)) 0 0 0 [(0, .int x1), (1, .int x2), (2, .int x3)] [] T I J) : PW G x0 l M (d + 1) Z k n pc lv (.int x3 :: .int x2 :: .int x1 :: st) T I J := s_callSN (As := [.int x1, .int x2, .int x3]) hd hw hc hs rfl hst hm h
theorem s_cV_IJJ {idx c b : Nat} {My : fM} {x1 : Int32} {x2 : Int64} {x3 : Int64} (hd : decode M.2.1 pc = .ok (.invokevirtual idx, 3)) (hw : Cond.methodLink M.1.cls idx My.1 ∈ WL) (hc : cb My 3) (hi : ci My c) (hb : b < T.1) (hk : T.2.1 b = c) (hst : (st.map fun v => v.category).sum ≤ 8) (hm : 6 ≤ My.2.2.1) (h : PW G x0 l My d (ZM G x0 (fun r T I J => PW G x0 l M (d + 1) Z k n (pc + 3) lv (rts r st) T I J)) 0 0 0 [(0, .ref (x0 + b)), (1, .int x1), (2, .long x2), (4, .long x3)] [] T I J) : PW G x0 l M (d + 1) Z k n pc lv (.long x3 :: .long x2 :: .int x1 :: .ref (x0 + b) :: st) T I J := s_callV (As := [.int x1, .long x2, .long x3]) hd hw hc hi hb hk rfl hst hm h
theorem s_cS_IJJ {idx : Nat} {My : fM} {x1 : Int32} {x2 : Int64} {x3 : Int64} (hd : decode M.2.1 pc = .ok (.invokestatic idx, 3)) (hw : Cond.methodLink M.1.cls idx My.1 ∈ WL) (hc : cb My 3) (hs : Cond.static My.1 ∈ WL) (hst : (st.map fun v => v.category).sum ≤ 8) (hm : 5 ≤ My.2.2.1) (h : PW G x0 l My d (ZM G x0 (fun r T I J => PW G x0 l M (d + 1) Z k n (pc + 3) lv (rts r st) T I J)) 0 0 0 [(0, .int x1), (1, .long x2), (3, .long x3)] [] T I J) : PW G x0 l M (d + 1) Z k n pc lv (.long x3 :: .long x2 :: .int x1 :: st) T I J := s_callS (As := [.int x1, .long x2, .long x3]) hd hw hc hs rfl hst hm h
theorem s_cI_IJJ {idx b k' n' : Nat} {My : fM} {x1 : Int32} {x2 : Int64} {x3 : Int64} (hd : decode M.2.1 pc = .ok (.invokespecial idx, 3)) (hw : Cond.methodLink M.1.cls idx My.1 ∈ WL) (hc : cb My 3) (hi : Cond.instanceMethod My.1 ∈ WL) (hnm : My.1.name = "<init>") (hrt : My.2.2.2 = none) (hst : (st.map fun v => v.category).sum ≤ 8) (hm : 6 ≤ My.2.2.1) (h : PW G x0 l My d (ZM G x0 (fun r T I J => PW G x0 l M (d + 1) Z k n (pc + 3) lv (rts r st) T I J)) k' n' 0 [(0, .ref (x0 + b)), (1, .int x1), (2, .long x2), (4, .long x3)] [] T I J) : PW G x0 l M (d + 1) Z (k + k') (n + n') pc lv (.long x3 :: .long x2 :: .int x1 :: .ref (x0 + b) :: st) T I J := s_callI (As := [.int x1, .long x2, .long x3]) hd hw hc hi hnm hrt rfl hst hm h
theorem s_cIN_IJJ {idx b k' n' : Nat} {host : String} {My : fM} {x1 : Int32} {x2 : Int64} {x3 : Int64} (hd : decode M.2.1 pc = .ok (.invokespecial idx, 3)) (hw : Cond.methodLinkNest M.1.cls idx My.1 host ∈ fm_nest) (hc : cb My 3) (hi : Cond.instanceMethod My.1 ∈ WL) (hnm : My.1.name = "<init>") (hrt : My.2.2.2 = none) (hst : (st.map fun v => v.category).sum ≤ 8) (hm : 6 ≤ My.2.2.1) (h : PW G x0 l My d (ZM G x0 (fun r T I J => PW G x0 l M (d + 1) Z k n (pc + 3) lv (rts r st) T I J)) k' n' 0 [(0, .ref (x0 + b)), (1, .int x1), (2, .long x2), (4, .long x3)] [] T I J) : PW G x0 l M (d + 1) Z (k + k') (n + n') pc lv (.long x3 :: .long x2 :: .int x1 :: .ref (x0 + b) :: st) T I J := s_callIN (As := [.int x1, .long x2, .long x3]) hd hw hc hi hnm hrt rfl hst hm h
theorem s_cSN_IJJ {idx : Nat} {host : String} {My : fM} {x1 : Int32} {x2 : Int64} {x3 : Int64} (hd : decode M.2.1 pc = .ok (.invokestatic idx, 3)) (hw : Cond.methodLinkNest M.1.cls idx My.1 host ∈ fm_nest) (hc : cb My 3) (hs : Cond.static My.1 ∈ WL) (hst : (st.map fun v => v.category).sum ≤ 8) (hm : 5 ≤ My.2.2.1) (h : PW G x0 l My d (ZM G x0 (fun r T I J => PW G x0 l M (d + 1) Z k n (pc + 3) lv (rts r st) T I J)) 0 0 0 [(0, .int x1), (1, .long x2), (3, .long x3)] [] T I J) : PW G x0 l M (d + 1) Z k n pc lv (.long x3 :: .long x2 :: .int x1 :: st) T I J := s_callSN (As := [.int x1, .long x2, .long x3]) hd hw hc hs rfl hst hm h
theorem s_cV_RII {idx c b : Nat} {My : fM} {x1 : Nat} {x2 : Int32} {x3 : Int32} (hd : decode M.2.1 pc = .ok (.invokevirtual idx, 3)) (hw : Cond.methodLink M.1.cls idx My.1 ∈ WL) (hc : cb My 3) (hi : ci My c) (hb : b < T.1) (hk : T.2.1 b = c) (hst : (st.map fun v => v.category).sum ≤ 8) (hm : 4 ≤ My.2.2.1) (h : PW G x0 l My d (ZM G x0 (fun r T I J => PW G x0 l M (d + 1) Z k n (pc + 3) lv (rts r st) T I J)) 0 0 0 [(0, .ref (x0 + b)), (1, .ref x1), (2, .int x2), (3, .int x3)] [] T I J) : PW G x0 l M (d + 1) Z k n pc lv (.int x3 :: .int x2 :: .ref x1 :: .ref (x0 + b) :: st) T I J := s_callV (As := [.ref x1, .int x2, .int x3]) hd hw hc hi hb hk rfl hst hm h
theorem s_cS_RII {idx : Nat} {My : fM} {x1 : Nat} {x2 : Int32} {x3 : Int32} (hd : decode M.2.1 pc = .ok (.invokestatic idx, 3)) (hw : Cond.methodLink M.1.cls idx My.1 ∈ WL) (hc : cb My 3) (hs : Cond.static My.1 ∈ WL) (hst : (st.map fun v => v.category).sum ≤ 8) (hm : 3 ≤ My.2.2.1) (h : PW G x0 l My d (ZM G x0 (fun r T I J => PW G x0 l M (d + 1) Z k n (pc + 3) lv (rts r st) T I J)) 0 0 0 [(0, .ref x1), (1, .int x2), (2, .int x3)] [] T I J) : PW G x0 l M (d + 1) Z k n pc lv (.int x3 :: .int x2 :: .ref x1 :: st) T I J := s_callS (As := [.ref x1, .int x2, .int x3]) hd hw hc hs rfl hst hm h
theorem s_cI_RII {idx b k' n' : Nat} {My : fM} {x1 : Nat} {x2 : Int32} {x3 : Int32} (hd : decode M.2.1 pc = .ok (.invokespecial idx, 3)) (hw : Cond.methodLink M.1.cls idx My.1 ∈ WL) (hc : cb My 3) (hi : Cond.instanceMethod My.1 ∈ WL) (hnm : My.1.name = "<init>") (hrt : My.2.2.2 = none) (hst : (st.map fun v => v.category).sum ≤ 8) (hm : 4 ≤ My.2.2.1) (h : PW G x0 l My d (ZM G x0 (fun r T I J => PW G x0 l M (d + 1) Z k n (pc + 3) lv (rts r st) T I J)) k' n' 0 [(0, .ref (x0 + b)), (1, .ref x1), (2, .int x2), (3, .int x3)] [] T I J) : PW G x0 l M (d + 1) Z (k + k') (n + n') pc lv (.int x3 :: .int x2 :: .ref x1 :: .ref (x0 + b) :: st) T I J := s_callI (As := [.ref x1, .int x2, .int x3]) hd hw hc hi hnm hrt rfl hst hm h
theorem s_cIN_RII {idx b k' n' : Nat} {host : String} {My : fM} {x1 : Nat} {x2 : Int32} {x3 : Int32} (hd : decode M.2.1 pc = .ok (.invokespecial idx, 3)) (hw : Cond.methodLinkNest M.1.cls idx My.1 host ∈ fm_nest) (hc : cb My 3) (hi : Cond.instanceMethod My.1 ∈ WL) (hnm : My.1.name = "<init>") (hrt : My.2.2.2 = none) (hst : (st.map fun v => v.category).sum ≤ 8) (hm : 4 ≤ My.2.2.1) (h : PW G x0 l My d (ZM G x0 (fun r T I J => PW G x0 l M (d + 1) Z k n (pc + 3) lv (rts r st) T I J)) k' n' 0 [(0, .ref (x0 + b)), (1, .ref x1), (2, .int x2), (3, .int x3)] [] T I J) : PW G x0 l M (d + 1) Z (k + k') (n + n') pc lv (.int x3 :: .int x2 :: .ref x1 :: .ref (x0 + b) :: st) T I J := s_callIN (As := [.ref x1, .int x2, .int x3]) hd hw hc hi hnm hrt rfl hst hm h
theorem s_cSN_RII {idx : Nat} {host : String} {My : fM} {x1 : Nat} {x2 : Int32} {x3 : Int32} (hd : decode M.2.1 pc = .ok (.invokestatic idx, 3)) (hw : Cond.methodLinkNest M.1.cls idx My.1 host ∈ fm_nest) (hc : cb My 3) (hs : Cond.static My.1 ∈ WL) (hst : (st.map fun v => v.category).sum ≤ 8) (hm : 3 ≤ My.2.2.1) (h : PW G x0 l My d (ZM G x0 (fun r T I J => PW G x0 l M (d + 1) Z k n (pc + 3) lv (rts r st) T I J)) 0 0 0 [(0, .ref x1), (1, .int x2), (2, .int x3)] [] T I J) : PW G x0 l M (d + 1) Z k n pc lv (.int x3 :: .int x2 :: .ref x1 :: st) T I J := s_callSN (As := [.ref x1, .int x2, .int x3]) hd hw hc hs rfl hst hm h
theorem s_cV_IIII {idx c b : Nat} {My : fM} {x1 : Int32} {x2 : Int32} {x3 : Int32} {x4 : Int32} (hd : decode M.2.1 pc = .ok (.invokevirtual idx, 3)) (hw : Cond.methodLink M.1.cls idx My.1 ∈ WL) (hc : cb My 4) (hi : ci My c) (hb : b < T.1) (hk : T.2.1 b = c) (hst : (st.map fun v => v.category).sum ≤ 8) (hm : 5 ≤ My.2.2.1) (h : PW G x0 l My d (ZM G x0 (fun r T I J => PW G x0 l M (d + 1) Z k n (pc + 3) lv (rts r st) T I J)) 0 0 0 [(0, .ref (x0 + b)), (1, .int x1), (2, .int x2), (3, .int x3), (4, .int x4)] [] T I J) : PW G x0 l M (d + 1) Z k n pc lv (.int x4 :: .int x3 :: .int x2 :: .int x1 :: .ref (x0 + b) :: st) T I J := s_callV (As := [.int x1, .int x2, .int x3, .int x4]) hd hw hc hi hb hk rfl hst hm h
theorem s_cS_IIII {idx : Nat} {My : fM} {x1 : Int32} {x2 : Int32} {x3 : Int32} {x4 : Int32} (hd : decode M.2.1 pc = .ok (.invokestatic idx, 3)) (hw : Cond.methodLink M.1.cls idx My.1 ∈ WL) (hc : cb My 4) (hs : Cond.static My.1 ∈ WL) (hst : (st.map fun v => v.category).sum ≤ 8) (hm : 4 ≤ My.2.2.1) (h : PW G x0 l My d (ZM G x0 (fun r T I J => PW G x0 l M (d + 1) Z k n (pc + 3) lv (rts r st) T I J)) 0 0 0 [(0, .int x1), (1, .int x2), (2, .int x3), (3, .int x4)] [] T I J) : PW G x0 l M (d + 1) Z k n pc lv (.int x4 :: .int x3 :: .int x2 :: .int x1 :: st) T I J := s_callS (As := [.int x1, .int x2, .int x3, .int x4]) hd hw hc hs rfl hst hm h
theorem s_cI_IIII {idx b k' n' : Nat} {My : fM} {x1 : Int32} {x2 : Int32} {x3 : Int32} {x4 : Int32} (hd : decode M.2.1 pc = .ok (.invokespecial idx, 3)) (hw : Cond.methodLink M.1.cls idx My.1 ∈ WL) (hc : cb My 4) (hi : Cond.instanceMethod My.1 ∈ WL) (hnm : My.1.name = "<init>") (hrt : My.2.2.2 = none) (hst : (st.map fun v => v.category).sum ≤ 8) (hm : 5 ≤ My.2.2.1) (h : PW G x0 l My d (ZM G x0 (fun r T I J => PW G x0 l M (d + 1) Z k n (pc + 3) lv (rts r st) T I J)) k' n' 0 [(0, .ref (x0 + b)), (1, .int x1), (2, .int x2), (3, .int x3), (4, .int x4)] [] T I J) : PW G x0 l M (d + 1) Z (k + k') (n + n') pc lv (.int x4 :: .int x3 :: .int x2 :: .int x1 :: .ref (x0 + b) :: st) T I J := s_callI (As := [.int x1, .int x2, .int x3, .int x4]) hd hw hc hi hnm hrt rfl hst hm h
theorem s_cIN_IIII {idx b k' n' : Nat} {host : String} {My : fM} {x1 : Int32} {x2 : Int32} {x3 : Int32} {x4 : Int32} (hd : decode M.2.1 pc = .ok (.invokespecial idx, 3)) (hw : Cond.methodLinkNest M.1.cls idx My.1 host ∈ fm_nest) (hc : cb My 4) (hi : Cond.instanceMethod My.1 ∈ WL) (hnm : My.1.name = "<init>") (hrt : My.2.2.2 = none) (hst : (st.map fun v => v.category).sum ≤ 8) (hm : 5 ≤ My.2.2.1) (h : PW G x0 l My d (ZM G x0 (fun r T I J => PW G x0 l M (d + 1) Z k n (pc + 3) lv (rts r st) T I J)) k' n' 0 [(0, .ref (x0 + b)), (1, .int x1), (2, .int x2), (3, .int x3), (4, .int x4)] [] T I J) : PW G x0 l M (d + 1) Z (k + k') (n + n') pc lv (.int x4 :: .int x3 :: .int x2 :: .int x1 :: .ref (x0 + b) :: st) T I J := s_callIN (As := [.int x1, .int x2, .int x3, .int x4]) hd hw hc hi hnm hrt rfl hst hm h
theorem s_cSN_IIII {idx : Nat} {host : String} {My : fM} {x1 : Int32} {x2 : Int32} {x3 : Int32} {x4 : Int32} (hd : decode M.2.1 pc = .ok (.invokestatic idx, 3)) (hw : Cond.methodLinkNest M.1.cls idx My.1 host ∈ fm_nest) (hc : cb My 4) (hs : Cond.static My.1 ∈ WL) (hst : (st.map fun v => v.category).sum ≤ 8) (hm : 4 ≤ My.2.2.1) (h : PW G x0 l My d (ZM G x0 (fun r T I J => PW G x0 l M (d + 1) Z k n (pc + 3) lv (rts r st) T I J)) 0 0 0 [(0, .int x1), (1, .int x2), (2, .int x3), (3, .int x4)] [] T I J) : PW G x0 l M (d + 1) Z k n pc lv (.int x4 :: .int x3 :: .int x2 :: .int x1 :: st) T I J := s_callSN (As := [.int x1, .int x2, .int x3, .int x4]) hd hw hc hs rfl hst hm h
theorem s_cV_RIRII {idx c b : Nat} {My : fM} {x1 : Nat} {x2 : Int32} {x3 : Nat} {x4 : Int32} {x5 : Int32} (hd : decode M.2.1 pc = .ok (.invokevirtual idx, 3)) (hw : Cond.methodLink M.1.cls idx My.1 ∈ WL) (hc : cb My 5) (hi : ci My c) (hb : b < T.1) (hk : T.2.1 b = c) (hst : (st.map fun v => v.category).sum ≤ 8) (hm : 6 ≤ My.2.2.1) (h : PW G x0 l My d (ZM G x0 (fun r T I J => PW G x0 l M (d + 1) Z k n (pc + 3) lv (rts r st) T I J)) 0 0 0 [(0, .ref (x0 + b)), (1, .ref x1), (2, .int x2), (3, .ref x3), (4, .int x4), (5, .int x5)] [] T I J) : PW G x0 l M (d + 1) Z k n pc lv (.int x5 :: .int x4 :: .ref x3 :: .int x2 :: .ref x1 :: .ref (x0 + b) :: st) T I J := s_callV (As := [.ref x1, .int x2, .ref x3, .int x4, .int x5]) hd hw hc hi hb hk rfl hst hm h
theorem s_cS_RIRII {idx : Nat} {My : fM} {x1 : Nat} {x2 : Int32} {x3 : Nat} {x4 : Int32} {x5 : Int32} (hd : decode M.2.1 pc = .ok (.invokestatic idx, 3)) (hw : Cond.methodLink M.1.cls idx My.1 ∈ WL) (hc : cb My 5) (hs : Cond.static My.1 ∈ WL) (hst : (st.map fun v => v.category).sum ≤ 8) (hm : 5 ≤ My.2.2.1) (h : PW G x0 l My d (ZM G x0 (fun r T I J => PW G x0 l M (d + 1) Z k n (pc + 3) lv (rts r st) T I J)) 0 0 0 [(0, .ref x1), (1, .int x2), (2, .ref x3), (3, .int x4), (4, .int x5)] [] T I J) : PW G x0 l M (d + 1) Z k n pc lv (.int x5 :: .int x4 :: .ref x3 :: .int x2 :: .ref x1 :: st) T I J := s_callS (As := [.ref x1, .int x2, .ref x3, .int x4, .int x5]) hd hw hc hs rfl hst hm h
theorem s_cI_RIRII {idx b k' n' : Nat} {My : fM} {x1 : Nat} {x2 : Int32} {x3 : Nat} {x4 : Int32} {x5 : Int32} (hd : decode M.2.1 pc = .ok (.invokespecial idx, 3)) (hw : Cond.methodLink M.1.cls idx My.1 ∈ WL) (hc : cb My 5) (hi : Cond.instanceMethod My.1 ∈ WL) (hnm : My.1.name = "<init>") (hrt : My.2.2.2 = none) (hst : (st.map fun v => v.category).sum ≤ 8) (hm : 6 ≤ My.2.2.1) (h : PW G x0 l My d (ZM G x0 (fun r T I J => PW G x0 l M (d + 1) Z k n (pc + 3) lv (rts r st) T I J)) k' n' 0 [(0, .ref (x0 + b)), (1, .ref x1), (2, .int x2), (3, .ref x3), (4, .int x4), (5, .int x5)] [] T I J) : PW G x0 l M (d + 1) Z (k + k') (n + n') pc lv (.int x5 :: .int x4 :: .ref x3 :: .int x2 :: .ref x1 :: .ref (x0 + b) :: st) T I J := s_callI (As := [.ref x1, .int x2, .ref x3, .int x4, .int x5]) hd hw hc hi hnm hrt rfl hst hm h
theorem s_cIN_RIRII {idx b k' n' : Nat} {host : String} {My : fM} {x1 : Nat} {x2 : Int32} {x3 : Nat} {x4 : Int32} {x5 : Int32} (hd : decode M.2.1 pc = .ok (.invokespecial idx, 3)) (hw : Cond.methodLinkNest M.1.cls idx My.1 host ∈ fm_nest) (hc : cb My 5) (hi : Cond.instanceMethod My.1 ∈ WL) (hnm : My.1.name = "<init>") (hrt : My.2.2.2 = none) (hst : (st.map fun v => v.category).sum ≤ 8) (hm : 6 ≤ My.2.2.1) (h : PW G x0 l My d (ZM G x0 (fun r T I J => PW G x0 l M (d + 1) Z k n (pc + 3) lv (rts r st) T I J)) k' n' 0 [(0, .ref (x0 + b)), (1, .ref x1), (2, .int x2), (3, .ref x3), (4, .int x4), (5, .int x5)] [] T I J) : PW G x0 l M (d + 1) Z (k + k') (n + n') pc lv (.int x5 :: .int x4 :: .ref x3 :: .int x2 :: .ref x1 :: .ref (x0 + b) :: st) T I J := s_callIN (As := [.ref x1, .int x2, .ref x3, .int x4, .int x5]) hd hw hc hi hnm hrt rfl hst hm h
theorem s_cSN_RIRII {idx : Nat} {host : String} {My : fM} {x1 : Nat} {x2 : Int32} {x3 : Nat} {x4 : Int32} {x5 : Int32} (hd : decode M.2.1 pc = .ok (.invokestatic idx, 3)) (hw : Cond.methodLinkNest M.1.cls idx My.1 host ∈ fm_nest) (hc : cb My 5) (hs : Cond.static My.1 ∈ WL) (hst : (st.map fun v => v.category).sum ≤ 8) (hm : 5 ≤ My.2.2.1) (h : PW G x0 l My d (ZM G x0 (fun r T I J => PW G x0 l M (d + 1) Z k n (pc + 3) lv (rts r st) T I J)) 0 0 0 [(0, .ref x1), (1, .int x2), (2, .ref x3), (3, .int x4), (4, .int x5)] [] T I J) : PW G x0 l M (d + 1) Z k n pc lv (.int x5 :: .int x4 :: .ref x3 :: .int x2 :: .ref x1 :: st) T I J := s_callSN (As := [.ref x1, .int x2, .ref x3, .int x4, .int x5]) hd hw hc hs rfl hst hm h
end FW
