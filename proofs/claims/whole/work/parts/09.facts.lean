/-! facts of the tables, by class: fields by their pool places, methods -/
theorem in_X0 : ∀ w ∈ u_ws RX0 TX0 3, w ∈ wsAll := by decide +kernel
theorem in_X1 : ∀ w ∈ u_ws RX1 TX1 6, w ∈ wsAll := by decide +kernel
theorem in_X2 : ∀ w ∈ u_ws RX2 TX2 3, w ∈ wsAll := by decide +kernel
theorem in_X3 : ∀ w ∈ u_ws RX3 TX3 8, w ∈ wsAll := by decide +kernel
theorem in_X4 : ∀ w ∈ u_ws RX4 TX4 3, w ∈ wsAll := by decide +kernel
theorem in_X5 : ∀ w ∈ u_ws RX5 TX5 3, w ∈ wsAll := by decide +kernel
theorem in_X7 : ∀ w ∈ u_ws RX7 TX7 4, w ∈ wsAll := by decide +kernel
theorem in_X8 : ∀ w ∈ u_ws RX8 TX8 8, w ∈ wsAll := by decide +kernel
theorem in_X9 : ∀ w ∈ u_ws RX9 TX9 4, w ∈ wsAll := by decide +kernel
theorem in_X10 : ∀ w ∈ u_ws RX10 TX10 16, w ∈ wsAll := by decide +kernel
theorem in_X11 : ∀ w ∈ u_ws RX11 TX11 25, w ∈ wsAll := by decide +kernel
theorem fp_X10_10_9 : FP RX10 10 9 0 (.object "RoseLane$Text") true := ⟨RX10, TX10, 16, tyX10, rfl, by decide, in_X10, w_214, tyX10_ok, nmX10, rfl, by decide +kernel, fun _ => rfl⟩
theorem fp_X10_19_9 : FP RX10 19 9 1 (.object "RoseLane$Lane") true := ⟨RX10, TX10, 16, tyX10, rfl, by decide, in_X10, w_215, tyX10_ok, nmX10, rfl, by decide +kernel, fun _ => rfl⟩
theorem fp_X10_26_9 : FP RX10 26 9 2 (.object "RoseLane$Nose") true := ⟨RX10, TX10, 16, tyX10, rfl, by decide, in_X10, w_216, tyX10_ok, nmX10, rfl, by decide +kernel, fun _ => rfl⟩
theorem fp_X10_33_9 : FP RX10 33 9 3 (.object "RoseLane$Tells") true := ⟨RX10, TX10, 16, tyX10, rfl, by decide, in_X10, w_217, tyX10_ok, nmX10, rfl, by decide +kernel, fun _ => rfl⟩
theorem fp_X10_37_9 : FP RX10 37 9 4 (.array (.object "RoseLane$Nose")) true := ⟨RX10, TX10, 16, tyX10, rfl, by decide, in_X10, w_218, tyX10_ok, nmX10, rfl, by decide +kernel, fun _ => rfl⟩
theorem fp_X10_41_9 : FP RX10 41 9 7 (.array (.object "RoseLane$Nose")) true := ⟨RX10, TX10, 16, tyX10, rfl, by decide, in_X10, w_221, tyX10_ok, nmX10, rfl, by decide +kernel, fun _ => rfl⟩
theorem fp_X10_44_9 : FP RX10 44 9 8 (.array (.boolean)) true := ⟨RX10, TX10, 16, tyX10, rfl, by decide, in_X10, w_222, tyX10_ok, nmX10, rfl, by decide +kernel, fun _ => rfl⟩
theorem fp_X10_48_9 : FP RX10 48 9 9 (.object "RoseLane$Nose") true := ⟨RX10, TX10, 16, tyX10, rfl, by decide, in_X10, w_223, tyX10_ok, nmX10, rfl, by decide +kernel, fun _ => rfl⟩
theorem fp_X10_54_9 : FP RX10 54 9 10 (.object "RoseLane$Walks") true := ⟨RX10, TX10, 16, tyX10, rfl, by decide, in_X10, w_224, tyX10_ok, nmX10, rfl, by decide +kernel, fun _ => rfl⟩
theorem fp_X10_58_9 : FP RX10 58 9 11 (.array (.int)) true := ⟨RX10, TX10, 16, tyX10, rfl, by decide, in_X10, w_225, tyX10_ok, nmX10, rfl, by decide +kernel, fun _ => rfl⟩
theorem fp_X10_67_9 : FP RX10 67 9 12 (.object "RoseLane$Coffee") true := ⟨RX10, TX10, 16, tyX10, rfl, by decide, in_X10, w_226, tyX10_ok, nmX10, rfl, by decide +kernel, fun _ => rfl⟩
theorem fp_X10_71_9 : FP RX10 71 9 13 (.array (.int)) true := ⟨RX10, TX10, 16, tyX10, rfl, by decide, in_X10, w_227, tyX10_ok, nmX10, rfl, by decide +kernel, fun _ => rfl⟩
theorem fa_X10_37_9 : FA RX10 37 9 4 := ⟨RX10, TX10, 16, "RoseLane", rfl, by decide, in_X10, w_218, Or.inl rfl⟩
theorem fa_X10_41_9 : FA RX10 41 9 7 := ⟨RX10, TX10, 16, "RoseLane", rfl, by decide, in_X10, w_221, Or.inl rfl⟩
theorem fa_X10_26_9 : FA RX10 26 9 2 := ⟨RX10, TX10, 16, "RoseLane", rfl, by decide, in_X10, w_216, Or.inl rfl⟩
theorem fp_X10_74_3 : FP RX10 74 3 4 (.int) false := ⟨RX3, TX3, 8, tyX3, rfl, by decide, in_X3, w_117, tyX3_ok, nmX3, rfl, by decide +kernel, (fun h => by cases h)⟩
theorem fa_X10_10_9 : FA RX10 10 9 0 := ⟨RX10, TX10, 16, "RoseLane", rfl, by decide, in_X10, w_214, Or.inl rfl⟩
theorem fa_X10_86_7 : FA RX10 86 7 1 := ⟨RX8, TX8, 8, "RoseLane$Text", rfl, by decide, in_X8, w_35, Or.inl rfl⟩
theorem fp_X10_86_7 : FP RX10 86 7 1 (.int) false := ⟨RX8, TX8, 8, tyX8, rfl, by decide, in_X8, w_35, tyX8_ok, nmX8, rfl, by decide +kernel, (fun h => by cases h)⟩
theorem fa_X10_19_9 : FA RX10 19 9 1 := ⟨RX10, TX10, 16, "RoseLane", rfl, by decide, in_X10, w_215, Or.inl rfl⟩
theorem fa_X10_89_1 : FA RX10 89 1 3 := ⟨RX1, TX1, 6, "RoseLane$Lane", rfl, by decide, in_X1, w_83, Or.inl rfl⟩
theorem fa_X10_96_7 : FA RX10 96 7 4 := ⟨RX8, TX8, 8, "RoseLane$Text", rfl, by decide, in_X8, w_40, Or.inl rfl⟩
theorem fa_X10_99_7 : FA RX10 99 7 2 := ⟨RX8, TX8, 8, "RoseLane$Text", rfl, by decide, in_X8, w_37, Or.inl rfl⟩
theorem fp_X10_114_3 : FP RX10 114 3 7 (.boolean) false := ⟨RX3, TX3, 8, tyX3, rfl, by decide, in_X3, w_124, tyX3_ok, nmX3, rfl, by decide +kernel, (fun h => by cases h)⟩
theorem fa_X10_33_9 : FA RX10 33 9 3 := ⟨RX10, TX10, 16, "RoseLane", rfl, by decide, in_X10, w_217, Or.inl rfl⟩
theorem fp_X10_118_6 : FP RX10 118 6 3 (.int) false := ⟨RX7, TX7, 4, tyX7, rfl, by decide, in_X7, w_152, tyX7_ok, nmX7, rfl, by decide +kernel, (fun h => by cases h)⟩
theorem fp_X10_121_9 : FP RX10 121 9 6 (.int) false := ⟨RX10, TX10, 16, tyX10, rfl, by decide, in_X10, w_220, tyX10_ok, nmX10, rfl, by decide +kernel, (fun h => by cases h)⟩
theorem fa_X10_44_9 : FA RX10 44 9 8 := ⟨RX10, TX10, 16, "RoseLane", rfl, by decide, in_X10, w_222, Or.inl rfl⟩
theorem fa_X10_124_1 : FA RX10 124 1 0 := ⟨RX1, TX1, 6, "RoseLane$Lane", rfl, by decide, in_X1, w_77, Or.inl rfl⟩
theorem fa_X10_127_1 : FA RX10 127 1 1 := ⟨RX1, TX1, 6, "RoseLane$Lane", rfl, by decide, in_X1, w_80, Or.inl rfl⟩
theorem fa_X10_130_3 : FA RX10 130 3 0 := ⟨RX3, TX3, 8, "RoseLane$Nose", rfl, by decide, in_X3, w_110, Or.inl rfl⟩
theorem fa_X10_143_0 : FA RX10 143 0 0 := ⟨RX0, TX0, 3, "RoseLane$Shop", rfl, by decide, in_X0, w_201, Or.inl rfl⟩
theorem fa_X10_143_2 : FA RX10 143 2 0 := ⟨RX2, TX2, 3, "RoseLane$Shop", rfl, by decide, in_X2, w_201, Or.inl rfl⟩
theorem fa_X10_143_4 : FA RX10 143 4 0 := ⟨RX4, TX4, 3, "RoseLane$Shop", rfl, by decide, in_X4, w_201, Or.inl rfl⟩
theorem fa_X10_143_5 : FA RX10 143 5 0 := ⟨RX5, TX5, 3, "RoseLane$Shop", rfl, by decide, in_X5, w_201, Or.inl rfl⟩
theorem fa_X10_146_0 : FA RX10 146 0 1 := ⟨RX0, TX0, 3, "RoseLane$Shop", rfl, by decide, in_X0, w_203, Or.inl rfl⟩
theorem fa_X10_146_2 : FA RX10 146 2 1 := ⟨RX2, TX2, 3, "RoseLane$Shop", rfl, by decide, in_X2, w_203, Or.inl rfl⟩
theorem fa_X10_146_4 : FA RX10 146 4 1 := ⟨RX4, TX4, 3, "RoseLane$Shop", rfl, by decide, in_X4, w_203, Or.inl rfl⟩
theorem fa_X10_146_5 : FA RX10 146 5 1 := ⟨RX5, TX5, 3, "RoseLane$Shop", rfl, by decide, in_X5, w_203, Or.inl rfl⟩
theorem fa_X10_149_0 : FA RX10 149 0 2 := ⟨RX0, TX0, 3, "RoseLane$Shop", rfl, by decide, in_X0, w_205, Or.inl rfl⟩
theorem fa_X10_149_2 : FA RX10 149 2 2 := ⟨RX2, TX2, 3, "RoseLane$Shop", rfl, by decide, in_X2, w_205, Or.inl rfl⟩
theorem fa_X10_149_4 : FA RX10 149 4 2 := ⟨RX4, TX4, 3, "RoseLane$Shop", rfl, by decide, in_X4, w_205, Or.inl rfl⟩
theorem fa_X10_149_5 : FA RX10 149 5 2 := ⟨RX5, TX5, 3, "RoseLane$Shop", rfl, by decide, in_X5, w_205, Or.inl rfl⟩
theorem fa_X10_156_3 : FA RX10 156 3 5 := ⟨RX3, TX3, 8, "RoseLane$Nose", rfl, by decide, in_X3, w_120, Or.inl rfl⟩
theorem fa_X10_159_3 : FA RX10 159 3 3 := ⟨RX3, TX3, 8, "RoseLane$Nose", rfl, by decide, in_X3, w_116, Or.inl rfl⟩
theorem fa_X10_176_3 : FA RX10 176 3 2 := ⟨RX3, TX3, 8, "RoseLane$Nose", rfl, by decide, in_X3, w_114, Or.inl rfl⟩
theorem fa_X10_114_3 : FA RX10 114 3 7 := ⟨RX3, TX3, 8, "RoseLane$Nose", rfl, by decide, in_X3, w_124, Or.inl rfl⟩
theorem fa_X10_189_3 : FA RX10 189 3 1 := ⟨RX3, TX3, 8, "RoseLane$Nose", rfl, by decide, in_X3, w_112, Or.inl rfl⟩
theorem fp_X10_189_3 : FP RX10 189 3 1 (.int) false := ⟨RX3, TX3, 8, tyX3, rfl, by decide, in_X3, w_112, tyX3_ok, nmX3, rfl, by decide +kernel, (fun h => by cases h)⟩
theorem fp_X10_159_3 : FP RX10 159 3 3 (.int) false := ⟨RX3, TX3, 8, tyX3, rfl, by decide, in_X3, w_116, tyX3_ok, nmX3, rfl, by decide +kernel, (fun h => by cases h)⟩
theorem fa_X10_121_9 : FA RX10 121 9 6 := ⟨RX10, TX10, 16, "RoseLane", rfl, by decide, in_X10, w_220, Or.inl rfl⟩
theorem fa_X10_192_9 : FA RX10 192 9 5 := ⟨RX10, TX10, 16, "RoseLane", rfl, by decide, in_X10, w_219, Or.inl rfl⟩
theorem fp_X10_192_9 : FP RX10 192 9 5 (.int) false := ⟨RX10, TX10, 16, tyX10, rfl, by decide, in_X10, w_219, tyX10_ok, nmX10, rfl, by decide +kernel, (fun h => by cases h)⟩
theorem fa_X10_207_9 : FA RX10 207 9 14 := ⟨RX10, TX10, 16, "RoseLane", rfl, by decide, in_X10, w_228, Or.inl rfl⟩
theorem fa_X10_210_9 : FA RX10 210 9 15 := ⟨RX10, TX10, 16, "RoseLane", rfl, by decide, in_X10, w_229, Or.inl rfl⟩
theorem fa_X10_54_9 : FA RX10 54 9 10 := ⟨RX10, TX10, 16, "RoseLane", rfl, by decide, in_X10, w_224, Or.inl rfl⟩
theorem fa_X10_213_8 : FA RX10 213 8 3 := ⟨RX9, TX9, 4, "RoseLane$Walks", rfl, by decide, in_X9, w_176, Or.inl rfl⟩
theorem fa_X10_71_9 : FA RX10 71 9 13 := ⟨RX10, TX10, 16, "RoseLane", rfl, by decide, in_X10, w_227, Or.inl rfl⟩
theorem fa_X10_48_9 : FA RX10 48 9 9 := ⟨RX10, TX10, 16, "RoseLane", rfl, by decide, in_X10, w_223, Or.inl rfl⟩
theorem fa_X10_118_6 : FA RX10 118 6 3 := ⟨RX7, TX7, 4, "RoseLane$Tells", rfl, by decide, in_X7, w_152, Or.inl rfl⟩
theorem fa_X10_253_1 : FA RX10 253 1 4 := ⟨RX1, TX1, 6, "RoseLane$Lane", rfl, by decide, in_X1, w_87, Or.inl rfl⟩
theorem fa_X10_74_3 : FA RX10 74 3 4 := ⟨RX3, TX3, 8, "RoseLane$Nose", rfl, by decide, in_X3, w_117, Or.inl rfl⟩
theorem fa_X10_256_3 : FA RX10 256 3 6 := ⟨RX3, TX3, 8, "RoseLane$Nose", rfl, by decide, in_X3, w_122, Or.inl rfl⟩
theorem fp_X10_207_9 : FP RX10 207 9 14 (.int) false := ⟨RX10, TX10, 16, tyX10, rfl, by decide, in_X10, w_228, tyX10_ok, nmX10, rfl, by decide +kernel, (fun h => by cases h)⟩
theorem fp_X10_210_9 : FP RX10 210 9 15 (.int) false := ⟨RX10, TX10, 16, tyX10, rfl, by decide, in_X10, w_229, tyX10_ok, nmX10, rfl, by decide +kernel, (fun h => by cases h)⟩
theorem fa_X10_276_8 : FA RX10 276 8 0 := ⟨RX9, TX9, 4, "RoseLane$Walks", rfl, by decide, in_X9, w_172, Or.inl rfl⟩
theorem fa_X10_58_9 : FA RX10 58 9 11 := ⟨RX10, TX10, 16, "RoseLane", rfl, by decide, in_X10, w_225, Or.inl rfl⟩
theorem fa_X10_67_9 : FA RX10 67 9 12 := ⟨RX10, TX10, 16, "RoseLane", rfl, by decide, in_X10, w_226, Or.inl rfl⟩
theorem fp_X11_7_10 : FP RX11 7 10 0 (.array (.int)) true := ⟨RX11, TX11, 25, tyX11, rfl, by decide, in_X11, w_708, tyX11_ok, nmX11, rfl, by decide +kernel, fun _ => rfl⟩
theorem fp_X11_13_10 : FP RX11 13 10 1 (.array (.boolean)) true := ⟨RX11, TX11, 25, tyX11, rfl, by decide, in_X11, w_709, tyX11_ok, nmX11, rfl, by decide +kernel, fun _ => rfl⟩
theorem fp_X11_17_10 : FP RX11 17 10 2 (.array (.int)) true := ⟨RX11, TX11, 25, tyX11, rfl, by decide, in_X11, w_710, tyX11_ok, nmX11, rfl, by decide +kernel, fun _ => rfl⟩
theorem fp_X11_20_10 : FP RX11 20 10 3 (.array (.int)) true := ⟨RX11, TX11, 25, tyX11, rfl, by decide, in_X11, w_711, tyX11_ok, nmX11, rfl, by decide +kernel, fun _ => rfl⟩
theorem fp_X11_23_10 : FP RX11 23 10 4 (.array (.int)) true := ⟨RX11, TX11, 25, tyX11, rfl, by decide, in_X11, w_712, tyX11_ok, nmX11, rfl, by decide +kernel, fun _ => rfl⟩
theorem fp_X11_26_10 : FP RX11 26 10 5 (.array (.int)) true := ⟨RX11, TX11, 25, tyX11, rfl, by decide, in_X11, w_713, tyX11_ok, nmX11, rfl, by decide +kernel, fun _ => rfl⟩
theorem fp_X11_29_10 : FP RX11 29 10 6 (.array (.int)) true := ⟨RX11, TX11, 25, tyX11, rfl, by decide, in_X11, w_714, tyX11_ok, nmX11, rfl, by decide +kernel, fun _ => rfl⟩
theorem fp_X11_32_10 : FP RX11 32 10 7 (.array (.int)) true := ⟨RX11, TX11, 25, tyX11, rfl, by decide, in_X11, w_715, tyX11_ok, nmX11, rfl, by decide +kernel, fun _ => rfl⟩
theorem fp_X11_35_10 : FP RX11 35 10 8 (.array (.int)) true := ⟨RX11, TX11, 25, tyX11, rfl, by decide, in_X11, w_716, tyX11_ok, nmX11, rfl, by decide +kernel, fun _ => rfl⟩
theorem fp_X11_38_10 : FP RX11 38 10 9 (.array (.int)) true := ⟨RX11, TX11, 25, tyX11, rfl, by decide, in_X11, w_717, tyX11_ok, nmX11, rfl, by decide +kernel, fun _ => rfl⟩
theorem fp_X11_41_10 : FP RX11 41 10 10 (.array (.int)) true := ⟨RX11, TX11, 25, tyX11, rfl, by decide, in_X11, w_718, tyX11_ok, nmX11, rfl, by decide +kernel, fun _ => rfl⟩
theorem fp_X11_44_10 : FP RX11 44 10 11 (.array (.int)) true := ⟨RX11, TX11, 25, tyX11, rfl, by decide, in_X11, w_719, tyX11_ok, nmX11, rfl, by decide +kernel, fun _ => rfl⟩
theorem fp_X11_47_10 : FP RX11 47 10 18 (.array (.int)) true := ⟨RX11, TX11, 25, tyX11, rfl, by decide, in_X11, w_726, tyX11_ok, nmX11, rfl, by decide +kernel, fun _ => rfl⟩
theorem fp_X11_50_10 : FP RX11 50 10 19 (.array (.int)) true := ⟨RX11, TX11, 25, tyX11, rfl, by decide, in_X11, w_727, tyX11_ok, nmX11, rfl, by decide +kernel, fun _ => rfl⟩
theorem fp_X11_53_10 : FP RX11 53 10 21 (.array (.int)) true := ⟨RX11, TX11, 25, tyX11, rfl, by decide, in_X11, w_729, tyX11_ok, nmX11, rfl, by decide +kernel, fun _ => rfl⟩
theorem fp_X11_56_10 : FP RX11 56 10 22 (.array (.int)) true := ⟨RX11, TX11, 25, tyX11, rfl, by decide, in_X11, w_730, tyX11_ok, nmX11, rfl, by decide +kernel, fun _ => rfl⟩
theorem fp_X11_59_10 : FP RX11 59 10 23 (.array (.int)) true := ⟨RX11, TX11, 25, tyX11, rfl, by decide, in_X11, w_731, tyX11_ok, nmX11, rfl, by decide +kernel, fun _ => rfl⟩
theorem fa_X11_7_10 : FA RX11 7 10 0 := ⟨RX11, TX11, 25, "RoseLaneModel", rfl, by decide, in_X11, w_708, Or.inl rfl⟩
theorem fa_X11_41_10 : FA RX11 41 10 10 := ⟨RX11, TX11, 25, "RoseLaneModel", rfl, by decide, in_X11, w_718, Or.inl rfl⟩
theorem fa_X11_17_10 : FA RX11 17 10 2 := ⟨RX11, TX11, 25, "RoseLaneModel", rfl, by decide, in_X11, w_710, Or.inl rfl⟩
theorem fa_X11_20_10 : FA RX11 20 10 3 := ⟨RX11, TX11, 25, "RoseLaneModel", rfl, by decide, in_X11, w_711, Or.inl rfl⟩
theorem fa_X11_35_10 : FA RX11 35 10 8 := ⟨RX11, TX11, 25, "RoseLaneModel", rfl, by decide, in_X11, w_716, Or.inl rfl⟩
theorem fa_X11_38_10 : FA RX11 38 10 9 := ⟨RX11, TX11, 25, "RoseLaneModel", rfl, by decide, in_X11, w_717, Or.inl rfl⟩
theorem fa_X11_23_10 : FA RX11 23 10 4 := ⟨RX11, TX11, 25, "RoseLaneModel", rfl, by decide, in_X11, w_712, Or.inl rfl⟩
theorem fa_X11_26_10 : FA RX11 26 10 5 := ⟨RX11, TX11, 25, "RoseLaneModel", rfl, by decide, in_X11, w_713, Or.inl rfl⟩
theorem fa_X11_29_10 : FA RX11 29 10 6 := ⟨RX11, TX11, 25, "RoseLaneModel", rfl, by decide, in_X11, w_714, Or.inl rfl⟩
theorem fa_X11_32_10 : FA RX11 32 10 7 := ⟨RX11, TX11, 25, "RoseLaneModel", rfl, by decide, in_X11, w_715, Or.inl rfl⟩
theorem fa_X11_72_10 : FA RX11 72 10 12 := ⟨RX11, TX11, 25, "RoseLaneModel", rfl, by decide, in_X11, w_720, Or.inl rfl⟩
theorem fa_X11_44_10 : FA RX11 44 10 11 := ⟨RX11, TX11, 25, "RoseLaneModel", rfl, by decide, in_X11, w_719, Or.inl rfl⟩
theorem fp_X11_72_10 : FP RX11 72 10 12 (.int) false := ⟨RX11, TX11, 25, tyX11, rfl, by decide, in_X11, w_720, tyX11_ok, nmX11, rfl, by decide +kernel, (fun h => by cases h)⟩
theorem fa_X11_76_10 : FA RX11 76 10 13 := ⟨RX11, TX11, 25, "RoseLaneModel", rfl, by decide, in_X11, w_721, Or.inl rfl⟩
theorem fp_X11_76_10 : FP RX11 76 10 13 (.int) false := ⟨RX11, TX11, 25, tyX11, rfl, by decide, in_X11, w_721, tyX11_ok, nmX11, rfl, by decide +kernel, (fun h => by cases h)⟩
theorem fp_X11_79_10 : FP RX11 79 10 14 (.int) false := ⟨RX11, TX11, 25, tyX11, rfl, by decide, in_X11, w_722, tyX11_ok, nmX11, rfl, by decide +kernel, (fun h => by cases h)⟩
theorem fa_X11_82_10 : FA RX11 82 10 15 := ⟨RX11, TX11, 25, "RoseLaneModel", rfl, by decide, in_X11, w_723, Or.inl rfl⟩
theorem fp_X11_82_10 : FP RX11 82 10 15 (.boolean) false := ⟨RX11, TX11, 25, tyX11, rfl, by decide, in_X11, w_723, tyX11_ok, nmX11, rfl, by decide +kernel, (fun h => by cases h)⟩
theorem fa_X11_79_10 : FA RX11 79 10 14 := ⟨RX11, TX11, 25, "RoseLaneModel", rfl, by decide, in_X11, w_722, Or.inl rfl⟩
theorem fa_X11_120_10 : FA RX11 120 10 16 := ⟨RX11, TX11, 25, "RoseLaneModel", rfl, by decide, in_X11, w_724, Or.inl rfl⟩
theorem fp_X11_120_10 : FP RX11 120 10 16 (.int) false := ⟨RX11, TX11, 25, tyX11, rfl, by decide, in_X11, w_724, tyX11_ok, nmX11, rfl, by decide +kernel, (fun h => by cases h)⟩
theorem fp_X11_136_10 : FP RX11 136 10 24 (.int) false := ⟨RX11, TX11, 25, tyX11, rfl, by decide, in_X11, w_732, tyX11_ok, nmX11, rfl, by decide +kernel, (fun h => by cases h)⟩
theorem fp_X11_139_10 : FP RX11 139 10 17 (.int) false := ⟨RX11, TX11, 25, tyX11, rfl, by decide, in_X11, w_725, tyX11_ok, nmX11, rfl, by decide +kernel, (fun h => by cases h)⟩
theorem fa_X11_13_10 : FA RX11 13 10 1 := ⟨RX11, TX11, 25, "RoseLaneModel", rfl, by decide, in_X11, w_709, Or.inl rfl⟩
theorem fa_X11_139_10 : FA RX11 139 10 17 := ⟨RX11, TX11, 25, "RoseLaneModel", rfl, by decide, in_X11, w_725, Or.inl rfl⟩
theorem fp_X11_188_10 : FP RX11 188 10 20 (.int) false := ⟨RX11, TX11, 25, tyX11, rfl, by decide, in_X11, w_728, tyX11_ok, nmX11, rfl, by decide +kernel, (fun h => by cases h)⟩
theorem fa_X11_47_10 : FA RX11 47 10 18 := ⟨RX11, TX11, 25, "RoseLaneModel", rfl, by decide, in_X11, w_726, Or.inl rfl⟩
theorem fa_X11_188_10 : FA RX11 188 10 20 := ⟨RX11, TX11, 25, "RoseLaneModel", rfl, by decide, in_X11, w_728, Or.inl rfl⟩
theorem fa_X11_50_10 : FA RX11 50 10 19 := ⟨RX11, TX11, 25, "RoseLaneModel", rfl, by decide, in_X11, w_727, Or.inl rfl⟩
theorem fa_X11_136_10 : FA RX11 136 10 24 := ⟨RX11, TX11, 25, "RoseLaneModel", rfl, by decide, in_X11, w_732, Or.inl rfl⟩
theorem fa_X11_53_10 : FA RX11 53 10 21 := ⟨RX11, TX11, 25, "RoseLaneModel", rfl, by decide, in_X11, w_729, Or.inl rfl⟩
theorem fa_X11_56_10 : FA RX11 56 10 22 := ⟨RX11, TX11, 25, "RoseLaneModel", rfl, by decide, in_X11, w_730, Or.inl rfl⟩
theorem fa_X11_59_10 : FA RX11 59 10 23 := ⟨RX11, TX11, 25, "RoseLaneModel", rfl, by decide, in_X11, w_731, Or.inl rfl⟩
theorem fp_X1_9_1 : FP RX1 9 1 0 (.array (.int)) true := ⟨RX1, TX1, 6, tyX1, rfl, by decide, in_X1, w_75, tyX1_ok, nmX1, rfl, by decide +kernel, fun _ => rfl⟩
theorem fp_X1_15_1 : FP RX1 15 1 1 (.array (.int)) true := ⟨RX1, TX1, 6, tyX1, rfl, by decide, in_X1, w_78, tyX1_ok, nmX1, rfl, by decide +kernel, fun _ => rfl⟩
theorem fp_X1_20_1 : FP RX1 20 1 2 (.array (.object "RoseLane$Shop")) true := ⟨RX1, TX1, 6, tyX1, rfl, by decide, in_X1, w_81, tyX1_ok, nmX1, rfl, by decide +kernel, fun _ => rfl⟩
theorem fa_X1_9_1 : FA RX1 9 1 0 := ⟨RX1, TX1, 6, "RoseLane$Lane", rfl, by decide, in_X1, w_75, Or.inl rfl⟩
theorem fa_X1_15_1 : FA RX1 15 1 1 := ⟨RX1, TX1, 6, "RoseLane$Lane", rfl, by decide, in_X1, w_78, Or.inl rfl⟩
theorem fp_X1_27_1 : FP RX1 27 1 3 (.int) false := ⟨RX1, TX1, 6, tyX1, rfl, by decide, in_X1, w_82, tyX1_ok, nmX1, rfl, by decide +kernel, (fun h => by cases h)⟩
theorem fp_X1_31_1 : FP RX1 31 1 4 (.int) false := ⟨RX1, TX1, 6, tyX1, rfl, by decide, in_X1, w_85, tyX1_ok, nmX1, rfl, by decide +kernel, (fun h => by cases h)⟩
theorem fp_X1_34_1 : FP RX1 34 1 5 (.int) false := ⟨RX1, TX1, 6, tyX1, rfl, by decide, in_X1, w_88, tyX1_ok, nmX1, rfl, by decide +kernel, (fun h => by cases h)⟩
theorem fa_X1_27_1 : FA RX1 27 1 3 := ⟨RX1, TX1, 6, "RoseLane$Lane", rfl, by decide, in_X1, w_82, Or.inl rfl⟩
theorem fa_X1_20_1 : FA RX1 20 1 2 := ⟨RX1, TX1, 6, "RoseLane$Lane", rfl, by decide, in_X1, w_81, Or.inl rfl⟩
theorem fp_X3_9_3 : FP RX3 9 3 0 (.array (.int)) true := ⟨RX3, TX3, 8, tyX3, rfl, by decide, in_X3, w_109, tyX3_ok, nmX3, rfl, by decide +kernel, fun _ => rfl⟩
theorem fa_X3_9_3 : FA RX3 9 3 0 := ⟨RX3, TX3, 8, "RoseLane$Nose", rfl, by decide, in_X3, w_109, Or.inl rfl⟩
theorem fa_X3_21_3 : FA RX3 21 3 1 := ⟨RX3, TX3, 8, "RoseLane$Nose", rfl, by decide, in_X3, w_111, Or.inl rfl⟩
theorem fp_X3_21_3 : FP RX3 21 3 1 (.int) false := ⟨RX3, TX3, 8, tyX3, rfl, by decide, in_X3, w_111, tyX3_ok, nmX3, rfl, by decide +kernel, (fun h => by cases h)⟩
theorem fa_X3_25_3 : FA RX3 25 3 2 := ⟨RX3, TX3, 8, "RoseLane$Nose", rfl, by decide, in_X3, w_113, Or.inl rfl⟩
theorem fp_X3_25_3 : FP RX3 25 3 2 (.int) false := ⟨RX3, TX3, 8, tyX3, rfl, by decide, in_X3, w_113, tyX3_ok, nmX3, rfl, by decide +kernel, (fun h => by cases h)⟩
theorem fa_X3_28_3 : FA RX3 28 3 3 := ⟨RX3, TX3, 8, "RoseLane$Nose", rfl, by decide, in_X3, w_115, Or.inl rfl⟩
theorem fp_X3_28_3 : FP RX3 28 3 3 (.int) false := ⟨RX3, TX3, 8, tyX3, rfl, by decide, in_X3, w_115, tyX3_ok, nmX3, rfl, by decide +kernel, (fun h => by cases h)⟩
theorem fa_X3_31_3 : FA RX3 31 3 4 := ⟨RX3, TX3, 8, "RoseLane$Nose", rfl, by decide, in_X3, w_118, Or.inl rfl⟩
theorem fp_X3_31_3 : FP RX3 31 3 4 (.int) false := ⟨RX3, TX3, 8, tyX3, rfl, by decide, in_X3, w_118, tyX3_ok, nmX3, rfl, by decide +kernel, (fun h => by cases h)⟩
theorem fa_X3_34_3 : FA RX3 34 3 5 := ⟨RX3, TX3, 8, "RoseLane$Nose", rfl, by decide, in_X3, w_119, Or.inl rfl⟩
theorem fp_X3_34_3 : FP RX3 34 3 5 (.int) false := ⟨RX3, TX3, 8, tyX3, rfl, by decide, in_X3, w_119, tyX3_ok, nmX3, rfl, by decide +kernel, (fun h => by cases h)⟩
theorem fa_X3_37_3 : FA RX3 37 3 6 := ⟨RX3, TX3, 8, "RoseLane$Nose", rfl, by decide, in_X3, w_121, Or.inl rfl⟩
theorem fp_X3_37_3 : FP RX3 37 3 6 (.int) false := ⟨RX3, TX3, 8, tyX3, rfl, by decide, in_X3, w_121, tyX3_ok, nmX3, rfl, by decide +kernel, (fun h => by cases h)⟩
theorem fa_X3_40_3 : FA RX3 40 3 7 := ⟨RX3, TX3, 8, "RoseLane$Nose", rfl, by decide, in_X3, w_123, Or.inl rfl⟩
theorem fp_X3_40_3 : FP RX3 40 3 7 (.boolean) false := ⟨RX3, TX3, 8, tyX3, rfl, by decide, in_X3, w_123, tyX3_ok, nmX3, rfl, by decide +kernel, (fun h => by cases h)⟩
theorem fa_X3_44_1 : FA RX3 44 1 5 := ⟨RX1, TX1, 6, "RoseLane$Lane", rfl, by decide, in_X1, w_89, Or.inl rfl⟩
theorem fa_X3_47_1 : FA RX3 47 1 3 := ⟨RX1, TX1, 6, "RoseLane$Lane", rfl, by decide, in_X1, w_84, Or.inl rfl⟩
theorem fa_X3_50_1 : FA RX3 50 1 1 := ⟨RX1, TX1, 6, "RoseLane$Lane", rfl, by decide, in_X1, w_79, Or.inl rfl⟩
theorem fa_X3_63_0 : FA RX3 63 0 0 := ⟨RX0, TX0, 3, "RoseLane$Shop", rfl, by decide, in_X0, w_200, Or.inl rfl⟩
theorem fa_X3_63_2 : FA RX3 63 2 0 := ⟨RX2, TX2, 3, "RoseLane$Shop", rfl, by decide, in_X2, w_200, Or.inl rfl⟩
theorem fa_X3_63_4 : FA RX3 63 4 0 := ⟨RX4, TX4, 3, "RoseLane$Shop", rfl, by decide, in_X4, w_200, Or.inl rfl⟩
theorem fa_X3_63_5 : FA RX3 63 5 0 := ⟨RX5, TX5, 3, "RoseLane$Shop", rfl, by decide, in_X5, w_200, Or.inl rfl⟩
theorem fa_X3_72_1 : FA RX3 72 1 0 := ⟨RX1, TX1, 6, "RoseLane$Lane", rfl, by decide, in_X1, w_76, Or.inl rfl⟩
theorem fa_X3_97_1 : FA RX3 97 1 4 := ⟨RX1, TX1, 6, "RoseLane$Lane", rfl, by decide, in_X1, w_86, Or.inl rfl⟩
theorem fa_X3_100_0 : FA RX3 100 0 2 := ⟨RX0, TX0, 3, "RoseLane$Shop", rfl, by decide, in_X0, w_206, Or.inl rfl⟩
theorem fa_X3_100_2 : FA RX3 100 2 2 := ⟨RX2, TX2, 3, "RoseLane$Shop", rfl, by decide, in_X2, w_206, Or.inl rfl⟩
theorem fa_X3_100_4 : FA RX3 100 4 2 := ⟨RX4, TX4, 3, "RoseLane$Shop", rfl, by decide, in_X4, w_206, Or.inl rfl⟩
theorem fa_X3_100_5 : FA RX3 100 5 2 := ⟨RX5, TX5, 3, "RoseLane$Shop", rfl, by decide, in_X5, w_206, Or.inl rfl⟩
theorem fa_X5_9_5 : FA RX5 9 5 0 := ⟨RX5, TX5, 3, "RoseLane$Plain", rfl, by decide, in_X5, w_197, Or.inr w_198⟩
theorem fa_X5_9_2 : FA RX5 9 2 0 := ⟨RX2, TX2, 3, "RoseLane$Plain", rfl, by decide, in_X2, w_197, Or.inr w_198⟩
theorem fp_X6_7_0 : FP RX6 7 0 0 (.int) true := ⟨RX0, TX0, 3, tyX0, rfl, by decide, in_X0, w_196, tyX0_ok, nmX0, rfl, by decide +kernel, fun _ => rfl⟩
theorem fp_X6_7_2 : FP RX6 7 2 0 (.int) true := ⟨RX2, TX2, 3, tyX2, rfl, by decide, in_X2, w_196, tyX2_ok, nmX2, rfl, by decide +kernel, fun _ => rfl⟩
theorem fp_X6_7_4 : FP RX6 7 4 0 (.int) true := ⟨RX4, TX4, 3, tyX4, rfl, by decide, in_X4, w_196, tyX4_ok, nmX4, rfl, by decide +kernel, fun _ => rfl⟩
theorem fp_X6_7_5 : FP RX6 7 5 0 (.int) true := ⟨RX5, TX5, 3, tyX5, rfl, by decide, in_X5, w_196, tyX5_ok, nmX5, rfl, by decide +kernel, fun _ => rfl⟩
theorem fp_X6_13_0 : FP RX6 13 0 1 (.int) true := ⟨RX0, TX0, 3, tyX0, rfl, by decide, in_X0, w_202, tyX0_ok, nmX0, rfl, by decide +kernel, fun _ => rfl⟩
theorem fp_X6_13_2 : FP RX6 13 2 1 (.int) true := ⟨RX2, TX2, 3, tyX2, rfl, by decide, in_X2, w_202, tyX2_ok, nmX2, rfl, by decide +kernel, fun _ => rfl⟩
theorem fp_X6_13_4 : FP RX6 13 4 1 (.int) true := ⟨RX4, TX4, 3, tyX4, rfl, by decide, in_X4, w_202, tyX4_ok, nmX4, rfl, by decide +kernel, fun _ => rfl⟩
theorem fp_X6_13_5 : FP RX6 13 5 1 (.int) true := ⟨RX5, TX5, 3, tyX5, rfl, by decide, in_X5, w_202, tyX5_ok, nmX5, rfl, by decide +kernel, fun _ => rfl⟩
theorem fp_X6_16_0 : FP RX6 16 0 2 (.int) true := ⟨RX0, TX0, 3, tyX0, rfl, by decide, in_X0, w_204, tyX0_ok, nmX0, rfl, by decide +kernel, fun _ => rfl⟩
theorem fp_X6_16_2 : FP RX6 16 2 2 (.int) true := ⟨RX2, TX2, 3, tyX2, rfl, by decide, in_X2, w_204, tyX2_ok, nmX2, rfl, by decide +kernel, fun _ => rfl⟩
theorem fp_X6_16_4 : FP RX6 16 4 2 (.int) true := ⟨RX4, TX4, 3, tyX4, rfl, by decide, in_X4, w_204, tyX4_ok, nmX4, rfl, by decide +kernel, fun _ => rfl⟩
theorem fp_X6_16_5 : FP RX6 16 5 2 (.int) true := ⟨RX5, TX5, 3, tyX5, rfl, by decide, in_X5, w_204, tyX5_ok, nmX5, rfl, by decide +kernel, fun _ => rfl⟩
theorem fa_X6_13_0 : FA RX6 13 0 1 := ⟨RX0, TX0, 3, "RoseLane$Shop", rfl, by decide, in_X0, w_202, Or.inl rfl⟩
theorem fa_X6_13_2 : FA RX6 13 2 1 := ⟨RX2, TX2, 3, "RoseLane$Shop", rfl, by decide, in_X2, w_202, Or.inl rfl⟩
theorem fa_X6_13_4 : FA RX6 13 4 1 := ⟨RX4, TX4, 3, "RoseLane$Shop", rfl, by decide, in_X4, w_202, Or.inl rfl⟩
theorem fa_X6_13_5 : FA RX6 13 5 1 := ⟨RX5, TX5, 3, "RoseLane$Shop", rfl, by decide, in_X5, w_202, Or.inl rfl⟩
theorem fp_X7_9_6 : FP RX7 9 6 0 (.array (.int)) true := ⟨RX7, TX7, 4, tyX7, rfl, by decide, in_X7, w_148, tyX7_ok, nmX7, rfl, by decide +kernel, fun _ => rfl⟩
theorem fp_X7_15_6 : FP RX7 15 6 1 (.array (.int)) true := ⟨RX7, TX7, 4, tyX7, rfl, by decide, in_X7, w_149, tyX7_ok, nmX7, rfl, by decide +kernel, fun _ => rfl⟩
theorem fp_X7_18_6 : FP RX7 18 6 2 (.array (.int)) true := ⟨RX7, TX7, 4, tyX7, rfl, by decide, in_X7, w_150, tyX7_ok, nmX7, rfl, by decide +kernel, fun _ => rfl⟩
theorem fa_X7_21_6 : FA RX7 21 6 3 := ⟨RX7, TX7, 4, "RoseLane$Tells", rfl, by decide, in_X7, w_151, Or.inl rfl⟩
theorem fa_X7_9_6 : FA RX7 9 6 0 := ⟨RX7, TX7, 4, "RoseLane$Tells", rfl, by decide, in_X7, w_148, Or.inl rfl⟩
theorem fa_X7_15_6 : FA RX7 15 6 1 := ⟨RX7, TX7, 4, "RoseLane$Tells", rfl, by decide, in_X7, w_149, Or.inl rfl⟩
theorem fa_X7_18_6 : FA RX7 18 6 2 := ⟨RX7, TX7, 4, "RoseLane$Tells", rfl, by decide, in_X7, w_150, Or.inl rfl⟩
theorem fp_X7_21_6 : FP RX7 21 6 3 (.int) false := ⟨RX7, TX7, 4, tyX7, rfl, by decide, in_X7, w_151, tyX7_ok, nmX7, rfl, by decide +kernel, (fun h => by cases h)⟩
theorem fa_X7_31_0 : FA RX7 31 0 0 := ⟨RX0, TX0, 3, "RoseLane$Shop", rfl, by decide, in_X0, w_199, Or.inl rfl⟩
theorem fa_X7_31_2 : FA RX7 31 2 0 := ⟨RX2, TX2, 3, "RoseLane$Shop", rfl, by decide, in_X2, w_199, Or.inl rfl⟩
theorem fa_X7_31_4 : FA RX7 31 4 0 := ⟨RX4, TX4, 3, "RoseLane$Shop", rfl, by decide, in_X4, w_199, Or.inl rfl⟩
theorem fa_X7_31_5 : FA RX7 31 5 0 := ⟨RX5, TX5, 3, "RoseLane$Shop", rfl, by decide, in_X5, w_199, Or.inl rfl⟩
theorem fp_X8_9_7 : FP RX8 9 7 0 (.array (.char)) true := ⟨RX8, TX8, 8, tyX8, rfl, by decide, in_X8, w_33, tyX8_ok, nmX8, rfl, by decide +kernel, fun _ => rfl⟩
theorem fp_X8_15_7 : FP RX8 15 7 2 (.array (.int)) true := ⟨RX8, TX8, 8, tyX8, rfl, by decide, in_X8, w_36, tyX8_ok, nmX8, rfl, by decide +kernel, fun _ => rfl⟩
theorem fp_X8_19_7 : FP RX8 19 7 3 (.array (.int)) true := ⟨RX8, TX8, 8, tyX8, rfl, by decide, in_X8, w_38, tyX8_ok, nmX8, rfl, by decide +kernel, fun _ => rfl⟩
theorem fa_X8_22_7 : FA RX8 22 7 1 := ⟨RX8, TX8, 8, "RoseLane$Text", rfl, by decide, in_X8, w_34, Or.inl rfl⟩
theorem fa_X8_9_7 : FA RX8 9 7 0 := ⟨RX8, TX8, 8, "RoseLane$Text", rfl, by decide, in_X8, w_33, Or.inl rfl⟩
theorem fp_X8_22_7 : FP RX8 22 7 1 (.int) false := ⟨RX8, TX8, 8, tyX8, rfl, by decide, in_X8, w_34, tyX8_ok, nmX8, rfl, by decide +kernel, (fun h => by cases h)⟩
theorem fa_X8_19_7 : FA RX8 19 7 3 := ⟨RX8, TX8, 8, "RoseLane$Text", rfl, by decide, in_X8, w_38, Or.inl rfl⟩
theorem fp_X8_26_7 : FP RX8 26 7 7 (.int) false := ⟨RX8, TX8, 8, tyX8, rfl, by decide, in_X8, w_43, tyX8_ok, nmX8, rfl, by decide +kernel, (fun h => by cases h)⟩
theorem fp_X8_29_7 : FP RX8 29 7 4 (.int) false := ⟨RX8, TX8, 8, tyX8, rfl, by decide, in_X8, w_39, tyX8_ok, nmX8, rfl, by decide +kernel, (fun h => by cases h)⟩
theorem fp_X8_32_7 : FP RX8 32 7 6 (.int) false := ⟨RX8, TX8, 8, tyX8, rfl, by decide, in_X8, w_42, tyX8_ok, nmX8, rfl, by decide +kernel, (fun h => by cases h)⟩
theorem fa_X8_39_7 : FA RX8 39 7 5 := ⟨RX8, TX8, 8, "RoseLane$Text", rfl, by decide, in_X8, w_41, Or.inl rfl⟩
theorem fa_X8_29_7 : FA RX8 29 7 4 := ⟨RX8, TX8, 8, "RoseLane$Text", rfl, by decide, in_X8, w_39, Or.inl rfl⟩
theorem fa_X8_15_7 : FA RX8 15 7 2 := ⟨RX8, TX8, 8, "RoseLane$Text", rfl, by decide, in_X8, w_36, Or.inl rfl⟩
theorem fa_X8_26_7 : FA RX8 26 7 7 := ⟨RX8, TX8, 8, "RoseLane$Text", rfl, by decide, in_X8, w_43, Or.inl rfl⟩
theorem fa_X8_32_7 : FA RX8 32 7 6 := ⟨RX8, TX8, 8, "RoseLane$Text", rfl, by decide, in_X8, w_42, Or.inl rfl⟩
theorem fp_X8_39_7 : FP RX8 39 7 5 (.int) false := ⟨RX8, TX8, 8, tyX8, rfl, by decide, in_X8, w_41, tyX8_ok, nmX8, rfl, by decide +kernel, (fun h => by cases h)⟩
theorem fp_X9_9_8 : FP RX9 9 8 0 (.array (.int)) true := ⟨RX9, TX9, 4, tyX9, rfl, by decide, in_X9, w_171, tyX9_ok, nmX9, rfl, by decide +kernel, fun _ => rfl⟩
theorem fp_X9_15_8 : FP RX9 15 8 1 (.array (.int)) true := ⟨RX9, TX9, 4, tyX9, rfl, by decide, in_X9, w_173, tyX9_ok, nmX9, rfl, by decide +kernel, fun _ => rfl⟩
theorem fp_X9_20_8 : FP RX9 20 8 2 (.array (.object "RoseLane$Nose")) true := ⟨RX9, TX9, 4, tyX9, rfl, by decide, in_X9, w_174, tyX9_ok, nmX9, rfl, by decide +kernel, fun _ => rfl⟩
theorem fa_X9_20_8 : FA RX9 20 8 2 := ⟨RX9, TX9, 4, "RoseLane$Walks", rfl, by decide, in_X9, w_174, Or.inl rfl⟩
theorem fp_X9_25_8 : FP RX9 25 8 3 (.int) false := ⟨RX9, TX9, 4, tyX9, rfl, by decide, in_X9, w_175, tyX9_ok, nmX9, rfl, by decide +kernel, (fun h => by cases h)⟩
theorem fa_X9_9_8 : FA RX9 9 8 0 := ⟨RX9, TX9, 4, "RoseLane$Walks", rfl, by decide, in_X9, w_171, Or.inl rfl⟩
theorem fa_X9_25_8 : FA RX9 25 8 3 := ⟨RX9, TX9, 4, "RoseLane$Walks", rfl, by decide, in_X9, w_175, Or.inl rfl⟩
theorem fa_X9_15_8 : FA RX9 15 8 1 := ⟨RX9, TX9, 4, "RoseLane$Walks", rfl, by decide, in_X9, w_173, Or.inl rfl⟩
theorem mi_X10_init : MI yX10_init cX10_init 2 none 0 := ⟨w_23, w_1, by decide +kernel, by decide +kernel, by decide +kernel⟩
theorem mi_X8_init : MI yX8_init cX8_init 1 none 0 := ⟨w_31, w_2, by decide +kernel, by decide +kernel, by decide +kernel⟩
theorem mi_X1_init : MI yX1_init cX1_init 1 none 0 := ⟨w_67, w_3, by decide +kernel, by decide +kernel, by decide +kernel⟩
theorem mi_X1_setFirst : MI yX1_setFirst cX1_setFirst 2 none 0 := ⟨w_74, w_3, by decide +kernel, by decide +kernel, by decide +kernel⟩
theorem mi_X3_init : MI yX3_init cX3_init 1 none 0 := ⟨w_107, w_4, by decide +kernel, by decide +kernel, by decide +kernel⟩
theorem mi_X7_init : MI yX7_init cX7_init 1 none 0 := ⟨w_146, w_5, by decide +kernel, by decide +kernel, by decide +kernel⟩
theorem mi_X9_init : MI yX9_init cX9_init 2 none 0 := ⟨w_167, w_6, by decide +kernel, by decide +kernel, by decide +kernel⟩
theorem mi_X0_init : MI yX0_init cX0_init 4 none 3 := ⟨w_191, w_8, by decide +kernel, by decide +kernel, by decide +kernel⟩
theorem mi_X6_init : MI yX6_init cX6_init 4 none 3 := ⟨w_194, w_7, by decide +kernel, by decide +kernel, by decide +kernel⟩
theorem mi_X10_write : MI yX10_write cX10_write 2 (some (.int)) 1 := ⟨w_266, w_1, by decide +kernel, by decide +kernel, by decide +kernel⟩
theorem mi_X10_isWithin : MI yX10_isWithin cX10_isWithin 3 (some (.boolean)) 3 := ⟨w_269, w_1, by decide +kernel, by decide +kernel, by decide +kernel⟩
theorem mi_X8_add : MI yX8_add cX8_add 2 (some (.boolean)) 1 := ⟨w_273, w_2, by decide +kernel, by decide +kernel, by decide +kernel⟩
theorem mi_X10_erase : MI yX10_erase cX10_erase 2 (some (.int)) 0 := ⟨w_277, w_1, by decide +kernel, by decide +kernel, by decide +kernel⟩
theorem mi_X10_fault : MI yX10_fault cX10_fault 1 (some (.int)) 0 := ⟨w_281, w_1, by decide +kernel, by decide +kernel, by decide +kernel⟩
theorem mi_X8_read : MI yX8_read cX8_read 3 (some (.int)) 1 := ⟨w_285, w_2, by decide +kernel, by decide +kernel, by decide +kernel⟩
theorem mi_X8_isClause : MI yX8_isClause cX8_isClause 6 (some (.boolean)) 1 := ⟨w_289, w_2, by decide +kernel, by decide +kernel, by decide +kernel⟩
theorem mi_X8_nextToken : MI yX8_nextToken cX8_nextToken 2 none 0 := ⟨w_293, w_2, by decide +kernel, by decide +kernel, by decide +kernel⟩
theorem mi_X8_isOneRow : MI yX8_isOneRow cX8_isOneRow 2 (some (.boolean)) 2 := ⟨w_296, w_2, by decide +kernel, by decide +kernel, by decide +kernel⟩
theorem mi_X8_isSmall : MI yX8_isSmall cX8_isSmall 1 (some (.boolean)) 1 := ⟨w_299, w_2, by decide +kernel, by decide +kernel, by decide +kernel⟩
theorem mi_X8_isDigit : MI yX8_isDigit cX8_isDigit 1 (some (.boolean)) 1 := ⟨w_302, w_2, by decide +kernel, by decide +kernel, by decide +kernel⟩
theorem mi_X8_wordHere : MI yX8_wordHere cX8_wordHere 1 (some (.int)) 0 := ⟨w_306, w_2, by decide +kernel, by decide +kernel, by decide +kernel⟩
theorem mi_X8_says : MI yX8_says cX8_says 3 (some (.boolean)) 1 := ⟨w_311, w_2, by decide +kernel, by decide +kernel, by decide +kernel⟩
theorem mi_J0_length_8abf5 : MI yJ0_length_8abf5 cJ0_length_8abf5 1 (some (.int)) 0 := ⟨w_315, w_10, by decide +kernel, by decide +kernel, by decide +kernel⟩
theorem mi_J0_coder_7d493 : MI yJ0_coder_7d493 cJ0_coder_7d493 1 (some (.byte)) 0 := ⟨w_319, w_10, by decide +kernel, by decide +kernel, by decide +kernel⟩
theorem mi_J0_charAt_5068e : MI yJ0_charAt_5068e cJ0_charAt_5068e 2 (some (.char)) 1 := ⟨w_325, w_10, by decide +kernel, by decide +kernel, by decide +kernel⟩
theorem mi_J0_isLatin1_aae02 : MI yJ0_isLatin1_aae02 cJ0_isLatin1_aae02 1 (some (.boolean)) 0 := ⟨w_329, w_10, by decide +kernel, by decide +kernel, by decide +kernel⟩
theorem mi_J1_charAt_3b067 : MI yJ1_charAt_3b067 cJ1_charAt_3b067 2 (some (.char)) 2 := ⟨w_332, w_11, by decide +kernel, by decide +kernel, by decide +kernel⟩
theorem mi_J0_checkIndex_df160 : MI yJ0_checkIndex_df160 cJ0_checkIndex_df160 2 none 2 := ⟨w_335, w_10, by decide +kernel, by decide +kernel, by decide +kernel⟩
theorem mi_J3_checkIndex_8e157 : MI yJ3_checkIndex_8e157 cJ3_checkIndex_8e157 3 (some (.int)) 3 := ⟨w_340, w_12, by decide +kernel, by decide +kernel, by decide +kernel⟩
theorem mi_J2_charAt_3b067 : MI yJ2_charAt_3b067 cJ2_charAt_3b067 2 (some (.char)) 2 := ⟨w_343, w_13, by decide +kernel, by decide +kernel, by decide +kernel⟩
theorem mi_J2_checkIndex_2214a : MI yJ2_checkIndex_2214a cJ2_checkIndex_2214a 2 none 2 := ⟨w_346, w_13, by decide +kernel, by decide +kernel, by decide +kernel⟩
theorem mi_J2_length_9d52b : MI yJ2_length_9d52b cJ2_length_9d52b 1 (some (.int)) 1 := ⟨w_349, w_13, by decide +kernel, by decide +kernel, by decide +kernel⟩
theorem mi_J2_getChar_3b067 : MI yJ2_getChar_3b067 cJ2_getChar_3b067 2 (some (.char)) 2 := ⟨w_353, w_13, by decide +kernel, by decide +kernel, by decide +kernel⟩
theorem mi_X8_hasRoom : MI yX8_hasRoom cX8_hasRoom 2 (some (.boolean)) 1 := ⟨w_371, w_2, by decide +kernel, by decide +kernel, by decide +kernel⟩
theorem mi_X8_numberHere : MI yX8_numberHere cX8_numberHere 3 (some (.int)) 0 := ⟨w_378, w_2, by decide +kernel, by decide +kernel, by decide +kernel⟩
theorem mi_X10_lane : MI yX10_lane cX10_lane 2 (some (.int)) 0 := ⟨w_387, w_1, by decide +kernel, by decide +kernel, by decide +kernel⟩
theorem mi_X8_numberOf : MI yX8_numberOf cX8_numberOf 3 (some (.int)) 2 := ⟨w_391, w_2, by decide +kernel, by decide +kernel, by decide +kernel⟩
theorem mi_X1_tell : MI yX1_tell cX1_tell 5 none 4 := ⟨w_395, w_3, by decide +kernel, by decide +kernel, by decide +kernel⟩
theorem mi_X1_setSort : MI yX1_setSort cX1_setSort 4 none 3 := ⟨w_399, w_3, by decide +kernel, by decide +kernel, by decide +kernel⟩
theorem mi_X5_init : MI yX5_init cX5_init 4 none 3 := ⟨w_405, w_14, by decide +kernel, by decide +kernel, by decide +kernel⟩
theorem mi_X1_open : MI yX1_open cX1_open 2 none 1 := ⟨w_414, w_3, by decide +kernel, by decide +kernel, by decide +kernel⟩
theorem mi_X2_init : MI yX2_init cX2_init 4 none 3 := ⟨w_419, w_15, by decide +kernel, by decide +kernel, by decide +kernel⟩
theorem mi_X4_init : MI yX4_init cX4_init 4 none 3 := ⟨w_431, w_16, by decide +kernel, by decide +kernel, by decide +kernel⟩
theorem mi_X3_freshen : MI yX3_freshen cX3_freshen 3 none 1 := ⟨w_440, w_4, by decide +kernel, by decide +kernel, by decide +kernel⟩
theorem mi_X10_sort : MI yX10_sort cX10_sort 3 (some (.int)) 2 := ⟨w_444, w_1, by decide +kernel, by decide +kernel, by decide +kernel⟩
theorem mi_X10_shop : MI yX10_shop cX10_shop 4 (some (.int)) 2 := ⟨w_448, w_1, by decide +kernel, by decide +kernel, by decide +kernel⟩
theorem mi_X1_shopOf : MI yX1_shopOf cX1_shopOf 2 (some (.object "RoseLane$Shop")) 1 := ⟨w_452, w_3, by decide +kernel, by decide +kernel, by decide +kernel⟩
theorem mi_X0_kind : MI yX0_kind cX0_kind 1 (some (.int)) 0 := ⟨w_458, w_8, by decide +kernel, by decide +kernel, by decide +kernel⟩
theorem mi_X2_kind : MI yX2_kind cX2_kind 1 (some (.int)) 0 := ⟨w_461, w_15, by decide +kernel, by decide +kernel, by decide +kernel⟩
theorem mi_X4_kind : MI yX4_kind cX4_kind 1 (some (.int)) 0 := ⟨w_464, w_16, by decide +kernel, by decide +kernel, by decide +kernel⟩
theorem mi_X5_kind : MI yX5_kind cX5_kind 1 (some (.int)) 0 := ⟨w_467, w_14, by decide +kernel, by decide +kernel, by decide +kernel⟩
theorem mi_X3_placeOf : MI yX3_placeOf cX3_placeOf 3 (some (.int)) 2 := ⟨w_471, w_4, by decide +kernel, by decide +kernel, by decide +kernel⟩
theorem mi_X4_smeltBy : MI yX4_smeltBy cX4_smeltBy 3 (some (.int)) 2 := ⟨w_479, w_16, by decide +kernel, by decide +kernel, by decide +kernel⟩
theorem mi_X6_smeltBy : MI yX6_smeltBy cX6_smeltBy 4 (some (.int)) 2 := ⟨w_481, w_7, by decide +kernel, by decide +kernel, by decide +kernel⟩
theorem mi_X10_as : MI yX10_as cX10_as 5 (some (.int)) 2 := ⟨w_488, w_1, by decide +kernel, by decide +kernel, by decide +kernel⟩
theorem mi_X10_isOfKind : MI yX10_isOfKind cX10_isOfKind 2 (some (.boolean)) 2 := ⟨w_491, w_1, by decide +kernel, by decide +kernel, by decide +kernel⟩
theorem mi_X0_tiring : MI yX0_tiring cX0_tiring 3 (some (.int)) 2 := ⟨w_500, w_8, by decide +kernel, by decide +kernel, by decide +kernel⟩
theorem mi_X2_tiring : MI yX2_tiring cX2_tiring 3 (some (.int)) 2 := ⟨w_503, w_15, by decide +kernel, by decide +kernel, by decide +kernel⟩
theorem mi_X5_tiring : MI yX5_tiring cX5_tiring 4 (some (.int)) 2 := ⟨w_506, w_14, by decide +kernel, by decide +kernel, by decide +kernel⟩
theorem mi_X4_tiring : MI yX4_tiring cX4_tiring 3 (some (.int)) 2 := ⟨w_509, w_16, by decide +kernel, by decide +kernel, by decide +kernel⟩
theorem mi_X10_held : MI yX10_held cX10_held 1 (some (.int)) 1 := ⟨w_513, w_1, by decide +kernel, by decide +kernel, by decide +kernel⟩
theorem mi_X10_visit : MI yX10_visit cX10_visit 2 (some (.int)) 1 := ⟨w_521, w_1, by decide +kernel, by decide +kernel, by decide +kernel⟩
theorem mi_X10_remember : MI yX10_remember cX10_remember 1 none 0 := ⟨w_525, w_1, by decide +kernel, by decide +kernel, by decide +kernel⟩
theorem mi_X3_copy : MI yX3_copy cX3_copy 2 none 1 := ⟨w_529, w_4, by decide +kernel, by decide +kernel, by decide +kernel⟩
theorem mi_X3_call : MI yX3_call cX3_call 7 (some (.int)) 2 := ⟨w_536, w_4, by decide +kernel, by decide +kernel, by decide +kernel⟩
theorem mi_X3_step : MI yX3_step cX3_step 4 none 2 := ⟨w_545, w_4, by decide +kernel, by decide +kernel, by decide +kernel⟩
theorem mi_X3_smell : MI yX3_smell cX3_smell 6 (some (.int)) 2 := ⟨w_551, w_4, by decide +kernel, by decide +kernel, by decide +kernel⟩
theorem mi_X10_idle : MI yX10_idle cX10_idle 2 (some (.int)) 1 := ⟨w_557, w_1, by decide +kernel, by decide +kernel, by decide +kernel⟩
theorem mi_X10_wind : MI yX10_wind cX10_wind 1 (some (.int)) 0 := ⟨w_562, w_1, by decide +kernel, by decide +kernel, by decide +kernel⟩
theorem mi_X10_cold : MI yX10_cold cX10_cold 3 (some (.int)) 1 := ⟨w_566, w_1, by decide +kernel, by decide +kernel, by decide +kernel⟩
theorem mi_X10_undo : MI yX10_undo cX10_undo 1 (some (.int)) 0 := ⟨w_570, w_1, by decide +kernel, by decide +kernel, by decide +kernel⟩
theorem mi_X10_keep : MI yX10_keep cX10_keep 2 (some (.int)) 1 := ⟨w_574, w_1, by decide +kernel, by decide +kernel, by decide +kernel⟩
theorem mi_X10_back : MI yX10_back cX10_back 2 (some (.int)) 1 := ⟨w_578, w_1, by decide +kernel, by decide +kernel, by decide +kernel⟩
theorem mi_X10_best : MI yX10_best cX10_best 4 (some (.int)) 3 := ⟨w_582, w_1, by decide +kernel, by decide +kernel, by decide +kernel⟩
theorem mi_X10_isSet : MI yX10_isSet cX10_isSet 2 (some (.boolean)) 1 := ⟨w_586, w_1, by decide +kernel, by decide +kernel, by decide +kernel⟩
theorem mi_X10_allShops : MI yX10_allShops cX10_allShops 1 (some (.int)) 0 := ⟨w_590, w_1, by decide +kernel, by decide +kernel, by decide +kernel⟩
theorem mi_X10_findBest : MI yX10_findBest cX10_findBest 9 (some (.boolean)) 2 := ⟨w_594, w_1, by decide +kernel, by decide +kernel, by decide +kernel⟩
theorem mi_X9_begin : MI yX9_begin cX9_begin 5 (some (.boolean)) 3 := ⟨w_598, w_6, by decide +kernel, by decide +kernel, by decide +kernel⟩
theorem mi_X9_goFrom : MI yX9_goFrom cX9_goFrom 4 none 2 := ⟨w_603, w_6, by decide +kernel, by decide +kernel, by decide +kernel⟩
theorem mi_X9_end : MI yX9_end cX9_end 1 (some (.object "RoseLane$Nose")) 0 := ⟨w_608, w_6, by decide +kernel, by decide +kernel, by decide +kernel⟩
theorem mi_X9_isEach : MI yX9_isEach cX9_isEach 3 (some (.boolean)) 1 := ⟨w_612, w_6, by decide +kernel, by decide +kernel, by decide +kernel⟩
theorem mi_X9_next : MI yX9_next cX9_next 6 (some (.boolean)) 1 := ⟨w_617, w_6, by decide +kernel, by decide +kernel, by decide +kernel⟩
theorem mi_X9_exchange : MI yX9_exchange cX9_exchange 4 none 2 := ⟨w_621, w_6, by decide +kernel, by decide +kernel, by decide +kernel⟩
theorem mi_X10_through : MI yX10_through cX10_through 1 (some (.int)) 0 := ⟨w_625, w_1, by decide +kernel, by decide +kernel, by decide +kernel⟩
theorem mi_X10_lineUp : MI yX10_lineUp cX10_lineUp 2 none 0 := ⟨w_629, w_1, by decide +kernel, by decide +kernel, by decide +kernel⟩
theorem mi_X10_smeltThrough : MI yX10_smeltThrough cX10_smeltThrough 5 (some (.int)) 1 := ⟨w_633, w_1, by decide +kernel, by decide +kernel, by decide +kernel⟩
theorem mi_X10_change : MI yX10_change cX10_change 6 (some (.int)) 0 := ⟨w_638, w_1, by decide +kernel, by decide +kernel, by decide +kernel⟩
theorem mi_X10_smeltExchanged : MI yX10_smeltExchanged cX10_smeltExchanged 6 (some (.int)) 2 := ⟨w_642, w_1, by decide +kernel, by decide +kernel, by decide +kernel⟩
theorem mi_X10_coffeeAt : MI yX10_coffeeAt cX10_coffeeAt 6 (some (.int)) 1 := ⟨w_646, w_1, by decide +kernel, by decide +kernel, by decide +kernel⟩
theorem mi_X10_byLot : MI yX10_byLot cX10_byLot 8 (some (.int)) 3 := ⟨w_650, w_1, by decide +kernel, by decide +kernel, by decide +kernel⟩
theorem mi_X9_smeltAt : MI yX9_smeltAt cX9_smeltAt 3 (some (.int)) 1 := ⟨w_654, w_6, by decide +kernel, by decide +kernel, by decide +kernel⟩
theorem mi_X10_commonDivisor : MI yX10_commonDivisor cX10_commonDivisor 6 (some (.int)) 2 := ⟨w_657, w_1, by decide +kernel, by decide +kernel, by decide +kernel⟩
theorem mi_X10_orders : MI yX10_orders cX10_orders 7 (some (.int)) 2 := ⟨w_661, w_1, by decide +kernel, by decide +kernel, by decide +kernel⟩
theorem mi_X9_shopAt : MI yX9_shopAt cX9_shopAt 2 (some (.int)) 1 := ⟨w_665, w_6, by decide +kernel, by decide +kernel, by decide +kernel⟩
theorem mi_X10_tells : MI yX10_tells cX10_tells 4 (some (.int)) 3 := ⟨w_670, w_1, by decide +kernel, by decide +kernel, by decide +kernel⟩
theorem mi_X7_add : MI yX7_add cX7_add 4 (some (.boolean)) 3 := ⟨w_674, w_5, by decide +kernel, by decide +kernel, by decide +kernel⟩
theorem mi_X10_forget : MI yX10_forget cX10_forget 2 (some (.int)) 0 := ⟨w_678, w_1, by decide +kernel, by decide +kernel, by decide +kernel⟩
theorem mi_X10_smallest : MI yX10_smallest cX10_smallest 3 (some (.int)) 1 := ⟨w_682, w_1, by decide +kernel, by decide +kernel, by decide +kernel⟩
theorem mi_X7_fit : MI yX7_fit cX7_fit 6 (some (.boolean)) 3 := ⟨w_686, w_5, by decide +kernel, by decide +kernel, by decide +kernel⟩
theorem mi_X7_smeltBehind : MI yX7_smeltBehind cX7_smeltBehind 5 (some (.int)) 3 := ⟨w_690, w_5, by decide +kernel, by decide +kernel, by decide +kernel⟩
theorem mi_X10_count : MI yX10_count cX10_count 2 (some (.int)) 1 := ⟨w_697, w_1, by decide +kernel, by decide +kernel, by decide +kernel⟩
theorem mi_X11_init : MI yX11_init cX11_init 1 none 0 := ⟨w_702, w_9, by decide +kernel, by decide +kernel, by decide +kernel⟩
theorem mi_X11_asAtFirst : MI yX11_asAtFirst cX11_asAtFirst 3 none 1 := ⟨w_707, w_9, by decide +kernel, by decide +kernel, by decide +kernel⟩
theorem mi_X11_write : MI yX11_write cX11_write 2 (some (.int)) 1 := ⟨w_787, w_9, by decide +kernel, by decide +kernel, by decide +kernel⟩
theorem mi_X11_in : MI yX11_in cX11_in 6 (some (.boolean)) 3 := ⟨w_791, w_9, by decide +kernel, by decide +kernel, by decide +kernel⟩
theorem mi_X11_erase : MI yX11_erase cX11_erase 2 (some (.int)) 0 := ⟨w_795, w_9, by decide +kernel, by decide +kernel, by decide +kernel⟩
theorem mi_X11_fault : MI yX11_fault cX11_fault 1 (some (.int)) 0 := ⟨w_799, w_9, by decide +kernel, by decide +kernel, by decide +kernel⟩
theorem mi_X11_read : MI yX11_read cX11_read 2 (some (.int)) 0 := ⟨w_803, w_9, by decide +kernel, by decide +kernel, by decide +kernel⟩
theorem mi_X11_copyHalf : MI yX11_copyHalf cX11_copyHalf 4 none 2 := ⟨w_807, w_9, by decide +kernel, by decide +kernel, by decide +kernel⟩
theorem mi_X11_clause : MI yX11_clause cX11_clause 5 none 0 := ⟨w_811, w_9, by decide +kernel, by decide +kernel, by decide +kernel⟩
theorem mi_X11_word : MI yX11_word cX11_word 4 (some (.int)) 0 := ⟨w_815, w_9, by decide +kernel, by decide +kernel, by decide +kernel⟩
theorem mi_X11_here : MI yX11_here cX11_here 1 (some (.int)) 0 := ⟨w_819, w_9, by decide +kernel, by decide +kernel, by decide +kernel⟩
theorem mi_X11_kindOf : MI yX11_kindOf cX11_kindOf 2 (some (.int)) 2 := ⟨w_824, w_9, by decide +kernel, by decide +kernel, by decide +kernel⟩
theorem mi_X11_wordOf : MI yX11_wordOf cX11_wordOf 7 (some (.int)) 6 := ⟨w_827, w_9, by decide +kernel, by decide +kernel, by decide +kernel⟩
theorem mi_X11_newShop : MI yX11_newShop cX11_newShop 3 none 1 := ⟨w_831, w_9, by decide +kernel, by decide +kernel, by decide +kernel⟩
theorem mi_X11_take : MI yX11_take cX11_take 6 (some (.int)) 2 := ⟨w_835, w_9, by decide +kernel, by decide +kernel, by decide +kernel⟩
theorem mi_X11_newSort : MI yX11_newSort cX11_newSort 4 none 0 := ⟨w_842, w_9, by decide +kernel, by decide +kernel, by decide +kernel⟩
theorem mi_X11_lane : MI yX11_lane cX11_lane 2 (some (.int)) 0 := ⟨w_846, w_9, by decide +kernel, by decide +kernel, by decide +kernel⟩
theorem mi_X11_fresh : MI yX11_fresh cX11_fresh 3 none 1 := ⟨w_850, w_9, by decide +kernel, by decide +kernel, by decide +kernel⟩
theorem mi_X11_sort : MI yX11_sort cX11_sort 3 (some (.int)) 2 := ⟨w_854, w_9, by decide +kernel, by decide +kernel, by decide +kernel⟩
theorem mi_X11_shop : MI yX11_shop cX11_shop 3 (some (.int)) 2 := ⟨w_859, w_9, by decide +kernel, by decide +kernel, by decide +kernel⟩
theorem mi_X11_isShop : MI yX11_isShop cX11_isShop 2 (some (.boolean)) 1 := ⟨w_863, w_9, by decide +kernel, by decide +kernel, by decide +kernel⟩
theorem mi_X11_has : MI yX11_has cX11_has 2 (some (.boolean)) 2 := ⟨w_866, w_9, by decide +kernel, by decide +kernel, by decide +kernel⟩
theorem mi_X11_one : MI yX11_one cX11_one 1 (some (.int)) 1 := ⟨w_869, w_9, by decide +kernel, by decide +kernel, by decide +kernel⟩
theorem mi_X11_smells : MI yX11_smells cX11_smells 4 (some (.int)) 2 := ⟨w_873, w_9, by decide +kernel, by decide +kernel, by decide +kernel⟩
theorem mi_X11_as : MI yX11_as cX11_as 5 (some (.int)) 2 := ⟨w_877, w_9, by decide +kernel, by decide +kernel, by decide +kernel⟩
theorem mi_X11_copy : MI yX11_copy cX11_copy 4 none 2 := ⟨w_882, w_9, by decide +kernel, by decide +kernel, by decide +kernel⟩
theorem mi_X11_tireAs : MI yX11_tireAs cX11_tireAs 5 none 3 := ⟨w_886, w_9, by decide +kernel, by decide +kernel, by decide +kernel⟩
theorem mi_X11_tireBy : MI yX11_tireBy cX11_tireBy 5 none 3 := ⟨w_890, w_9, by decide +kernel, by decide +kernel, by decide +kernel⟩
theorem mi_X11_visit : MI yX11_visit cX11_visit 2 (some (.int)) 1 := ⟨w_894, w_9, by decide +kernel, by decide +kernel, by decide +kernel⟩
theorem mi_X11_remember : MI yX11_remember cX11_remember 2 none 0 := ⟨w_898, w_9, by decide +kernel, by decide +kernel, by decide +kernel⟩
theorem mi_X11_visitAs : MI yX11_visitAs cX11_visitAs 5 (some (.int)) 3 := ⟨w_902, w_9, by decide +kernel, by decide +kernel, by decide +kernel⟩
theorem mi_X11_farTo : MI yX11_farTo cX11_farTo 3 (some (.int)) 2 := ⟨w_906, w_9, by decide +kernel, by decide +kernel, by decide +kernel⟩
theorem mi_X11_goOn : MI yX11_goOn cX11_goOn 5 none 2 := ⟨w_910, w_9, by decide +kernel, by decide +kernel, by decide +kernel⟩
theorem mi_X11_idle : MI yX11_idle cX11_idle 2 (some (.int)) 1 := ⟨w_914, w_9, by decide +kernel, by decide +kernel, by decide +kernel⟩
theorem mi_X11_wind : MI yX11_wind cX11_wind 2 (some (.int)) 0 := ⟨w_919, w_9, by decide +kernel, by decide +kernel, by decide +kernel⟩
theorem mi_X11_cold : MI yX11_cold cX11_cold 3 (some (.int)) 1 := ⟨w_923, w_9, by decide +kernel, by decide +kernel, by decide +kernel⟩
theorem mi_X11_undo : MI yX11_undo cX11_undo 1 (some (.int)) 0 := ⟨w_928, w_9, by decide +kernel, by decide +kernel, by decide +kernel⟩
theorem mi_X11_keep : MI yX11_keep cX11_keep 2 (some (.int)) 1 := ⟨w_932, w_9, by decide +kernel, by decide +kernel, by decide +kernel⟩
theorem mi_X11_back : MI yX11_back cX11_back 2 (some (.int)) 1 := ⟨w_936, w_9, by decide +kernel, by decide +kernel, by decide +kernel⟩
theorem mi_X11_best : MI yX11_best cX11_best 7 (some (.int)) 3 := ⟨w_940, w_9, by decide +kernel, by decide +kernel, by decide +kernel⟩
theorem mi_X11_isSet : MI yX11_isSet cX11_isSet 2 (some (.boolean)) 1 := ⟨w_944, w_9, by decide +kernel, by decide +kernel, by decide +kernel⟩
theorem mi_X11_firstOrder : MI yX11_firstOrder cX11_firstOrder 3 (some (.boolean)) 1 := ⟨w_951, w_9, by decide +kernel, by decide +kernel, by decide +kernel⟩
theorem mi_X11_walks : MI yX11_walks cX11_walks 4 (some (.boolean)) 1 := ⟨w_955, w_9, by decide +kernel, by decide +kernel, by decide +kernel⟩
theorem mi_X11_keepOrder : MI yX11_keepOrder cX11_keepOrder 2 none 0 := ⟨w_959, w_9, by decide +kernel, by decide +kernel, by decide +kernel⟩
theorem mi_X11_nextOrder : MI yX11_nextOrder cX11_nextOrder 5 (some (.boolean)) 0 := ⟨w_963, w_9, by decide +kernel, by decide +kernel, by decide +kernel⟩
theorem mi_X11_exchange : MI yX11_exchange cX11_exchange 4 none 2 := ⟨w_967, w_9, by decide +kernel, by decide +kernel, by decide +kernel⟩
theorem mi_X11_through : MI yX11_through cX11_through 1 (some (.int)) 0 := ⟨w_971, w_9, by decide +kernel, by decide +kernel, by decide +kernel⟩
theorem mi_X11_throughBy : MI yX11_throughBy cX11_throughBy 6 (some (.int)) 1 := ⟨w_975, w_9, by decide +kernel, by decide +kernel, by decide +kernel⟩
theorem mi_X11_shopAt : MI yX11_shopAt cX11_shopAt 4 (some (.int)) 1 := ⟨w_979, w_9, by decide +kernel, by decide +kernel, by decide +kernel⟩
theorem mi_X11_change : MI yX11_change cX11_change 6 (some (.int)) 0 := ⟨w_983, w_9, by decide +kernel, by decide +kernel, by decide +kernel⟩
theorem mi_X11_coffeeAt : MI yX11_coffeeAt cX11_coffeeAt 6 (some (.int)) 1 := ⟨w_987, w_9, by decide +kernel, by decide +kernel, by decide +kernel⟩
theorem mi_X11_byLot : MI yX11_byLot cX11_byLot 9 (some (.int)) 3 := ⟨w_991, w_9, by decide +kernel, by decide +kernel, by decide +kernel⟩
theorem mi_X11_common : MI yX11_common cX11_common 5 (some (.int)) 2 := ⟨w_994, w_9, by decide +kernel, by decide +kernel, by decide +kernel⟩
theorem mi_X11_orders : MI yX11_orders cX11_orders 7 (some (.int)) 2 := ⟨w_998, w_9, by decide +kernel, by decide +kernel, by decide +kernel⟩
theorem mi_X11_tells : MI yX11_tells cX11_tells 4 (some (.int)) 3 := ⟨w_1004, w_9, by decide +kernel, by decide +kernel, by decide +kernel⟩
theorem mi_X11_forget : MI yX11_forget cX11_forget 2 (some (.int)) 0 := ⟨w_1009, w_9, by decide +kernel, by decide +kernel, by decide +kernel⟩
theorem mi_X11_smallest : MI yX11_smallest cX11_smallest 7 (some (.int)) 1 := ⟨w_1013, w_9, by decide +kernel, by decide +kernel, by decide +kernel⟩
theorem mi_X11_smeltBehind : MI yX11_smeltBehind cX11_smeltBehind 4 (some (.int)) 2 := ⟨w_1017, w_9, by decide +kernel, by decide +kernel, by decide +kernel⟩
theorem mi_X11_count : MI yX11_count cX11_count 2 (some (.int)) 1 := ⟨w_1021, w_9, by decide +kernel, by decide +kernel, by decide +kernel⟩
