theorem fX3_9 : LkF RX3 9 3 0 RX3 TX3 7 := ⟨rfl, iX3, by decide, k58⟩
theorem fX1_49 : LkF RX1 49 3 0 RX3 TX3 7 := ⟨rfl, iX3, by decide, k59⟩
theorem fX4_62 : LkF RX4 62 3 0 RX3 TX3 7 := ⟨rfl, iX3, by decide, k60⟩
theorem fX3_15 : LkF RX3 15 3 1 RX3 TX3 7 := ⟨rfl, iX3, by decide, k61⟩
theorem fX4_72 : LkF RX4 72 3 1 RX3 TX3 7 := ⟨rfl, iX3, by decide, k62⟩
theorem fX3_18 : LkF RX3 18 3 2 RX3 TX3 7 := ⟨rfl, iX3, by decide, k63⟩
theorem fX4_75 : LkF RX4 75 3 2 RX3 TX3 7 := ⟨rfl, iX3, by decide, k64⟩
theorem fX3_21 : LkF RX3 21 3 3 RX3 TX3 7 := ⟨rfl, iX3, by decide, k65⟩
theorem fX4_78 : LkF RX4 78 3 3 RX3 TX3 7 := ⟨rfl, iX3, by decide, k66⟩
theorem fX3_24 : LkF RX3 24 3 4 RX3 TX3 7 := ⟨rfl, iX3, by decide, k67⟩
theorem fX3_28 : LkF RX3 28 3 5 RX3 TX3 7 := ⟨rfl, iX3, by decide, k68⟩
theorem fX4_129 : LkF RX4 129 3 5 RX3 TX3 7 := ⟨rfl, iX3, by decide, k69⟩
theorem fX3_31 : LkF RX3 31 3 6 RX3 TX3 7 := ⟨rfl, iX3, by decide, k70⟩
theorem fX1_46 : LkF RX1 46 3 6 RX3 TX3 7 := ⟨rfl, iX3, by decide, k71⟩
theorem fX4_85 : LkF RX4 85 3 6 RX3 TX3 7 := ⟨rfl, iX3, by decide, k72⟩
theorem fX1_9 : LkF RX1 9 1 0 RX1 TX1 11 := ⟨rfl, iX1, by decide, k81⟩
theorem fX1_15 : LkF RX1 15 1 1 RX1 TX1 11 := ⟨rfl, iX1, by decide, k82⟩
theorem fX1_18 : LkF RX1 18 1 2 RX1 TX1 11 := ⟨rfl, iX1, by decide, k83⟩
theorem fX1_21 : LkF RX1 21 1 3 RX1 TX1 11 := ⟨rfl, iX1, by decide, k84⟩
theorem fX1_25 : LkF RX1 25 1 4 RX1 TX1 11 := ⟨rfl, iX1, by decide, k85⟩
theorem fX4_174 : LkF RX4 174 1 4 RX1 TX1 11 := ⟨rfl, iX1, by decide, k86⟩
theorem fX1_28 : LkF RX1 28 1 5 RX1 TX1 11 := ⟨rfl, iX1, by decide, k87⟩
theorem fX1_31 : LkF RX1 31 1 6 RX1 TX1 11 := ⟨rfl, iX1, by decide, k88⟩
theorem fX1_34 : LkF RX1 34 1 7 RX1 TX1 11 := ⟨rfl, iX1, by decide, k89⟩
theorem fX1_37 : LkF RX1 37 1 8 RX1 TX1 11 := ⟨rfl, iX1, by decide, k90⟩
theorem fX4_117 : LkF RX4 117 1 8 RX1 TX1 11 := ⟨rfl, iX1, by decide, k91⟩
theorem fX1_40 : LkF RX1 40 1 9 RX1 TX1 11 := ⟨rfl, iX1, by decide, k92⟩
theorem fX1_43 : LkF RX1 43 1 10 RX1 TX1 11 := ⟨rfl, iX1, by decide, k93⟩
theorem fX2_9 : LkF RX2 9 2 0 RX2 TX2 2 := ⟨rfl, iX2, by decide, k100⟩
theorem fX2_15 : LkF RX2 15 2 1 RX2 TX2 2 := ⟨rfl, iX2, by decide, k101⟩
theorem fX4_95 : LkF RX4 95 2 1 RX2 TX2 2 := ⟨rfl, iX2, by decide, k102⟩
theorem fX0_11 : LkF RX0 11 0 0 RX0 TX0 3 := ⟨rfl, iX0, by decide, k112⟩
theorem fX0_17 : LkF RX0 17 0 1 RX0 TX0 3 := ⟨rfl, iX0, by decide, k113⟩
theorem fX0_21 : LkF RX0 21 0 2 RX0 TX0 3 := ⟨rfl, iX0, by decide, k114⟩
theorem fX4_165 : LkF RX4 165 0 2 RX0 TX0 3 := ⟨rfl, iX0, by decide, k115⟩
theorem fX4_10 : LkF RX4 10 4 0 RX4 TX4 8 := ⟨rfl, iX4, by decide, k116⟩
theorem fX4_16 : LkF RX4 16 4 1 RX4 TX4 8 := ⟨rfl, iX4, by decide, k117⟩
theorem fX4_22 : LkF RX4 22 4 2 RX4 TX4 8 := ⟨rfl, iX4, by decide, k118⟩
theorem fX4_26 : LkF RX4 26 4 3 RX4 TX4 8 := ⟨rfl, iX4, by decide, k119⟩
theorem fX4_32 : LkF RX4 32 4 4 RX4 TX4 8 := ⟨rfl, iX4, by decide, k120⟩
theorem fX4_39 : LkF RX4 39 4 5 RX4 TX4 8 := ⟨rfl, iX4, by decide, k121⟩
theorem fX4_43 : LkF RX4 43 4 6 RX4 TX4 8 := ⟨rfl, iX4, by decide, k122⟩
theorem fX4_47 : LkF RX4 47 4 7 RX4 TX4 8 := ⟨rfl, iX4, by decide, k123⟩
theorem fX5_7 : LkF RX5 7 5 0 RX5 TX5 18 := ⟨rfl, iX5, by decide, k413⟩
theorem fX5_13 : LkF RX5 13 5 1 RX5 TX5 18 := ⟨rfl, iX5, by decide, k414⟩
theorem fX5_16 : LkF RX5 16 5 2 RX5 TX5 18 := ⟨rfl, iX5, by decide, k415⟩
theorem fX5_52 : LkF RX5 52 5 3 RX5 TX5 18 := ⟨rfl, iX5, by decide, k416⟩
theorem fX5_19 : LkF RX5 19 5 4 RX5 TX5 18 := ⟨rfl, iX5, by decide, k417⟩
theorem fX5_22 : LkF RX5 22 5 5 RX5 TX5 18 := ⟨rfl, iX5, by decide, k418⟩
theorem fX5_25 : LkF RX5 25 5 6 RX5 TX5 18 := ⟨rfl, iX5, by decide, k419⟩
theorem fX5_28 : LkF RX5 28 5 7 RX5 TX5 18 := ⟨rfl, iX5, by decide, k420⟩
theorem fX5_31 : LkF RX5 31 5 8 RX5 TX5 18 := ⟨rfl, iX5, by decide, k421⟩
theorem fX5_34 : LkF RX5 34 5 9 RX5 TX5 18 := ⟨rfl, iX5, by decide, k422⟩
theorem fX5_98 : LkF RX5 98 5 10 RX5 TX5 18 := ⟨rfl, iX5, by decide, k423⟩
theorem fX5_37 : LkF RX5 37 5 11 RX5 TX5 18 := ⟨rfl, iX5, by decide, k424⟩
theorem fX5_40 : LkF RX5 40 5 12 RX5 TX5 18 := ⟨rfl, iX5, by decide, k425⟩
theorem fX5_43 : LkF RX5 43 5 13 RX5 TX5 18 := ⟨rfl, iX5, by decide, k426⟩
theorem fX5_177 : LkF RX5 177 5 14 RX5 TX5 18 := ⟨rfl, iX5, by decide, k427⟩
theorem fX5_46 : LkF RX5 46 5 15 RX5 TX5 18 := ⟨rfl, iX5, by decide, k428⟩
theorem fX5_49 : LkF RX5 49 5 16 RX5 TX5 18 := ⟨rfl, iX5, by decide, k429⟩
theorem fX5_201 : LkF RX5 201 5 17 RX5 TX5 18 := ⟨rfl, iX5, by decide, k430⟩
theorem q0_0 : (∀ k, k < 3 → parseFieldDescriptor (TX0 k).2.2.1 = some (tyX0 k)) ∧ (∀ a, a < 3 → ∀ b, b < 3 → a ≠ b → (TX0 a).2.1 ≠ (TX0 b).2.1) ∧ (TX0 0).2.2.2 = true ∧ parseFieldDescriptor (TX0 0).2.2.1 = some (.array (.object "HungStops$Sheet")) := ⟨tyX0_ok, nmX0, rfl, tyX0_ok 0 (by decide)⟩
theorem q0_1 : (∀ k, k < 3 → parseFieldDescriptor (TX0 k).2.2.1 = some (tyX0 k)) ∧ (∀ a, a < 3 → ∀ b, b < 3 → a ≠ b → (TX0 a).2.1 ≠ (TX0 b).2.1) ∧ (TX0 1).2.2.2 = false ∧ parseFieldDescriptor (TX0 1).2.2.1 = some (.int) := ⟨tyX0_ok, nmX0, rfl, tyX0_ok 1 (by decide)⟩
theorem q0_2 : (∀ k, k < 3 → parseFieldDescriptor (TX0 k).2.2.1 = some (tyX0 k)) ∧ (∀ a, a < 3 → ∀ b, b < 3 → a ≠ b → (TX0 a).2.1 ≠ (TX0 b).2.1) ∧ (TX0 2).2.2.2 = false ∧ parseFieldDescriptor (TX0 2).2.2.1 = some (.int) := ⟨tyX0_ok, nmX0, rfl, tyX0_ok 2 (by decide)⟩
theorem q1_0 : (∀ k, k < 11 → parseFieldDescriptor (TX1 k).2.2.1 = some (tyX1 k)) ∧ (∀ a, a < 11 → ∀ b, b < 11 → a ≠ b → (TX1 a).2.1 ≠ (TX1 b).2.1) ∧ (TX1 0).2.2.2 = true ∧ parseFieldDescriptor (TX1 0).2.2.1 = some (.array .int) := ⟨tyX1_ok, nmX1, rfl, tyX1_ok 0 (by decide)⟩
theorem q1_1 : (∀ k, k < 11 → parseFieldDescriptor (TX1 k).2.2.1 = some (tyX1 k)) ∧ (∀ a, a < 11 → ∀ b, b < 11 → a ≠ b → (TX1 a).2.1 ≠ (TX1 b).2.1) ∧ (TX1 1).2.2.2 = true ∧ parseFieldDescriptor (TX1 1).2.2.1 = some (.array .int) := ⟨tyX1_ok, nmX1, rfl, tyX1_ok 1 (by decide)⟩
theorem q1_2 : (∀ k, k < 11 → parseFieldDescriptor (TX1 k).2.2.1 = some (tyX1 k)) ∧ (∀ a, a < 11 → ∀ b, b < 11 → a ≠ b → (TX1 a).2.1 ≠ (TX1 b).2.1) ∧ (TX1 2).2.2.2 = true ∧ parseFieldDescriptor (TX1 2).2.2.1 = some (.array .int) := ⟨tyX1_ok, nmX1, rfl, tyX1_ok 2 (by decide)⟩
theorem q1_3 : (∀ k, k < 11 → parseFieldDescriptor (TX1 k).2.2.1 = some (tyX1 k)) ∧ (∀ a, a < 11 → ∀ b, b < 11 → a ≠ b → (TX1 a).2.1 ≠ (TX1 b).2.1) ∧ (TX1 3).2.2.2 = false ∧ parseFieldDescriptor (TX1 3).2.2.1 = some (.int) := ⟨tyX1_ok, nmX1, rfl, tyX1_ok 3 (by decide)⟩
theorem q1_4 : (∀ k, k < 11 → parseFieldDescriptor (TX1 k).2.2.1 = some (tyX1 k)) ∧ (∀ a, a < 11 → ∀ b, b < 11 → a ≠ b → (TX1 a).2.1 ≠ (TX1 b).2.1) ∧ (TX1 4).2.2.2 = false ∧ parseFieldDescriptor (TX1 4).2.2.1 = some (.int) := ⟨tyX1_ok, nmX1, rfl, tyX1_ok 4 (by decide)⟩
theorem q1_5 : (∀ k, k < 11 → parseFieldDescriptor (TX1 k).2.2.1 = some (tyX1 k)) ∧ (∀ a, a < 11 → ∀ b, b < 11 → a ≠ b → (TX1 a).2.1 ≠ (TX1 b).2.1) ∧ (TX1 5).2.2.2 = false ∧ parseFieldDescriptor (TX1 5).2.2.1 = some (.int) := ⟨tyX1_ok, nmX1, rfl, tyX1_ok 5 (by decide)⟩
theorem q1_6 : (∀ k, k < 11 → parseFieldDescriptor (TX1 k).2.2.1 = some (tyX1 k)) ∧ (∀ a, a < 11 → ∀ b, b < 11 → a ≠ b → (TX1 a).2.1 ≠ (TX1 b).2.1) ∧ (TX1 6).2.2.2 = false ∧ parseFieldDescriptor (TX1 6).2.2.1 = some (.int) := ⟨tyX1_ok, nmX1, rfl, tyX1_ok 6 (by decide)⟩
theorem q1_7 : (∀ k, k < 11 → parseFieldDescriptor (TX1 k).2.2.1 = some (tyX1 k)) ∧ (∀ a, a < 11 → ∀ b, b < 11 → a ≠ b → (TX1 a).2.1 ≠ (TX1 b).2.1) ∧ (TX1 7).2.2.2 = true ∧ parseFieldDescriptor (TX1 7).2.2.1 = some (.array .int) := ⟨tyX1_ok, nmX1, rfl, tyX1_ok 7 (by decide)⟩
theorem q1_8 : (∀ k, k < 11 → parseFieldDescriptor (TX1 k).2.2.1 = some (tyX1 k)) ∧ (∀ a, a < 11 → ∀ b, b < 11 → a ≠ b → (TX1 a).2.1 ≠ (TX1 b).2.1) ∧ (TX1 8).2.2.2 = false ∧ parseFieldDescriptor (TX1 8).2.2.1 = some (.int) := ⟨tyX1_ok, nmX1, rfl, tyX1_ok 8 (by decide)⟩
theorem q1_9 : (∀ k, k < 11 → parseFieldDescriptor (TX1 k).2.2.1 = some (tyX1 k)) ∧ (∀ a, a < 11 → ∀ b, b < 11 → a ≠ b → (TX1 a).2.1 ≠ (TX1 b).2.1) ∧ (TX1 9).2.2.2 = true ∧ parseFieldDescriptor (TX1 9).2.2.1 = some (.array .int) := ⟨tyX1_ok, nmX1, rfl, tyX1_ok 9 (by decide)⟩
theorem q1_10 : (∀ k, k < 11 → parseFieldDescriptor (TX1 k).2.2.1 = some (tyX1 k)) ∧ (∀ a, a < 11 → ∀ b, b < 11 → a ≠ b → (TX1 a).2.1 ≠ (TX1 b).2.1) ∧ (TX1 10).2.2.2 = true ∧ parseFieldDescriptor (TX1 10).2.2.1 = some (.array .int) := ⟨tyX1_ok, nmX1, rfl, tyX1_ok 10 (by decide)⟩
theorem q2_0 : (∀ k, k < 2 → parseFieldDescriptor (TX2 k).2.2.1 = some (tyX2 k)) ∧ (∀ a, a < 2 → ∀ b, b < 2 → a ≠ b → (TX2 a).2.1 ≠ (TX2 b).2.1) ∧ (TX2 0).2.2.2 = true ∧ parseFieldDescriptor (TX2 0).2.2.1 = some (.array .char) := ⟨tyX2_ok, nmX2, rfl, tyX2_ok 0 (by decide)⟩
theorem q2_1 : (∀ k, k < 2 → parseFieldDescriptor (TX2 k).2.2.1 = some (tyX2 k)) ∧ (∀ a, a < 2 → ∀ b, b < 2 → a ≠ b → (TX2 a).2.1 ≠ (TX2 b).2.1) ∧ (TX2 1).2.2.2 = false ∧ parseFieldDescriptor (TX2 1).2.2.1 = some (.int) := ⟨tyX2_ok, nmX2, rfl, tyX2_ok 1 (by decide)⟩
theorem q3_0 : (∀ k, k < 7 → parseFieldDescriptor (TX3 k).2.2.1 = some (tyX3 k)) ∧ (∀ a, a < 7 → ∀ b, b < 7 → a ≠ b → (TX3 a).2.1 ≠ (TX3 b).2.1) ∧ (TX3 0).2.2.2 = true ∧ parseFieldDescriptor (TX3 0).2.2.1 = some (.array .int) := ⟨tyX3_ok, nmX3, rfl, tyX3_ok 0 (by decide)⟩
theorem q3_1 : (∀ k, k < 7 → parseFieldDescriptor (TX3 k).2.2.1 = some (tyX3 k)) ∧ (∀ a, a < 7 → ∀ b, b < 7 → a ≠ b → (TX3 a).2.1 ≠ (TX3 b).2.1) ∧ (TX3 1).2.2.2 = true ∧ parseFieldDescriptor (TX3 1).2.2.1 = some (.array .int) := ⟨tyX3_ok, nmX3, rfl, tyX3_ok 1 (by decide)⟩
theorem q3_2 : (∀ k, k < 7 → parseFieldDescriptor (TX3 k).2.2.1 = some (tyX3 k)) ∧ (∀ a, a < 7 → ∀ b, b < 7 → a ≠ b → (TX3 a).2.1 ≠ (TX3 b).2.1) ∧ (TX3 2).2.2.2 = true ∧ parseFieldDescriptor (TX3 2).2.2.1 = some (.array .int) := ⟨tyX3_ok, nmX3, rfl, tyX3_ok 2 (by decide)⟩
theorem q3_3 : (∀ k, k < 7 → parseFieldDescriptor (TX3 k).2.2.1 = some (tyX3 k)) ∧ (∀ a, a < 7 → ∀ b, b < 7 → a ≠ b → (TX3 a).2.1 ≠ (TX3 b).2.1) ∧ (TX3 3).2.2.2 = true ∧ parseFieldDescriptor (TX3 3).2.2.1 = some (.array .int) := ⟨tyX3_ok, nmX3, rfl, tyX3_ok 3 (by decide)⟩
theorem q3_4 : (∀ k, k < 7 → parseFieldDescriptor (TX3 k).2.2.1 = some (tyX3 k)) ∧ (∀ a, a < 7 → ∀ b, b < 7 → a ≠ b → (TX3 a).2.1 ≠ (TX3 b).2.1) ∧ (TX3 4).2.2.2 = true ∧ parseFieldDescriptor (TX3 4).2.2.1 = some (.array .char) := ⟨tyX3_ok, nmX3, rfl, tyX3_ok 4 (by decide)⟩
theorem q3_5 : (∀ k, k < 7 → parseFieldDescriptor (TX3 k).2.2.1 = some (tyX3 k)) ∧ (∀ a, a < 7 → ∀ b, b < 7 → a ≠ b → (TX3 a).2.1 ≠ (TX3 b).2.1) ∧ (TX3 5).2.2.2 = true ∧ parseFieldDescriptor (TX3 5).2.2.1 = some (.array .int) := ⟨tyX3_ok, nmX3, rfl, tyX3_ok 5 (by decide)⟩
theorem q3_6 : (∀ k, k < 7 → parseFieldDescriptor (TX3 k).2.2.1 = some (tyX3 k)) ∧ (∀ a, a < 7 → ∀ b, b < 7 → a ≠ b → (TX3 a).2.1 ≠ (TX3 b).2.1) ∧ (TX3 6).2.2.2 = false ∧ parseFieldDescriptor (TX3 6).2.2.1 = some (.int) := ⟨tyX3_ok, nmX3, rfl, tyX3_ok 6 (by decide)⟩
theorem q4_0 : (∀ k, k < 8 → parseFieldDescriptor (TX4 k).2.2.1 = some (tyX4 k)) ∧ (∀ a, a < 8 → ∀ b, b < 8 → a ≠ b → (TX4 a).2.1 ≠ (TX4 b).2.1) ∧ (TX4 0).2.2.2 = true ∧ parseFieldDescriptor (TX4 0).2.2.1 = some (.object "HungStops$Sheet") := ⟨tyX4_ok, nmX4, rfl, tyX4_ok 0 (by decide)⟩
theorem q4_1 : (∀ k, k < 8 → parseFieldDescriptor (TX4 k).2.2.1 = some (tyX4 k)) ∧ (∀ a, a < 8 → ∀ b, b < 8 → a ≠ b → (TX4 a).2.1 ≠ (TX4 b).2.1) ∧ (TX4 1).2.2.2 = true ∧ parseFieldDescriptor (TX4 1).2.2.1 = some (.object "HungStops$Sheet") := ⟨tyX4_ok, nmX4, rfl, tyX4_ok 1 (by decide)⟩
theorem q4_2 : (∀ k, k < 8 → parseFieldDescriptor (TX4 k).2.2.1 = some (tyX4 k)) ∧ (∀ a, a < 8 → ∀ b, b < 8 → a ≠ b → (TX4 a).2.1 ≠ (TX4 b).2.1) ∧ (TX4 2).2.2.2 = true ∧ parseFieldDescriptor (TX4 2).2.2.1 = some (.object "HungStops$Layout") := ⟨tyX4_ok, nmX4, rfl, tyX4_ok 2 (by decide)⟩
theorem q4_3 : (∀ k, k < 8 → parseFieldDescriptor (TX4 k).2.2.1 = some (tyX4 k)) ∧ (∀ a, a < 8 → ∀ b, b < 8 → a ≠ b → (TX4 a).2.1 ≠ (TX4 b).2.1) ∧ (TX4 3).2.2.2 = true ∧ parseFieldDescriptor (TX4 3).2.2.1 = some (.object "HungStops$Layout") := ⟨tyX4_ok, nmX4, rfl, tyX4_ok 3 (by decide)⟩
theorem q4_4 : (∀ k, k < 8 → parseFieldDescriptor (TX4 k).2.2.1 = some (tyX4 k)) ∧ (∀ a, a < 8 → ∀ b, b < 8 → a ≠ b → (TX4 a).2.1 ≠ (TX4 b).2.1) ∧ (TX4 4).2.2.2 = true ∧ parseFieldDescriptor (TX4 4).2.2.1 = some (.object "HungStops$Pad") := ⟨tyX4_ok, nmX4, rfl, tyX4_ok 4 (by decide)⟩
theorem q4_5 : (∀ k, k < 8 → parseFieldDescriptor (TX4 k).2.2.1 = some (tyX4 k)) ∧ (∀ a, a < 8 → ∀ b, b < 8 → a ≠ b → (TX4 a).2.1 ≠ (TX4 b).2.1) ∧ (TX4 5).2.2.2 = true ∧ parseFieldDescriptor (TX4 5).2.2.1 = some (.object "HungStops$History") := ⟨tyX4_ok, nmX4, rfl, tyX4_ok 5 (by decide)⟩
theorem q4_6 : (∀ k, k < 8 → parseFieldDescriptor (TX4 k).2.2.1 = some (tyX4 k)) ∧ (∀ a, a < 8 → ∀ b, b < 8 → a ≠ b → (TX4 a).2.1 ≠ (TX4 b).2.1) ∧ (TX4 6).2.2.2 = true ∧ parseFieldDescriptor (TX4 6).2.2.1 = some (.array (.object "HungStops$Sheet")) := ⟨tyX4_ok, nmX4, rfl, tyX4_ok 6 (by decide)⟩
theorem q4_7 : (∀ k, k < 8 → parseFieldDescriptor (TX4 k).2.2.1 = some (tyX4 k)) ∧ (∀ a, a < 8 → ∀ b, b < 8 → a ≠ b → (TX4 a).2.1 ≠ (TX4 b).2.1) ∧ (TX4 7).2.2.2 = true ∧ parseFieldDescriptor (TX4 7).2.2.1 = some (.array .boolean) := ⟨tyX4_ok, nmX4, rfl, tyX4_ok 7 (by decide)⟩
theorem q5_0 : (∀ k, k < 18 → parseFieldDescriptor (TX5 k).2.2.1 = some (tyX5 k)) ∧ (∀ a, a < 18 → ∀ b, b < 18 → a ≠ b → (TX5 a).2.1 ≠ (TX5 b).2.1) ∧ (TX5 0).2.2.2 = true ∧ parseFieldDescriptor (TX5 0).2.2.1 = some (.array .int) := ⟨tyX5_ok, nmX5, rfl, tyX5_ok 0 (by decide)⟩
theorem q5_1 : (∀ k, k < 18 → parseFieldDescriptor (TX5 k).2.2.1 = some (tyX5 k)) ∧ (∀ a, a < 18 → ∀ b, b < 18 → a ≠ b → (TX5 a).2.1 ≠ (TX5 b).2.1) ∧ (TX5 1).2.2.2 = true ∧ parseFieldDescriptor (TX5 1).2.2.1 = some (.array .int) := ⟨tyX5_ok, nmX5, rfl, tyX5_ok 1 (by decide)⟩
theorem q5_2 : (∀ k, k < 18 → parseFieldDescriptor (TX5 k).2.2.1 = some (tyX5 k)) ∧ (∀ a, a < 18 → ∀ b, b < 18 → a ≠ b → (TX5 a).2.1 ≠ (TX5 b).2.1) ∧ (TX5 2).2.2.2 = true ∧ parseFieldDescriptor (TX5 2).2.2.1 = some (.array .int) := ⟨tyX5_ok, nmX5, rfl, tyX5_ok 2 (by decide)⟩
theorem q5_3 : (∀ k, k < 18 → parseFieldDescriptor (TX5 k).2.2.1 = some (tyX5 k)) ∧ (∀ a, a < 18 → ∀ b, b < 18 → a ≠ b → (TX5 a).2.1 ≠ (TX5 b).2.1) ∧ (TX5 3).2.2.2 = false ∧ parseFieldDescriptor (TX5 3).2.2.1 = some (.int) := ⟨tyX5_ok, nmX5, rfl, tyX5_ok 3 (by decide)⟩
theorem q5_4 : (∀ k, k < 18 → parseFieldDescriptor (TX5 k).2.2.1 = some (tyX5 k)) ∧ (∀ a, a < 18 → ∀ b, b < 18 → a ≠ b → (TX5 a).2.1 ≠ (TX5 b).2.1) ∧ (TX5 4).2.2.2 = true ∧ parseFieldDescriptor (TX5 4).2.2.1 = some (.array .int) := ⟨tyX5_ok, nmX5, rfl, tyX5_ok 4 (by decide)⟩
theorem q5_5 : (∀ k, k < 18 → parseFieldDescriptor (TX5 k).2.2.1 = some (tyX5 k)) ∧ (∀ a, a < 18 → ∀ b, b < 18 → a ≠ b → (TX5 a).2.1 ≠ (TX5 b).2.1) ∧ (TX5 5).2.2.2 = true ∧ parseFieldDescriptor (TX5 5).2.2.1 = some (.array .int) := ⟨tyX5_ok, nmX5, rfl, tyX5_ok 5 (by decide)⟩
theorem q5_6 : (∀ k, k < 18 → parseFieldDescriptor (TX5 k).2.2.1 = some (tyX5 k)) ∧ (∀ a, a < 18 → ∀ b, b < 18 → a ≠ b → (TX5 a).2.1 ≠ (TX5 b).2.1) ∧ (TX5 6).2.2.2 = true ∧ parseFieldDescriptor (TX5 6).2.2.1 = some (.array .int) := ⟨tyX5_ok, nmX5, rfl, tyX5_ok 6 (by decide)⟩
theorem q5_7 : (∀ k, k < 18 → parseFieldDescriptor (TX5 k).2.2.1 = some (tyX5 k)) ∧ (∀ a, a < 18 → ∀ b, b < 18 → a ≠ b → (TX5 a).2.1 ≠ (TX5 b).2.1) ∧ (TX5 7).2.2.2 = true ∧ parseFieldDescriptor (TX5 7).2.2.1 = some (.array .int) := ⟨tyX5_ok, nmX5, rfl, tyX5_ok 7 (by decide)⟩
theorem q5_8 : (∀ k, k < 18 → parseFieldDescriptor (TX5 k).2.2.1 = some (tyX5 k)) ∧ (∀ a, a < 18 → ∀ b, b < 18 → a ≠ b → (TX5 a).2.1 ≠ (TX5 b).2.1) ∧ (TX5 8).2.2.2 = true ∧ parseFieldDescriptor (TX5 8).2.2.1 = some (.array .int) := ⟨tyX5_ok, nmX5, rfl, tyX5_ok 8 (by decide)⟩
theorem q5_9 : (∀ k, k < 18 → parseFieldDescriptor (TX5 k).2.2.1 = some (tyX5 k)) ∧ (∀ a, a < 18 → ∀ b, b < 18 → a ≠ b → (TX5 a).2.1 ≠ (TX5 b).2.1) ∧ (TX5 9).2.2.2 = true ∧ parseFieldDescriptor (TX5 9).2.2.1 = some (.array .int) := ⟨tyX5_ok, nmX5, rfl, tyX5_ok 9 (by decide)⟩
theorem q5_10 : (∀ k, k < 18 → parseFieldDescriptor (TX5 k).2.2.1 = some (tyX5 k)) ∧ (∀ a, a < 18 → ∀ b, b < 18 → a ≠ b → (TX5 a).2.1 ≠ (TX5 b).2.1) ∧ (TX5 10).2.2.2 = false ∧ parseFieldDescriptor (TX5 10).2.2.1 = some (.int) := ⟨tyX5_ok, nmX5, rfl, tyX5_ok 10 (by decide)⟩
theorem q5_11 : (∀ k, k < 18 → parseFieldDescriptor (TX5 k).2.2.1 = some (tyX5 k)) ∧ (∀ a, a < 18 → ∀ b, b < 18 → a ≠ b → (TX5 a).2.1 ≠ (TX5 b).2.1) ∧ (TX5 11).2.2.2 = true ∧ parseFieldDescriptor (TX5 11).2.2.1 = some (.array .int) := ⟨tyX5_ok, nmX5, rfl, tyX5_ok 11 (by decide)⟩
theorem q5_12 : (∀ k, k < 18 → parseFieldDescriptor (TX5 k).2.2.1 = some (tyX5 k)) ∧ (∀ a, a < 18 → ∀ b, b < 18 → a ≠ b → (TX5 a).2.1 ≠ (TX5 b).2.1) ∧ (TX5 12).2.2.2 = true ∧ parseFieldDescriptor (TX5 12).2.2.1 = some (.array .int) := ⟨tyX5_ok, nmX5, rfl, tyX5_ok 12 (by decide)⟩
theorem q5_13 : (∀ k, k < 18 → parseFieldDescriptor (TX5 k).2.2.1 = some (tyX5 k)) ∧ (∀ a, a < 18 → ∀ b, b < 18 → a ≠ b → (TX5 a).2.1 ≠ (TX5 b).2.1) ∧ (TX5 13).2.2.2 = true ∧ parseFieldDescriptor (TX5 13).2.2.1 = some (.array .int) := ⟨tyX5_ok, nmX5, rfl, tyX5_ok 13 (by decide)⟩
theorem q5_14 : (∀ k, k < 18 → parseFieldDescriptor (TX5 k).2.2.1 = some (tyX5 k)) ∧ (∀ a, a < 18 → ∀ b, b < 18 → a ≠ b → (TX5 a).2.1 ≠ (TX5 b).2.1) ∧ (TX5 14).2.2.2 = false ∧ parseFieldDescriptor (TX5 14).2.2.1 = some (.int) := ⟨tyX5_ok, nmX5, rfl, tyX5_ok 14 (by decide)⟩
theorem q5_15 : (∀ k, k < 18 → parseFieldDescriptor (TX5 k).2.2.1 = some (tyX5 k)) ∧ (∀ a, a < 18 → ∀ b, b < 18 → a ≠ b → (TX5 a).2.1 ≠ (TX5 b).2.1) ∧ (TX5 15).2.2.2 = true ∧ parseFieldDescriptor (TX5 15).2.2.1 = some (.array .int) := ⟨tyX5_ok, nmX5, rfl, tyX5_ok 15 (by decide)⟩
theorem q5_16 : (∀ k, k < 18 → parseFieldDescriptor (TX5 k).2.2.1 = some (tyX5 k)) ∧ (∀ a, a < 18 → ∀ b, b < 18 → a ≠ b → (TX5 a).2.1 ≠ (TX5 b).2.1) ∧ (TX5 16).2.2.2 = true ∧ parseFieldDescriptor (TX5 16).2.2.1 = some (.array .int) := ⟨tyX5_ok, nmX5, rfl, tyX5_ok 16 (by decide)⟩
theorem q5_17 : (∀ k, k < 18 → parseFieldDescriptor (TX5 k).2.2.1 = some (tyX5 k)) ∧ (∀ a, a < 18 → ∀ b, b < 18 → a ≠ b → (TX5 a).2.1 ≠ (TX5 b).2.1) ∧ (TX5 17).2.2.2 = false ∧ parseFieldDescriptor (TX5 17).2.2.1 = some (.int) := ⟨tyX5_ok, nmX5, rfl, tyX5_ok 17 (by decide)⟩
theorem vL_9 : LkI RL 9 yX4_init cX4_init 1 0 := ⟨k46, k47, k36, k48, rfl, by decide, by decide, by decide +kernel⟩
theorem vX4_9 : LkIN RX4 9 yX3_init cX3_init 1 0 := ⟨fun κ s h => h.2.1.1, k55, k37, k56, rfl, by decide, by decide, by decide +kernel⟩
theorem vX4_21 : LkIN RX4 21 yX1_init cX1_init 1 0 := ⟨fun κ s h => h.2.1.2.1, k78, k38, k79, rfl, by decide, by decide, by decide +kernel⟩
theorem vX4_31 : LkIN RX4 31 yX2_init cX2_init 1 0 := ⟨fun κ s h => h.2.1.2.2.1, k97, k39, k98, rfl, by decide, by decide, by decide +kernel⟩
theorem vX4_38 : LkI RX4 38 yX0_init cX0_init 2 0 := ⟨k105, k106, k40, k107, rfl, by decide, by decide, by decide +kernel⟩
theorem vX0_24 : LkIN RX0 24 yX3_init cX3_init 1 0 := ⟨fun κ s h => h.2.1.2.2.2.1, k55, k37, k56, rfl, by decide, by decide, by decide +kernel⟩
theorem vL_13 : LkV RL 13 RX4 yX4_set cX4_set 4 (some .int) 2 := ⟨k125, k126, k127, k36, k128, rfl, by decide, by decide, by decide +kernel⟩
theorem vX4_58 : LkV RX4 58 RX0 yX0_record cX0_record 2 none 1 := ⟨k133, k134, k135, k40, k136, rfl, by decide, by decide, by decide +kernel⟩
theorem vX0_25 : LkV RX0 25 RX3 yX3_copyFrom cX3_copyFrom 2 none 1 := ⟨k137, k138, k139, k37, k140, rfl, by decide, by decide, by decide +kernel⟩
theorem vL_18 : LkV RL 18 RX4 yX4_sort cX4_sort 6 (some .int) 4 := ⟨k144, k145, k146, k36, k147, rfl, by decide, by decide, by decide +kernel⟩
theorem vX4_65 : LkS RX4 65 yX4_isSort cX4_isSort 1 (some .boolean) 1 := ⟨k148, k149, k36, k150, by decide, by decide, by decide +kernel⟩
theorem vX4_69 : LkS RX4 69 yX4_isShare cX4_isShare 1 (some .boolean) 1 := ⟨k151, k152, k36, k153, by decide, by decide, by decide +kernel⟩
theorem vL_23 : LkV RL 23 RX4 yX4_read cX4_read 1 (some .int) 0 := ⟨k154, k155, k156, k36, k157, rfl, by decide, by decide, by decide +kernel⟩
theorem vX4_81 : LkV RX4 81 RX2 yX2_firstFault cX2_firstFault 3 (some .int) 0 := ⟨k158, k159, k160, k39, k161, rfl, by decide, by decide, by decide +kernel⟩
theorem vX2_21 : LkSN RX2 21 yX4_sortWith cX4_sortWith 1 (some .int) 1 := ⟨fun κ s h => h.2.1.2.2.2.2.1, k163, k36, k164, by decide, by decide, by decide +kernel⟩
theorem vX4_89 : LkV RX4 89 RX2 yX2_countWords cX2_countWords 3 (some .int) 0 := ⟨k165, k166, k167, k39, k168, rfl, by decide, by decide, by decide +kernel⟩
theorem vX4_92 : LkV RX4 92 RX2 yX2_addWordsTo cX2_addWordsTo 3 none 1 := ⟨k169, k170, k171, k39, k172, rfl, by decide, by decide, by decide +kernel⟩
theorem vX2_25 : LkV RX2 25 RX3 yX3_beginWord cX3_beginWord 1 none 0 := ⟨k173, k174, k175, k37, k176, rfl, by decide, by decide, by decide +kernel⟩
theorem vX2_30 : LkV RX2 30 RX3 yX3_addSign cX3_addSign 3 none 1 := ⟨k177, k178, k179, k37, k180, rfl, by decide, by decide, by decide +kernel⟩
theorem vL_28 : LkV RL 28 RX4 yX4_drop cX4_drop 3 (some .int) 1 := ⟨k181, k182, k183, k36, k184, rfl, by decide, by decide, by decide +kernel⟩
theorem vX4_98 : LkV RX4 98 RX4 yX4_isWord cX4_isWord 2 (some .boolean) 1 := ⟨k185, k186, k0, k36, k187, rfl, by decide, by decide, by decide +kernel⟩
theorem vX4_101 : LkV RX4 101 RX3 yX3_widthOf cX3_widthOf 4 (some .int) 1 := ⟨k188, k189, k190, k37, k191, rfl, by decide, by decide, by decide +kernel⟩
theorem vX3_55 : LkV RX3 55 RX3 yX3_sortAt cX3_sortAt 3 (some .int) 2 := ⟨k192, k193, k194, k37, k195, rfl, by decide, by decide, by decide +kernel⟩
theorem vX3_41 : LkV RX3 41 RX3 yX3_signAt cX3_signAt 3 (some .char) 2 := ⟨k196, k197, k198, k37, k199, rfl, by decide, by decide, by decide +kernel⟩
theorem vX3_45 : LkSN RX3 45 yX4_sortWith cX4_sortWith 1 (some .int) 1 := ⟨fun κ s h => h.2.1.2.2.2.2.2, k163, k36, k164, by decide, by decide, by decide +kernel⟩
theorem vX4_105 : LkV RX4 105 RX3 yX3_takeOut cX3_takeOut 3 none 1 := ⟨k204, k205, k206, k37, k207, rfl, by decide, by decide, by decide +kernel⟩
theorem vL_33 : LkV RL 33 RX4 yX4_swap cX4_swap 3 (some .int) 2 := ⟨k208, k209, k210, k36, k211, rfl, by decide, by decide, by decide +kernel⟩
theorem vX4_109 : LkV RX4 109 RX3 yX3_exchange cX3_exchange 5 none 2 := ⟨k212, k213, k214, k37, k215, rfl, by decide, by decide, by decide +kernel⟩
theorem vX4_113 : LkV RX4 113 RX4 yX4_broken cX4_broken 3 (some (.object "HungStops$Layout")) 1 := ⟨k216, k217, k1, k36, k218, rfl, by decide, by decide, by decide +kernel⟩
theorem vX4_168 : LkV RX4 168 RX1 yX1_weigh cX1_weigh 3 none 1 := ⟨k219, k220, k221, k38, k222, rfl, by decide, by decide, by decide +kernel⟩
theorem vX1_52 : LkV RX1 52 RX3 yX3_widthOf cX3_widthOf 4 (some .int) 1 := ⟨k223, k189, k190, k37, k191, rfl, by decide, by decide, by decide +kernel⟩
theorem vX1_56 : LkV RX1 56 RX3 yX3_leftHangOf cX3_leftHangOf 2 (some .int) 1 := ⟨k224, k225, k226, k37, k227, rfl, by decide, by decide, by decide +kernel⟩
theorem vX3_58 : LkV RX3 58 RX3 yX3_hangAtLeft cX3_hangAtLeft 2 (some .int) 1 := ⟨k228, k229, k230, k37, k231, rfl, by decide, by decide, by decide +kernel⟩
theorem vX1_59 : LkV RX1 59 RX3 yX3_rightHangOf cX3_rightHangOf 2 (some .int) 1 := ⟨k232, k233, k234, k37, k235, rfl, by decide, by decide, by decide +kernel⟩
theorem vX3_61 : LkV RX3 61 RX3 yX3_hangAtRight cX3_hangAtRight 2 (some .int) 1 := ⟨k236, k237, k238, k37, k239, rfl, by decide, by decide, by decide +kernel⟩
theorem vX4_177 : LkV RX4 177 RX1 yX1_fillGreedily cX1_fillGreedily 2 none 0 := ⟨k240, k241, k242, k38, k243, rfl, by decide, by decide, by decide +kernel⟩
theorem vX1_66 : LkV RX1 66 RX1 yX1_bodyOf cX1_bodyOf 3 (some .int) 2 := ⟨k244, k245, k246, k38, k247, rfl, by decide, by decide, by decide +kernel⟩
theorem vX1_62 : LkV RX1 62 RX1 yX1_widthFrom cX1_widthFrom 3 (some .int) 2 := ⟨k248, k249, k250, k38, k251, rfl, by decide, by decide, by decide +kernel⟩
theorem vX4_198 : LkV RX4 198 RX1 yX1_breakBest cX1_breakBest 3 none 0 := ⟨k252, k253, k254, k38, k255, rfl, by decide, by decide, by decide +kernel⟩
theorem vX1_69 : LkV RX1 69 RX1 yX1_leastBadness cX1_leastBadness 2 (some .int) 0 := ⟨k256, k257, k258, k38, k259, rfl, by decide, by decide, by decide +kernel⟩
theorem vX1_73 : LkV RX1 73 RX1 yX1_findFirstLine cX1_findFirstLine 4 none 1 := ⟨k260, k261, k2, k38, k262, rfl, by decide, by decide, by decide +kernel⟩
theorem vX1_77 : LkV RX1 77 RX1 yX1_badnessOf cX1_badnessOf 4 (some .int) 2 := ⟨k263, k264, k3, k38, k265, rfl, by decide, by decide, by decide +kernel⟩
theorem vL_37 : LkV RL 37 RX4 yX4_clear cX4_clear 2 (some .int) 0 := ⟨k266, k267, k268, k36, k269, rfl, by decide, by decide, by decide +kernel⟩
theorem vL_41 : LkV RL 41 RX4 yX4_sortOf cX4_sortOf 3 (some .int) 2 := ⟨k270, k271, k272, k36, k273, rfl, by decide, by decide, by decide +kernel⟩
theorem vX4_120 : LkV RX4 120 RX3 yX3_hangAtLeft cX3_hangAtLeft 2 (some .int) 1 := ⟨k274, k229, k230, k37, k231, rfl, by decide, by decide, by decide +kernel⟩
theorem vX4_123 : LkV RX4 123 RX3 yX3_hangAtRight cX3_hangAtRight 2 (some .int) 1 := ⟨k275, k237, k238, k37, k239, rfl, by decide, by decide, by decide +kernel⟩
theorem vX4_126 : LkV RX4 126 RX3 yX3_countOf cX3_countOf 5 (some .int) 1 := ⟨k276, k277, k278, k37, k279, rfl, by decide, by decide, by decide +kernel⟩
theorem vL_45 : LkV RL 45 RX4 yX4_word cX4_word 3 (some .int) 2 := ⟨k280, k281, k282, k36, k283, rfl, by decide, by decide, by decide +kernel⟩
theorem vX4_132 : LkV RX4 132 RX1 yX1_lineWith cX1_lineWith 4 (some .int) 1 := ⟨k284, k285, k286, k38, k287, rfl, by decide, by decide, by decide +kernel⟩
theorem vX4_135 : LkV RX4 135 RX3 yX3_signAt cX3_signAt 3 (some .char) 2 := ⟨k288, k197, k198, k37, k199, rfl, by decide, by decide, by decide +kernel⟩
theorem vL_49 : LkV RL 49 RX4 yX4_line cX4_line 5 (some .int) 3 := ⟨k289, k290, k291, k36, k292, rfl, by decide, by decide, by decide +kernel⟩
theorem vX4_139 : LkS RX4 139 yX4_isWay cX4_isWay 1 (some .boolean) 1 := ⟨k293, k294, k36, k295, by decide, by decide, by decide +kernel⟩
theorem vX4_142 : LkV RX4 142 RX1 yX1_tellLine cX1_tellLine 3 (some .int) 2 := ⟨k296, k297, k298, k38, k299, rfl, by decide, by decide, by decide +kernel⟩
theorem vX1_80 : LkV RX1 80 RX1 yX1_lastWord cX1_lastWord 2 (some .int) 1 := ⟨k300, k301, k302, k38, k303, rfl, by decide, by decide, by decide +kernel⟩
theorem vX1_83 : LkV RX1 83 RX1 yX1_bodyOfLine cX1_bodyOfLine 2 (some .int) 1 := ⟨k304, k305, k306, k38, k307, rfl, by decide, by decide, by decide +kernel⟩
theorem vX1_86 : LkV RX1 86 RX1 yX1_fits cX1_fits 2 (some .boolean) 1 := ⟨k308, k309, k310, k38, k311, rfl, by decide, by decide, by decide +kernel⟩
theorem vX1_90 : LkV RX1 90 RX1 yX1_looksIndented cX1_looksIndented 2 (some .boolean) 1 := ⟨k312, k313, k314, k38, k315, rfl, by decide, by decide, by decide +kernel⟩
theorem vL_54 : LkV RL 54 RX4 yX4_lines cX4_lines 3 (some .int) 2 := ⟨k316, k317, k318, k36, k319, rfl, by decide, by decide, by decide +kernel⟩
theorem vX4_146 : LkV RX4 146 RX1 yX1_badness cX1_badness 3 (some .int) 0 := ⟨k320, k321, k322, k38, k323, rfl, by decide, by decide, by decide +kernel⟩
theorem vX4_149 : LkV RX4 149 RX1 yX1_countIndented cX1_countIndented 3 (some .int) 0 := ⟨k324, k325, k326, k38, k327, rfl, by decide, by decide, by decide +kernel⟩
theorem vX4_152 : LkV RX4 152 RX1 yX1_countUnfit cX1_countUnfit 3 (some .int) 0 := ⟨k328, k329, k330, k38, k331, rfl, by decide, by decide, by decide +kernel⟩
theorem vX4_155 : LkV RX4 155 RX1 yX1_greatestBody cX1_greatestBody 3 (some .int) 0 := ⟨k332, k333, k334, k38, k335, rfl, by decide, by decide, by decide +kernel⟩
theorem vL_58 : LkV RL 58 RX4 yX4_count cX4_count 2 (some .int) 1 := ⟨k337, k338, k339, k36, k340, rfl, by decide, by decide, by decide +kernel⟩
theorem vX4_158 : LkV RX4 158 RX3 yX3_countSigns cX3_countSigns 3 (some .int) 0 := ⟨k341, k342, k343, k37, k344, rfl, by decide, by decide, by decide +kernel⟩
theorem vX4_161 : LkV RX4 161 RX1 yX1_breaksLike cX1_breaksLike 3 (some .boolean) 1 := ⟨k345, k346, k347, k38, k348, rfl, by decide, by decide, by decide +kernel⟩
theorem vL_62 : LkV RL 62 RX4 yX4_body cX4_body 3 (some .int) 2 := ⟨k349, k350, k351, k36, k352, rfl, by decide, by decide, by decide +kernel⟩
theorem vX4_171 : LkV RX4 171 RX1 yX1_bodyOf cX1_bodyOf 3 (some .int) 2 := ⟨k353, k245, k246, k38, k247, rfl, by decide, by decide, by decide +kernel⟩
theorem vL_66 : LkV RL 66 RX4 yX4_leastMeasure cX4_leastMeasure 3 (some .int) 1 := ⟨k354, k355, k356, k36, k357, rfl, by decide, by decide, by decide +kernel⟩
theorem vL_70 : LkV RL 70 RX4 yX4_bestShare cX4_bestShare 8 (some .int) 1 := ⟨k358, k359, k360, k36, k361, rfl, by decide, by decide, by decide +kernel⟩
theorem vX4_180 : LkV RX4 180 RX3 yX3_copyFrom cX3_copyFrom 2 none 1 := ⟨k362, k138, k139, k37, k140, rfl, by decide, by decide, by decide +kernel⟩
theorem vX4_183 : LkV RX4 183 RX4 yX4_leastBadnessOf cX4_leastBadnessOf 2 (some .int) 1 := ⟨k363, k364, k4, k36, k365, rfl, by decide, by decide, by decide +kernel⟩
theorem vX4_201 : LkV RX4 201 RX1 yX1_leastBadness cX1_leastBadness 2 (some .int) 0 := ⟨k366, k257, k258, k38, k259, rfl, by decide, by decide, by decide +kernel⟩
theorem vL_74 : LkV RL 74 RX4 yX4_worstWord cX4_worstWord 5 (some .int) 0 := ⟨k367, k368, k369, k36, k370, rfl, by decide, by decide, by decide +kernel⟩
theorem vL_80 : LkV RL 80 RX4 yX4_put cX4_put 4 (some .int) 1 := ⟨k371, k372, k373, k36, k374, rfl, by decide, by decide, by decide +kernel⟩
theorem vX4_187 : LkS RX4 187 yX2_lengthOf cX2_lengthOf 7 (some .int) 1 := ⟨k375, k376, k39, k377, by decide, by decide, by decide +kernel⟩
theorem vX4_191 : LkV RX4 191 RX2 yX2_append cX2_append 5 none 2 := ⟨k379, k380, k381, k39, k382, rfl, by decide, by decide, by decide +kernel⟩
theorem vL_85 : LkV RL 85 RX4 yX4_wipe cX4_wipe 2 (some .int) 0 := ⟨k383, k384, k385, k36, k386, rfl, by decide, by decide, by decide +kernel⟩
theorem vL_89 : LkV RL 89 RX4 yX4_fault cX4_fault 1 (some .int) 0 := ⟨k387, k388, k389, k36, k390, rfl, by decide, by decide, by decide +kernel⟩
theorem vL_93 : LkV RL 93 RX4 yX4_undo cX4_undo 1 (some .int) 0 := ⟨k391, k392, k393, k36, k394, rfl, by decide, by decide, by decide +kernel⟩
theorem vX4_195 : LkV RX4 195 RX0 yX0_takeBack cX0_takeBack 2 none 1 := ⟨k395, k396, k397, k40, k398, rfl, by decide, by decide, by decide +kernel⟩
theorem vL_97 : LkV RL 97 RX4 yX4_save cX4_save 2 (some .int) 1 := ⟨k399, k400, k401, k36, k402, rfl, by decide, by decide, by decide +kernel⟩
theorem vL_101 : LkV RL 101 RX4 yX4_restore cX4_restore 2 (some .int) 1 := ⟨k403, k404, k405, k36, k406, rfl, by decide, by decide, by decide +kernel⟩
theorem vL_12 : LkI RL 12 yX5_init cX5_init 2 0 := ⟨k409, k410, k41, k411, rfl, by decide, by decide, by decide +kernel⟩
theorem vL_17 : LkV RL 17 RX5 yX5_set cX5_set 4 (some .int) 2 := ⟨k431, k432, k433, k41, k434, rfl, by decide, by decide, by decide +kernel⟩
theorem vX5_130 : LkS RX5 130 yX5_isSetting cX5_isSetting 2 (some .boolean) 2 := ⟨k435, k436, k41, k437, by decide, by decide, by decide +kernel⟩
theorem vX5_58 : LkS RX5 58 yX5_in cX5_in 6 (some .boolean) 3 := ⟨k440, k441, k41, k442, by decide, by decide, by decide +kernel⟩
theorem vX5_134 : LkV RX5 134 RX5 yX5_changes cX5_changes 2 none 0 := ⟨k444, k445, k5, k41, k446, rfl, by decide, by decide, by decide +kernel⟩
theorem vL_22 : LkV RL 22 RX5 yX5_sort cX5_sort 6 (some .int) 4 := ⟨k447, k448, k449, k41, k450, rfl, by decide, by decide, by decide +kernel⟩
theorem vX5_137 : LkS RX5 137 yX5_isSort cX5_isSort 1 (some .boolean) 1 := ⟨k451, k452, k41, k453, by decide, by decide, by decide +kernel⟩
theorem vL_32 : LkV RL 32 RX5 yX5_drop cX5_drop 3 (some .int) 1 := ⟨k456, k457, k458, k41, k459, rfl, by decide, by decide, by decide +kernel⟩
theorem vX5_142 : LkV RX5 142 RX5 yX5_isWord cX5_isWord 2 (some .boolean) 1 := ⟨k460, k461, k6, k41, k462, rfl, by decide, by decide, by decide +kernel⟩
theorem vX5_80 : LkV RX5 80 RX5 yX5_widthOf cX5_widthOf 4 (some .int) 1 := ⟨k463, k464, k7, k41, k465, rfl, by decide, by decide, by decide +kernel⟩
theorem vX5_66 : LkV RX5 66 RX5 yX5_signs cX5_signs 2 (some .int) 1 := ⟨k466, k467, k8, k41, k468, rfl, by decide, by decide, by decide +kernel⟩
theorem vX5_70 : LkV RX5 70 RX5 yX5_signAt cX5_signAt 3 (some .int) 2 := ⟨k469, k470, k9, k41, k471, rfl, by decide, by decide, by decide +kernel⟩
theorem vX5_74 : LkS RX5 74 yX5_sortBy cX5_sortBy 1 (some .int) 1 := ⟨k472, k473, k41, k474, by decide, by decide, by decide +kernel⟩
theorem vX5_145 : LkV RX5 145 RX5 yX5_takesOut cX5_takesOut 3 none 1 := ⟨k477, k478, k10, k41, k479, rfl, by decide, by decide, by decide +kernel⟩
theorem vL_36 : LkV RL 36 RX5 yX5_swap cX5_swap 5 (some .int) 2 := ⟨k480, k481, k482, k41, k483, rfl, by decide, by decide, by decide +kernel⟩
theorem vX5_108 : LkV RX5 108 RX5 yX5_fills cX5_fills 3 none 0 := ⟨k484, k485, k11, k41, k486, rfl, by decide, by decide, by decide +kernel⟩
theorem vX5_95 : LkV RX5 95 RX5 yX5_measures cX5_measures 2 none 0 := ⟨k487, k488, k12, k41, k489, rfl, by decide, by decide, by decide +kernel⟩
theorem vX5_83 : LkV RX5 83 RX5 yX5_hangsLeft cX5_hangsLeft 2 (some .int) 1 := ⟨k490, k491, k13, k41, k492, rfl, by decide, by decide, by decide +kernel⟩
theorem vX5_77 : LkV RX5 77 RX5 yX5_hang cX5_hang 3 (some .int) 2 := ⟨k493, k494, k14, k41, k495, rfl, by decide, by decide, by decide +kernel⟩
theorem vX5_86 : LkV RX5 86 RX5 yX5_hangsRight cX5_hangsRight 2 (some .int) 1 := ⟨k496, k497, k15, k41, k498, rfl, by decide, by decide, by decide +kernel⟩
theorem vX5_92 : LkV RX5 92 RX5 yX5_bodyOf cX5_bodyOf 3 (some .int) 2 := ⟨k499, k500, k16, k41, k501, rfl, by decide, by decide, by decide +kernel⟩
theorem vX5_89 : LkV RX5 89 RX5 yX5_widthOfLine cX5_widthOfLine 3 (some .int) 2 := ⟨k502, k503, k17, k41, k504, rfl, by decide, by decide, by decide +kernel⟩
theorem vL_40 : LkV RL 40 RX5 yX5_clear cX5_clear 3 (some .int) 0 := ⟨k505, k506, k507, k41, k508, rfl, by decide, by decide, by decide +kernel⟩
theorem vL_44 : LkV RL 44 RX5 yX5_sortOf cX5_sortOf 3 (some .int) 2 := ⟨k509, k510, k511, k41, k512, rfl, by decide, by decide, by decide +kernel⟩
theorem vX5_148 : LkV RX5 148 RX5 yX5_often cX5_often 6 (some .int) 1 := ⟨k513, k514, k18, k41, k515, rfl, by decide, by decide, by decide +kernel⟩
theorem vL_48 : LkV RL 48 RX5 yX5_word cX5_word 3 (some .int) 2 := ⟨k516, k517, k518, k41, k519, rfl, by decide, by decide, by decide +kernel⟩
theorem vX5_154 : LkV RX5 154 RX5 yX5_lineOf cX5_lineOf 4 (some .int) 2 := ⟨k520, k521, k19, k41, k522, rfl, by decide, by decide, by decide +kernel⟩
theorem vX5_151 : LkV RX5 151 RX5 yX5_breaks cX5_breaks 2 none 1 := ⟨k523, k524, k20, k41, k525, rfl, by decide, by decide, by decide +kernel⟩
theorem vX5_111 : LkV RX5 111 RX5 yX5_breaksBest cX5_breaksBest 2 none 0 := ⟨k526, k527, k21, k41, k528, rfl, by decide, by decide, by decide +kernel⟩
theorem vX5_104 : LkV RX5 104 RX5 yX5_worksOutFrom cX5_worksOutFrom 4 none 1 := ⟨k529, k530, k22, k41, k531, rfl, by decide, by decide, by decide +kernel⟩
theorem vX5_101 : LkV RX5 101 RX5 yX5_badnessOf cX5_badnessOf 4 (some .int) 2 := ⟨k532, k533, k23, k41, k534, rfl, by decide, by decide, by decide +kernel⟩
theorem vL_53 : LkV RL 53 RX5 yX5_line cX5_line 6 (some .int) 3 := ⟨k535, k536, k537, k41, k538, rfl, by decide, by decide, by decide +kernel⟩
theorem vX5_157 : LkS RX5 157 yX5_isWay cX5_isWay 1 (some .boolean) 1 := ⟨k539, k540, k41, k541, by decide, by decide, by decide +kernel⟩
theorem vX5_114 : LkV RX5 114 RX5 yX5_lastOf cX5_lastOf 2 (some .int) 1 := ⟨k543, k544, k24, k41, k545, rfl, by decide, by decide, by decide +kernel⟩
theorem vX5_120 : LkV RX5 120 RX5 yX5_fits cX5_fits 2 (some .boolean) 1 := ⟨k546, k547, k25, k41, k548, rfl, by decide, by decide, by decide +kernel⟩
theorem vX5_117 : LkV RX5 117 RX5 yX5_bodyOfLine cX5_bodyOfLine 2 (some .int) 1 := ⟨k549, k550, k26, k41, k551, rfl, by decide, by decide, by decide +kernel⟩
theorem vX5_162 : LkV RX5 162 RX5 yX5_looksIndented cX5_looksIndented 2 (some .boolean) 1 := ⟨k552, k553, k27, k41, k554, rfl, by decide, by decide, by decide +kernel⟩
theorem vL_57 : LkV RL 57 RX5 yX5_lines cX5_lines 3 (some .int) 2 := ⟨k555, k556, k557, k41, k558, rfl, by decide, by decide, by decide +kernel⟩
theorem vX5_167 : LkV RX5 167 RX5 yX5_ofLines cX5_ofLines 6 (some .int) 1 := ⟨k560, k561, k28, k41, k562, rfl, by decide, by decide, by decide +kernel⟩
theorem vL_61 : LkV RL 61 RX5 yX5_count cX5_count 2 (some .int) 1 := ⟨k563, k564, k565, k41, k566, rfl, by decide, by decide, by decide +kernel⟩
theorem vX5_170 : LkV RX5 170 RX5 yX5_allSigns cX5_allSigns 3 (some .int) 0 := ⟨k567, k568, k29, k41, k569, rfl, by decide, by decide, by decide +kernel⟩
theorem vX5_174 : LkV RX5 174 RX5 yX5_areAlike cX5_areAlike 4 (some .int) 0 := ⟨k570, k571, k30, k41, k572, rfl, by decide, by decide, by decide +kernel⟩
theorem vL_65 : LkV RL 65 RX5 yX5_body cX5_body 3 (some .int) 2 := ⟨k573, k574, k575, k41, k576, rfl, by decide, by decide, by decide +kernel⟩
theorem vL_69 : LkV RL 69 RX5 yX5_leastMeasure cX5_leastMeasure 5 (some .int) 1 := ⟨k577, k578, k579, k41, k580, rfl, by decide, by decide, by decide +kernel⟩
theorem vL_73 : LkV RL 73 RX5 yX5_bestShare cX5_bestShare 7 (some .int) 1 := ⟨k582, k583, k584, k41, k585, rfl, by decide, by decide, by decide +kernel⟩
theorem vX5_182 : LkV RX5 182 RX5 yX5_bestBadness cX5_bestBadness 1 (some .int) 0 := ⟨k586, k587, k31, k41, k588, rfl, by decide, by decide, by decide +kernel⟩
theorem vL_77 : LkV RL 77 RX5 yX5_worstWord cX5_worstWord 6 (some .int) 0 := ⟨k589, k590, k591, k41, k592, rfl, by decide, by decide, by decide +kernel⟩
theorem vX5_185 : LkV RX5 185 RX5 yX5_keeps cX5_keeps 2 none 0 := ⟨k593, k594, k32, k41, k595, rfl, by decide, by decide, by decide +kernel⟩
theorem vX5_188 : LkV RX5 188 RX5 yX5_comesBack cX5_comesBack 2 none 0 := ⟨k596, k597, k33, k41, k598, rfl, by decide, by decide, by decide +kernel⟩
theorem vL_84 : LkV RL 84 RX5 yX5_put cX5_put 5 (some .int) 1 := ⟨k599, k600, k601, k41, k602, rfl, by decide, by decide, by decide +kernel⟩
theorem vX5_197 : LkS RX5 197 yX5_charactersOf cX5_charactersOf 5 (some .int) 1 := ⟨k603, k604, k41, k605, by decide, by decide, by decide +kernel⟩
theorem vL_88 : LkV RL 88 RX5 yX5_wipe cX5_wipe 2 (some .int) 0 := ⟨k609, k610, k611, k41, k612, rfl, by decide, by decide, by decide +kernel⟩
theorem vL_92 : LkV RL 92 RX5 yX5_fault cX5_fault 4 (some .int) 0 := ⟨k613, k614, k615, k41, k616, rfl, by decide, by decide, by decide +kernel⟩
theorem vX5_204 : LkV RX5 204 RX5 yX5_wordEnd cX5_wordEnd 3 (some .int) 1 := ⟨k617, k618, k34, k41, k619, rfl, by decide, by decide, by decide +kernel⟩
theorem vL_27 : LkV RL 27 RX5 yX5_read cX5_read 4 (some .int) 0 := ⟨k620, k621, k622, k41, k623, rfl, by decide, by decide, by decide +kernel⟩
theorem vX5_207 : LkV RX5 207 RX5 yX5_fault cX5_fault 4 (some .int) 0 := ⟨k624, k614, k615, k41, k616, rfl, by decide, by decide, by decide +kernel⟩
theorem vL_96 : LkV RL 96 RX5 yX5_undo cX5_undo 2 (some .int) 0 := ⟨k625, k626, k627, k41, k628, rfl, by decide, by decide, by decide +kernel⟩
theorem vL_100 : LkV RL 100 RX5 yX5_save cX5_save 3 (some .int) 1 := ⟨k629, k630, k631, k41, k632, rfl, by decide, by decide, by decide +kernel⟩
theorem vX5_210 : LkS RX5 210 yX5_isSlot cX5_isSlot 1 (some .boolean) 1 := ⟨k633, k634, k41, k635, by decide, by decide, by decide +kernel⟩
theorem vL_104 : LkV RL 104 RX5 yX5_restore cX5_restore 3 (some .int) 1 := ⟨k636, k637, k638, k41, k639, rfl, by decide, by decide, by decide +kernel⟩
section ROWS0
variable {p : Program} {l : Launch} {e : Env} {R : Room} {s : State} {m : MethodId} {args : Array Value} {below : List Frame} {meth : Method} {c : Code} {κ : Kt} {n k sl : Nat} {Q : State → Prop} {st : St} {lv : List (Option Value)} {stk : List Value} {cc : ByteArray} {nL : Nat} {own : String} {ret : Option FieldType} {idx mL na F Lo : Nat} {y : MethodName} {bc : ByteArray} {rt : Option FieldType} {P : Option Value → St → Prop} {As stk0 : List Value}
theorem ws_callV0 (pc : Nat) (C : Cx p s m args meth c κ cc nL own ret) {b ci N : Nat} {Cn : String} {T : u_T} {es : List va_E} {fs : List Value} (d : decode cc pc = .ok (.invokevirtual idx, 3)) (K : LkV own idx Cn y bc mL rt na) (hM : CT l κ y bc mL rt (r0 F Lo) n (.ref (ad κ b) :: As) st P) (hc : kcl[ci]? = some (Cn, T, N)) (B : Ob n st b es) (h0 : es[0]? = some (.inr (ci, fs))) (hnL : lv.length = nL) (hR : F + 1 ≤ R.frames ∧ 8 + (mL + 11) + Lo ≤ R.locals) (hC : k ≤ R.cells ∧ sl ≤ R.slots) (hn : As.length = na) (hcat : Nat.ble (stk.map fun v => v.category).sum 8 = true) (hstk : stk0 = As.reverse ++ .ref (ad κ b) :: stk) (kk : ∀ (v : Option Value) (u : St), P v u → WS p l e R s m args below meth c κ n k sl Q u (pc + 3) lv (v.toList ++ stk)) : WS p l e R s m args below meth c κ n k sl Q st pc lv stk0 := ws_callV pc C hM d K hc B h0 hnL hR hC hn (Nat.le_of_ble_eq_true hcat) hstk kk
theorem ws_callS0 (pc : Nat) (C : Cx p s m args meth c κ cc nL own ret) (d : decode cc pc = .ok (.invokestatic idx, 3)) (K : LkS own idx y bc mL rt na) (hM : CT l κ y bc mL rt (r0 F Lo) n As st P) (hnL : lv.length = nL) (hR : F + 1 ≤ R.frames ∧ 8 + (mL + 11) + Lo ≤ R.locals) (hC : k ≤ R.cells ∧ sl ≤ R.slots) (hn : As.length = na) (hcat : Nat.ble (stk.map fun v => v.category).sum 8 = true) (hstk : stk0 = As.reverse ++ stk) (kk : ∀ (v : Option Value) (u : St), P v u → WS p l e R s m args below meth c κ n k sl Q u (pc + 3) lv (v.toList ++ stk)) : WS p l e R s m args below meth c κ n k sl Q st pc lv stk0 := ws_callS pc C hM d K hnL hR hC hn (Nat.le_of_ble_eq_true hcat) hstk kk
theorem ws_callSN0 (pc : Nat) (C : Cx p s m args meth c κ cc nL own ret) (d : decode cc pc = .ok (.invokestatic idx, 3)) (K : LkSN own idx y bc mL rt na) (hM : CT l κ y bc mL rt (r0 F Lo) n As st P) (hnL : lv.length = nL) (hR : F + 1 ≤ R.frames ∧ 8 + (mL + 11) + Lo ≤ R.locals) (hC : k ≤ R.cells ∧ sl ≤ R.slots) (hn : As.length = na) (hcat : Nat.ble (stk.map fun v => v.category).sum 8 = true) (hstk : stk0 = As.reverse ++ stk) (kk : ∀ (v : Option Value) (u : St), P v u → WS p l e R s m args below meth c κ n k sl Q u (pc + 3) lv (v.toList ++ stk)) : WS p l e R s m args below meth c κ n k sl Q st pc lv stk0 := ws_callSN pc C hM d K hnL hR hC hn (Nat.le_of_ble_eq_true hcat) hstk kk
end ROWS0
