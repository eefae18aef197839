theorem fX3_9 : LkF RX3 9 3 0 RX3 TX3 7 := ⟨rfl, iX3, by decide, k27⟩
theorem fX1_49 : LkF RX1 49 3 0 RX3 TX3 7 := ⟨rfl, iX3, by decide, k28⟩
theorem fX4_62 : LkF RX4 62 3 0 RX3 TX3 7 := ⟨rfl, iX3, by decide, k29⟩
theorem fX3_15 : LkF RX3 15 3 1 RX3 TX3 7 := ⟨rfl, iX3, by decide, k30⟩
theorem fX4_72 : LkF RX4 72 3 1 RX3 TX3 7 := ⟨rfl, iX3, by decide, k31⟩
theorem fX3_18 : LkF RX3 18 3 2 RX3 TX3 7 := ⟨rfl, iX3, by decide, k32⟩
theorem fX4_75 : LkF RX4 75 3 2 RX3 TX3 7 := ⟨rfl, iX3, by decide, k33⟩
theorem fX3_21 : LkF RX3 21 3 3 RX3 TX3 7 := ⟨rfl, iX3, by decide, k34⟩
theorem fX4_78 : LkF RX4 78 3 3 RX3 TX3 7 := ⟨rfl, iX3, by decide, k35⟩
theorem fX3_24 : LkF RX3 24 3 4 RX3 TX3 7 := ⟨rfl, iX3, by decide, k36⟩
theorem fX3_28 : LkF RX3 28 3 5 RX3 TX3 7 := ⟨rfl, iX3, by decide, k37⟩
theorem fX4_129 : LkF RX4 129 3 5 RX3 TX3 7 := ⟨rfl, iX3, by decide, k38⟩
theorem fX3_31 : LkF RX3 31 3 6 RX3 TX3 7 := ⟨rfl, iX3, by decide, k39⟩
theorem fX1_46 : LkF RX1 46 3 6 RX3 TX3 7 := ⟨rfl, iX3, by decide, k40⟩
theorem fX4_85 : LkF RX4 85 3 6 RX3 TX3 7 := ⟨rfl, iX3, by decide, k41⟩
theorem fX1_9 : LkF RX1 9 1 0 RX1 TX1 11 := ⟨rfl, iX1, by decide, k50⟩
theorem fX1_15 : LkF RX1 15 1 1 RX1 TX1 11 := ⟨rfl, iX1, by decide, k51⟩
theorem fX1_18 : LkF RX1 18 1 2 RX1 TX1 11 := ⟨rfl, iX1, by decide, k52⟩
theorem fX1_21 : LkF RX1 21 1 3 RX1 TX1 11 := ⟨rfl, iX1, by decide, k53⟩
theorem fX1_25 : LkF RX1 25 1 4 RX1 TX1 11 := ⟨rfl, iX1, by decide, k54⟩
theorem fX4_174 : LkF RX4 174 1 4 RX1 TX1 11 := ⟨rfl, iX1, by decide, k55⟩
theorem fX1_28 : LkF RX1 28 1 5 RX1 TX1 11 := ⟨rfl, iX1, by decide, k56⟩
theorem fX1_31 : LkF RX1 31 1 6 RX1 TX1 11 := ⟨rfl, iX1, by decide, k57⟩
theorem fX1_34 : LkF RX1 34 1 7 RX1 TX1 11 := ⟨rfl, iX1, by decide, k58⟩
theorem fX1_37 : LkF RX1 37 1 8 RX1 TX1 11 := ⟨rfl, iX1, by decide, k59⟩
theorem fX4_117 : LkF RX4 117 1 8 RX1 TX1 11 := ⟨rfl, iX1, by decide, k60⟩
theorem fX1_40 : LkF RX1 40 1 9 RX1 TX1 11 := ⟨rfl, iX1, by decide, k61⟩
theorem fX1_43 : LkF RX1 43 1 10 RX1 TX1 11 := ⟨rfl, iX1, by decide, k62⟩
theorem fX2_9 : LkF RX2 9 2 0 RX2 TX2 2 := ⟨rfl, iX2, by decide, k69⟩
theorem fX2_15 : LkF RX2 15 2 1 RX2 TX2 2 := ⟨rfl, iX2, by decide, k70⟩
theorem fX4_95 : LkF RX4 95 2 1 RX2 TX2 2 := ⟨rfl, iX2, by decide, k71⟩
theorem fX0_11 : LkF RX0 11 0 0 RX0 TX0 3 := ⟨rfl, iX0, by decide, k81⟩
theorem fX0_17 : LkF RX0 17 0 1 RX0 TX0 3 := ⟨rfl, iX0, by decide, k82⟩
theorem fX0_21 : LkF RX0 21 0 2 RX0 TX0 3 := ⟨rfl, iX0, by decide, k83⟩
theorem fX4_165 : LkF RX4 165 0 2 RX0 TX0 3 := ⟨rfl, iX0, by decide, k84⟩
theorem fX4_10 : LkF RX4 10 4 0 RX4 TX4 8 := ⟨rfl, iX4, by decide, k85⟩
theorem fX4_16 : LkF RX4 16 4 1 RX4 TX4 8 := ⟨rfl, iX4, by decide, k86⟩
theorem fX4_22 : LkF RX4 22 4 2 RX4 TX4 8 := ⟨rfl, iX4, by decide, k87⟩
theorem fX4_26 : LkF RX4 26 4 3 RX4 TX4 8 := ⟨rfl, iX4, by decide, k88⟩
theorem fX4_32 : LkF RX4 32 4 4 RX4 TX4 8 := ⟨rfl, iX4, by decide, k89⟩
theorem fX4_39 : LkF RX4 39 4 5 RX4 TX4 8 := ⟨rfl, iX4, by decide, k90⟩
theorem fX4_43 : LkF RX4 43 4 6 RX4 TX4 8 := ⟨rfl, iX4, by decide, k91⟩
theorem fX4_47 : LkF RX4 47 4 7 RX4 TX4 8 := ⟨rfl, iX4, by decide, k92⟩
theorem q0_0 : (∀ k, k < 3 → parseFieldDescriptor (TX0 k).2.2.1 = some (tyX0 k)) ∧ (∀ a, a < 3 → ∀ b, b < 3 → a ≠ b → (TX0 a).2.1 ≠ (TX0 b).2.1) ∧ (TX0 0).2.2.2 = true ∧ parseFieldDescriptor (TX0 0).2.2.1 = some (.array (.object "HungStops$Sheet")) := ⟨tyX0_ok, nmX0, rfl, tyX0_ok 0 (by decide)⟩
theorem q0_1 : (∀ k, k < 3 → parseFieldDescriptor (TX0 k).2.2.1 = some (tyX0 k)) ∧ (∀ a, a < 3 → ∀ b, b < 3 → a ≠ b → (TX0 a).2.1 ≠ (TX0 b).2.1) ∧ (TX0 1).2.2.2 = false ∧ parseFieldDescriptor (TX0 1).2.2.1 = some (.int) := ⟨tyX0_ok, nmX0, rfl, tyX0_ok 1 (by decide)⟩
theorem q0_2 : (∀ k, k < 3 → parseFieldDescriptor (TX0 k).2.2.1 = some (tyX0 k)) ∧ (∀ a, a < 3 → ∀ b, b < 3 → a ≠ b → (TX0 a).2.1 ≠ (TX0 b).2.1) ∧ (TX0 2).2.2.2 = false ∧ parseFieldDescriptor (TX0 2).2.2.1 = some (.int) := ⟨tyX0_ok, nmX0, rfl, tyX0_ok 2 (by decide)⟩
theorem q1_0 : (∀ k, k < 11 → parseFieldDescriptor (TX1 k).2.2.1 = some (tyX1 k)) ∧ (∀ a, a < 11 → ∀ b, b < 11 → a ≠ b → (TX1 a).2.1 ≠ (TX1 b).2.1) ∧ (TX1 0).2.2.2 = true ∧ parseFieldDescriptor (TX1 0).2.2.1 = some (.array .int) := ⟨tyX1_ok, nmX1, rfl, tyX1_ok 0 (by decide)⟩
theorem q1_1 : (∀ k, k < 11 → parseFieldDescriptor (TX1 k).2.2.1 = some (tyX1 k)) ∧ (∀ a, a < 11 → ∀ b, b < 11 → a ≠ b → (TX1 a).2.1 ≠ (TX1 b).2.1) ∧ (TX1 1).2.2.2 = true ∧ parseFieldDescriptor (TX1 1).2.2.1 = some (.array .int) := ⟨tyX1_ok, nmX1, rfl, tyX1_ok 1 (by decide)⟩
theorem q1_2 : (∀ k, k < 11 → parseFieldDescriptor (TX1 k).2.2.1 = some (tyX1 k)) ∧ (∀ a, a < 11 → ∀ b, b < 11 → a ≠ b → (TX1 a).2.1 ≠ (TX1 b).2.1) ∧ (TX1 2).2.2.2 = true ∧ parseFieldDescriptor (TX1 2).2.2.1 = some (.array .int) := ⟨tyX1_ok, nmX1, rfl, tyX1_ok 2 (by decide)⟩
theorem q1_3 : (∀ k, k < 11 → parseFieldDescriptor (TX1 k).2.2.1 = some (tyX1 k)) ∧ (∀ a, a < 11 → ∀ b, b < 11 → a ≠ b → (TX1 a).2.1 ≠ (TX1 b).2.1) ∧ (TX1 3).2.2.2 = false ∧ parseFieldDescriptor (TX1 3).2.2.1 = some (.int) := ⟨tyX1_ok, nmX1, rfl, tyX1_ok 3 (by decide)⟩
theorem q1_4 : (∀ k, k < 11 → parseFieldDescriptor (TX1 k).2.2.1 = some (tyX1 k)) ∧ (∀ a, a < 11 → ∀ b, b < 11 → a ≠ b → (TX1 a).2.1 ≠ (TX1 b).2.1) ∧ (TX1 4).2.2.2 = false ∧ parseFieldDescriptor (TX1 4).2.2.1 = some (.int) := ⟨tyX1_ok, nmX1, rfl, tyX1_ok 4 (by decide)⟩
theorem q1_5 : (∀ k, k < 11 → parseFieldDescriptor (TX1 k).2.2.1 = some (tyX1 k)) ∧ (∀ a, a < 11 → ∀ b, b < 11 → a ≠ b → (TX1 a).2.1 ≠ (TX1 b).2.1) ∧ (TX1 5).2.2.2 = false ∧ parseFieldDescriptor (TX1 5).2.2.1 = some (.int) := ⟨tyX1_ok, nmX1, rfl, tyX1_ok 5 (by decide)⟩
theorem q1_6 : (∀ k, k < 11 → parseFieldDescriptor (TX1 k).2.2.1 = some (tyX1 k)) ∧ (∀ a, a < 11 → ∀ b, b < 11 → a ≠ b → (TX1 a).2.1 ≠ (TX1 b).2.1) ∧ (TX1 6).2.2.2 = false ∧ parseFieldDescriptor (TX1 6).2.2.1 = some (.int) := ⟨tyX1_ok, nmX1, rfl, tyX1_ok 6 (by decide)⟩
theorem q1_7 : (∀ k, k < 11 → parseFieldDescriptor (TX1 k).2.2.1 = some (tyX1 k)) ∧ (∀ a, a < 11 → ∀ b, b < 11 → a ≠ b → (TX1 a).2.1 ≠ (TX1 b).2.1) ∧ (TX1 7).2.2.2 = true ∧ parseFieldDescriptor (TX1 7).2.2.1 = some (.array .int) := ⟨tyX1_ok, nmX1, rfl, tyX1_ok 7 (by decide)⟩
theorem q1_8 : (∀ k, k < 11 → parseFieldDescriptor (TX1 k).2.2.1 = some (tyX1 k)) ∧ (∀ a, a < 11 → ∀ b, b < 11 → a ≠ b → (TX1 a).2.1 ≠ (TX1 b).2.1) ∧ (TX1 8).2.2.2 = false ∧ parseFieldDescriptor (TX1 8).2.2.1 = some (.int) := ⟨tyX1_ok, nmX1, rfl, tyX1_ok 8 (by decide)⟩
theorem q1_9 : (∀ k, k < 11 → parseFieldDescriptor (TX1 k).2.2.1 = some (tyX1 k)) ∧ (∀ a, a < 11 → ∀ b, b < 11 → a ≠ b → (TX1 a).2.1 ≠ (TX1 b).2.1) ∧ (TX1 9).2.2.2 = true ∧ parseFieldDescriptor (TX1 9).2.2.1 = some (.array .int) := ⟨tyX1_ok, nmX1, rfl, tyX1_ok 9 (by decide)⟩
theorem q1_10 : (∀ k, k < 11 → parseFieldDescriptor (TX1 k).2.2.1 = some (tyX1 k)) ∧ (∀ a, a < 11 → ∀ b, b < 11 → a ≠ b → (TX1 a).2.1 ≠ (TX1 b).2.1) ∧ (TX1 10).2.2.2 = true ∧ parseFieldDescriptor (TX1 10).2.2.1 = some (.array .int) := ⟨tyX1_ok, nmX1, rfl, tyX1_ok 10 (by decide)⟩
theorem q2_0 : (∀ k, k < 2 → parseFieldDescriptor (TX2 k).2.2.1 = some (tyX2 k)) ∧ (∀ a, a < 2 → ∀ b, b < 2 → a ≠ b → (TX2 a).2.1 ≠ (TX2 b).2.1) ∧ (TX2 0).2.2.2 = true ∧ parseFieldDescriptor (TX2 0).2.2.1 = some (.array .char) := ⟨tyX2_ok, nmX2, rfl, tyX2_ok 0 (by decide)⟩
theorem q2_1 : (∀ k, k < 2 → parseFieldDescriptor (TX2 k).2.2.1 = some (tyX2 k)) ∧ (∀ a, a < 2 → ∀ b, b < 2 → a ≠ b → (TX2 a).2.1 ≠ (TX2 b).2.1) ∧ (TX2 1).2.2.2 = false ∧ parseFieldDescriptor (TX2 1).2.2.1 = some (.int) := ⟨tyX2_ok, nmX2, rfl, tyX2_ok 1 (by decide)⟩
theorem q3_0 : (∀ k, k < 7 → parseFieldDescriptor (TX3 k).2.2.1 = some (tyX3 k)) ∧ (∀ a, a < 7 → ∀ b, b < 7 → a ≠ b → (TX3 a).2.1 ≠ (TX3 b).2.1) ∧ (TX3 0).2.2.2 = true ∧ parseFieldDescriptor (TX3 0).2.2.1 = some (.array .int) := ⟨tyX3_ok, nmX3, rfl, tyX3_ok 0 (by decide)⟩
theorem q3_1 : (∀ k, k < 7 → parseFieldDescriptor (TX3 k).2.2.1 = some (tyX3 k)) ∧ (∀ a, a < 7 → ∀ b, b < 7 → a ≠ b → (TX3 a).2.1 ≠ (TX3 b).2.1) ∧ (TX3 1).2.2.2 = true ∧ parseFieldDescriptor (TX3 1).2.2.1 = some (.array .int) := ⟨tyX3_ok, nmX3, rfl, tyX3_ok 1 (by decide)⟩
theorem q3_2 : (∀ k, k < 7 → parseFieldDescriptor (TX3 k).2.2.1 = some (tyX3 k)) ∧ (∀ a, a < 7 → ∀ b, b < 7 → a ≠ b → (TX3 a).2.1 ≠ (TX3 b).2.1) ∧ (TX3 2).2.2.2 = true ∧ parseFieldDescriptor (TX3 2).2.2.1 = some (.array .int) := ⟨tyX3_ok, nmX3, rfl, tyX3_ok 2 (by decide)⟩
theorem q3_3 : (∀ k, k < 7 → parseFieldDescriptor (TX3 k).2.2.1 = some (tyX3 k)) ∧ (∀ a, a < 7 → ∀ b, b < 7 → a ≠ b → (TX3 a).2.1 ≠ (TX3 b).2.1) ∧ (TX3 3).2.2.2 = true ∧ parseFieldDescriptor (TX3 3).2.2.1 = some (.array .int) := ⟨tyX3_ok, nmX3, rfl, tyX3_ok 3 (by decide)⟩
theorem q3_4 : (∀ k, k < 7 → parseFieldDescriptor (TX3 k).2.2.1 = some (tyX3 k)) ∧ (∀ a, a < 7 → ∀ b, b < 7 → a ≠ b → (TX3 a).2.1 ≠ (TX3 b).2.1) ∧ (TX3 4).2.2.2 = true ∧ parseFieldDescriptor (TX3 4).2.2.1 = some (.array .char) := ⟨tyX3_ok, nmX3, rfl, tyX3_ok 4 (by decide)⟩
theorem q3_5 : (∀ k, k < 7 → parseFieldDescriptor (TX3 k).2.2.1 = some (tyX3 k)) ∧ (∀ a, a < 7 → ∀ b, b < 7 → a ≠ b → (TX3 a).2.1 ≠ (TX3 b).2.1) ∧ (TX3 5).2.2.2 = true ∧ parseFieldDescriptor (TX3 5).2.2.1 = some (.array .int) := ⟨tyX3_ok, nmX3, rfl, tyX3_ok 5 (by decide)⟩
theorem q3_6 : (∀ k, k < 7 → parseFieldDescriptor (TX3 k).2.2.1 = some (tyX3 k)) ∧ (∀ a, a < 7 → ∀ b, b < 7 → a ≠ b → (TX3 a).2.1 ≠ (TX3 b).2.1) ∧ (TX3 6).2.2.2 = false ∧ parseFieldDescriptor (TX3 6).2.2.1 = some (.int) := ⟨tyX3_ok, nmX3, rfl, tyX3_ok 6 (by decide)⟩
theorem q4_0 : (∀ k, k < 8 → parseFieldDescriptor (TX4 k).2.2.1 = some (tyX4 k)) ∧ (∀ a, a < 8 → ∀ b, b < 8 → a ≠ b → (TX4 a).2.1 ≠ (TX4 b).2.1) ∧ (TX4 0).2.2.2 = true ∧ parseFieldDescriptor (TX4 0).2.2.1 = some (.object "HungStops$Sheet") := ⟨tyX4_ok, nmX4, rfl, tyX4_ok 0 (by decide)⟩
theorem q4_1 : (∀ k, k < 8 → parseFieldDescriptor (TX4 k).2.2.1 = some (tyX4 k)) ∧ (∀ a, a < 8 → ∀ b, b < 8 → a ≠ b → (TX4 a).2.1 ≠ (TX4 b).2.1) ∧ (TX4 1).2.2.2 = true ∧ parseFieldDescriptor (TX4 1).2.2.1 = some (.object "HungStops$Sheet") := ⟨tyX4_ok, nmX4, rfl, tyX4_ok 1 (by decide)⟩
theorem q4_2 : (∀ k, k < 8 → parseFieldDescriptor (TX4 k).2.2.1 = some (tyX4 k)) ∧ (∀ a, a < 8 → ∀ b, b < 8 → a ≠ b → (TX4 a).2.1 ≠ (TX4 b).2.1) ∧ (TX4 2).2.2.2 = true ∧ parseFieldDescriptor (TX4 2).2.2.1 = some (.object "HungStops$Layout") := ⟨tyX4_ok, nmX4, rfl, tyX4_ok 2 (by decide)⟩
theorem q4_3 : (∀ k, k < 8 → parseFieldDescriptor (TX4 k).2.2.1 = some (tyX4 k)) ∧ (∀ a, a < 8 → ∀ b, b < 8 → a ≠ b → (TX4 a).2.1 ≠ (TX4 b).2.1) ∧ (TX4 3).2.2.2 = true ∧ parseFieldDescriptor (TX4 3).2.2.1 = some (.object "HungStops$Layout") := ⟨tyX4_ok, nmX4, rfl, tyX4_ok 3 (by decide)⟩
theorem q4_4 : (∀ k, k < 8 → parseFieldDescriptor (TX4 k).2.2.1 = some (tyX4 k)) ∧ (∀ a, a < 8 → ∀ b, b < 8 → a ≠ b → (TX4 a).2.1 ≠ (TX4 b).2.1) ∧ (TX4 4).2.2.2 = true ∧ parseFieldDescriptor (TX4 4).2.2.1 = some (.object "HungStops$Pad") := ⟨tyX4_ok, nmX4, rfl, tyX4_ok 4 (by decide)⟩
theorem q4_5 : (∀ k, k < 8 → parseFieldDescriptor (TX4 k).2.2.1 = some (tyX4 k)) ∧ (∀ a, a < 8 → ∀ b, b < 8 → a ≠ b → (TX4 a).2.1 ≠ (TX4 b).2.1) ∧ (TX4 5).2.2.2 = true ∧ parseFieldDescriptor (TX4 5).2.2.1 = some (.object "HungStops$History") := ⟨tyX4_ok, nmX4, rfl, tyX4_ok 5 (by decide)⟩
theorem q4_6 : (∀ k, k < 8 → parseFieldDescriptor (TX4 k).2.2.1 = some (tyX4 k)) ∧ (∀ a, a < 8 → ∀ b, b < 8 → a ≠ b → (TX4 a).2.1 ≠ (TX4 b).2.1) ∧ (TX4 6).2.2.2 = true ∧ parseFieldDescriptor (TX4 6).2.2.1 = some (.array (.object "HungStops$Sheet")) := ⟨tyX4_ok, nmX4, rfl, tyX4_ok 6 (by decide)⟩
theorem q4_7 : (∀ k, k < 8 → parseFieldDescriptor (TX4 k).2.2.1 = some (tyX4 k)) ∧ (∀ a, a < 8 → ∀ b, b < 8 → a ≠ b → (TX4 a).2.1 ≠ (TX4 b).2.1) ∧ (TX4 7).2.2.2 = true ∧ parseFieldDescriptor (TX4 7).2.2.1 = some (.array .boolean) := ⟨tyX4_ok, nmX4, rfl, tyX4_ok 7 (by decide)⟩
theorem vL_97 : LkI RL 97 yX4_init cX4_init 1 0 := ⟨k15, k16, k6, k17, rfl, by decide, by decide, by decide +kernel⟩
theorem vX4_9 : LkIN RX4 9 yX3_init cX3_init 1 0 := ⟨fun κ s h => h.2.1.1, k24, k7, k25, rfl, by decide, by decide, by decide +kernel⟩
theorem vX4_21 : LkIN RX4 21 yX1_init cX1_init 1 0 := ⟨fun κ s h => h.2.1.2.1, k47, k8, k48, rfl, by decide, by decide, by decide +kernel⟩
theorem vX4_31 : LkIN RX4 31 yX2_init cX2_init 1 0 := ⟨fun κ s h => h.2.1.2.2.1, k66, k9, k67, rfl, by decide, by decide, by decide +kernel⟩
theorem vX4_38 : LkI RX4 38 yX0_init cX0_init 2 0 := ⟨k74, k75, k10, k76, rfl, by decide, by decide, by decide +kernel⟩
theorem vX0_24 : LkIN RX0 24 yX3_init cX3_init 1 0 := ⟨fun κ s h => h.2.1.2.2.2.1, k24, k7, k25, rfl, by decide, by decide, by decide +kernel⟩
theorem vL_43 : LkV RL 43 RX4 yX4_set cX4_set 4 (some .int) 2 := ⟨k94, k95, k96, k6, k97, rfl, by decide, by decide, by decide +kernel⟩
theorem vX4_58 : LkV RX4 58 RX0 yX0_record cX0_record 2 none 1 := ⟨k102, k103, k104, k10, k105, rfl, by decide, by decide, by decide +kernel⟩
theorem vX0_25 : LkV RX0 25 RX3 yX3_copyFrom cX3_copyFrom 2 none 1 := ⟨k106, k107, k108, k7, k109, rfl, by decide, by decide, by decide +kernel⟩
theorem vL_49 : LkV RL 49 RX4 yX4_sort cX4_sort 6 (some .int) 4 := ⟨k113, k114, k115, k6, k116, rfl, by decide, by decide, by decide +kernel⟩
theorem vX4_65 : LkS RX4 65 yX4_isSort cX4_isSort 1 (some .boolean) 1 := ⟨k117, k118, k6, k119, by decide, by decide, by decide +kernel⟩
theorem vX4_69 : LkS RX4 69 yX4_isShare cX4_isShare 1 (some .boolean) 1 := ⟨k120, k121, k6, k122, by decide, by decide, by decide +kernel⟩
theorem vL_46 : LkV RL 46 RX4 yX4_sortOf cX4_sortOf 3 (some .int) 2 := ⟨k123, k124, k125, k6, k126, rfl, by decide, by decide, by decide +kernel⟩
theorem vX4_120 : LkV RX4 120 RX3 yX3_hangAtLeft cX3_hangAtLeft 2 (some .int) 1 := ⟨k127, k128, k129, k7, k130, rfl, by decide, by decide, by decide +kernel⟩
theorem vX4_123 : LkV RX4 123 RX3 yX3_hangAtRight cX3_hangAtRight 2 (some .int) 1 := ⟨k131, k132, k133, k7, k134, rfl, by decide, by decide, by decide +kernel⟩
theorem vX4_126 : LkV RX4 126 RX3 yX3_countOf cX3_countOf 5 (some .int) 1 := ⟨k135, k136, k137, k7, k138, rfl, by decide, by decide, by decide +kernel⟩
theorem vX3_55 : LkV RX3 55 RX3 yX3_sortAt cX3_sortAt 3 (some .int) 2 := ⟨k139, k140, k141, k7, k142, rfl, by decide, by decide, by decide +kernel⟩
theorem vX3_41 : LkV RX3 41 RX3 yX3_signAt cX3_signAt 3 (some .char) 2 := ⟨k143, k144, k145, k7, k146, rfl, by decide, by decide, by decide +kernel⟩
theorem vX3_45 : LkSN RX3 45 yX4_sortWith cX4_sortWith 1 (some .int) 1 := ⟨fun κ s h => h.2.1.2.2.2.2.2, k148, k6, k149, by decide, by decide, by decide +kernel⟩
theorem vL_98 : LkS RL 98 yL_cell cL_cell 2 (some .int) 2 := ⟨k153, k154, k5, k155, by decide, by decide, by decide +kernel⟩
theorem vL_9 : LkS RL 9 yL_there cL_there 1 (some .int) 1 := ⟨k157, k158, k5, k159, by decide, by decide, by decide +kernel⟩
theorem vL_102 : LkS RL 102 yL_isStep cL_isStep 11 (some .boolean) 4 := ⟨k160, k161, k5, k162, by decide, by decide, by decide +kernel⟩
theorem vL_28 : LkV RL 28 RX4 yX4_count cX4_count 2 (some .int) 1 := ⟨k163, k164, k165, k6, k166, rfl, by decide, by decide, by decide +kernel⟩
theorem vX4_158 : LkV RX4 158 RX3 yX3_countSigns cX3_countSigns 3 (some .int) 0 := ⟨k167, k168, k169, k7, k170, rfl, by decide, by decide, by decide +kernel⟩
theorem vX4_113 : LkV RX4 113 RX4 yX4_broken cX4_broken 3 (some (.object "HungStops$Layout")) 1 := ⟨k171, k172, k0, k6, k173, rfl, by decide, by decide, by decide +kernel⟩
theorem vX4_168 : LkV RX4 168 RX1 yX1_weigh cX1_weigh 3 none 1 := ⟨k174, k175, k176, k8, k177, rfl, by decide, by decide, by decide +kernel⟩
theorem vX1_52 : LkV RX1 52 RX3 yX3_widthOf cX3_widthOf 4 (some .int) 1 := ⟨k178, k179, k180, k7, k181, rfl, by decide, by decide, by decide +kernel⟩
theorem vX1_56 : LkV RX1 56 RX3 yX3_leftHangOf cX3_leftHangOf 2 (some .int) 1 := ⟨k182, k183, k184, k7, k185, rfl, by decide, by decide, by decide +kernel⟩
theorem vX3_58 : LkV RX3 58 RX3 yX3_hangAtLeft cX3_hangAtLeft 2 (some .int) 1 := ⟨k186, k128, k129, k7, k130, rfl, by decide, by decide, by decide +kernel⟩
theorem vX1_59 : LkV RX1 59 RX3 yX3_rightHangOf cX3_rightHangOf 2 (some .int) 1 := ⟨k187, k188, k189, k7, k190, rfl, by decide, by decide, by decide +kernel⟩
theorem vX3_61 : LkV RX3 61 RX3 yX3_hangAtRight cX3_hangAtRight 2 (some .int) 1 := ⟨k191, k132, k133, k7, k134, rfl, by decide, by decide, by decide +kernel⟩
theorem vX4_177 : LkV RX4 177 RX1 yX1_fillGreedily cX1_fillGreedily 2 none 0 := ⟨k192, k193, k194, k8, k195, rfl, by decide, by decide, by decide +kernel⟩
theorem vX1_66 : LkV RX1 66 RX1 yX1_bodyOf cX1_bodyOf 3 (some .int) 2 := ⟨k196, k197, k198, k8, k199, rfl, by decide, by decide, by decide +kernel⟩
theorem vX1_62 : LkV RX1 62 RX1 yX1_widthFrom cX1_widthFrom 3 (some .int) 2 := ⟨k200, k201, k202, k8, k203, rfl, by decide, by decide, by decide +kernel⟩
theorem vX4_198 : LkV RX4 198 RX1 yX1_breakBest cX1_breakBest 3 none 0 := ⟨k204, k205, k206, k8, k207, rfl, by decide, by decide, by decide +kernel⟩
theorem vX1_69 : LkV RX1 69 RX1 yX1_leastBadness cX1_leastBadness 2 (some .int) 0 := ⟨k208, k209, k210, k8, k211, rfl, by decide, by decide, by decide +kernel⟩
theorem vX1_73 : LkV RX1 73 RX1 yX1_findFirstLine cX1_findFirstLine 4 none 1 := ⟨k212, k213, k1, k8, k214, rfl, by decide, by decide, by decide +kernel⟩
theorem vX1_77 : LkV RX1 77 RX1 yX1_badnessOf cX1_badnessOf 4 (some .int) 2 := ⟨k215, k216, k2, k8, k217, rfl, by decide, by decide, by decide +kernel⟩
theorem vX4_161 : LkV RX4 161 RX1 yX1_breaksLike cX1_breaksLike 3 (some .boolean) 1 := ⟨k218, k219, k220, k8, k221, rfl, by decide, by decide, by decide +kernel⟩
theorem vL_24 : LkS RL 24 yL_up cL_up 2 (some .int) 2 := ⟨k222, k223, k5, k224, by decide, by decide, by decide +kernel⟩
theorem vL_53 : LkV RL 53 RX4 yX4_word cX4_word 3 (some .int) 2 := ⟨k226, k227, k228, k6, k229, rfl, by decide, by decide, by decide +kernel⟩
theorem vX4_98 : LkV RX4 98 RX4 yX4_isWord cX4_isWord 2 (some .boolean) 1 := ⟨k230, k231, k3, k6, k232, rfl, by decide, by decide, by decide +kernel⟩
theorem vX4_101 : LkV RX4 101 RX3 yX3_widthOf cX3_widthOf 4 (some .int) 1 := ⟨k233, k179, k180, k7, k181, rfl, by decide, by decide, by decide +kernel⟩
theorem vX4_132 : LkV RX4 132 RX1 yX1_lineWith cX1_lineWith 4 (some .int) 1 := ⟨k234, k235, k236, k8, k237, rfl, by decide, by decide, by decide +kernel⟩
theorem vX4_135 : LkV RX4 135 RX3 yX3_signAt cX3_signAt 3 (some .char) 2 := ⟨k238, k144, k145, k7, k146, rfl, by decide, by decide, by decide +kernel⟩
theorem vL_56 : LkV RL 56 RX4 yX4_drop cX4_drop 3 (some .int) 1 := ⟨k239, k240, k241, k6, k242, rfl, by decide, by decide, by decide +kernel⟩
theorem vX4_105 : LkV RX4 105 RX3 yX3_takeOut cX3_takeOut 3 none 1 := ⟨k243, k244, k245, k7, k246, rfl, by decide, by decide, by decide +kernel⟩
theorem vL_59 : LkV RL 59 RX4 yX4_swap cX4_swap 3 (some .int) 2 := ⟨k247, k248, k249, k6, k250, rfl, by decide, by decide, by decide +kernel⟩
theorem vX4_109 : LkV RX4 109 RX3 yX3_exchange cX3_exchange 5 none 2 := ⟨k251, k252, k253, k7, k254, rfl, by decide, by decide, by decide +kernel⟩
theorem vL_62 : LkV RL 62 RX4 yX4_lines cX4_lines 3 (some .int) 2 := ⟨k255, k256, k257, k6, k258, rfl, by decide, by decide, by decide +kernel⟩
theorem vX4_139 : LkS RX4 139 yX4_isWay cX4_isWay 1 (some .boolean) 1 := ⟨k259, k260, k6, k261, by decide, by decide, by decide +kernel⟩
theorem vX4_146 : LkV RX4 146 RX1 yX1_badness cX1_badness 3 (some .int) 0 := ⟨k262, k263, k264, k8, k265, rfl, by decide, by decide, by decide +kernel⟩
theorem vX1_80 : LkV RX1 80 RX1 yX1_lastWord cX1_lastWord 2 (some .int) 1 := ⟨k266, k267, k268, k8, k269, rfl, by decide, by decide, by decide +kernel⟩
theorem vX4_149 : LkV RX4 149 RX1 yX1_countIndented cX1_countIndented 3 (some .int) 0 := ⟨k270, k271, k272, k8, k273, rfl, by decide, by decide, by decide +kernel⟩
theorem vX1_90 : LkV RX1 90 RX1 yX1_looksIndented cX1_looksIndented 2 (some .boolean) 1 := ⟨k274, k275, k276, k8, k277, rfl, by decide, by decide, by decide +kernel⟩
theorem vX1_86 : LkV RX1 86 RX1 yX1_fits cX1_fits 2 (some .boolean) 1 := ⟨k278, k279, k280, k8, k281, rfl, by decide, by decide, by decide +kernel⟩
theorem vX1_83 : LkV RX1 83 RX1 yX1_bodyOfLine cX1_bodyOfLine 2 (some .int) 1 := ⟨k282, k283, k284, k8, k285, rfl, by decide, by decide, by decide +kernel⟩
theorem vX4_152 : LkV RX4 152 RX1 yX1_countUnfit cX1_countUnfit 3 (some .int) 0 := ⟨k286, k287, k288, k8, k289, rfl, by decide, by decide, by decide +kernel⟩
theorem vX4_155 : LkV RX4 155 RX1 yX1_greatestBody cX1_greatestBody 3 (some .int) 0 := ⟨k290, k291, k292, k8, k293, rfl, by decide, by decide, by decide +kernel⟩
theorem vL_65 : LkV RL 65 RX4 yX4_clear cX4_clear 2 (some .int) 0 := ⟨k295, k296, k297, k6, k298, rfl, by decide, by decide, by decide +kernel⟩
theorem vL_68 : LkV RL 68 RX4 yX4_save cX4_save 2 (some .int) 1 := ⟨k299, k300, k301, k6, k302, rfl, by decide, by decide, by decide +kernel⟩
theorem vX4_180 : LkV RX4 180 RX3 yX3_copyFrom cX3_copyFrom 2 none 1 := ⟨k303, k107, k108, k7, k109, rfl, by decide, by decide, by decide +kernel⟩
theorem vL_71 : LkV RL 71 RX4 yX4_restore cX4_restore 2 (some .int) 1 := ⟨k304, k305, k306, k6, k307, rfl, by decide, by decide, by decide +kernel⟩
theorem vL_74 : LkS RL 74 yL_isRead cL_isRead 12 (some .boolean) 4 := ⟨k308, k309, k5, k310, by decide, by decide, by decide +kernel⟩
theorem vL_18 : LkV RL 18 RX4 yX4_wipe cX4_wipe 2 (some .int) 0 := ⟨k311, k312, k313, k6, k314, rfl, by decide, by decide, by decide +kernel⟩
theorem vL_33 : LkV RL 33 RX4 yX4_put cX4_put 4 (some .int) 1 := ⟨k316, k317, k318, k6, k319, rfl, by decide, by decide, by decide +kernel⟩
theorem vX4_187 : LkS RX4 187 yX2_lengthOf cX2_lengthOf 7 (some .int) 1 := ⟨k320, k321, k9, k322, by decide, by decide, by decide +kernel⟩
theorem vX4_191 : LkV RX4 191 RX2 yX2_append cX2_append 5 none 2 := ⟨k324, k325, k326, k9, k327, rfl, by decide, by decide, by decide +kernel⟩
theorem vL_15 : LkS RL 15 yL_code cL_code 1 (some .int) 1 := ⟨k328, k329, k5, k330, by decide, by decide, by decide +kernel⟩
theorem vL_37 : LkS RL 37 yL_other cL_other 1 (some .int) 1 := ⟨k331, k332, k5, k333, by decide, by decide, by decide +kernel⟩
theorem vL_40 : LkV RL 40 RX4 yX4_read cX4_read 1 (some .int) 0 := ⟨k334, k335, k336, k6, k337, rfl, by decide, by decide, by decide +kernel⟩
theorem vX4_81 : LkV RX4 81 RX2 yX2_firstFault cX2_firstFault 3 (some .int) 0 := ⟨k338, k339, k340, k9, k341, rfl, by decide, by decide, by decide +kernel⟩
theorem vX2_21 : LkSN RX2 21 yX4_sortWith cX4_sortWith 1 (some .int) 1 := ⟨fun κ s h => h.2.1.2.2.2.2.1, k148, k6, k149, by decide, by decide, by decide +kernel⟩
theorem vX4_89 : LkV RX4 89 RX2 yX2_countWords cX2_countWords 3 (some .int) 0 := ⟨k343, k344, k345, k9, k346, rfl, by decide, by decide, by decide +kernel⟩
theorem vX4_92 : LkV RX4 92 RX2 yX2_addWordsTo cX2_addWordsTo 3 none 1 := ⟨k347, k348, k349, k9, k350, rfl, by decide, by decide, by decide +kernel⟩
theorem vX2_25 : LkV RX2 25 RX3 yX3_beginWord cX3_beginWord 1 none 0 := ⟨k351, k352, k353, k7, k354, rfl, by decide, by decide, by decide +kernel⟩
theorem vX2_30 : LkV RX2 30 RX3 yX3_addSign cX3_addSign 3 none 1 := ⟨k355, k356, k357, k7, k358, rfl, by decide, by decide, by decide +kernel⟩
theorem vL_109 : LkS RL 109 yL_areAlike cL_areAlike 7 (some .boolean) 3 := ⟨k359, k360, k5, k361, by decide, by decide, by decide +kernel⟩
theorem vL_78 : LkV RL 78 RX4 yX4_worstWord cX4_worstWord 5 (some .int) 0 := ⟨k362, k363, k364, k6, k365, rfl, by decide, by decide, by decide +kernel⟩
theorem vX4_183 : LkV RX4 183 RX4 yX4_leastBadnessOf cX4_leastBadnessOf 2 (some .int) 1 := ⟨k366, k367, k4, k6, k368, rfl, by decide, by decide, by decide +kernel⟩
theorem vX4_201 : LkV RX4 201 RX1 yX1_leastBadness cX1_leastBadness 2 (some .int) 0 := ⟨k369, k209, k210, k8, k211, rfl, by decide, by decide, by decide +kernel⟩
theorem vL_81 : LkV RL 81 RX4 yX4_leastMeasure cX4_leastMeasure 3 (some .int) 1 := ⟨k370, k371, k372, k6, k373, rfl, by decide, by decide, by decide +kernel⟩
theorem vL_84 : LkV RL 84 RX4 yX4_bestShare cX4_bestShare 8 (some .int) 1 := ⟨k374, k375, k376, k6, k377, rfl, by decide, by decide, by decide +kernel⟩
theorem vL_87 : LkV RL 87 RX4 yX4_line cX4_line 5 (some .int) 3 := ⟨k378, k379, k380, k6, k381, rfl, by decide, by decide, by decide +kernel⟩
theorem vX4_142 : LkV RX4 142 RX1 yX1_tellLine cX1_tellLine 3 (some .int) 2 := ⟨k382, k383, k384, k8, k385, rfl, by decide, by decide, by decide +kernel⟩
theorem vL_91 : LkS RL 91 yL_signOf cL_signOf 3 (some .int) 1 := ⟨k386, k387, k5, k388, by decide, by decide, by decide +kernel⟩
theorem vL_105 : LkS RL 105 yL_isWell cL_isWell 9 (some .boolean) 1 := ⟨k389, k390, k5, k391, by decide, by decide, by decide +kernel⟩
theorem vL_94 : LkV RL 94 RX4 yX4_body cX4_body 3 (some .int) 2 := ⟨k392, k393, k394, k6, k395, rfl, by decide, by decide, by decide +kernel⟩
theorem vX4_171 : LkV RX4 171 RX1 yX1_bodyOf cX1_bodyOf 3 (some .int) 2 := ⟨k396, k197, k198, k8, k199, rfl, by decide, by decide, by decide +kernel⟩
section ROWS0
variable {p : Program} {l : Launch} {e : Env} {R : Room} {s : State} {m : MethodId} {args : Array Value} {below : List Frame} {meth : Method} {c : Code} {κ : Kt} {n k sl : Nat} {Q : State → Prop} {st : St} {lv : List (Option Value)} {stk : List Value} {cc : ByteArray} {nL : Nat} {own : String} {ret : Option FieldType} {idx mL na F Lo : Nat} {y : MethodName} {bc : ByteArray} {rt : Option FieldType} {P : Option Value → St → Prop} {As stk0 : List Value}
theorem ws_callV0 (pc : Nat) (C : Cx p s m args meth c κ cc nL own ret) {b ci N : Nat} {Cn : String} {T : u_T} {es : List va_E} {fs : List Value} (d : decode cc pc = .ok (.invokevirtual idx, 3)) (K : LkV own idx Cn y bc mL rt na) (hM : CT l κ y bc mL rt (r0 F Lo) n (.ref (ad κ b) :: As) st P) (hc : kcl[ci]? = some (Cn, T, N)) (B : Ob n st b es) (h0 : es[0]? = some (.inr (ci, fs))) (hnL : lv.length = nL) (hR : F + 1 ≤ R.frames ∧ 8 + (mL + 11) + Lo ≤ R.locals) (hC : k ≤ R.cells ∧ sl ≤ R.slots) (hn : As.length = na) (hcat : Nat.ble (stk.map fun v => v.category).sum 8 = true) (hstk : stk0 = As.reverse ++ .ref (ad κ b) :: stk) (kk : ∀ (v : Option Value) (u : St), P v u → WS p l e R s m args below meth c κ n k sl Q u (pc + 3) lv (v.toList ++ stk)) : WS p l e R s m args below meth c κ n k sl Q st pc lv stk0 := ws_callV pc C hM d K hc B h0 hnL hR hC hn (Nat.le_of_ble_eq_true hcat) hstk kk
theorem ws_callS0 (pc : Nat) (C : Cx p s m args meth c κ cc nL own ret) (d : decode cc pc = .ok (.invokestatic idx, 3)) (K : LkS own idx y bc mL rt na) (hM : CT l κ y bc mL rt (r0 F Lo) n As st P) (hnL : lv.length = nL) (hR : F + 1 ≤ R.frames ∧ 8 + (mL + 11) + Lo ≤ R.locals) (hC : k ≤ R.cells ∧ sl ≤ R.slots) (hn : As.length = na) (hcat : Nat.ble (stk.map fun v => v.category).sum 8 = true) (hstk : stk0 = As.reverse ++ stk) (kk : ∀ (v : Option Value) (u : St), P v u → WS p l e R s m args below meth c κ n k sl Q u (pc + 3) lv (v.toList ++ stk)) : WS p l e R s m args below meth c κ n k sl Q st pc lv stk0 := ws_callS pc C hM d K hnL hR hC hn (Nat.le_of_ble_eq_true hcat) hstk kk
theorem ws_callSN0 (pc : Nat) (C : Cx p s m args meth c κ cc nL own ret) (d : decode cc pc = .ok (.invokestatic idx, 3)) (K : LkSN own idx y bc mL rt na) (hM : CT l κ y bc mL rt (r0 F Lo) n As st P) (hnL : lv.length = nL) (hR : F + 1 ≤ R.frames ∧ 8 + (mL + 11) + Lo ≤ R.locals) (hC : k ≤ R.cells ∧ sl ≤ R.slots) (hn : As.length = na) (hcat : Nat.ble (stk.map fun v => v.category).sum 8 = true) (hstk : stk0 = As.reverse ++ stk) (kk : ∀ (v : Option Value) (u : St), P v u → WS p l e R s m args below meth c κ n k sl Q u (pc + 3) lv (v.toList ++ stk)) : WS p l e R s m args below meth c κ n k sl Q st pc lv stk0 := ws_callSN pc C hM d K hnL hR hC hn (Nat.le_of_ble_eq_true hcat) hstk kk
end ROWS0
