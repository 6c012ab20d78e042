/-! words of the tables by their places: fields, calls; printed by program -/
theorem cf_J4 : CF 0 RJ4 TJ4 4 tyJ4 := ⟨rfl, ws_all [994, 996, 998, 1000] (by decide +kernel) (by decide +kernel), tyJ4_ok, nmJ4⟩
theorem cf_Jx4a65c : CF 1 RJx4a65c TJx4a65c 3 tyJx4a65c := ⟨rfl, ws_all [109, 105, 107] (by decide +kernel) (by decide +kernel), tyJx4a65c_ok, nmJx4a65c⟩
theorem cf_X0 : CF 2 RX0 TX0 15 tyX0 := ⟨rfl, ws_all [499, 501, 503, 505, 507, 509, 511, 513, 515, 517, 519, 521, 523, 525, 527] (by decide +kernel) (by decide +kernel), tyX0_ok, nmX0⟩
theorem cf_X1 : CF 3 RX1 TX1 5 tyX1 := ⟨rfl, ws_all [792, 794, 796, 798, 800] (by decide +kernel) (by decide +kernel), tyX1_ok, nmX1⟩
theorem cf_X2 : CF 4 RX2 TX2 5 tyX2 := ⟨rfl, ws_all [555, 557, 559, 561, 563] (by decide +kernel) (by decide +kernel), tyX2_ok, nmX2⟩
theorem cf_X3 : CF 5 RX3 TX3 5 tyX3 := ⟨rfl, ws_all [723, 725, 727, 729, 731] (by decide +kernel) (by decide +kernel), tyX3_ok, nmX3⟩
theorem cf_X4 : CF 6 RX4 TX4 2 tyX4 := ⟨rfl, ws_all [464, 466] (by decide +kernel) (by decide +kernel), tyX4_ok, nmX4⟩
theorem cf_X5 : CF 7 RX5 TX5 7 tyX5 := ⟨rfl, ws_all [261, 263, 265, 267, 269, 271, 273] (by decide +kernel) (by decide +kernel), tyX5_ok, nmX5⟩
theorem cf_X6 : CF 8 RX6 TX6 2 tyX6 := ⟨rfl, ws_all [120, 122] (by decide +kernel) (by decide +kernel), tyX6_ok, nmX6⟩
theorem cf_X7 : CF 9 RX7 TX7 4 tyX7 := ⟨rfl, ws_all [397, 399, 401, 403] (by decide +kernel) (by decide +kernel), tyX7_ok, nmX7⟩
theorem cf_X8 : CF 10 RX8 TX8 8 tyX8 := ⟨rfl, ws_all [134, 136, 138, 140, 142, 144, 146, 148] (by decide +kernel) (by decide +kernel), tyX8_ok, nmX8⟩
theorem f_Jx4a65c_9 : FL RJx4a65c 9 1 1 RJx4a65c TJx4a65c 3 tyJx4a65c := FL.of "java/util/ArrayList" cf_Jx4a65c (Nat.le_of_ble_eq_true rfl) (fsame_rf rfl) (ws_of 100 (by decide +kernel))
theorem f_Jx4a65c_48 : FL RJx4a65c 48 1 2 RJx4a65c TJx4a65c 3 tyJx4a65c := FL.of "java/util/ArrayList" cf_Jx4a65c (Nat.le_of_ble_eq_true rfl) (fsame_rf rfl) (ws_of 101 (by decide +kernel))
theorem f_Jxc12de_7 : FL RJxc12de 7 1 0 RJx4a65c TJx4a65c 3 tyJx4a65c := FL.of "java/util/AbstractList" cf_Jx4a65c (Nat.le_of_ble_eq_true rfl) (fsame_rf rfl) (ws_of 102 (by decide +kernel))
theorem f_X6_9 : FL RX6 9 8 0 RX6 TX6 2 tyX6 := FL.of "DeedProtocol$Shares" cf_X6 (Nat.le_of_ble_eq_true rfl) (fsame_rf rfl) (ws_of 118 (by decide +kernel))
theorem f_X6_15 : FL RX6 15 8 1 RX6 TX6 2 tyX6 := FL.of "DeedProtocol$Shares" cf_X6 (Nat.le_of_ble_eq_true rfl) (fsame_rf rfl) (ws_of 119 (by decide +kernel))
theorem f_X8_12 : FL RX8 12 10 0 RX8 TX8 8 tyX8 := FL.of "DeedProtocol" cf_X8 (Nat.le_of_ble_eq_true rfl) (fsame_rf rfl) (ws_of 126 (by decide +kernel))
theorem f_X8_16 : FL RX8 16 10 1 RX8 TX8 8 tyX8 := FL.of "DeedProtocol" cf_X8 (Nat.le_of_ble_eq_true rfl) (fsame_rf rfl) (ws_of 127 (by decide +kernel))
theorem f_X8_19 : FL RX8 19 10 2 RX8 TX8 8 tyX8 := FL.of "DeedProtocol" cf_X8 (Nat.le_of_ble_eq_true rfl) (fsame_rf rfl) (ws_of 128 (by decide +kernel))
theorem f_X8_22 : FL RX8 22 10 3 RX8 TX8 8 tyX8 := FL.of "DeedProtocol" cf_X8 (Nat.le_of_ble_eq_true rfl) (fsame_rf rfl) (ws_of 129 (by decide +kernel))
theorem f_X8_28 : FL RX8 28 10 4 RX8 TX8 8 tyX8 := FL.of "DeedProtocol" cf_X8 (Nat.le_of_ble_eq_true rfl) (fsame_rf rfl) (ws_of 130 (by decide +kernel))
theorem f_X8_32 : FL RX8 32 10 5 RX8 TX8 8 tyX8 := FL.of "DeedProtocol" cf_X8 (Nat.le_of_ble_eq_true rfl) (fsame_rf rfl) (ws_of 131 (by decide +kernel))
theorem f_X8_36 : FL RX8 36 10 6 RX8 TX8 8 tyX8 := FL.of "DeedProtocol" cf_X8 (Nat.le_of_ble_eq_true rfl) (fsame_rf rfl) (ws_of 132 (by decide +kernel))
theorem f_X8_39 : FL RX8 39 10 7 RX8 TX8 8 tyX8 := FL.of "DeedProtocol" cf_X8 (Nat.le_of_ble_eq_true rfl) (fsame_rf rfl) (ws_of 133 (by decide +kernel))
theorem f_X5_23 : FL RX5 23 7 0 RX5 TX5 7 tyX5 := FL.of "DeedProtocol$Person" cf_X5 (Nat.le_of_ble_eq_true rfl) (fsame_rf rfl) (ws_of 249 (by decide +kernel))
theorem f_X8_68 : FL RX8 68 7 0 RX5 TX5 7 tyX5 := FL.ofN "DeedProtocol$Person" "DeedProtocol" cf_X5 (Nat.le_of_ble_eq_true rfl) (fsame_rf rfl) (ws_of 250 (by decide +kernel))
theorem f_X0_64 : FL RX0 64 7 0 RX5 TX5 7 tyX5 := FL.ofN "DeedProtocol$Person" "DeedProtocol" cf_X5 (Nat.le_of_ble_eq_true rfl) (fsame_rf rfl) (ws_of 251 (by decide +kernel))
theorem f_X5_26 : FL RX5 26 7 1 RX5 TX5 7 tyX5 := FL.of "DeedProtocol$Person" cf_X5 (Nat.le_of_ble_eq_true rfl) (fsame_rf rfl) (ws_of 252 (by decide +kernel))
theorem f_X5_29 : FL RX5 29 7 2 RX5 TX5 7 tyX5 := FL.of "DeedProtocol$Person" cf_X5 (Nat.le_of_ble_eq_true rfl) (fsame_rf rfl) (ws_of 253 (by decide +kernel))
theorem f_X5_32 : FL RX5 32 7 3 RX5 TX5 7 tyX5 := FL.of "DeedProtocol$Person" cf_X5 (Nat.le_of_ble_eq_true rfl) (fsame_rf rfl) (ws_of 254 (by decide +kernel))
theorem f_X8_427 : FL RX8 427 7 3 RX5 TX5 7 tyX5 := FL.ofN "DeedProtocol$Person" "DeedProtocol" cf_X5 (Nat.le_of_ble_eq_true rfl) (fsame_rf rfl) (ws_of 255 (by decide +kernel))
theorem f_X5_9 : FL RX5 9 7 4 RX5 TX5 7 tyX5 := FL.of "DeedProtocol$Person" cf_X5 (Nat.le_of_ble_eq_true rfl) (fsame_rf rfl) (ws_of 256 (by decide +kernel))
theorem f_X8_96 : FL RX8 96 7 4 RX5 TX5 7 tyX5 := FL.ofN "DeedProtocol$Person" "DeedProtocol" cf_X5 (Nat.le_of_ble_eq_true rfl) (fsame_rf rfl) (ws_of 257 (by decide +kernel))
theorem f_X5_15 : FL RX5 15 7 5 RX5 TX5 7 tyX5 := FL.of "DeedProtocol$Person" cf_X5 (Nat.le_of_ble_eq_true rfl) (fsame_rf rfl) (ws_of 258 (by decide +kernel))
theorem f_X8_102 : FL RX8 102 7 5 RX5 TX5 7 tyX5 := FL.ofN "DeedProtocol$Person" "DeedProtocol" cf_X5 (Nat.le_of_ble_eq_true rfl) (fsame_rf rfl) (ws_of 259 (by decide +kernel))
theorem f_X5_19 : FL RX5 19 7 6 RX5 TX5 7 tyX5 := FL.of "DeedProtocol$Person" cf_X5 (Nat.le_of_ble_eq_true rfl) (fsame_rf rfl) (ws_of 260 (by decide +kernel))
theorem f_X7_16 : FL RX7 16 9 0 RX7 TX7 4 tyX7 := FL.of "DeedProtocol$Thing" cf_X7 (Nat.le_of_ble_eq_true rfl) (fsame_rf rfl) (ws_of 390 (by decide +kernel))
theorem f_X8_116 : FL RX8 116 9 0 RX7 TX7 4 tyX7 := FL.ofN "DeedProtocol$Thing" "DeedProtocol" cf_X7 (Nat.le_of_ble_eq_true rfl) (fsame_rf rfl) (ws_of 391 (by decide +kernel))
theorem f_X7_20 : FL RX7 20 9 1 RX7 TX7 4 tyX7 := FL.of "DeedProtocol$Thing" cf_X7 (Nat.le_of_ble_eq_true rfl) (fsame_rf rfl) (ws_of 392 (by decide +kernel))
theorem f_X7_23 : FL RX7 23 9 2 RX7 TX7 4 tyX7 := FL.of "DeedProtocol$Thing" cf_X7 (Nat.le_of_ble_eq_true rfl) (fsame_rf rfl) (ws_of 393 (by decide +kernel))
theorem f_X8_458 : FL RX8 458 9 2 RX7 TX7 4 tyX7 := FL.ofN "DeedProtocol$Thing" "DeedProtocol" cf_X7 (Nat.le_of_ble_eq_true rfl) (fsame_rf rfl) (ws_of 394 (by decide +kernel))
theorem f_X7_10 : FL RX7 10 9 3 RX7 TX7 4 tyX7 := FL.of "DeedProtocol$Thing" cf_X7 (Nat.le_of_ble_eq_true rfl) (fsame_rf rfl) (ws_of 395 (by decide +kernel))
theorem f_X8_307 : FL RX8 307 9 3 RX7 TX7 4 tyX7 := FL.ofN "DeedProtocol$Thing" "DeedProtocol" cf_X7 (Nat.le_of_ble_eq_true rfl) (fsame_rf rfl) (ws_of 396 (by decide +kernel))
theorem f_X4_9 : FL RX4 9 6 0 RX4 TX4 2 tyX4 := FL.of "DeedProtocol$Papers" cf_X4 (Nat.le_of_ble_eq_true rfl) (fsame_rf rfl) (ws_of 461 (by decide +kernel))
theorem f_X4_15 : FL RX4 15 6 1 RX4 TX4 2 tyX4 := FL.of "DeedProtocol$Papers" cf_X4 (Nat.le_of_ble_eq_true rfl) (fsame_rf rfl) (ws_of 462 (by decide +kernel))
theorem f_X8_281 : FL RX8 281 6 1 RX4 TX4 2 tyX4 := FL.ofN "DeedProtocol$Papers" "DeedProtocol" cf_X4 (Nat.le_of_ble_eq_true rfl) (fsame_rf rfl) (ws_of 463 (by decide +kernel))
theorem f_X0_41 : FL RX0 41 2 0 RX0 TX0 15 tyX0 := FL.of "DeedProtocol$Deed" cf_X0 (Nat.le_of_ble_eq_true rfl) (fsame_rf rfl) (ws_of 470 (by decide +kernel))
theorem f_X8_332 : FL RX8 332 2 0 RX0 TX0 15 tyX0 := FL.ofN "DeedProtocol$Deed" "DeedProtocol" cf_X0 (Nat.le_of_ble_eq_true rfl) (fsame_rf rfl) (ws_of 471 (by decide +kernel))
theorem f_X0_44 : FL RX0 44 2 1 RX0 TX0 15 tyX0 := FL.of "DeedProtocol$Deed" cf_X0 (Nat.le_of_ble_eq_true rfl) (fsame_rf rfl) (ws_of 472 (by decide +kernel))
theorem f_X8_236 : FL RX8 236 2 1 RX0 TX0 15 tyX0 := FL.ofN "DeedProtocol$Deed" "DeedProtocol" cf_X0 (Nat.le_of_ble_eq_true rfl) (fsame_rf rfl) (ws_of 473 (by decide +kernel))
theorem f_X0_47 : FL RX0 47 2 2 RX0 TX0 15 tyX0 := FL.of "DeedProtocol$Deed" cf_X0 (Nat.le_of_ble_eq_true rfl) (fsame_rf rfl) (ws_of 474 (by decide +kernel))
theorem f_X8_206 : FL RX8 206 2 2 RX0 TX0 15 tyX0 := FL.ofN "DeedProtocol$Deed" "DeedProtocol" cf_X0 (Nat.le_of_ble_eq_true rfl) (fsame_rf rfl) (ws_of 475 (by decide +kernel))
theorem f_X0_51 : FL RX0 51 2 3 RX0 TX0 15 tyX0 := FL.of "DeedProtocol$Deed" cf_X0 (Nat.le_of_ble_eq_true rfl) (fsame_rf rfl) (ws_of 476 (by decide +kernel))
theorem f_X8_209 : FL RX8 209 2 3 RX0 TX0 15 tyX0 := FL.ofN "DeedProtocol$Deed" "DeedProtocol" cf_X0 (Nat.le_of_ble_eq_true rfl) (fsame_rf rfl) (ws_of 477 (by decide +kernel))
theorem f_X0_54 : FL RX0 54 2 4 RX0 TX0 15 tyX0 := FL.of "DeedProtocol$Deed" cf_X0 (Nat.le_of_ble_eq_true rfl) (fsame_rf rfl) (ws_of 478 (by decide +kernel))
theorem f_X8_294 : FL RX8 294 2 4 RX0 TX0 15 tyX0 := FL.ofN "DeedProtocol$Deed" "DeedProtocol" cf_X0 (Nat.le_of_ble_eq_true rfl) (fsame_rf rfl) (ws_of 479 (by decide +kernel))
theorem f_X0_58 : FL RX0 58 2 5 RX0 TX0 15 tyX0 := FL.of "DeedProtocol$Deed" cf_X0 (Nat.le_of_ble_eq_true rfl) (fsame_rf rfl) (ws_of 480 (by decide +kernel))
theorem f_X8_310 : FL RX8 310 2 5 RX0 TX0 15 tyX0 := FL.ofN "DeedProtocol$Deed" "DeedProtocol" cf_X0 (Nat.le_of_ble_eq_true rfl) (fsame_rf rfl) (ws_of 481 (by decide +kernel))
theorem f_X0_61 : FL RX0 61 2 6 RX0 TX0 15 tyX0 := FL.of "DeedProtocol$Deed" cf_X0 (Nat.le_of_ble_eq_true rfl) (fsame_rf rfl) (ws_of 482 (by decide +kernel))
theorem f_X8_313 : FL RX8 313 2 6 RX0 TX0 15 tyX0 := FL.ofN "DeedProtocol$Deed" "DeedProtocol" cf_X0 (Nat.le_of_ble_eq_true rfl) (fsame_rf rfl) (ws_of 483 (by decide +kernel))
theorem f_X0_12 : FL RX0 12 2 7 RX0 TX0 15 tyX0 := FL.of "DeedProtocol$Deed" cf_X0 (Nat.le_of_ble_eq_true rfl) (fsame_rf rfl) (ws_of 484 (by decide +kernel))
theorem f_X8_224 : FL RX8 224 2 7 RX0 TX0 15 tyX0 := FL.ofN "DeedProtocol$Deed" "DeedProtocol" cf_X0 (Nat.le_of_ble_eq_true rfl) (fsame_rf rfl) (ws_of 485 (by decide +kernel))
theorem f_X0_18 : FL RX0 18 2 8 RX0 TX0 15 tyX0 := FL.of "DeedProtocol$Deed" cf_X0 (Nat.le_of_ble_eq_true rfl) (fsame_rf rfl) (ws_of 486 (by decide +kernel))
theorem f_X8_153 : FL RX8 153 2 8 RX0 TX0 15 tyX0 := FL.ofN "DeedProtocol$Deed" "DeedProtocol" cf_X0 (Nat.le_of_ble_eq_true rfl) (fsame_rf rfl) (ws_of 487 (by decide +kernel))
theorem f_X0_22 : FL RX0 22 2 9 RX0 TX0 15 tyX0 := FL.of "DeedProtocol$Deed" cf_X0 (Nat.le_of_ble_eq_true rfl) (fsame_rf rfl) (ws_of 488 (by decide +kernel))
theorem f_X8_171 : FL RX8 171 2 9 RX0 TX0 15 tyX0 := FL.ofN "DeedProtocol$Deed" "DeedProtocol" cf_X0 (Nat.le_of_ble_eq_true rfl) (fsame_rf rfl) (ws_of 489 (by decide +kernel))
theorem f_X0_26 : FL RX0 26 2 10 RX0 TX0 15 tyX0 := FL.of "DeedProtocol$Deed" cf_X0 (Nat.le_of_ble_eq_true rfl) (fsame_rf rfl) (ws_of 490 (by decide +kernel))
theorem f_X0_29 : FL RX0 29 2 11 RX0 TX0 15 tyX0 := FL.of "DeedProtocol$Deed" cf_X0 (Nat.le_of_ble_eq_true rfl) (fsame_rf rfl) (ws_of 491 (by decide +kernel))
theorem f_X8_221 : FL RX8 221 2 11 RX0 TX0 15 tyX0 := FL.ofN "DeedProtocol$Deed" "DeedProtocol" cf_X0 (Nat.le_of_ble_eq_true rfl) (fsame_rf rfl) (ws_of 492 (by decide +kernel))
theorem f_X0_32 : FL RX0 32 2 12 RX0 TX0 15 tyX0 := FL.of "DeedProtocol$Deed" cf_X0 (Nat.le_of_ble_eq_true rfl) (fsame_rf rfl) (ws_of 493 (by decide +kernel))
theorem f_X8_212 : FL RX8 212 2 12 RX0 TX0 15 tyX0 := FL.ofN "DeedProtocol$Deed" "DeedProtocol" cf_X0 (Nat.le_of_ble_eq_true rfl) (fsame_rf rfl) (ws_of 494 (by decide +kernel))
theorem f_X0_35 : FL RX0 35 2 13 RX0 TX0 15 tyX0 := FL.of "DeedProtocol$Deed" cf_X0 (Nat.le_of_ble_eq_true rfl) (fsame_rf rfl) (ws_of 495 (by decide +kernel))
theorem f_X8_215 : FL RX8 215 2 13 RX0 TX0 15 tyX0 := FL.ofN "DeedProtocol$Deed" "DeedProtocol" cf_X0 (Nat.le_of_ble_eq_true rfl) (fsame_rf rfl) (ws_of 496 (by decide +kernel))
theorem f_X0_38 : FL RX0 38 2 14 RX0 TX0 15 tyX0 := FL.of "DeedProtocol$Deed" cf_X0 (Nat.le_of_ble_eq_true rfl) (fsame_rf rfl) (ws_of 497 (by decide +kernel))
theorem f_X8_239 : FL RX8 239 2 14 RX0 TX0 15 tyX0 := FL.ofN "DeedProtocol$Deed" "DeedProtocol" cf_X0 (Nat.le_of_ble_eq_true rfl) (fsame_rf rfl) (ws_of 498 (by decide +kernel))
theorem f_X2_20 : FL RX2 20 4 0 RX2 TX2 5 tyX2 := FL.of "DeedProtocol$Mandate" cf_X2 (Nat.le_of_ble_eq_true rfl) (fsame_rf rfl) (ws_of 545 (by decide +kernel))
theorem f_X8_437 : FL RX8 437 4 0 RX2 TX2 5 tyX2 := FL.ofN "DeedProtocol$Mandate" "DeedProtocol" cf_X2 (Nat.le_of_ble_eq_true rfl) (fsame_rf rfl) (ws_of 546 (by decide +kernel))
theorem f_X2_24 : FL RX2 24 4 1 RX2 TX2 5 tyX2 := FL.of "DeedProtocol$Mandate" cf_X2 (Nat.le_of_ble_eq_true rfl) (fsame_rf rfl) (ws_of 547 (by decide +kernel))
theorem f_X8_434 : FL RX8 434 4 1 RX2 TX2 5 tyX2 := FL.ofN "DeedProtocol$Mandate" "DeedProtocol" cf_X2 (Nat.le_of_ble_eq_true rfl) (fsame_rf rfl) (ws_of 548 (by decide +kernel))
theorem f_X2_7 : FL RX2 7 4 2 RX2 TX2 5 tyX2 := FL.of "DeedProtocol$Mandate" cf_X2 (Nat.le_of_ble_eq_true rfl) (fsame_rf rfl) (ws_of 549 (by decide +kernel))
theorem f_X8_271 : FL RX8 271 4 2 RX2 TX2 5 tyX2 := FL.ofN "DeedProtocol$Mandate" "DeedProtocol" cf_X2 (Nat.le_of_ble_eq_true rfl) (fsame_rf rfl) (ws_of 550 (by decide +kernel))
theorem f_X2_13 : FL RX2 13 4 3 RX2 TX2 5 tyX2 := FL.of "DeedProtocol$Mandate" cf_X2 (Nat.le_of_ble_eq_true rfl) (fsame_rf rfl) (ws_of 551 (by decide +kernel))
theorem f_X8_274 : FL RX8 274 4 3 RX2 TX2 5 tyX2 := FL.ofN "DeedProtocol$Mandate" "DeedProtocol" cf_X2 (Nat.le_of_ble_eq_true rfl) (fsame_rf rfl) (ws_of 552 (by decide +kernel))
theorem f_X2_16 : FL RX2 16 4 4 RX2 TX2 5 tyX2 := FL.of "DeedProtocol$Mandate" cf_X2 (Nat.le_of_ble_eq_true rfl) (fsame_rf rfl) (ws_of 553 (by decide +kernel))
theorem f_X8_178 : FL RX8 178 4 4 RX2 TX2 5 tyX2 := FL.ofN "DeedProtocol$Mandate" "DeedProtocol" cf_X2 (Nat.le_of_ble_eq_true rfl) (fsame_rf rfl) (ws_of 554 (by decide +kernel))
theorem f_X3_7 : FL RX3 7 5 0 RX3 TX3 5 tyX3 := FL.of "DeedProtocol$Move" cf_X3 (Nat.le_of_ble_eq_true rfl) (fsame_rf rfl) (ws_of 713 (by decide +kernel))
theorem f_X6_30 : FL RX6 30 5 0 RX3 TX3 5 tyX3 := FL.ofN "DeedProtocol$Move" "DeedProtocol" cf_X3 (Nat.le_of_ble_eq_true rfl) (fsame_rf rfl) (ws_of 714 (by decide +kernel))
theorem f_X3_13 : FL RX3 13 5 1 RX3 TX3 5 tyX3 := FL.of "DeedProtocol$Move" cf_X3 (Nat.le_of_ble_eq_true rfl) (fsame_rf rfl) (ws_of 715 (by decide +kernel))
theorem f_X6_41 : FL RX6 41 5 1 RX3 TX3 5 tyX3 := FL.ofN "DeedProtocol$Move" "DeedProtocol" cf_X3 (Nat.le_of_ble_eq_true rfl) (fsame_rf rfl) (ws_of 716 (by decide +kernel))
theorem f_X3_16 : FL RX3 16 5 2 RX3 TX3 5 tyX3 := FL.of "DeedProtocol$Move" cf_X3 (Nat.le_of_ble_eq_true rfl) (fsame_rf rfl) (ws_of 717 (by decide +kernel))
theorem f_X6_33 : FL RX6 33 5 2 RX3 TX3 5 tyX3 := FL.ofN "DeedProtocol$Move" "DeedProtocol" cf_X3 (Nat.le_of_ble_eq_true rfl) (fsame_rf rfl) (ws_of 718 (by decide +kernel))
theorem f_X3_19 : FL RX3 19 5 3 RX3 TX3 5 tyX3 := FL.of "DeedProtocol$Move" cf_X3 (Nat.le_of_ble_eq_true rfl) (fsame_rf rfl) (ws_of 719 (by decide +kernel))
theorem f_X6_35 : FL RX6 35 5 3 RX3 TX3 5 tyX3 := FL.ofN "DeedProtocol$Move" "DeedProtocol" cf_X3 (Nat.le_of_ble_eq_true rfl) (fsame_rf rfl) (ws_of 720 (by decide +kernel))
theorem f_X3_22 : FL RX3 22 5 4 RX3 TX3 5 tyX3 := FL.of "DeedProtocol$Move" cf_X3 (Nat.le_of_ble_eq_true rfl) (fsame_rf rfl) (ws_of 721 (by decide +kernel))
theorem f_X6_24 : FL RX6 24 5 4 RX3 TX3 5 tyX3 := FL.ofN "DeedProtocol$Move" "DeedProtocol" cf_X3 (Nat.le_of_ble_eq_true rfl) (fsame_rf rfl) (ws_of 722 (by decide +kernel))
theorem f_X1_7 : FL RX1 7 3 0 RX1 TX1 5 tyX1 := FL.of "DeedProtocol$Entry" cf_X1 (Nat.le_of_ble_eq_true rfl) (fsame_rf rfl) (ws_of 782 (by decide +kernel))
theorem f_X8_364 : FL RX8 364 3 0 RX1 TX1 5 tyX1 := FL.ofN "DeedProtocol$Entry" "DeedProtocol" cf_X1 (Nat.le_of_ble_eq_true rfl) (fsame_rf rfl) (ws_of 783 (by decide +kernel))
theorem f_X1_13 : FL RX1 13 3 1 RX1 TX1 5 tyX1 := FL.of "DeedProtocol$Entry" cf_X1 (Nat.le_of_ble_eq_true rfl) (fsame_rf rfl) (ws_of 784 (by decide +kernel))
theorem f_X8_365 : FL RX8 365 3 1 RX1 TX1 5 tyX1 := FL.ofN "DeedProtocol$Entry" "DeedProtocol" cf_X1 (Nat.le_of_ble_eq_true rfl) (fsame_rf rfl) (ws_of 785 (by decide +kernel))
theorem f_X1_16 : FL RX1 16 3 2 RX1 TX1 5 tyX1 := FL.of "DeedProtocol$Entry" cf_X1 (Nat.le_of_ble_eq_true rfl) (fsame_rf rfl) (ws_of 786 (by decide +kernel))
theorem f_X8_368 : FL RX8 368 3 2 RX1 TX1 5 tyX1 := FL.ofN "DeedProtocol$Entry" "DeedProtocol" cf_X1 (Nat.le_of_ble_eq_true rfl) (fsame_rf rfl) (ws_of 787 (by decide +kernel))
theorem f_X1_20 : FL RX1 20 3 3 RX1 TX1 5 tyX1 := FL.of "DeedProtocol$Entry" cf_X1 (Nat.le_of_ble_eq_true rfl) (fsame_rf rfl) (ws_of 788 (by decide +kernel))
theorem f_X8_369 : FL RX8 369 3 3 RX1 TX1 5 tyX1 := FL.ofN "DeedProtocol$Entry" "DeedProtocol" cf_X1 (Nat.le_of_ble_eq_true rfl) (fsame_rf rfl) (ws_of 789 (by decide +kernel))
theorem f_X1_23 : FL RX1 23 3 4 RX1 TX1 5 tyX1 := FL.of "DeedProtocol$Entry" cf_X1 (Nat.le_of_ble_eq_true rfl) (fsame_rf rfl) (ws_of 790 (by decide +kernel))
theorem f_X8_390 : FL RX8 390 3 4 RX1 TX1 5 tyX1 := FL.ofN "DeedProtocol$Entry" "DeedProtocol" cf_X1 (Nat.le_of_ble_eq_true rfl) (fsame_rf rfl) (ws_of 791 (by decide +kernel))
theorem f_J5_15 : FL RJ5 15 0 0 RJ4 TJ4 4 tyJ4 := FL.of "java/lang/AbstractStringBuilder" cf_J4 (Nat.le_of_ble_eq_true rfl) (fsame_rf rfl) (ws_of 991 (by decide +kernel))
theorem f_J5_22 : FL RJ5 22 0 1 RJ4 TJ4 4 tyJ4 := FL.of "java/lang/AbstractStringBuilder" cf_J4 (Nat.le_of_ble_eq_true rfl) (fsame_rf rfl) (ws_of 992 (by decide +kernel))
theorem f_J5_79 : FL RJ5 79 0 3 RJ4 TJ4 4 tyJ4 := FL.of "java/lang/AbstractStringBuilder" cf_J4 (Nat.le_of_ble_eq_true rfl) (fsame_rf rfl) (ws_of 993 (by decide +kernel))
theorem h_ini_L : Cond.initialized RL ∈ WS := ws_of 46 (by decide +kernel)
theorem h_ini_X8 : Cond.initialized RX8 ∈ WS := ws_of 47 (by decide +kernel)
theorem h_ini_Jxa1e45 : Cond.initialized RJxa1e45 ∈ WS := ws_of 48 (by decide +kernel)
theorem h_ini_Jxc12de : Cond.initialized RJxc12de ∈ WS := ws_of 49 (by decide +kernel)
theorem h_ini_Jx4a65c : Cond.initialized RJx4a65c ∈ WS := ws_of 50 (by decide +kernel)
theorem h_ini_X6 : Cond.initialized RX6 ∈ WS := ws_of 51 (by decide +kernel)
theorem h_ini_X5 : Cond.initialized RX5 ∈ WS := ws_of 57 (by decide +kernel)
theorem h_ini_J8 : Cond.initialized RJ8 ∈ WS := ws_of 58 (by decide +kernel)
theorem h_ini_J9 : Cond.initialized RJ9 ∈ WS := ws_of 59 (by decide +kernel)
theorem h_ini_J7 : Cond.initialized RJ7 ∈ WS := ws_of 60 (by decide +kernel)
theorem h_ini_J10 : Cond.initialized RJ10 ∈ WS := ws_of 61 (by decide +kernel)
theorem h_ini_J15 : Cond.initialized RJ15 ∈ WS := ws_of 63 (by decide +kernel)
theorem h_ini_J3 : Cond.initialized RJ3 ∈ WS := ws_of 64 (by decide +kernel)
theorem h_ini_X7 : Cond.initialized RX7 ∈ WS := ws_of 65 (by decide +kernel)
theorem h_ini_X0 : Cond.initialized RX0 ∈ WS := ws_of 66 (by decide +kernel)
theorem h_ini_X4 : Cond.initialized RX4 ∈ WS := ws_of 67 (by decide +kernel)
theorem h_ini_X2 : Cond.initialized RX2 ∈ WS := ws_of 68 (by decide +kernel)
theorem h_ini_Jxd2413 : Cond.initialized RJxd2413 ∈ WS := ws_of 69 (by decide +kernel)
theorem h_ini_J6 : Cond.initialized RJ6 ∈ WS := ws_of 70 (by decide +kernel)
theorem h_ini_X3 : Cond.initialized RX3 ∈ WS := ws_of 71 (by decide +kernel)
theorem h_ini_X1 : Cond.initialized RX1 ∈ WS := ws_of 72 (by decide +kernel)
theorem h_ini_J5 : Cond.initialized RJ5 ∈ WS := ws_of 73 (by decide +kernel)
theorem h_ini_J4 : Cond.initialized RJ4 ∈ WS := ws_of 74 (by decide +kernel)
theorem h_ini_J0 : Cond.initialized RJ0 ∈ WS := ws_of 75 (by decide +kernel)
theorem h_ini_J2 : Cond.initialized RJ2 ∈ WS := ws_of 76 (by decide +kernel)
theorem h_ini_J1 : Cond.initialized RJ1 ∈ WS := ws_of 77 (by decide +kernel)
set_option maxRecDepth 100000 in
theorem bX8_init {own : String} {idx : Nat} : KB own idx yX8_init cX8_init 1 none 0 := ⟨aw_mem_ws (i := 82) rfl rfl, h_ini_X8, ⟨⟨by decide, by decide⟩, by decide +kernel⟩⟩
theorem biX8_init : Cond.instanceMethod yX8_init ∈ WS := ws_of 81 (by decide +kernel)
theorem k_L_155 : KI RL 155 yX8_init cX8_init 1 0 := ⟨bX8_init, ws_of 80 (by decide +kernel), rfl, biX8_init⟩
set_option maxRecDepth 100000 in
theorem bJx4a65c_init_da8c8 {own : String} {idx : Nat} : KB own idx yJx4a65c_init_da8c8 cJx4a65c_init_da8c8 1 none 0 := ⟨aw_mem_ws (i := 90) rfl rfl, h_ini_Jx4a65c, ⟨⟨by decide, by decide⟩, by decide +kernel⟩⟩
theorem biJx4a65c_init_da8c8 : Cond.instanceMethod yJx4a65c_init_da8c8 ∈ WS := ws_of 89 (by decide +kernel)
theorem k_X8_11 : KI RX8 11 yJx4a65c_init_da8c8 cJx4a65c_init_da8c8 1 0 := ⟨bJx4a65c_init_da8c8, ws_of 88 (by decide +kernel), rfl, biJx4a65c_init_da8c8⟩
set_option maxRecDepth 100000 in
theorem bJxc12de_init_da8c8 {own : String} {idx : Nat} : KB own idx yJxc12de_init_da8c8 cJxc12de_init_da8c8 1 none 0 := ⟨aw_mem_ws (i := 93) rfl rfl, h_ini_Jxc12de, ⟨⟨by decide, by decide⟩, by decide +kernel⟩⟩
theorem biJxc12de_init_da8c8 : Cond.instanceMethod yJxc12de_init_da8c8 ∈ WS := ws_of 92 (by decide +kernel)
theorem k_Jx4a65c_1 : KI RJx4a65c 1 yJxc12de_init_da8c8 cJxc12de_init_da8c8 1 0 := ⟨bJxc12de_init_da8c8, ws_of 91 (by decide +kernel), rfl, biJxc12de_init_da8c8⟩
set_option maxRecDepth 100000 in
theorem bJxa1e45_init_da8c8 {own : String} {idx : Nat} : KB own idx yJxa1e45_init_da8c8 cJxa1e45_init_da8c8 1 none 0 := ⟨aw_mem_ws (i := 96) rfl rfl, h_ini_Jxa1e45, ⟨⟨by decide, by decide⟩, by decide +kernel⟩⟩
theorem biJxa1e45_init_da8c8 : Cond.instanceMethod yJxa1e45_init_da8c8 ∈ WS := ws_of 95 (by decide +kernel)
theorem k_Jxc12de_1 : KI RJxc12de 1 yJxa1e45_init_da8c8 cJxa1e45_init_da8c8 1 0 := ⟨bJxa1e45_init_da8c8, ws_of 94 (by decide +kernel), rfl, biJxa1e45_init_da8c8⟩
set_option maxRecDepth 100000 in
theorem bX6_init {own : String} {idx : Nat} : KB own idx yX6_init cX6_init 1 none 0 := ⟨aw_mem_ws (i := 116) rfl rfl, h_ini_X6, ⟨⟨by decide, by decide⟩, by decide +kernel⟩⟩
theorem biX6_init : Cond.instanceMethod yX6_init ∈ WS := ws_of 115 (by decide +kernel)
theorem k_X8_27 : KIN RX8 27 yX6_init cX6_init 1 0 := ⟨bX6_init, ⟨"DeedProtocol", ws_of 114 (by decide +kernel)⟩, rfl, biX6_init⟩
set_option maxRecDepth 100000 in
theorem bX8_person {own : String} {idx : Nat} : KB own idx yX8_person cX8_person 4 (some .int) 2 := ⟨aw_mem_ws (i := 154) rfl rfl, h_ini_X8, ⟨⟨by decide, by decide⟩, by decide +kernel⟩⟩
theorem biX8_person : Cond.instanceMethod yX8_person ∈ WS ∧ Cond.selects RX8 yX8_person yX8_person ∈ WS := ⟨ws_of 152 (by decide +kernel), ws_of 153 (by decide +kernel)⟩
theorem k_L_156 : KV RL 156 yX8_person cX8_person 4 (some .int) 2 := ⟨bX8_person, ws_of 151 (by decide +kernel), biX8_person.1, biX8_person.2⟩
set_option maxRecDepth 100000 in
theorem bJx4a65c_size_8abf5 {own : String} {idx : Nat} : KB own idx yJx4a65c_size_8abf5 cJx4a65c_size_8abf5 1 (some .int) 0 := ⟨aw_mem_ws (i := 226) rfl rfl, h_ini_Jx4a65c, ⟨⟨by decide, by decide⟩, by decide +kernel⟩⟩
theorem biJx4a65c_size_8abf5 : Cond.instanceMethod yJx4a65c_size_8abf5 ∈ WS ∧ Cond.selects RJx4a65c yJx4a65c_size_8abf5 yJx4a65c_size_8abf5 ∈ WS := ⟨ws_of 224 (by decide +kernel), ws_of 225 (by decide +kernel)⟩
theorem k_X8_50 : KV RX8 50 yJx4a65c_size_8abf5 cJx4a65c_size_8abf5 1 (some .int) 0 := ⟨bJx4a65c_size_8abf5, ws_of 223 (by decide +kernel), biJx4a65c_size_8abf5.1, biJx4a65c_size_8abf5.2⟩
set_option maxRecDepth 100000 in
theorem bX5_init {own : String} {idx : Nat} : KB own idx yX5_init cX5_init 5 none 4 := ⟨aw_mem_ws (i := 247) rfl rfl, h_ini_X5, ⟨⟨by decide, by decide⟩, by decide +kernel⟩⟩
theorem biX5_init : Cond.instanceMethod yX5_init ∈ WS := ws_of 246 (by decide +kernel)
theorem k_X8_61 : KIN RX8 61 yX5_init cX5_init 5 4 := ⟨bX5_init, ⟨"DeedProtocol", ws_of 245 (by decide +kernel)⟩, rfl, biX5_init⟩
set_option maxRecDepth 100000 in
theorem bJx4a65c_add_9ea2d {own : String} {idx : Nat} : KB own idx yJx4a65c_add_9ea2d cJx4a65c_add_9ea2d 2 (some .boolean) 1 := ⟨aw_mem_ws (i := 279) rfl rfl, h_ini_Jx4a65c, ⟨⟨by decide, by decide⟩, by decide +kernel⟩⟩
theorem biJx4a65c_add_9ea2d : Cond.instanceMethod yJx4a65c_add_9ea2d ∈ WS ∧ Cond.selects RJx4a65c yJx4a65c_add_9ea2d yJx4a65c_add_9ea2d ∈ WS := ⟨ws_of 277 (by decide +kernel), ws_of 278 (by decide +kernel)⟩
theorem k_X8_64 : KV RX8 64 yJx4a65c_add_9ea2d cJx4a65c_add_9ea2d 2 (some .boolean) 1 := ⟨bJx4a65c_add_9ea2d, ws_of 276 (by decide +kernel), biJx4a65c_add_9ea2d.1, biJx4a65c_add_9ea2d.2⟩
set_option maxRecDepth 100000 in
theorem bJx4a65c_add_72be8 {own : String} {idx : Nat} : KB own idx yJx4a65c_add_72be8 cJx4a65c_add_72be8 4 none 3 := ⟨aw_mem_ws (i := 283) rfl rfl, h_ini_Jx4a65c, ⟨⟨by decide, by decide⟩, by decide +kernel⟩⟩
theorem biJx4a65c_add_72be8 : Cond.instanceMethod yJx4a65c_add_72be8 ∈ WS ∧ Cond.selects RJx4a65c yJx4a65c_add_72be8 yJx4a65c_add_72be8 ∈ WS := ⟨ws_of 282 (by decide +kernel), ws_of 1 (by decide +kernel)⟩
theorem k_Jx4a65c_131 : KV RJx4a65c 131 yJx4a65c_add_72be8 cJx4a65c_add_72be8 4 none 3 := ⟨bJx4a65c_add_72be8, ws_of 280 (by decide +kernel), biJx4a65c_add_72be8.1, biJx4a65c_add_72be8.2⟩
set_option maxRecDepth 100000 in
theorem bJx4a65c_grow_d5877 {own : String} {idx : Nat} : KB own idx yJx4a65c_grow_d5877 cJx4a65c_grow_d5877 1 (some (.array (.object "java/lang/Object"))) 0 := ⟨aw_mem_ws (i := 287) rfl rfl, h_ini_Jx4a65c, ⟨⟨by decide, by decide⟩, by decide +kernel⟩⟩
theorem biJx4a65c_grow_d5877 : Cond.instanceMethod yJx4a65c_grow_d5877 ∈ WS ∧ Cond.selects RJx4a65c yJx4a65c_grow_d5877 yJx4a65c_grow_d5877 ∈ WS := ⟨ws_of 286 (by decide +kernel), ws_of 2 (by decide +kernel)⟩
theorem k_Jx4a65c_129 : KV RJx4a65c 129 yJx4a65c_grow_d5877 cJx4a65c_grow_d5877 1 (some (.array (.object "java/lang/Object"))) 0 := ⟨bJx4a65c_grow_d5877, ws_of 284 (by decide +kernel), biJx4a65c_grow_d5877.1, biJx4a65c_grow_d5877.2⟩
set_option maxRecDepth 100000 in
theorem bJx4a65c_grow_92f84 {own : String} {idx : Nat} : KB own idx yJx4a65c_grow_92f84 cJx4a65c_grow_92f84 4 (some (.array (.object "java/lang/Object"))) 1 := ⟨aw_mem_ws (i := 291) rfl rfl, h_ini_Jx4a65c, ⟨⟨by decide, by decide⟩, by decide +kernel⟩⟩
theorem biJx4a65c_grow_92f84 : Cond.instanceMethod yJx4a65c_grow_92f84 ∈ WS ∧ Cond.selects RJx4a65c yJx4a65c_grow_92f84 yJx4a65c_grow_92f84 ∈ WS := ⟨ws_of 290 (by decide +kernel), ws_of 3 (by decide +kernel)⟩
theorem k_Jx4a65c_69 : KV RJx4a65c 69 yJx4a65c_grow_92f84 cJx4a65c_grow_92f84 4 (some (.array (.object "java/lang/Object"))) 1 := ⟨bJx4a65c_grow_92f84, ws_of 288 (by decide +kernel), biJx4a65c_grow_92f84.1, biJx4a65c_grow_92f84.2⟩
set_option maxRecDepth 100000 in
theorem bJ8_newLength_cabcc {own : String} {idx : Nat} : KB own idx yJ8_newLength_cabcc cJ8_newLength_cabcc 4 (some .int) 3 := ⟨aw_mem_ws (i := 294) rfl rfl, h_ini_J8, ⟨⟨by decide, by decide⟩, by decide +kernel⟩⟩
theorem bsJ8_newLength_cabcc : Cond.static yJ8_newLength_cabcc ∈ WS := ws_of 293 (by decide +kernel)
theorem k_Jx4a65c_73 : KS RJx4a65c 73 yJ8_newLength_cabcc cJ8_newLength_cabcc 4 (some .int) 3 := ⟨bJ8_newLength_cabcc, ws_of 292 (by decide +kernel), bsJ8_newLength_cabcc⟩
set_option maxRecDepth 100000 in
theorem bJ9_max_7cf53 {own : String} {idx : Nat} : KB own idx yJ9_max_7cf53 cJ9_max_7cf53 2 (some .int) 2 := ⟨aw_mem_ws (i := 297) rfl rfl, h_ini_J9, ⟨⟨by decide, by decide⟩, by decide +kernel⟩⟩
theorem bsJ9_max_7cf53 : Cond.static yJ9_max_7cf53 ∈ WS := ws_of 296 (by decide +kernel)
theorem k_J8_194 : KS RJ8 194 yJ9_max_7cf53 cJ9_max_7cf53 2 (some .int) 2 := ⟨bJ9_max_7cf53, ws_of 295 (by decide +kernel), bsJ9_max_7cf53⟩
set_option maxRecDepth 100000 in
theorem bJ8_hugeLength_7cf53 {own : String} {idx : Nat} : KB own idx yJ8_hugeLength_7cf53 cJ8_hugeLength_7cf53 3 (some .int) 2 := ⟨aw_mem_ws (i := 301) rfl rfl, h_ini_J8, ⟨⟨by decide, by decide⟩, by decide +kernel⟩⟩
theorem bsJ8_hugeLength_7cf53 : Cond.static yJ8_hugeLength_7cf53 ∈ WS := ws_of 300 (by decide +kernel)
theorem k_J8_201 : KS RJ8 201 yJ8_hugeLength_7cf53 cJ8_hugeLength_7cf53 3 (some .int) 2 := ⟨bJ8_hugeLength_7cf53, ws_of 299 (by decide +kernel), bsJ8_hugeLength_7cf53⟩
set_option maxRecDepth 100000 in
theorem bJ7_copyOf_1904c {own : String} {idx : Nat} : KB own idx yJ7_copyOf_1904c cJ7_copyOf_1904c 2 (some (.array (.object "java/lang/Object"))) 2 := ⟨aw_mem_ws (i := 304) rfl rfl, h_ini_J7, ⟨⟨by decide, by decide⟩, by decide +kernel⟩⟩
theorem bsJ7_copyOf_1904c : Cond.static yJ7_copyOf_1904c ∈ WS := ws_of 303 (by decide +kernel)
theorem k_Jx4a65c_66 : KS RJx4a65c 66 yJ7_copyOf_1904c cJ7_copyOf_1904c 2 (some (.array (.object "java/lang/Object"))) 2 := ⟨bJ7_copyOf_1904c, ws_of 302 (by decide +kernel), bsJ7_copyOf_1904c⟩
set_option maxRecDepth 100000 in
theorem bJ7_copyOf_6403c {own : String} {idx : Nat} : KB own idx yJ7_copyOf_6403c cJ7_copyOf_6403c 4 (some (.array (.object "java/lang/Object"))) 3 := ⟨aw_mem_ws (i := 325) rfl rfl, h_ini_J7, ⟨⟨by decide, by decide⟩, by decide +kernel⟩⟩
theorem bsJ7_copyOf_6403c : Cond.static yJ7_copyOf_6403c ∈ WS := ws_of 324 (by decide +kernel)
theorem k_J7_300 : KS RJ7 300 yJ7_copyOf_6403c cJ7_copyOf_6403c 4 (some (.array (.object "java/lang/Object"))) 3 := ⟨bJ7_copyOf_6403c, ws_of 323 (by decide +kernel), bsJ7_copyOf_6403c⟩
set_option maxRecDepth 100000 in
theorem bJ9_min_7cf53 {own : String} {idx : Nat} : KB own idx yJ9_min_7cf53 cJ9_min_7cf53 2 (some .int) 2 := ⟨aw_mem_ws (i := 331) rfl rfl, h_ini_J9, ⟨⟨by decide, by decide⟩, by decide +kernel⟩⟩
theorem bsJ9_min_7cf53 : Cond.static yJ9_min_7cf53 ∈ WS := ws_of 330 (by decide +kernel)
theorem k_J7_304 : KS RJ7 304 yJ9_min_7cf53 cJ9_min_7cf53 2 (some .int) 2 := ⟨bJ9_min_7cf53, ws_of 329 (by decide +kernel), bsJ9_min_7cf53⟩
theorem k_Jx4a65c_79 : KS RJx4a65c 79 yJ9_max_7cf53 cJ9_max_7cf53 2 (some .int) 2 := ⟨bJ9_max_7cf53, ws_of 335 (by decide +kernel), bsJ9_max_7cf53⟩
set_option maxRecDepth 100000 in
theorem bX8_thing {own : String} {idx : Nat} : KB own idx yX8_thing cX8_thing 5 (some .int) 2 := ⟨aw_mem_ws (i := 340) rfl rfl, h_ini_X8, ⟨⟨by decide, by decide⟩, by decide +kernel⟩⟩
theorem biX8_thing : Cond.instanceMethod yX8_thing ∈ WS ∧ Cond.selects RX8 yX8_thing yX8_thing ∈ WS := ⟨ws_of 338 (by decide +kernel), ws_of 339 (by decide +kernel)⟩
theorem k_L_160 : KV RL 160 yX8_thing cX8_thing 5 (some .int) 2 := ⟨bX8_thing, ws_of 337 (by decide +kernel), biX8_thing.1, biX8_thing.2⟩
set_option maxRecDepth 100000 in
theorem bX8_personAt {own : String} {idx : Nat} : KB own idx yX8_personAt cX8_personAt 2 (some (.object "DeedProtocol$Person")) 1 := ⟨aw_mem_ws (i := 344) rfl rfl, h_ini_X8, ⟨⟨by decide, by decide⟩, by decide +kernel⟩⟩
theorem biX8_personAt : Cond.instanceMethod yX8_personAt ∈ WS ∧ Cond.selects RX8 yX8_personAt yX8_personAt ∈ WS := ⟨ws_of 343 (by decide +kernel), ws_of 4 (by decide +kernel)⟩
theorem k_X8_71 : KV RX8 71 yX8_personAt cX8_personAt 2 (some (.object "DeedProtocol$Person")) 1 := ⟨bX8_personAt, ws_of 341 (by decide +kernel), biX8_personAt.1, biX8_personAt.2⟩
set_option maxRecDepth 100000 in
theorem bJx4a65c_get_915e3 {own : String} {idx : Nat} : KB own idx yJx4a65c_get_915e3 cJx4a65c_get_915e3 2 (some (.object "java/lang/Object")) 1 := ⟨aw_mem_ws (i := 364) rfl rfl, h_ini_Jx4a65c, ⟨⟨by decide, by decide⟩, by decide +kernel⟩⟩
theorem biJx4a65c_get_915e3 : Cond.instanceMethod yJx4a65c_get_915e3 ∈ WS ∧ Cond.selects RJx4a65c yJx4a65c_get_915e3 yJx4a65c_get_915e3 ∈ WS := ⟨ws_of 362 (by decide +kernel), ws_of 363 (by decide +kernel)⟩
theorem k_X8_355 : KV RX8 355 yJx4a65c_get_915e3 cJx4a65c_get_915e3 2 (some (.object "java/lang/Object")) 1 := ⟨bJx4a65c_get_915e3, ws_of 361 (by decide +kernel), biJx4a65c_get_915e3.1, biJx4a65c_get_915e3.2⟩
set_option maxRecDepth 100000 in
theorem bJ15_checkIndex_7cf53 {own : String} {idx : Nat} : KB own idx yJ15_checkIndex_7cf53 cJ15_checkIndex_7cf53 2 (some .int) 2 := ⟨aw_mem_ws (i := 367) rfl rfl, h_ini_J15, ⟨⟨by decide, by decide⟩, by decide +kernel⟩⟩
theorem bsJ15_checkIndex_7cf53 : Cond.static yJ15_checkIndex_7cf53 ∈ WS := ws_of 366 (by decide +kernel)
theorem k_Jx4a65c_118 : KS RJx4a65c 118 yJ15_checkIndex_7cf53 cJ15_checkIndex_7cf53 2 (some .int) 2 := ⟨bJ15_checkIndex_7cf53, ws_of 365 (by decide +kernel), bsJ15_checkIndex_7cf53⟩
set_option maxRecDepth 100000 in
theorem bJ3_checkIndex_8e157 {own : String} {idx : Nat} : KB own idx yJ3_checkIndex_8e157 cJ3_checkIndex_8e157 3 (some .int) 3 := ⟨aw_mem_ws (i := 370) rfl rfl, h_ini_J3, ⟨⟨by decide, by decide⟩, by decide +kernel⟩⟩
theorem bsJ3_checkIndex_8e157 : Cond.static yJ3_checkIndex_8e157 ∈ WS := ws_of 369 (by decide +kernel)
theorem k_J15_105 : KS RJ15 105 yJ3_checkIndex_8e157 cJ3_checkIndex_8e157 3 (some .int) 3 := ⟨bJ3_checkIndex_8e157, ws_of 368 (by decide +kernel), bsJ3_checkIndex_8e157⟩
set_option maxRecDepth 100000 in
theorem bJx4a65c_elementData_915e3 {own : String} {idx : Nat} : KB own idx yJx4a65c_elementData_915e3 cJx4a65c_elementData_915e3 2 (some (.object "java/lang/Object")) 1 := ⟨aw_mem_ws (i := 374) rfl rfl, h_ini_Jx4a65c, ⟨⟨by decide, by decide⟩, by decide +kernel⟩⟩
theorem biJx4a65c_elementData_915e3 : Cond.instanceMethod yJx4a65c_elementData_915e3 ∈ WS ∧ Cond.selects RJx4a65c yJx4a65c_elementData_915e3 yJx4a65c_elementData_915e3 ∈ WS := ⟨ws_of 372 (by decide +kernel), ws_of 373 (by decide +kernel)⟩
theorem k_Jx4a65c_123 : KV RJx4a65c 123 yJx4a65c_elementData_915e3 cJx4a65c_elementData_915e3 2 (some (.object "java/lang/Object")) 1 := ⟨bJx4a65c_elementData_915e3, ws_of 371 (by decide +kernel), biJx4a65c_elementData_915e3.1, biJx4a65c_elementData_915e3.2⟩
set_option maxRecDepth 100000 in
theorem bX7_init {own : String} {idx : Nat} : KB own idx yX7_init cX7_init 4 none 3 := ⟨aw_mem_ws (i := 382) rfl rfl, h_ini_X7, ⟨⟨by decide, by decide⟩, by decide +kernel⟩⟩
theorem biX7_init : Cond.instanceMethod yX7_init ∈ WS := ws_of 381 (by decide +kernel)
theorem k_X8_113 : KIN RX8 113 yX7_init cX7_init 4 3 := ⟨bX7_init, ⟨"DeedProtocol", ws_of 380 (by decide +kernel)⟩, rfl, biX7_init⟩
theorem k_X7_9 : KIN RX7 9 yX6_init cX6_init 1 0 := ⟨bX6_init, ⟨"DeedProtocol", ws_of 385 (by decide +kernel)⟩, rfl, biX6_init⟩
set_option maxRecDepth 100000 in
theorem bX6_startWith {own : String} {idx : Nat} : KB own idx yX6_startWith cX6_startWith 3 none 1 := ⟨aw_mem_ws (i := 389) rfl rfl, h_ini_X6, ⟨⟨by decide, by decide⟩, by decide +kernel⟩⟩
theorem biX6_startWith : Cond.instanceMethod yX6_startWith ∈ WS ∧ Cond.selects RX6 yX6_startWith yX6_startWith ∈ WS := ⟨ws_of 388 (by decide +kernel), ws_of 5 (by decide +kernel)⟩
theorem k_X7_26 : KVN RX7 26 yX6_startWith cX6_startWith 3 none 1 := ⟨bX6_startWith, ⟨"DeedProtocol", ws_of 386 (by decide +kernel)⟩, biX6_startWith.1, biX6_startWith.2⟩
set_option maxRecDepth 100000 in
theorem bX8_pass {own : String} {idx : Nat} : KB own idx yX8_pass cX8_pass 2 (some .int) 1 := ⟨aw_mem_ws (i := 409) rfl rfl, h_ini_X8, ⟨⟨by decide, by decide⟩, by decide +kernel⟩⟩
theorem biX8_pass : Cond.instanceMethod yX8_pass ∈ WS ∧ Cond.selects RX8 yX8_pass yX8_pass ∈ WS := ⟨ws_of 407 (by decide +kernel), ws_of 408 (by decide +kernel)⟩
theorem k_L_179 : KV RL 179 yX8_pass cX8_pass 2 (some .int) 1 := ⟨bX8_pass, ws_of 406 (by decide +kernel), biX8_pass.1, biX8_pass.2⟩
set_option maxRecDepth 100000 in
theorem bL_cell {own : String} {idx : Nat} : KB own idx yL_cell cL_cell 2 (some .int) 2 := ⟨aw_mem_ws (i := 413) rfl rfl, h_ini_L, ⟨⟨by decide, by decide⟩, by decide +kernel⟩⟩
theorem bsL_cell : Cond.static yL_cell ∈ WS := ws_of 412 (by decide +kernel)
theorem k_L_163 : KS RL 163 yL_cell cL_cell 2 (some .int) 2 := ⟨bL_cell, ws_of 411 (by decide +kernel), bsL_cell⟩
set_option maxRecDepth 100000 in
theorem bL_low {own : String} {idx : Nat} : KB own idx yL_low cL_low 2 (some .int) 2 := ⟨aw_mem_ws (i := 418) rfl rfl, h_ini_L, ⟨⟨by decide, by decide⟩, by decide +kernel⟩⟩
theorem bsL_low : Cond.static yL_low ∈ WS := ws_of 417 (by decide +kernel)
theorem k_L_98 : KS RL 98 yL_low cL_low 2 (some .int) 2 := ⟨bL_low, ws_of 416 (by decide +kernel), bsL_low⟩
set_option maxRecDepth 100000 in
theorem bX8_draft {own : String} {idx : Nat} : KB own idx yX8_draft cX8_draft 10 (some .int) 6 := ⟨aw_mem_ws (i := 427) rfl rfl, h_ini_X8, ⟨⟨by decide, by decide⟩, by decide +kernel⟩⟩
theorem biX8_draft : Cond.instanceMethod yX8_draft ∈ WS ∧ Cond.selects RX8 yX8_draft yX8_draft ∈ WS := ⟨ws_of 425 (by decide +kernel), ws_of 426 (by decide +kernel)⟩
theorem k_L_10 : KV RL 10 yX8_draft cX8_draft 10 (some .int) 6 := ⟨bX8_draft, ws_of 424 (by decide +kernel), biX8_draft.1, biX8_draft.2⟩
set_option maxRecDepth 100000 in
theorem bX8_thingAt {own : String} {idx : Nat} : KB own idx yX8_thingAt cX8_thingAt 2 (some (.object "DeedProtocol$Thing")) 1 := ⟨aw_mem_ws (i := 431) rfl rfl, h_ini_X8, ⟨⟨by decide, by decide⟩, by decide +kernel⟩⟩
theorem biX8_thingAt : Cond.instanceMethod yX8_thingAt ∈ WS ∧ Cond.selects RX8 yX8_thingAt yX8_thingAt ∈ WS := ⟨ws_of 430 (by decide +kernel), ws_of 6 (by decide +kernel)⟩
theorem k_X8_121 : KV RX8 121 yX8_thingAt cX8_thingAt 2 (some (.object "DeedProtocol$Thing")) 1 := ⟨bX8_thingAt, ws_of 428 (by decide +kernel), biX8_thingAt.1, biX8_thingAt.2⟩
set_option maxRecDepth 100000 in
theorem bX8_isOfThing {own : String} {idx : Nat} : KB own idx yX8_isOfThing cX8_isOfThing 1 (some .boolean) 1 := ⟨aw_mem_ws (i := 435) rfl rfl, h_ini_X8, ⟨⟨by decide, by decide⟩, by decide +kernel⟩⟩
theorem bsX8_isOfThing : Cond.static yX8_isOfThing ∈ WS := ws_of 434 (by decide +kernel)
theorem k_X8_125 : KS RX8 125 yX8_isOfThing cX8_isOfThing 1 (some .boolean) 1 := ⟨bX8_isOfThing, ws_of 433 (by decide +kernel), bsX8_isOfThing⟩
set_option maxRecDepth 100000 in
theorem bX8_isPart {own : String} {idx : Nat} : KB own idx yX8_isPart cX8_isPart 2 (some .boolean) 2 := ⟨aw_mem_ws (i := 438) rfl rfl, h_ini_X8, ⟨⟨by decide, by decide⟩, by decide +kernel⟩⟩
theorem bsX8_isPart : Cond.static yX8_isPart ∈ WS := ws_of 437 (by decide +kernel)
theorem k_X8_128 : KS RX8 128 yX8_isPart cX8_isPart 2 (some .boolean) 2 := ⟨bX8_isPart, ws_of 436 (by decide +kernel), bsX8_isPart⟩
set_option maxRecDepth 100000 in
theorem bX8_refuseNewDeed {own : String} {idx : Nat} : KB own idx yX8_refuseNewDeed cX8_refuseNewDeed 3 none 2 := ⟨aw_mem_ws (i := 443) rfl rfl, h_ini_X8, ⟨⟨by decide, by decide⟩, by decide +kernel⟩⟩
theorem biX8_refuseNewDeed : Cond.instanceMethod yX8_refuseNewDeed ∈ WS ∧ Cond.selects RX8 yX8_refuseNewDeed yX8_refuseNewDeed ∈ WS := ⟨ws_of 442 (by decide +kernel), ws_of 7 (by decide +kernel)⟩
theorem k_X8_134 : KV RX8 134 yX8_refuseNewDeed cX8_refuseNewDeed 3 none 2 := ⟨bX8_refuseNewDeed, ws_of 440 (by decide +kernel), biX8_refuseNewDeed.1, biX8_refuseNewDeed.2⟩
set_option maxRecDepth 100000 in
theorem bX8_refuseDead {own : String} {idx : Nat} : KB own idx yX8_refuseDead cX8_refuseDead 2 none 2 := ⟨aw_mem_ws (i := 447) rfl rfl, h_ini_X8, ⟨⟨by decide, by decide⟩, by decide +kernel⟩⟩
theorem bsX8_refuseDead : Cond.static yX8_refuseDead ∈ WS := ws_of 446 (by decide +kernel)
theorem k_X8_86 : KS RX8 86 yX8_refuseDead cX8_refuseDead 2 none 2 := ⟨bX8_refuseDead, ws_of 445 (by decide +kernel), bsX8_refuseDead⟩
set_option maxRecDepth 100000 in
theorem bX0_init {own : String} {idx : Nat} : KB own idx yX0_init cX0_init 8 none 7 := ⟨aw_mem_ws (i := 453) rfl rfl, h_ini_X0, ⟨⟨by decide, by decide⟩, by decide +kernel⟩⟩
theorem biX0_init : Cond.instanceMethod yX0_init ∈ WS := ws_of 452 (by decide +kernel)
theorem k_X8_139 : KIN RX8 139 yX0_init cX0_init 8 7 := ⟨bX0_init, ⟨"DeedProtocol", ws_of 451 (by decide +kernel)⟩, rfl, biX0_init⟩
set_option maxRecDepth 100000 in
theorem bX4_init {own : String} {idx : Nat} : KB own idx yX4_init cX4_init 1 none 0 := ⟨aw_mem_ws (i := 459) rfl rfl, h_ini_X4, ⟨⟨by decide, by decide⟩, by decide +kernel⟩⟩
theorem biX4_init : Cond.instanceMethod yX4_init ∈ WS := ws_of 458 (by decide +kernel)
theorem k_X0_11 : KIN RX0 11 yX4_init cX4_init 1 0 := ⟨bX4_init, ⟨"DeedProtocol", ws_of 457 (by decide +kernel)⟩, rfl, biX4_init⟩
set_option maxRecDepth 100000 in
theorem bX8_keepDeed {own : String} {idx : Nat} : KB own idx yX8_keepDeed cX8_keepDeed 2 (some .int) 1 := ⟨aw_mem_ws (i := 533) rfl rfl, h_ini_X8, ⟨⟨by decide, by decide⟩, by decide +kernel⟩⟩
theorem biX8_keepDeed : Cond.instanceMethod yX8_keepDeed ∈ WS ∧ Cond.selects RX8 yX8_keepDeed yX8_keepDeed ∈ WS := ⟨ws_of 532 (by decide +kernel), ws_of 8 (by decide +kernel)⟩
theorem k_X8_142 : KV RX8 142 yX8_keepDeed cX8_keepDeed 2 (some .int) 1 := ⟨bX8_keepDeed, ws_of 530 (by decide +kernel), biX8_keepDeed.1, biX8_keepDeed.2⟩
set_option maxRecDepth 100000 in
theorem bX8_power {own : String} {idx : Nat} : KB own idx yX8_power cX8_power 10 (some .int) 5 := ⟨aw_mem_ws (i := 537) rfl rfl, h_ini_X8, ⟨⟨by decide, by decide⟩, by decide +kernel⟩⟩
theorem biX8_power : Cond.instanceMethod yX8_power ∈ WS ∧ Cond.selects RX8 yX8_power yX8_power ∈ WS := ⟨ws_of 535 (by decide +kernel), ws_of 536 (by decide +kernel)⟩
theorem k_L_16 : KV RL 16 yX8_power cX8_power 10 (some .int) 5 := ⟨bX8_power, ws_of 534 (by decide +kernel), biX8_power.1, biX8_power.2⟩
set_option maxRecDepth 100000 in
theorem bX2_init {own : String} {idx : Nat} : KB own idx yX2_init cX2_init 3 none 2 := ⟨aw_mem_ws (i := 543) rfl rfl, h_ini_X2, ⟨⟨by decide, by decide⟩, by decide +kernel⟩⟩
theorem biX2_init : Cond.instanceMethod yX2_init ∈ WS := ws_of 542 (by decide +kernel)
theorem k_X8_150 : KIN RX8 150 yX2_init cX2_init 3 2 := ⟨bX2_init, ⟨"DeedProtocol", ws_of 541 (by decide +kernel)⟩, rfl, biX2_init⟩
set_option maxRecDepth 100000 in
theorem bX8_will {own : String} {idx : Nat} : KB own idx yX8_will cX8_will 7 (some .int) 4 := ⟨aw_mem_ws (i := 569) rfl rfl, h_ini_X8, ⟨⟨by decide, by decide⟩, by decide +kernel⟩⟩
theorem biX8_will : Cond.instanceMethod yX8_will ∈ WS ∧ Cond.selects RX8 yX8_will yX8_will ∈ WS := ⟨ws_of 567 (by decide +kernel), ws_of 568 (by decide +kernel)⟩
theorem k_L_20 : KV RL 20 yX8_will cX8_will 7 (some .int) 4 := ⟨bX8_will, ws_of 566 (by decide +kernel), biX8_will.1, biX8_will.2⟩
set_option maxRecDepth 100000 in
theorem bX8_sign {own : String} {idx : Nat} : KB own idx yX8_sign cX8_sign 9 (some .int) 4 := ⟨aw_mem_ws (i := 574) rfl rfl, h_ini_X8, ⟨⟨by decide, by decide⟩, by decide +kernel⟩⟩
theorem biX8_sign : Cond.instanceMethod yX8_sign ∈ WS ∧ Cond.selects RX8 yX8_sign yX8_sign ∈ WS := ⟨ws_of 572 (by decide +kernel), ws_of 573 (by decide +kernel)⟩
theorem k_L_24 : KV RL 24 yX8_sign cX8_sign 9 (some .int) 4 := ⟨bX8_sign, ws_of 571 (by decide +kernel), biX8_sign.1, biX8_sign.2⟩
set_option maxRecDepth 100000 in
theorem bX8_deedAt {own : String} {idx : Nat} : KB own idx yX8_deedAt cX8_deedAt 2 (some (.object "DeedProtocol$Deed")) 1 := ⟨aw_mem_ws (i := 578) rfl rfl, h_ini_X8, ⟨⟨by decide, by decide⟩, by decide +kernel⟩⟩
theorem biX8_deedAt : Cond.instanceMethod yX8_deedAt ∈ WS ∧ Cond.selects RX8 yX8_deedAt yX8_deedAt ∈ WS := ⟨ws_of 577 (by decide +kernel), ws_of 9 (by decide +kernel)⟩
theorem k_X8_159 : KV RX8 159 yX8_deedAt cX8_deedAt 2 (some (.object "DeedProtocol$Deed")) 1 := ⟨bX8_deedAt, ws_of 575 (by decide +kernel), biX8_deedAt.1, biX8_deedAt.2⟩
set_option maxRecDepth 100000 in
theorem bX8_refuseClosedOrHaving {own : String} {idx : Nat} : KB own idx yX8_refuseClosedOrHaving cX8_refuseClosedOrHaving 2 none 2 := ⟨aw_mem_ws (i := 582) rfl rfl, h_ini_X8, ⟨⟨by decide, by decide⟩, by decide +kernel⟩⟩
theorem bsX8_refuseClosedOrHaving : Cond.static yX8_refuseClosedOrHaving ∈ WS := ws_of 581 (by decide +kernel)
theorem k_X8_163 : KS RX8 163 yX8_refuseClosedOrHaving cX8_refuseClosedOrHaving 2 none 2 := ⟨bX8_refuseClosedOrHaving, ws_of 580 (by decide +kernel), bsX8_refuseClosedOrHaving⟩
set_option maxRecDepth 100000 in
theorem bX0_isClosed {own : String} {idx : Nat} : KB own idx yX0_isClosed cX0_isClosed 1 (some .boolean) 0 := ⟨aw_mem_ws (i := 586) rfl rfl, h_ini_X0, ⟨⟨by decide, by decide⟩, by decide +kernel⟩⟩
theorem biX0_isClosed : Cond.instanceMethod yX0_isClosed ∈ WS ∧ Cond.selects RX0 yX0_isClosed yX0_isClosed ∈ WS := ⟨ws_of 585 (by decide +kernel), ws_of 10 (by decide +kernel)⟩
theorem k_X8_186 : KVN RX8 186 yX0_isClosed cX0_isClosed 1 (some .boolean) 0 := ⟨bX0_isClosed, ⟨"DeedProtocol", ws_of 583 (by decide +kernel)⟩, biX0_isClosed.1, biX0_isClosed.2⟩
set_option maxRecDepth 100000 in
theorem bX0_hasAll {own : String} {idx : Nat} : KB own idx yX0_hasAll cX0_hasAll 2 (some .boolean) 1 := ⟨aw_mem_ws (i := 590) rfl rfl, h_ini_X0, ⟨⟨by decide, by decide⟩, by decide +kernel⟩⟩
theorem biX0_hasAll : Cond.instanceMethod yX0_hasAll ∈ WS ∧ Cond.selects RX0 yX0_hasAll yX0_hasAll ∈ WS := ⟨ws_of 589 (by decide +kernel), ws_of 11 (by decide +kernel)⟩
theorem k_X8_408 : KVN RX8 408 yX0_hasAll cX0_hasAll 2 (some .boolean) 1 := ⟨bX0_hasAll, ⟨"DeedProtocol", ws_of 587 (by decide +kernel)⟩, biX0_hasAll.1, biX0_hasAll.2⟩
set_option maxRecDepth 100000 in
theorem bX8_signsWithoutPower {own : String} {idx : Nat} : KB own idx yX8_signsWithoutPower cX8_signsWithoutPower 5 (some .boolean) 3 := ⟨aw_mem_ws (i := 595) rfl rfl, h_ini_X8, ⟨⟨by decide, by decide⟩, by decide +kernel⟩⟩
theorem biX8_signsWithoutPower : Cond.instanceMethod yX8_signsWithoutPower ∈ WS ∧ Cond.selects RX8 yX8_signsWithoutPower yX8_signsWithoutPower ∈ WS := ⟨ws_of 594 (by decide +kernel), ws_of 12 (by decide +kernel)⟩
theorem k_X8_167 : KV RX8 167 yX8_signsWithoutPower cX8_signsWithoutPower 5 (some .boolean) 3 := ⟨bX8_signsWithoutPower, ws_of 592 (by decide +kernel), biX8_signsWithoutPower.1, biX8_signsWithoutPower.2⟩
set_option maxRecDepth 100000 in
theorem bX5_isAbleOn {own : String} {idx : Nat} : KB own idx yX5_isAbleOn cX5_isAbleOn 3 (some .boolean) 1 := ⟨aw_mem_ws (i := 599) rfl rfl, h_ini_X5, ⟨⟨by decide, by decide⟩, by decide +kernel⟩⟩
theorem biX5_isAbleOn : Cond.instanceMethod yX5_isAbleOn ∈ WS ∧ Cond.selects RX5 yX5_isAbleOn yX5_isAbleOn ∈ WS := ⟨ws_of 598 (by decide +kernel), ws_of 13 (by decide +kernel)⟩
theorem k_X8_117 : KVN RX8 117 yX5_isAbleOn cX5_isAbleOn 3 (some .boolean) 1 := ⟨bX5_isAbleOn, ⟨"DeedProtocol", ws_of 596 (by decide +kernel)⟩, biX5_isAbleOn.1, biX5_isAbleOn.2⟩
set_option maxRecDepth 100000 in
theorem bX0_side {own : String} {idx : Nat} : KB own idx yX0_side cX0_side 2 (some (.object "DeedProtocol$Person")) 1 := ⟨aw_mem_ws (i := 603) rfl rfl, h_ini_X0, ⟨⟨by decide, by decide⟩, by decide +kernel⟩⟩
theorem biX0_side : Cond.instanceMethod yX0_side ∈ WS ∧ Cond.selects RX0 yX0_side yX0_side ∈ WS := ⟨ws_of 602 (by decide +kernel), ws_of 14 (by decide +kernel)⟩
theorem k_X8_413 : KVN RX8 413 yX0_side cX0_side 2 (some (.object "DeedProtocol$Person")) 1 := ⟨bX0_side, ⟨"DeedProtocol", ws_of 600 (by decide +kernel)⟩, biX0_side.1, biX0_side.2⟩
set_option maxRecDepth 100000 in
theorem bX8_signsAsGuardian {own : String} {idx : Nat} : KB own idx yX8_signsAsGuardian cX8_signsAsGuardian 5 (some .boolean) 3 := ⟨aw_mem_ws (i := 607) rfl rfl, h_ini_X8, ⟨⟨by decide, by decide⟩, by decide +kernel⟩⟩
theorem biX8_signsAsGuardian : Cond.instanceMethod yX8_signsAsGuardian ∈ WS ∧ Cond.selects RX8 yX8_signsAsGuardian yX8_signsAsGuardian ∈ WS := ⟨ws_of 606 (by decide +kernel), ws_of 15 (by decide +kernel)⟩
theorem k_X8_417 : KV RX8 417 yX8_signsAsGuardian cX8_signsAsGuardian 5 (some .boolean) 3 := ⟨bX8_signsAsGuardian, ws_of 604 (by decide +kernel), biX8_signsAsGuardian.1, biX8_signsAsGuardian.2⟩
set_option maxRecDepth 100000 in
theorem bX8_signsByPower {own : String} {idx : Nat} : KB own idx yX8_signsByPower cX8_signsByPower 5 (some .boolean) 4 := ⟨aw_mem_ws (i := 611) rfl rfl, h_ini_X8, ⟨⟨by decide, by decide⟩, by decide +kernel⟩⟩
theorem biX8_signsByPower : Cond.instanceMethod yX8_signsByPower ∈ WS ∧ Cond.selects RX8 yX8_signsByPower yX8_signsByPower ∈ WS := ⟨ws_of 610 (by decide +kernel), ws_of 16 (by decide +kernel)⟩
theorem k_X8_174 : KV RX8 174 yX8_signsByPower cX8_signsByPower 5 (some .boolean) 4 := ⟨bX8_signsByPower, ws_of 608 (by decide +kernel), biX8_signsByPower.1, biX8_signsByPower.2⟩
set_option maxRecDepth 100000 in
theorem bX8_isGoodPower {own : String} {idx : Nat} : KB own idx yX8_isGoodPower cX8_isGoodPower 5 (some .boolean) 1 := ⟨aw_mem_ws (i := 615) rfl rfl, h_ini_X8, ⟨⟨by decide, by decide⟩, by decide +kernel⟩⟩
theorem biX8_isGoodPower : Cond.instanceMethod yX8_isGoodPower ∈ WS ∧ Cond.selects RX8 yX8_isGoodPower yX8_isGoodPower ∈ WS := ⟨ws_of 614 (by decide +kernel), ws_of 17 (by decide +kernel)⟩
theorem k_X8_277 : KV RX8 277 yX8_isGoodPower cX8_isGoodPower 5 (some .boolean) 1 := ⟨bX8_isGoodPower, ws_of 612 (by decide +kernel), biX8_isGoodPower.1, biX8_isGoodPower.2⟩
set_option maxRecDepth 100000 in
theorem bX8_isGoodByItself {own : String} {idx : Nat} : KB own idx yX8_isGoodByItself cX8_isGoodByItself 4 (some .boolean) 2 := ⟨aw_mem_ws (i := 619) rfl rfl, h_ini_X8, ⟨⟨by decide, by decide⟩, by decide +kernel⟩⟩
theorem biX8_isGoodByItself : Cond.instanceMethod yX8_isGoodByItself ∈ WS ∧ Cond.selects RX8 yX8_isGoodByItself yX8_isGoodByItself ∈ WS := ⟨ws_of 618 (by decide +kernel), ws_of 18 (by decide +kernel)⟩
theorem k_X8_430 : KV RX8 430 yX8_isGoodByItself cX8_isGoodByItself 4 (some .boolean) 2 := ⟨bX8_isGoodByItself, ws_of 616 (by decide +kernel), biX8_isGoodByItself.1, biX8_isGoodByItself.2⟩
theorem k_X8_440 : KS RX8 440 yJ9_min_7cf53 cJ9_min_7cf53 2 (some .int) 2 := ⟨bJ9_min_7cf53, ws_of 620 (by decide +kernel), bsJ9_min_7cf53⟩
set_option maxRecDepth 100000 in
theorem bX8_add {own : String} {idx : Nat} : KB own idx yX8_add cX8_add 4 (some .int) 2 := ⟨aw_mem_ws (i := 625) rfl rfl, h_ini_X8, ⟨⟨by decide, by decide⟩, by decide +kernel⟩⟩
theorem biX8_add : Cond.instanceMethod yX8_add ∈ WS ∧ Cond.selects RX8 yX8_add yX8_add ∈ WS := ⟨ws_of 623 (by decide +kernel), ws_of 624 (by decide +kernel)⟩
theorem k_L_28 : KV RL 28 yX8_add cX8_add 4 (some .int) 2 := ⟨bX8_add, ws_of 622 (by decide +kernel), biX8_add.1, biX8_add.2⟩
set_option maxRecDepth 100000 in
theorem bX8_witness {own : String} {idx : Nat} : KB own idx yX8_witness cX8_witness 5 (some .int) 2 := ⟨aw_mem_ws (i := 630) rfl rfl, h_ini_X8, ⟨⟨by decide, by decide⟩, by decide +kernel⟩⟩
theorem biX8_witness : Cond.instanceMethod yX8_witness ∈ WS ∧ Cond.selects RX8 yX8_witness yX8_witness ∈ WS := ⟨ws_of 628 (by decide +kernel), ws_of 629 (by decide +kernel)⟩
theorem k_L_32 : KV RL 32 yX8_witness cX8_witness 5 (some .int) 2 := ⟨bX8_witness, ws_of 627 (by decide +kernel), biX8_witness.1, biX8_witness.2⟩
set_option maxRecDepth 100000 in
theorem bX0_hasWitness {own : String} {idx : Nat} : KB own idx yX0_hasWitness cX0_hasWitness 2 (some .boolean) 1 := ⟨aw_mem_ws (i := 634) rfl rfl, h_ini_X0, ⟨⟨by decide, by decide⟩, by decide +kernel⟩⟩
theorem biX0_hasWitness : Cond.instanceMethod yX0_hasWitness ∈ WS ∧ Cond.selects RX0 yX0_hasWitness yX0_hasWitness ∈ WS := ⟨ws_of 633 (by decide +kernel), ws_of 19 (by decide +kernel)⟩
theorem k_X8_190 : KVN RX8 190 yX0_hasWitness cX0_hasWitness 2 (some .boolean) 1 := ⟨bX0_hasWitness, ⟨"DeedProtocol", ws_of 631 (by decide +kernel)⟩, biX0_hasWitness.1, biX0_hasWitness.2⟩
set_option maxRecDepth 100000 in
theorem bX8_canWitness {own : String} {idx : Nat} : KB own idx yX8_canWitness cX8_canWitness 3 (some .boolean) 2 := ⟨aw_mem_ws (i := 639) rfl rfl, h_ini_X8, ⟨⟨by decide, by decide⟩, by decide +kernel⟩⟩
theorem biX8_canWitness : Cond.instanceMethod yX8_canWitness ∈ WS ∧ Cond.selects RX8 yX8_canWitness yX8_canWitness ∈ WS := ⟨ws_of 638 (by decide +kernel), ws_of 20 (by decide +kernel)⟩
theorem k_X8_195 : KV RX8 195 yX8_canWitness cX8_canWitness 3 (some .boolean) 2 := ⟨bX8_canWitness, ws_of 636 (by decide +kernel), biX8_canWitness.1, biX8_canWitness.2⟩
set_option maxRecDepth 100000 in
theorem bX8_areParentAndChild {own : String} {idx : Nat} : KB own idx yX8_areParentAndChild cX8_areParentAndChild 2 (some .boolean) 2 := ⟨aw_mem_ws (i := 642) rfl rfl, h_ini_X8, ⟨⟨by decide, by decide⟩, by decide +kernel⟩⟩
theorem bsX8_areParentAndChild : Cond.static yX8_areParentAndChild ∈ WS := ws_of 641 (by decide +kernel)
theorem k_X8_420 : KS RX8 420 yX8_areParentAndChild cX8_areParentAndChild 2 (some .boolean) 2 := ⟨bX8_areParentAndChild, ws_of 640 (by decide +kernel), bsX8_areParentAndChild⟩
set_option maxRecDepth 100000 in
theorem bX5_isChildOf {own : String} {idx : Nat} : KB own idx yX5_isChildOf cX5_isChildOf 2 (some .boolean) 1 := ⟨aw_mem_ws (i := 646) rfl rfl, h_ini_X5, ⟨⟨by decide, by decide⟩, by decide +kernel⟩⟩
theorem biX5_isChildOf : Cond.instanceMethod yX5_isChildOf ∈ WS ∧ Cond.selects RX5 yX5_isChildOf yX5_isChildOf ∈ WS := ⟨ws_of 645 (by decide +kernel), ws_of 21 (by decide +kernel)⟩
theorem k_X8_80 : KVN RX8 80 yX5_isChildOf cX5_isChildOf 2 (some .boolean) 1 := ⟨bX5_isChildOf, ⟨"DeedProtocol", ws_of 643 (by decide +kernel)⟩, biX5_isChildOf.1, biX5_isChildOf.2⟩
set_option maxRecDepth 100000 in
theorem bX0_addWitness {own : String} {idx : Nat} : KB own idx yX0_addWitness cX0_addWitness 2 none 1 := ⟨aw_mem_ws (i := 651) rfl rfl, h_ini_X0, ⟨⟨by decide, by decide⟩, by decide +kernel⟩⟩
theorem biX0_addWitness : Cond.instanceMethod yX0_addWitness ∈ WS ∧ Cond.selects RX0 yX0_addWitness yX0_addWitness ∈ WS := ⟨ws_of 650 (by decide +kernel), ws_of 22 (by decide +kernel)⟩
theorem k_X8_201 : KVN RX8 201 yX0_addWitness cX0_addWitness 2 none 1 := ⟨bX0_addWitness, ⟨"DeedProtocol", ws_of 648 (by decide +kernel)⟩, biX0_addWitness.1, biX0_addWitness.2⟩
set_option maxRecDepth 100000 in
theorem bJ6_bitCount_0f7a4 {own : String} {idx : Nat} : KB own idx yJ6_bitCount_0f7a4 cJ6_bitCount_0f7a4 1 (some .int) 1 := ⟨aw_mem_ws (i := 654) rfl rfl, h_ini_J6, ⟨⟨by decide, by decide⟩, by decide +kernel⟩⟩
theorem bsJ6_bitCount_0f7a4 : Cond.static yJ6_bitCount_0f7a4 ∈ WS := ws_of 653 (by decide +kernel)
theorem k_X0_67 : KS RX0 67 yJ6_bitCount_0f7a4 cJ6_bitCount_0f7a4 1 (some .int) 1 := ⟨bJ6_bitCount_0f7a4, ws_of 652 (by decide +kernel), bsJ6_bitCount_0f7a4⟩
set_option maxRecDepth 100000 in
theorem bX8_close {own : String} {idx : Nat} : KB own idx yX8_close cX8_close 3 (some .int) 1 := ⟨aw_mem_ws (i := 661) rfl rfl, h_ini_X8, ⟨⟨by decide, by decide⟩, by decide +kernel⟩⟩
theorem biX8_close : Cond.instanceMethod yX8_close ∈ WS ∧ Cond.selects RX8 yX8_close yX8_close ∈ WS := ⟨ws_of 659 (by decide +kernel), ws_of 660 (by decide +kernel)⟩
theorem k_L_35 : KV RL 35 yX8_close cX8_close 3 (some .int) 1 := ⟨bX8_close, ws_of 658 (by decide +kernel), biX8_close.1, biX8_close.2⟩
set_option maxRecDepth 100000 in
theorem bX8_stateByParts {own : String} {idx : Nat} : KB own idx yX8_stateByParts cX8_stateByParts 2 (some .int) 1 := ⟨aw_mem_ws (i := 665) rfl rfl, h_ini_X8, ⟨⟨by decide, by decide⟩, by decide +kernel⟩⟩
theorem bsX8_stateByParts : Cond.static yX8_stateByParts ∈ WS := ws_of 664 (by decide +kernel)
theorem k_X8_218 : KS RX8 218 yX8_stateByParts cX8_stateByParts 2 (some .int) 1 := ⟨bX8_stateByParts, ws_of 663 (by decide +kernel), bsX8_stateByParts⟩
set_option maxRecDepth 100000 in
theorem bX8_neededParts {own : String} {idx : Nat} : KB own idx yX8_neededParts cX8_neededParts 3 (some .int) 1 := ⟨aw_mem_ws (i := 668) rfl rfl, h_ini_X8, ⟨⟨by decide, by decide⟩, by decide +kernel⟩⟩
theorem bsX8_neededParts : Cond.static yX8_neededParts ∈ WS := ws_of 667 (by decide +kernel)
theorem k_X8_424 : KS RX8 424 yX8_neededParts cX8_neededParts 3 (some .int) 1 := ⟨bX8_neededParts, ws_of 666 (by decide +kernel), bsX8_neededParts⟩
set_option maxRecDepth 100000 in
theorem bX4_append {own : String} {idx : Nat} : KB own idx yX4_append cX4_append 2 none 1 := ⟨aw_mem_ws (i := 672) rfl rfl, h_ini_X4, ⟨⟨by decide, by decide⟩, by decide +kernel⟩⟩
theorem biX4_append : Cond.instanceMethod yX4_append ∈ WS ∧ Cond.selects RX4 yX4_append yX4_append ∈ WS := ⟨ws_of 671 (by decide +kernel), ws_of 23 (by decide +kernel)⟩
theorem k_X8_228 : KVN RX8 228 yX4_append cX4_append 2 none 1 := ⟨bX4_append, ⟨"DeedProtocol", ws_of 669 (by decide +kernel)⟩, biX4_append.1, biX4_append.2⟩
set_option maxRecDepth 100000 in
theorem bX8_revoke {own : String} {idx : Nat} : KB own idx yX8_revoke cX8_revoke 6 (some .boolean) 2 := ⟨aw_mem_ws (i := 676) rfl rfl, h_ini_X8, ⟨⟨by decide, by decide⟩, by decide +kernel⟩⟩
theorem biX8_revoke : Cond.instanceMethod yX8_revoke ∈ WS ∧ Cond.selects RX8 yX8_revoke yX8_revoke ∈ WS := ⟨ws_of 674 (by decide +kernel), ws_of 675 (by decide +kernel)⟩
theorem k_L_39 : KV RL 39 yX8_revoke cX8_revoke 6 (some .boolean) 2 := ⟨bX8_revoke, ws_of 673 (by decide +kernel), biX8_revoke.1, biX8_revoke.2⟩
set_option maxRecDepth 100000 in
theorem bX8_copy {own : String} {idx : Nat} : KB own idx yX8_copy cX8_copy 4 (some .int) 1 := ⟨aw_mem_ws (i := 681) rfl rfl, h_ini_X8, ⟨⟨by decide, by decide⟩, by decide +kernel⟩⟩
theorem biX8_copy : Cond.instanceMethod yX8_copy ∈ WS ∧ Cond.selects RX8 yX8_copy yX8_copy ∈ WS := ⟨ws_of 679 (by decide +kernel), ws_of 680 (by decide +kernel)⟩
theorem k_L_43 : KV RL 43 yX8_copy cX8_copy 4 (some .int) 1 := ⟨bX8_copy, ws_of 678 (by decide +kernel), biX8_copy.1, biX8_copy.2⟩
set_option maxRecDepth 100000 in
theorem bX4_leastGrade {own : String} {idx : Nat} : KB own idx yX4_leastGrade cX4_leastGrade 1 (some .int) 0 := ⟨aw_mem_ws (i := 686) rfl rfl, h_ini_X4, ⟨⟨by decide, by decide⟩, by decide +kernel⟩⟩
theorem biX4_leastGrade : Cond.instanceMethod yX4_leastGrade ∈ WS ∧ Cond.selects RX4 yX4_leastGrade yX4_leastGrade ∈ WS := ⟨ws_of 685 (by decide +kernel), ws_of 24 (by decide +kernel)⟩
theorem k_X8_286 : KVN RX8 286 yX4_leastGrade cX4_leastGrade 1 (some .int) 0 := ⟨bX4_leastGrade, ⟨"DeedProtocol", ws_of 683 (by decide +kernel)⟩, biX4_leastGrade.1, biX4_leastGrade.2⟩
set_option maxRecDepth 100000 in
theorem bX8_lose {own : String} {idx : Nat} : KB own idx yX8_lose cX8_lose 3 (some .int) 1 := ⟨aw_mem_ws (i := 690) rfl rfl, h_ini_X8, ⟨⟨by decide, by decide⟩, by decide +kernel⟩⟩
theorem biX8_lose : Cond.instanceMethod yX8_lose ∈ WS ∧ Cond.selects RX8 yX8_lose yX8_lose ∈ WS := ⟨ws_of 688 (by decide +kernel), ws_of 689 (by decide +kernel)⟩
theorem k_L_46 : KV RL 46 yX8_lose cX8_lose 3 (some .int) 1 := ⟨bX8_lose, ws_of 687 (by decide +kernel), biX8_lose.1, biX8_lose.2⟩
set_option maxRecDepth 100000 in
theorem bX4_dropFirst {own : String} {idx : Nat} : KB own idx yX4_dropFirst cX4_dropFirst 2 none 0 := ⟨aw_mem_ws (i := 695) rfl rfl, h_ini_X4, ⟨⟨by decide, by decide⟩, by decide +kernel⟩⟩
theorem biX4_dropFirst : Cond.instanceMethod yX4_dropFirst ∈ WS ∧ Cond.selects RX4 yX4_dropFirst yX4_dropFirst ∈ WS := ⟨ws_of 694 (by decide +kernel), ws_of 25 (by decide +kernel)⟩
theorem k_X8_291 : KVN RX8 291 yX4_dropFirst cX4_dropFirst 2 none 0 := ⟨bX4_dropFirst, ⟨"DeedProtocol", ws_of 692 (by decide +kernel)⟩, biX4_dropFirst.1, biX4_dropFirst.2⟩
set_option maxRecDepth 100000 in
theorem bX8_enter {own : String} {idx : Nat} : KB own idx yX8_enter cX8_enter 5 (some .int) 1 := ⟨aw_mem_ws (i := 699) rfl rfl, h_ini_X8, ⟨⟨by decide, by decide⟩, by decide +kernel⟩⟩
theorem biX8_enter : Cond.instanceMethod yX8_enter ∈ WS ∧ Cond.selects RX8 yX8_enter yX8_enter ∈ WS := ⟨ws_of 697 (by decide +kernel), ws_of 698 (by decide +kernel)⟩
theorem k_L_49 : KV RL 49 yX8_enter cX8_enter 5 (some .int) 1 := ⟨bX8_enter, ws_of 696 (by decide +kernel), biX8_enter.1, biX8_enter.2⟩
set_option maxRecDepth 100000 in
theorem bX8_isReadyToEnter {own : String} {idx : Nat} : KB own idx yX8_isReadyToEnter cX8_isReadyToEnter 2 (some .boolean) 1 := ⟨aw_mem_ws (i := 702) rfl rfl, h_ini_X8, ⟨⟨by decide, by decide⟩, by decide +kernel⟩⟩
theorem bsX8_isReadyToEnter : Cond.static yX8_isReadyToEnter ∈ WS := ws_of 701 (by decide +kernel)
theorem k_X8_298 : KS RX8 298 yX8_isReadyToEnter cX8_isReadyToEnter 2 (some .boolean) 1 := ⟨bX8_isReadyToEnter, ws_of 700 (by decide +kernel), bsX8_isReadyToEnter⟩
set_option maxRecDepth 100000 in
theorem bX8_moveOf {own : String} {idx : Nat} : KB own idx yX8_moveOf cX8_moveOf 1 (some (.object "DeedProtocol$Move")) 1 := ⟨aw_mem_ws (i := 706) rfl rfl, h_ini_X8, ⟨⟨by decide, by decide⟩, by decide +kernel⟩⟩
theorem bsX8_moveOf : Cond.static yX8_moveOf ∈ WS := ws_of 705 (by decide +kernel)
theorem k_X8_303 : KS RX8 303 yX8_moveOf cX8_moveOf 1 (some (.object "DeedProtocol$Move")) 1 := ⟨bX8_moveOf, ws_of 704 (by decide +kernel), bsX8_moveOf⟩
set_option maxRecDepth 100000 in
theorem bX3_init {own : String} {idx : Nat} : KB own idx yX3_init cX3_init 6 none 5 := ⟨aw_mem_ws (i := 711) rfl rfl, h_ini_X3, ⟨⟨by decide, by decide⟩, by decide +kernel⟩⟩
theorem biX3_init : Cond.instanceMethod yX3_init ∈ WS := ws_of 710 (by decide +kernel)
theorem k_X8_448 : KIN RX8 448 yX3_init cX3_init 6 5 := ⟨bX3_init, ⟨"DeedProtocol", ws_of 709 (by decide +kernel)⟩, rfl, biX3_init⟩
set_option maxRecDepth 100000 in
theorem bX6_has {own : String} {idx : Nat} : KB own idx yX6_has cX6_has 4 (some .boolean) 3 := ⟨aw_mem_ws (i := 737) rfl rfl, h_ini_X6, ⟨⟨by decide, by decide⟩, by decide +kernel⟩⟩
theorem biX6_has : Cond.instanceMethod yX6_has ∈ WS ∧ Cond.selects RX6 yX6_has yX6_has ∈ WS := ⟨ws_of 736 (by decide +kernel), ws_of 26 (by decide +kernel)⟩
theorem k_X8_316 : KVN RX8 316 yX6_has cX6_has 4 (some .boolean) 3 := ⟨bX6_has, ⟨"DeedProtocol", ws_of 734 (by decide +kernel)⟩, biX6_has.1, biX6_has.2⟩
set_option maxRecDepth 100000 in
theorem bX6_isHolder {own : String} {idx : Nat} : KB own idx yX6_isHolder cX6_isHolder 1 (some .boolean) 1 := ⟨aw_mem_ws (i := 740) rfl rfl, h_ini_X6, ⟨⟨by decide, by decide⟩, by decide +kernel⟩⟩
theorem bsX6_isHolder : Cond.static yX6_isHolder ∈ WS := ws_of 739 (by decide +kernel)
theorem k_X6_18 : KS RX6 18 yX6_isHolder cX6_isHolder 1 (some .boolean) 1 := ⟨bX6_isHolder, ws_of 738 (by decide +kernel), bsX6_isHolder⟩
set_option maxRecDepth 100000 in
theorem bX8_leavesSmallShares {own : String} {idx : Nat} : KB own idx yX8_leavesSmallShares cX8_leavesSmallShares 3 (some .boolean) 2 := ⟨aw_mem_ws (i := 744) rfl rfl, h_ini_X8, ⟨⟨by decide, by decide⟩, by decide +kernel⟩⟩
theorem biX8_leavesSmallShares : Cond.instanceMethod yX8_leavesSmallShares ∈ WS ∧ Cond.selects RX8 yX8_leavesSmallShares yX8_leavesSmallShares ∈ WS := ⟨ws_of 743 (by decide +kernel), ws_of 27 (by decide +kernel)⟩
theorem k_X8_320 : KV RX8 320 yX8_leavesSmallShares cX8_leavesSmallShares 3 (some .boolean) 2 := ⟨bX8_leavesSmallShares, ws_of 741 (by decide +kernel), biX8_leavesSmallShares.1, biX8_leavesSmallShares.2⟩
set_option maxRecDepth 100000 in
theorem bX6_copyFrom {own : String} {idx : Nat} : KB own idx yX6_copyFrom cX6_copyFrom 3 none 1 := ⟨aw_mem_ws (i := 748) rfl rfl, h_ini_X6, ⟨⟨by decide, by decide⟩, by decide +kernel⟩⟩
theorem biX6_copyFrom : Cond.instanceMethod yX6_copyFrom ∈ WS ∧ Cond.selects RX6 yX6_copyFrom yX6_copyFrom ∈ WS := ⟨ws_of 747 (by decide +kernel), ws_of 28 (by decide +kernel)⟩
theorem k_X8_451 : KVN RX8 451 yX6_copyFrom cX6_copyFrom 3 none 1 := ⟨bX6_copyFrom, ⟨"DeedProtocol", ws_of 745 (by decide +kernel)⟩, biX6_copyFrom.1, biX6_copyFrom.2⟩
set_option maxRecDepth 100000 in
theorem bX6_carryOut {own : String} {idx : Nat} : KB own idx yX6_carryOut cX6_carryOut 2 none 1 := ⟨aw_mem_ws (i := 752) rfl rfl, h_ini_X6, ⟨⟨by decide, by decide⟩, by decide +kernel⟩⟩
theorem biX6_carryOut : Cond.instanceMethod yX6_carryOut ∈ WS ∧ Cond.selects RX6 yX6_carryOut yX6_carryOut ∈ WS := ⟨ws_of 751 (by decide +kernel), ws_of 29 (by decide +kernel)⟩
theorem k_X8_394 : KVN RX8 394 yX6_carryOut cX6_carryOut 2 none 1 := ⟨bX6_carryOut, ⟨"DeedProtocol", ws_of 749 (by decide +kernel)⟩, biX6_carryOut.1, biX6_carryOut.2⟩
set_option maxRecDepth 100000 in
theorem bX6_change {own : String} {idx : Nat} : KB own idx yX6_change cX6_change 14 none 3 := ⟨aw_mem_ws (i := 756) rfl rfl, h_ini_X6, ⟨⟨by decide, by decide⟩, by decide +kernel⟩⟩
theorem biX6_change : Cond.instanceMethod yX6_change ∈ WS ∧ Cond.selects RX6 yX6_change yX6_change ∈ WS := ⟨ws_of 755 (by decide +kernel), ws_of 30 (by decide +kernel)⟩
theorem k_X6_37 : KV RX6 37 yX6_change cX6_change 14 none 3 := ⟨bX6_change, ws_of 753 (by decide +kernel), biX6_change.1, biX6_change.2⟩
set_option maxRecDepth 100000 in
theorem bX6_commonDivisor {own : String} {idx : Nat} : KB own idx yX6_commonDivisor cX6_commonDivisor 11 (some .long) 2 := ⟨aw_mem_ws (i := 759) rfl rfl, h_ini_X6, ⟨⟨by decide, by decide⟩, by decide +kernel⟩⟩
theorem bsX6_commonDivisor : Cond.static yX6_commonDivisor ∈ WS := ws_of 758 (by decide +kernel)
theorem k_X6_54 : KS RX6 54 yX6_commonDivisor cX6_commonDivisor 11 (some .long) 2 := ⟨bX6_commonDivisor, ws_of 757 (by decide +kernel), bsX6_commonDivisor⟩
set_option maxRecDepth 100000 in
theorem bX6_bequeath {own : String} {idx : Nat} : KB own idx yX6_bequeath cX6_bequeath 11 none 3 := ⟨aw_mem_ws (i := 763) rfl rfl, h_ini_X6, ⟨⟨by decide, by decide⟩, by decide +kernel⟩⟩
theorem biX6_bequeath : Cond.instanceMethod yX6_bequeath ∈ WS ∧ Cond.selects RX6 yX6_bequeath yX6_bequeath ∈ WS := ⟨ws_of 762 (by decide +kernel), ws_of 31 (by decide +kernel)⟩
theorem k_X6_44 : KV RX6 44 yX6_bequeath cX6_bequeath 11 none 3 := ⟨bX6_bequeath, ws_of 760 (by decide +kernel), biX6_bequeath.1, biX6_bequeath.2⟩
theorem k_X6_48 : KS RX6 48 yJ6_bitCount_0f7a4 cJ6_bitCount_0f7a4 1 (some .int) 1 := ⟨bJ6_bitCount_0f7a4, ws_of 764 (by decide +kernel), bsJ6_bitCount_0f7a4⟩
set_option maxRecDepth 100000 in
theorem bX6_areSmall {own : String} {idx : Nat} : KB own idx yX6_areSmall cX6_areSmall 2 (some .boolean) 0 := ⟨aw_mem_ws (i := 768) rfl rfl, h_ini_X6, ⟨⟨by decide, by decide⟩, by decide +kernel⟩⟩
theorem biX6_areSmall : Cond.instanceMethod yX6_areSmall ∈ WS ∧ Cond.selects RX6 yX6_areSmall yX6_areSmall ∈ WS := ⟨ws_of 767 (by decide +kernel), ws_of 32 (by decide +kernel)⟩
theorem k_X8_455 : KVN RX8 455 yX6_areSmall cX6_areSmall 2 (some .boolean) 0 := ⟨bX6_areSmall, ⟨"DeedProtocol", ws_of 765 (by decide +kernel)⟩, biX6_areSmall.1, biX6_areSmall.2⟩
set_option maxRecDepth 100000 in
theorem bX8_dutyOf {own : String} {idx : Nat} : KB own idx yX8_dutyOf cX8_dutyOf 4 (some .long) 2 := ⟨aw_mem_ws (i := 773) rfl rfl, h_ini_X8, ⟨⟨by decide, by decide⟩, by decide +kernel⟩⟩
theorem bsX8_dutyOf : Cond.static yX8_dutyOf ∈ WS := ws_of 772 (by decide +kernel)
theorem k_X8_326 : KS RX8 326 yX8_dutyOf cX8_dutyOf 4 (some .long) 2 := ⟨bX8_dutyOf, ws_of 771 (by decide +kernel), bsX8_dutyOf⟩
set_option maxRecDepth 100000 in
theorem bX1_init {own : String} {idx : Nat} : KB own idx yX1_init cX1_init 6 none 5 := ⟨aw_mem_ws (i := 780) rfl rfl, h_ini_X1, ⟨⟨by decide, by decide⟩, by decide +kernel⟩⟩
theorem biX1_init : Cond.instanceMethod yX1_init ∈ WS := ws_of 779 (by decide +kernel)
theorem k_X8_333 : KIN RX8 333 yX1_init cX1_init 6 5 := ⟨bX1_init, ⟨"DeedProtocol", ws_of 778 (by decide +kernel)⟩, rfl, biX1_init⟩
set_option maxRecDepth 100000 in
theorem bX8_keepEntry {own : String} {idx : Nat} : KB own idx yX8_keepEntry cX8_keepEntry 2 none 1 := ⟨aw_mem_ws (i := 806) rfl rfl, h_ini_X8, ⟨⟨by decide, by decide⟩, by decide +kernel⟩⟩
theorem biX8_keepEntry : Cond.instanceMethod yX8_keepEntry ∈ WS ∧ Cond.selects RX8 yX8_keepEntry yX8_keepEntry ∈ WS := ⟨ws_of 805 (by decide +kernel), ws_of 33 (by decide +kernel)⟩
theorem k_X8_336 : KV RX8 336 yX8_keepEntry cX8_keepEntry 2 none 1 := ⟨bX8_keepEntry, ws_of 803 (by decide +kernel), biX8_keepEntry.1, biX8_keepEntry.2⟩
set_option maxRecDepth 100000 in
theorem bX8_die {own : String} {idx : Nat} : KB own idx yX8_die cX8_die 7 (some .int) 1 := ⟨aw_mem_ws (i := 810) rfl rfl, h_ini_X8, ⟨⟨by decide, by decide⟩, by decide +kernel⟩⟩
theorem biX8_die : Cond.instanceMethod yX8_die ∈ WS ∧ Cond.selects RX8 yX8_die yX8_die ∈ WS := ⟨ws_of 808 (by decide +kernel), ws_of 809 (by decide +kernel)⟩
theorem k_L_52 : KV RL 52 yX8_die cX8_die 7 (some .int) 1 := ⟨bX8_die, ws_of 807 (by decide +kernel), biX8_die.1, biX8_die.2⟩
set_option maxRecDepth 100000 in
theorem bX8_successionOf {own : String} {idx : Nat} : KB own idx yX8_successionOf cX8_successionOf 6 (some (.object "DeedProtocol$Move")) 1 := ⟨aw_mem_ws (i := 815) rfl rfl, h_ini_X8, ⟨⟨by decide, by decide⟩, by decide +kernel⟩⟩
theorem biX8_successionOf : Cond.instanceMethod yX8_successionOf ∈ WS ∧ Cond.selects RX8 yX8_successionOf yX8_successionOf ∈ WS := ⟨ws_of 814 (by decide +kernel), ws_of 34 (by decide +kernel)⟩
theorem k_X8_342 : KV RX8 342 yX8_successionOf cX8_successionOf 6 (some (.object "DeedProtocol$Move")) 1 := ⟨bX8_successionOf, ws_of 812 (by decide +kernel), biX8_successionOf.1, biX8_successionOf.2⟩
set_option maxRecDepth 100000 in
theorem bX8_livingChildren {own : String} {idx : Nat} : KB own idx yX8_livingChildren cX8_livingChildren 5 (some .int) 1 := ⟨aw_mem_ws (i := 819) rfl rfl, h_ini_X8, ⟨⟨by decide, by decide⟩, by decide +kernel⟩⟩
theorem biX8_livingChildren : Cond.instanceMethod yX8_livingChildren ∈ WS ∧ Cond.selects RX8 yX8_livingChildren yX8_livingChildren ∈ WS := ⟨ws_of 818 (by decide +kernel), ws_of 35 (by decide +kernel)⟩
theorem k_X8_467 : KV RX8 467 yX8_livingChildren cX8_livingChildren 5 (some .int) 1 := ⟨bX8_livingChildren, ws_of 816 (by decide +kernel), biX8_livingChildren.1, biX8_livingChildren.2⟩
set_option maxRecDepth 100000 in
theorem bX8_countingWill {own : String} {idx : Nat} : KB own idx yX8_countingWill cX8_countingWill 5 (some (.object "DeedProtocol$Deed")) 1 := ⟨aw_mem_ws (i := 823) rfl rfl, h_ini_X8, ⟨⟨by decide, by decide⟩, by decide +kernel⟩⟩
theorem biX8_countingWill : Cond.instanceMethod yX8_countingWill ∈ WS ∧ Cond.selects RX8 yX8_countingWill yX8_countingWill ∈ WS := ⟨ws_of 822 (by decide +kernel), ws_of 36 (by decide +kernel)⟩
theorem k_X8_471 : KV RX8 471 yX8_countingWill cX8_countingWill 5 (some (.object "DeedProtocol$Deed")) 1 := ⟨bX8_countingWill, ws_of 820 (by decide +kernel), biX8_countingWill.1, biX8_countingWill.2⟩
set_option maxRecDepth 100000 in
theorem bX8_isStandingWillOf {own : String} {idx : Nat} : KB own idx yX8_isStandingWillOf cX8_isStandingWillOf 2 (some .boolean) 2 := ⟨aw_mem_ws (i := 826) rfl rfl, h_ini_X8, ⟨⟨by decide, by decide⟩, by decide +kernel⟩⟩
theorem bsX8_isStandingWillOf : Cond.static yX8_isStandingWillOf ∈ WS := ws_of 825 (by decide +kernel)
theorem k_X8_482 : KS RX8 482 yX8_isStandingWillOf cX8_isStandingWillOf 2 (some .boolean) 2 := ⟨bX8_isStandingWillOf, ws_of 824 (by decide +kernel), bsX8_isStandingWillOf⟩
set_option maxRecDepth 100000 in
theorem bX8_goesBefore {own : String} {idx : Nat} : KB own idx yX8_goesBefore cX8_goesBefore 2 (some .boolean) 2 := ⟨aw_mem_ws (i := 829) rfl rfl, h_ini_X8, ⟨⟨by decide, by decide⟩, by decide +kernel⟩⟩
theorem bsX8_goesBefore : Cond.static yX8_goesBefore ∈ WS := ws_of 828 (by decide +kernel)
theorem k_X8_485 : KS RX8 485 yX8_goesBefore cX8_goesBefore 2 (some .boolean) 2 := ⟨bX8_goesBefore, ws_of 827 (by decide +kernel), bsX8_goesBefore⟩
set_option maxRecDepth 100000 in
theorem bX8_heirsOf {own : String} {idx : Nat} : KB own idx yX8_heirsOf cX8_heirsOf 4 (some .int) 2 := ⟨aw_mem_ws (i := 833) rfl rfl, h_ini_X8, ⟨⟨by decide, by decide⟩, by decide +kernel⟩⟩
theorem biX8_heirsOf : Cond.instanceMethod yX8_heirsOf ∈ WS ∧ Cond.selects RX8 yX8_heirsOf yX8_heirsOf ∈ WS := ⟨ws_of 832 (by decide +kernel), ws_of 37 (by decide +kernel)⟩
theorem k_X8_475 : KV RX8 475 yX8_heirsOf cX8_heirsOf 4 (some .int) 2 := ⟨bX8_heirsOf, ws_of 830 (by decide +kernel), biX8_heirsOf.1, biX8_heirsOf.2⟩
set_option maxRecDepth 100000 in
theorem bX8_livingParents {own : String} {idx : Nat} : KB own idx yX8_livingParents cX8_livingParents 5 (some .int) 1 := ⟨aw_mem_ws (i := 837) rfl rfl, h_ini_X8, ⟨⟨by decide, by decide⟩, by decide +kernel⟩⟩
theorem biX8_livingParents : Cond.instanceMethod yX8_livingParents ∈ WS ∧ Cond.selects RX8 yX8_livingParents yX8_livingParents ∈ WS := ⟨ws_of 836 (by decide +kernel), ws_of 38 (by decide +kernel)⟩
theorem k_X8_479 : KV RX8 479 yX8_livingParents cX8_livingParents 5 (some .int) 1 := ⟨bX8_livingParents, ws_of 834 (by decide +kernel), biX8_livingParents.1, biX8_livingParents.2⟩
set_option maxRecDepth 100000 in
theorem bX8_countEstateThings {own : String} {idx : Nat} : KB own idx yX8_countEstateThings cX8_countEstateThings 6 (some .int) 2 := ⟨aw_mem_ws (i := 841) rfl rfl, h_ini_X8, ⟨⟨by decide, by decide⟩, by decide +kernel⟩⟩
theorem biX8_countEstateThings : Cond.instanceMethod yX8_countEstateThings ∈ WS ∧ Cond.selects RX8 yX8_countEstateThings yX8_countEstateThings ∈ WS := ⟨ws_of 840 (by decide +kernel), ws_of 39 (by decide +kernel)⟩
theorem k_X8_346 : KV RX8 346 yX8_countEstateThings cX8_countEstateThings 6 (some .int) 2 := ⟨bX8_countEstateThings, ws_of 838 (by decide +kernel), biX8_countEstateThings.1, biX8_countEstateThings.2⟩
set_option maxRecDepth 100000 in
theorem bX6_isEmptyOf {own : String} {idx : Nat} : KB own idx yX6_isEmptyOf cX6_isEmptyOf 2 (some .boolean) 1 := ⟨aw_mem_ws (i := 845) rfl rfl, h_ini_X6, ⟨⟨by decide, by decide⟩, by decide +kernel⟩⟩
theorem biX6_isEmptyOf : Cond.instanceMethod yX6_isEmptyOf ∈ WS ∧ Cond.selects RX6 yX6_isEmptyOf yX6_isEmptyOf ∈ WS := ⟨ws_of 844 (by decide +kernel), ws_of 40 (by decide +kernel)⟩
theorem k_X8_359 : KVN RX8 359 yX6_isEmptyOf cX6_isEmptyOf 2 (some .boolean) 1 := ⟨bX6_isEmptyOf, ⟨"DeedProtocol", ws_of 842 (by decide +kernel)⟩, biX6_isEmptyOf.1, biX6_isEmptyOf.2⟩
set_option maxRecDepth 100000 in
theorem bX8_endGuardianships {own : String} {idx : Nat} : KB own idx yX8_endGuardianships cX8_endGuardianships 4 none 1 := ⟨aw_mem_ws (i := 851) rfl rfl, h_ini_X8, ⟨⟨by decide, by decide⟩, by decide +kernel⟩⟩
theorem biX8_endGuardianships : Cond.instanceMethod yX8_endGuardianships ∈ WS ∧ Cond.selects RX8 yX8_endGuardianships yX8_endGuardianships ∈ WS := ⟨ws_of 850 (by decide +kernel), ws_of 41 (by decide +kernel)⟩
theorem k_X8_352 : KV RX8 352 yX8_endGuardianships cX8_endGuardianships 4 none 1 := ⟨bX8_endGuardianships, ws_of 848 (by decide +kernel), biX8_endGuardianships.1, biX8_endGuardianships.2⟩
set_option maxRecDepth 100000 in
theorem bX8_child {own : String} {idx : Nat} : KB own idx yX8_child cX8_child 5 (some .int) 2 := ⟨aw_mem_ws (i := 855) rfl rfl, h_ini_X8, ⟨⟨by decide, by decide⟩, by decide +kernel⟩⟩
theorem biX8_child : Cond.instanceMethod yX8_child ∈ WS ∧ Cond.selects RX8 yX8_child yX8_child ∈ WS := ⟨ws_of 853 (by decide +kernel), ws_of 854 (by decide +kernel)⟩
theorem k_L_55 : KV RL 55 yX8_child cX8_child 5 (some .int) 2 := ⟨bX8_child, ws_of 852 (by decide +kernel), biX8_child.1, biX8_child.2⟩
set_option maxRecDepth 100000 in
theorem bX5_parentCount {own : String} {idx : Nat} : KB own idx yX5_parentCount cX5_parentCount 1 (some .int) 0 := ⟨aw_mem_ws (i := 860) rfl rfl, h_ini_X5, ⟨⟨by decide, by decide⟩, by decide +kernel⟩⟩
theorem biX5_parentCount : Cond.instanceMethod yX5_parentCount ∈ WS ∧ Cond.selects RX5 yX5_parentCount yX5_parentCount ∈ WS := ⟨ws_of 859 (by decide +kernel), ws_of 42 (by decide +kernel)⟩
theorem k_X8_77 : KVN RX8 77 yX5_parentCount cX5_parentCount 1 (some .int) 0 := ⟨bX5_parentCount, ⟨"DeedProtocol", ws_of 857 (by decide +kernel)⟩, biX5_parentCount.1, biX5_parentCount.2⟩
theorem k_X5_35 : KS RX5 35 yJ6_bitCount_0f7a4 cJ6_bitCount_0f7a4 1 (some .int) 1 := ⟨bJ6_bitCount_0f7a4, ws_of 861 (by decide +kernel), bsJ6_bitCount_0f7a4⟩
set_option maxRecDepth 100000 in
theorem bX5_addParent {own : String} {idx : Nat} : KB own idx yX5_addParent cX5_addParent 2 none 1 := ⟨aw_mem_ws (i := 866) rfl rfl, h_ini_X5, ⟨⟨by decide, by decide⟩, by decide +kernel⟩⟩
theorem biX5_addParent : Cond.instanceMethod yX5_addParent ∈ WS ∧ Cond.selects RX5 yX5_addParent yX5_addParent ∈ WS := ⟨ws_of 865 (by decide +kernel), ws_of 43 (by decide +kernel)⟩
theorem k_X8_90 : KVN RX8 90 yX5_addParent cX5_addParent 2 none 1 := ⟨bX5_addParent, ⟨"DeedProtocol", ws_of 863 (by decide +kernel)⟩, biX5_addParent.1, biX5_addParent.2⟩
set_option maxRecDepth 100000 in
theorem bX8_guard {own : String} {idx : Nat} : KB own idx yX8_guard cX8_guard 6 (some .int) 2 := ⟨aw_mem_ws (i := 870) rfl rfl, h_ini_X8, ⟨⟨by decide, by decide⟩, by decide +kernel⟩⟩
theorem biX8_guard : Cond.instanceMethod yX8_guard ∈ WS ∧ Cond.selects RX8 yX8_guard yX8_guard ∈ WS := ⟨ws_of 868 (by decide +kernel), ws_of 869 (by decide +kernel)⟩
theorem k_L_58 : KV RL 58 yX8_guard cX8_guard 6 (some .int) 2 := ⟨bX8_guard, ws_of 867 (by decide +kernel), biX8_guard.1, biX8_guard.2⟩
set_option maxRecDepth 100000 in
theorem bL_dies {own : String} {idx : Nat} : KB own idx yL_dies cL_dies 23 (some .int) 9 := ⟨aw_mem_ws (i := 874) rfl rfl, h_ini_L, ⟨⟨by decide, by decide⟩, by decide +kernel⟩⟩
theorem bsL_dies : Cond.static yL_dies ∈ WS := ws_of 873 (by decide +kernel)
theorem k_L_175 : KS RL 175 yL_dies cL_dies 23 (some .int) 9 := ⟨bL_dies, ws_of 872 (by decide +kernel), bsL_dies⟩
set_option maxRecDepth 100000 in
theorem bL_will {own : String} {idx : Nat} : KB own idx yL_will cL_will 11 (some .int) 6 := ⟨aw_mem_ws (i := 877) rfl rfl, h_ini_L, ⟨⟨by decide, by decide⟩, by decide +kernel⟩⟩
theorem bsL_will : Cond.static yL_will ∈ WS := ws_of 876 (by decide +kernel)
theorem k_L_93 : KS RL 93 yL_will cL_will 11 (some .int) 6 := ⟨bL_will, ws_of 875 (by decide +kernel), bsL_will⟩
set_option maxRecDepth 100000 in
theorem bL_below {own : String} {idx : Nat} : KB own idx yL_below cL_below 8 (some .long) 1 := ⟨aw_mem_ws (i := 881) rfl rfl, h_ini_L, ⟨⟨by decide, by decide⟩, by decide +kernel⟩⟩
theorem bsL_below : Cond.static yL_below ∈ WS := ws_of 880 (by decide +kernel)
theorem k_L_82 : KS RL 82 yL_below cL_below 8 (some .long) 1 := ⟨bL_below, ws_of 879 (by decide +kernel), bsL_below⟩
set_option maxRecDepth 100000 in
theorem bL_drafts {own : String} {idx : Nat} : KB own idx yL_drafts cL_drafts 16 (some .boolean) 6 := ⟨aw_mem_ws (i := 886) rfl rfl, h_ini_L, ⟨⟨by decide, by decide⟩, by decide +kernel⟩⟩
theorem bsL_drafts : Cond.static yL_drafts ∈ WS := ws_of 885 (by decide +kernel)
theorem k_L_167 : KS RL 167 yL_drafts cL_drafts 16 (some .boolean) 6 := ⟨bL_drafts, ws_of 884 (by decide +kernel), bsL_drafts⟩
set_option maxRecDepth 100000 in
theorem bL_acts {own : String} {idx : Nat} : KB own idx yL_acts cL_acts 21 (some .boolean) 16 := ⟨aw_mem_ws (i := 889) rfl rfl, h_ini_L, ⟨⟨by decide, by decide⟩, by decide +kernel⟩⟩
theorem bsL_acts : Cond.static yL_acts ∈ WS := ws_of 888 (by decide +kernel)
theorem k_L_171 : KS RL 171 yL_acts cL_acts 21 (some .boolean) 16 := ⟨bL_acts, ws_of 887 (by decide +kernel), bsL_acts⟩
set_option maxRecDepth 100000 in
theorem bL_signs {own : String} {idx : Nat} : KB own idx yL_signs cL_signs 17 (some .int) 12 := ⟨aw_mem_ws (i := 892) rfl rfl, h_ini_L, ⟨⟨by decide, by decide⟩, by decide +kernel⟩⟩
theorem bsL_signs : Cond.static yL_signs ∈ WS := ws_of 891 (by decide +kernel)
theorem k_L_105 : KS RL 105 yL_signs cL_signs 17 (some .int) 12 := ⟨bL_signs, ws_of 890 (by decide +kernel), bsL_signs⟩
set_option maxRecDepth 100000 in
theorem bL_able {own : String} {idx : Nat} : KB own idx yL_able cL_able 3 (some .boolean) 3 := ⟨aw_mem_ws (i := 895) rfl rfl, h_ini_L, ⟨⟨by decide, by decide⟩, by decide +kernel⟩⟩
theorem bsL_able : Cond.static yL_able ∈ WS := ws_of 894 (by decide +kernel)
theorem k_L_69 : KS RL 69 yL_able cL_able 3 (some .boolean) 3 := ⟨bL_able, ws_of 893 (by decide +kernel), bsL_able⟩
set_option maxRecDepth 100000 in
theorem bL_good {own : String} {idx : Nat} : KB own idx yL_good cL_good 11 (some .boolean) 8 := ⟨aw_mem_ws (i := 898) rfl rfl, h_ini_L, ⟨⟨by decide, by decide⟩, by decide +kernel⟩⟩
theorem bsL_good : Cond.static yL_good ∈ WS := ws_of 897 (by decide +kernel)
theorem k_L_73 : KS RL 73 yL_good cL_good 11 (some .boolean) 8 := ⟨bL_good, ws_of 896 (by decide +kernel), bsL_good⟩
set_option maxRecDepth 100000 in
theorem bL_alone {own : String} {idx : Nat} : KB own idx yL_alone cL_alone 9 (some .boolean) 7 := ⟨aw_mem_ws (i := 901) rfl rfl, h_ini_L, ⟨⟨by decide, by decide⟩, by decide +kernel⟩⟩
theorem bsL_alone : Cond.static yL_alone ∈ WS := ws_of 900 (by decide +kernel)
theorem k_L_63 : KS RL 63 yL_alone cL_alone 9 (some .boolean) 7 := ⟨bL_alone, ws_of 899 (by decide +kernel), bsL_alone⟩
set_option maxRecDepth 100000 in
theorem bL_kin {own : String} {idx : Nat} : KB own idx yL_kin cL_kin 3 (some .boolean) 3 := ⟨aw_mem_ws (i := 904) rfl rfl, h_ini_L, ⟨⟨by decide, by decide⟩, by decide +kernel⟩⟩
theorem bsL_kin : Cond.static yL_kin ∈ WS := ws_of 903 (by decide +kernel)
theorem k_L_89 : KS RL 89 yL_kin cL_kin 3 (some .boolean) 3 := ⟨bL_kin, ws_of 902 (by decide +kernel), bsL_kin⟩
set_option maxRecDepth 100000 in
theorem bL_closes {own : String} {idx : Nat} : KB own idx yL_closes cL_closes 16 (some .int) 9 := ⟨aw_mem_ws (i := 907) rfl rfl, h_ini_L, ⟨⟨by decide, by decide⟩, by decide +kernel⟩⟩
theorem bsL_closes : Cond.static yL_closes ∈ WS := ws_of 906 (by decide +kernel)
theorem k_L_109 : KS RL 109 yL_closes cL_closes 16 (some .int) 9 := ⟨bL_closes, ws_of 905 (by decide +kernel), bsL_closes⟩
set_option maxRecDepth 100000 in
theorem bL_least {own : String} {idx : Nat} : KB own idx yL_least cL_least 2 (some .int) 1 := ⟨aw_mem_ws (i := 910) rfl rfl, h_ini_L, ⟨⟨by decide, by decide⟩, by decide +kernel⟩⟩
theorem bsL_least : Cond.static yL_least ∈ WS := ws_of 909 (by decide +kernel)
theorem k_L_79 : KS RL 79 yL_least cL_least 2 (some .int) 1 := ⟨bL_least, ws_of 908 (by decide +kernel), bsL_least⟩
set_option maxRecDepth 100000 in
theorem bL_many {own : String} {idx : Nat} : KB own idx yL_many cL_many 3 (some .int) 1 := ⟨aw_mem_ws (i := 913) rfl rfl, h_ini_L, ⟨⟨by decide, by decide⟩, by decide +kernel⟩⟩
theorem bsL_many : Cond.static yL_many ∈ WS := ws_of 912 (by decide +kernel)
theorem k_L_113 : KS RL 113 yL_many cL_many 3 (some .int) 1 := ⟨bL_many, ws_of 911 (by decide +kernel), bsL_many⟩
set_option maxRecDepth 100000 in
theorem bL_enters {own : String} {idx : Nat} : KB own idx yL_enters cL_enters 18 (some .int) 10 := ⟨aw_mem_ws (i := 916) rfl rfl, h_ini_L, ⟨⟨by decide, by decide⟩, by decide +kernel⟩⟩
theorem bsL_enters : Cond.static yL_enters ∈ WS := ws_of 915 (by decide +kernel)
theorem k_L_116 : KS RL 116 yL_enters cL_enters 18 (some .int) 10 := ⟨bL_enters, ws_of 914 (by decide +kernel), bsL_enters⟩
set_option maxRecDepth 100000 in
theorem bL_same {own : String} {idx : Nat} : KB own idx yL_same cL_same 21 (some .boolean) 15 := ⟨aw_mem_ws (i := 920) rfl rfl, h_ini_L, ⟨⟨by decide, by decide⟩, by decide +kernel⟩⟩
theorem bsL_same : Cond.static yL_same ∈ WS := ws_of 919 (by decide +kernel)
theorem k_L_182 : KS RL 182 yL_same cL_same 21 (some .boolean) 15 := ⟨bL_same, ws_of 918 (by decide +kernel), bsL_same⟩
set_option maxRecDepth 100000 in
theorem bX8_entries {own : String} {idx : Nat} : KB own idx yX8_entries cX8_entries 1 (some .int) 0 := ⟨aw_mem_ws (i := 924) rfl rfl, h_ini_X8, ⟨⟨by decide, by decide⟩, by decide +kernel⟩⟩
theorem biX8_entries : Cond.instanceMethod yX8_entries ∈ WS ∧ Cond.selects RX8 yX8_entries yX8_entries ∈ WS := ⟨ws_of 922 (by decide +kernel), ws_of 923 (by decide +kernel)⟩
theorem k_L_120 : KV RL 120 yX8_entries cX8_entries 1 (some .int) 0 := ⟨bX8_entries, ws_of 921 (by decide +kernel), biX8_entries.1, biX8_entries.2⟩
set_option maxRecDepth 100000 in
theorem bX8_duties {own : String} {idx : Nat} : KB own idx yX8_duties cX8_duties 1 (some .long) 0 := ⟨aw_mem_ws (i := 928) rfl rfl, h_ini_X8, ⟨⟨by decide, by decide⟩, by decide +kernel⟩⟩
theorem biX8_duties : Cond.instanceMethod yX8_duties ∈ WS ∧ Cond.selects RX8 yX8_duties yX8_duties ∈ WS := ⟨ws_of 926 (by decide +kernel), ws_of 927 (by decide +kernel)⟩
theorem k_L_124 : KV RL 124 yX8_duties cX8_duties 1 (some .long) 0 := ⟨bX8_duties, ws_of 925 (by decide +kernel), biX8_duties.1, biX8_duties.2⟩
set_option maxRecDepth 100000 in
theorem bX8_isAble {own : String} {idx : Nat} : KB own idx yX8_isAble cX8_isAble 2 (some .boolean) 1 := ⟨aw_mem_ws (i := 932) rfl rfl, h_ini_X8, ⟨⟨by decide, by decide⟩, by decide +kernel⟩⟩
theorem biX8_isAble : Cond.instanceMethod yX8_isAble ∈ WS ∧ Cond.selects RX8 yX8_isAble yX8_isAble ∈ WS := ⟨ws_of 930 (by decide +kernel), ws_of 931 (by decide +kernel)⟩
theorem k_L_128 : KV RL 128 yX8_isAble cX8_isAble 2 (some .boolean) 1 := ⟨bX8_isAble, ws_of 929 (by decide +kernel), biX8_isAble.1, biX8_isAble.2⟩
set_option maxRecDepth 100000 in
theorem bX8_share {own : String} {idx : Nat} : KB own idx yX8_share cX8_share 5 (some .int) 3 := ⟨aw_mem_ws (i := 936) rfl rfl, h_ini_X8, ⟨⟨by decide, by decide⟩, by decide +kernel⟩⟩
theorem biX8_share : Cond.instanceMethod yX8_share ∈ WS ∧ Cond.selects RX8 yX8_share yX8_share ∈ WS := ⟨ws_of 934 (by decide +kernel), ws_of 935 (by decide +kernel)⟩
theorem k_L_132 : KV RL 132 yX8_share cX8_share 5 (some .int) 3 := ⟨bX8_share, ws_of 933 (by decide +kernel), biX8_share.1, biX8_share.2⟩
set_option maxRecDepth 100000 in
theorem bX8_holderAt {own : String} {idx : Nat} : KB own idx yX8_holderAt cX8_holderAt 2 (some .int) 1 := ⟨aw_mem_ws (i := 940) rfl rfl, h_ini_X8, ⟨⟨by decide, by decide⟩, by decide +kernel⟩⟩
theorem biX8_holderAt : Cond.instanceMethod yX8_holderAt ∈ WS ∧ Cond.selects RX8 yX8_holderAt yX8_holderAt ∈ WS := ⟨ws_of 939 (by decide +kernel), ws_of 44 (by decide +kernel)⟩
theorem k_X8_376 : KV RX8 376 yX8_holderAt cX8_holderAt 2 (some .int) 1 := ⟨bX8_holderAt, ws_of 937 (by decide +kernel), biX8_holderAt.1, biX8_holderAt.2⟩
set_option maxRecDepth 100000 in
theorem bX6_termOf {own : String} {idx : Nat} : KB own idx yX6_termOf cX6_termOf 3 (some .int) 2 := ⟨aw_mem_ws (i := 944) rfl rfl, h_ini_X6, ⟨⟨by decide, by decide⟩, by decide +kernel⟩⟩
theorem biX6_termOf : Cond.instanceMethod yX6_termOf ∈ WS ∧ Cond.selects RX6 yX6_termOf yX6_termOf ∈ WS := ⟨ws_of 943 (by decide +kernel), ws_of 45 (by decide +kernel)⟩
theorem k_X8_380 : KVN RX8 380 yX6_termOf cX6_termOf 3 (some .int) 2 := ⟨bX6_termOf, ⟨"DeedProtocol", ws_of 941 (by decide +kernel)⟩, biX6_termOf.1, biX6_termOf.2⟩
set_option maxRecDepth 100000 in
theorem bX8_pledge {own : String} {idx : Nat} : KB own idx yX8_pledge cX8_pledge 7 (some .int) 2 := ⟨aw_mem_ws (i := 948) rfl rfl, h_ini_X8, ⟨⟨by decide, by decide⟩, by decide +kernel⟩⟩
theorem biX8_pledge : Cond.instanceMethod yX8_pledge ∈ WS ∧ Cond.selects RX8 yX8_pledge yX8_pledge ∈ WS := ⟨ws_of 946 (by decide +kernel), ws_of 947 (by decide +kernel)⟩
theorem k_L_136 : KV RL 136 yX8_pledge cX8_pledge 7 (some .int) 2 := ⟨bX8_pledge, ws_of 945 (by decide +kernel), biX8_pledge.1, biX8_pledge.2⟩
set_option maxRecDepth 100000 in
theorem bX8_entry {own : String} {idx : Nat} : KB own idx yX8_entry cX8_entry 4 (some .int) 2 := ⟨aw_mem_ws (i := 953) rfl rfl, h_ini_X8, ⟨⟨by decide, by decide⟩, by decide +kernel⟩⟩
theorem biX8_entry : Cond.instanceMethod yX8_entry ∈ WS ∧ Cond.selects RX8 yX8_entry yX8_entry ∈ WS := ⟨ws_of 951 (by decide +kernel), ws_of 952 (by decide +kernel)⟩
theorem k_L_139 : KV RL 139 yX8_entry cX8_entry 4 (some .int) 2 := ⟨bX8_entry, ws_of 950 (by decide +kernel), biX8_entry.1, biX8_entry.2⟩
set_option maxRecDepth 100000 in
theorem bX8_deed {own : String} {idx : Nat} : KB own idx yX8_deed cX8_deed 4 (some .int) 2 := ⟨aw_mem_ws (i := 959) rfl rfl, h_ini_X8, ⟨⟨by decide, by decide⟩, by decide +kernel⟩⟩
theorem biX8_deed : Cond.instanceMethod yX8_deed ∈ WS ∧ Cond.selects RX8 yX8_deed yX8_deed ∈ WS := ⟨ws_of 957 (by decide +kernel), ws_of 958 (by decide +kernel)⟩
theorem k_L_142 : KV RL 142 yX8_deed cX8_deed 4 (some .int) 2 := ⟨bX8_deed, ws_of 956 (by decide +kernel), biX8_deed.1, biX8_deed.2⟩
set_option maxRecDepth 100000 in
theorem bX8_proof {own : String} {idx : Nat} : KB own idx yX8_proof cX8_proof 2 (some .int) 1 := ⟨aw_mem_ws (i := 963) rfl rfl, h_ini_X8, ⟨⟨by decide, by decide⟩, by decide +kernel⟩⟩
theorem biX8_proof : Cond.instanceMethod yX8_proof ∈ WS ∧ Cond.selects RX8 yX8_proof yX8_proof ∈ WS := ⟨ws_of 961 (by decide +kernel), ws_of 962 (by decide +kernel)⟩
theorem k_L_145 : KV RL 145 yX8_proof cX8_proof 2 (some .int) 1 := ⟨bX8_proof, ws_of 960 (by decide +kernel), biX8_proof.1, biX8_proof.2⟩
set_option maxRecDepth 100000 in
theorem bX8_isGood {own : String} {idx : Nat} : KB own idx yX8_isGood cX8_isGood 2 (some .boolean) 1 := ⟨aw_mem_ws (i := 967) rfl rfl, h_ini_X8, ⟨⟨by decide, by decide⟩, by decide +kernel⟩⟩
theorem biX8_isGood : Cond.instanceMethod yX8_isGood ∈ WS ∧ Cond.selects RX8 yX8_isGood yX8_isGood ∈ WS := ⟨ws_of 965 (by decide +kernel), ws_of 966 (by decide +kernel)⟩
theorem k_L_148 : KV RL 148 yX8_isGood cX8_isGood 2 (some .boolean) 1 := ⟨bX8_isGood, ws_of 964 (by decide +kernel), biX8_isGood.1, biX8_isGood.2⟩
set_option maxRecDepth 100000 in
theorem bX8_label {own : String} {idx : Nat} : KB own idx yX8_label cX8_label 5 (some .char) 2 := ⟨aw_mem_ws (i := 971) rfl rfl, h_ini_X8, ⟨⟨by decide, by decide⟩, by decide +kernel⟩⟩
theorem biX8_label : Cond.instanceMethod yX8_label ∈ WS ∧ Cond.selects RX8 yX8_label yX8_label ∈ WS := ⟨ws_of 969 (by decide +kernel), ws_of 970 (by decide +kernel)⟩
theorem k_L_151 : KV RL 151 yX8_label cX8_label 5 (some .char) 2 := ⟨bX8_label, ws_of 968 (by decide +kernel), biX8_label.1, biX8_label.2⟩
set_option maxRecDepth 100000 in
theorem bJ4_init_da8c8 {own : String} {idx : Nat} : KB own idx yJ4_init_da8c8 cJ4_init_da8c8 1 none 0 := ⟨aw_mem_ws (i := 977) rfl rfl, h_ini_J4, ⟨⟨by decide, by decide⟩, by decide +kernel⟩⟩
theorem biJ4_init_da8c8 : Cond.instanceMethod yJ4_init_da8c8 ∈ WS := ws_of 976 (by decide +kernel)
theorem k_X8_249 : KI RX8 249 yJ4_init_da8c8 cJ4_init_da8c8 1 0 := ⟨bJ4_init_da8c8, ws_of 975 (by decide +kernel), rfl, biJ4_init_da8c8⟩
set_option maxRecDepth 100000 in
theorem bJ5_init_d00df {own : String} {idx : Nat} : KB own idx yJ5_init_d00df cJ5_init_d00df 2 none 1 := ⟨aw_mem_ws (i := 980) rfl rfl, h_ini_J5, ⟨⟨by decide, by decide⟩, by decide +kernel⟩⟩
theorem biJ5_init_d00df : Cond.instanceMethod yJ5_init_d00df ∈ WS := ws_of 979 (by decide +kernel)
theorem k_J4_1 : KI RJ4 1 yJ5_init_d00df cJ5_init_d00df 2 1 := ⟨bJ5_init_d00df, ws_of 978 (by decide +kernel), rfl, biJ5_init_d00df⟩
set_option maxRecDepth 100000 in
theorem bJ2_newBytesFor_77867 {own : String} {idx : Nat} : KB own idx yJ2_newBytesFor_77867 cJ2_newBytesFor_77867 1 (some (.array .byte)) 1 := ⟨aw_mem_ws (i := 986) rfl rfl, h_ini_J2, ⟨⟨by decide, by decide⟩, by decide +kernel⟩⟩
theorem bsJ2_newBytesFor_77867 : Cond.static yJ2_newBytesFor_77867 ∈ WS := ws_of 985 (by decide +kernel)
theorem k_J5_26 : KS RJ5 26 yJ2_newBytesFor_77867 cJ2_newBytesFor_77867 1 (some (.array .byte)) 1 := ⟨bJ2_newBytesFor_77867, ws_of 984 (by decide +kernel), bsJ2_newBytesFor_77867⟩
set_option maxRecDepth 100000 in
theorem bJ2_newBytesLength_0f7a4 {own : String} {idx : Nat} : KB own idx yJ2_newBytesLength_0f7a4 cJ2_newBytesLength_0f7a4 1 (some .int) 1 := ⟨aw_mem_ws (i := 989) rfl rfl, h_ini_J2, ⟨⟨by decide, by decide⟩, by decide +kernel⟩⟩
theorem bsJ2_newBytesLength_0f7a4 : Cond.static yJ2_newBytesLength_0f7a4 ∈ WS := ws_of 988 (by decide +kernel)
theorem k_J2_11 : KS RJ2 11 yJ2_newBytesLength_0f7a4 cJ2_newBytesLength_0f7a4 1 (some .int) 1 := ⟨bJ2_newBytesLength_0f7a4, ws_of 987 (by decide +kernel), bsJ2_newBytesLength_0f7a4⟩
set_option maxRecDepth 100000 in
theorem bX8_kindLetter {own : String} {idx : Nat} : KB own idx yX8_kindLetter cX8_kindLetter 1 (some .char) 1 := ⟨aw_mem_ws (i := 1005) rfl rfl, h_ini_X8, ⟨⟨by decide, by decide⟩, by decide +kernel⟩⟩
theorem bsX8_kindLetter : Cond.static yX8_kindLetter ∈ WS := ws_of 1004 (by decide +kernel)
theorem k_X8_250 : KS RX8 250 yX8_kindLetter cX8_kindLetter 1 (some .char) 1 := ⟨bX8_kindLetter, ws_of 1003 (by decide +kernel), bsX8_kindLetter⟩
set_option maxRecDepth 100000 in
theorem bJ4_append_cf468 {own : String} {idx : Nat} : KB own idx yJ4_append_cf468 cJ4_append_cf468 2 (some (.object "java/lang/StringBuilder")) 1 := ⟨aw_mem_ws (i := 1009) rfl rfl, h_ini_J4, ⟨⟨by decide, by decide⟩, by decide +kernel⟩⟩
theorem biJ4_append_cf468 : Cond.instanceMethod yJ4_append_cf468 ∈ WS ∧ Cond.selects RJ4 yJ4_append_cf468 yJ4_append_cf468 ∈ WS := ⟨ws_of 1007 (by decide +kernel), ws_of 1008 (by decide +kernel)⟩
theorem k_X8_254 : KV RX8 254 yJ4_append_cf468 cJ4_append_cf468 2 (some (.object "java/lang/StringBuilder")) 1 := ⟨bJ4_append_cf468, ws_of 1006 (by decide +kernel), biJ4_append_cf468.1, biJ4_append_cf468.2⟩
set_option maxRecDepth 100000 in
theorem bJ5_append_3fe6f {own : String} {idx : Nat} : KB own idx yJ5_append_3fe6f cJ5_append_3fe6f 2 (some (.object "java/lang/AbstractStringBuilder")) 1 := ⟨aw_mem_ws (i := 1012) rfl rfl, h_ini_J5, ⟨⟨by decide, by decide⟩, by decide +kernel⟩⟩
theorem biJ5_append_3fe6f : Cond.instanceMethod yJ5_append_3fe6f ∈ WS := ws_of 1011 (by decide +kernel)
set_option maxRecDepth 100000 in
theorem bJ5_ensureCapacityInternal_d00df {own : String} {idx : Nat} : KB own idx yJ5_ensureCapacityInternal_d00df cJ5_ensureCapacityInternal_d00df 3 none 1 := ⟨aw_mem_ws (i := 1016) rfl rfl, h_ini_J5, ⟨⟨by decide, by decide⟩, by decide +kernel⟩⟩
theorem biJ5_ensureCapacityInternal_d00df : Cond.instanceMethod yJ5_ensureCapacityInternal_d00df ∈ WS := ws_of 1015 (by decide +kernel)
set_option maxRecDepth 100000 in
theorem bJ5_newCapacity_0f7a4 {own : String} {idx : Nat} : KB own idx yJ5_newCapacity_0f7a4 cJ5_newCapacity_0f7a4 6 (some .int) 1 := ⟨aw_mem_ws (i := 1020) rfl rfl, h_ini_J5, ⟨⟨by decide, by decide⟩, by decide +kernel⟩⟩
theorem biJ5_newCapacity_0f7a4 : Cond.instanceMethod yJ5_newCapacity_0f7a4 ∈ WS := ws_of 1019 (by decide +kernel)
theorem k_J5_114 : KS RJ5 114 yJ8_newLength_cabcc cJ8_newLength_cabcc 4 (some .int) 3 := ⟨bJ8_newLength_cabcc, ws_of 1021 (by decide +kernel), bsJ8_newLength_cabcc⟩
set_option maxRecDepth 100000 in
theorem bJ7_copyOf_9075b {own : String} {idx : Nat} : KB own idx yJ7_copyOf_9075b cJ7_copyOf_9075b 3 (some (.array .byte)) 2 := ⟨aw_mem_ws (i := 1025) rfl rfl, h_ini_J7, ⟨⟨by decide, by decide⟩, by decide +kernel⟩⟩
theorem bsJ7_copyOf_9075b : Cond.static yJ7_copyOf_9075b ∈ WS := ws_of 1024 (by decide +kernel)
theorem k_J5_108 : KS RJ5 108 yJ7_copyOf_9075b cJ7_copyOf_9075b 3 (some (.array .byte)) 2 := ⟨bJ7_copyOf_9075b, ws_of 1023 (by decide +kernel), bsJ7_copyOf_9075b⟩
set_option maxRecDepth 100000 in
theorem bJ5_isLatin1_aae02 {own : String} {idx : Nat} : KB own idx yJ5_isLatin1_aae02 cJ5_isLatin1_aae02 1 (some .boolean) 0 := ⟨aw_mem_ws (i := 1037) rfl rfl, h_ini_J5, ⟨⟨by decide, by decide⟩, by decide +kernel⟩⟩
theorem biJ5_isLatin1_aae02 : Cond.instanceMethod yJ5_isLatin1_aae02 ∈ WS := ws_of 1034 (by decide +kernel)
set_option maxRecDepth 100000 in
theorem bJ1_canEncode_fc78d {own : String} {idx : Nat} : KB own idx yJ1_canEncode_fc78d cJ1_canEncode_fc78d 1 (some .boolean) 1 := ⟨aw_mem_ws (i := 1040) rfl rfl, h_ini_J1, ⟨⟨by decide, by decide⟩, by decide +kernel⟩⟩
theorem bsJ1_canEncode_fc78d : Cond.static yJ1_canEncode_fc78d ∈ WS := ws_of 1039 (by decide +kernel)
theorem k_J5_191 : KS RJ5 191 yJ1_canEncode_fc78d cJ1_canEncode_fc78d 1 (some .boolean) 1 := ⟨bJ1_canEncode_fc78d, ws_of 1038 (by decide +kernel), bsJ1_canEncode_fc78d⟩
set_option maxRecDepth 100000 in
theorem bJ5_inflate_da8c8 {own : String} {idx : Nat} : KB own idx yJ5_inflate_da8c8 cJ5_inflate_da8c8 2 none 0 := ⟨aw_mem_ws (i := 1044) rfl rfl, h_ini_J5, ⟨⟨by decide, by decide⟩, by decide +kernel⟩⟩
theorem biJ5_inflate_da8c8 : Cond.instanceMethod yJ5_inflate_da8c8 ∈ WS := ws_of 1043 (by decide +kernel)
set_option maxRecDepth 100000 in
theorem bJ1_inflate_0e8fd {own : String} {idx : Nat} : KB own idx yJ1_inflate_0e8fd cJ1_inflate_0e8fd 5 none 5 := ⟨aw_mem_ws (i := 1047) rfl rfl, h_ini_J1, ⟨⟨by decide, by decide⟩, by decide +kernel⟩⟩
theorem bsJ1_inflate_0e8fd : Cond.static yJ1_inflate_0e8fd ∈ WS := ws_of 1046 (by decide +kernel)
theorem k_J5_125 : KS RJ5 125 yJ1_inflate_0e8fd cJ1_inflate_0e8fd 5 none 5 := ⟨bJ1_inflate_0e8fd, ws_of 1045 (by decide +kernel), bsJ1_inflate_0e8fd⟩
set_option maxRecDepth 100000 in
theorem bJ2_inflate_0e8fd {own : String} {idx : Nat} : KB own idx yJ2_inflate_0e8fd cJ2_inflate_0e8fd 6 none 5 := ⟨aw_mem_ws (i := 1050) rfl rfl, h_ini_J2, ⟨⟨by decide, by decide⟩, by decide +kernel⟩⟩
theorem bsJ2_inflate_0e8fd : Cond.static yJ2_inflate_0e8fd ∈ WS := ws_of 1049 (by decide +kernel)
theorem k_J1_240 : KS RJ1 240 yJ2_inflate_0e8fd cJ2_inflate_0e8fd 6 none 5 := ⟨bJ2_inflate_0e8fd, ws_of 1048 (by decide +kernel), bsJ2_inflate_0e8fd⟩
set_option maxRecDepth 100000 in
theorem bJ2_checkBoundsOffCount_d044e {own : String} {idx : Nat} : KB own idx yJ2_checkBoundsOffCount_d044e cJ2_checkBoundsOffCount_d044e 3 none 3 := ⟨aw_mem_ws (i := 1053) rfl rfl, h_ini_J2, ⟨⟨by decide, by decide⟩, by decide +kernel⟩⟩
theorem bsJ2_checkBoundsOffCount_d044e : Cond.static yJ2_checkBoundsOffCount_d044e ∈ WS := ws_of 1052 (by decide +kernel)
theorem k_J2_173 : KS RJ2 173 yJ2_checkBoundsOffCount_d044e cJ2_checkBoundsOffCount_d044e 3 none 3 := ⟨bJ2_checkBoundsOffCount_d044e, ws_of 1051 (by decide +kernel), bsJ2_checkBoundsOffCount_d044e⟩
set_option maxRecDepth 100000 in
theorem bJ2_length_9d52b {own : String} {idx : Nat} : KB own idx yJ2_length_9d52b cJ2_length_9d52b 1 (some .int) 1 := ⟨aw_mem_ws (i := 1056) rfl rfl, h_ini_J2, ⟨⟨by decide, by decide⟩, by decide +kernel⟩⟩
theorem bsJ2_length_9d52b : Cond.static yJ2_length_9d52b ∈ WS := ws_of 1055 (by decide +kernel)
theorem k_J2_48 : KS RJ2 48 yJ2_length_9d52b cJ2_length_9d52b 1 (some .int) 1 := ⟨bJ2_length_9d52b, ws_of 1054 (by decide +kernel), bsJ2_length_9d52b⟩
set_option maxRecDepth 100000 in
theorem bJ0_checkBoundsOffCount_cabcc {own : String} {idx : Nat} : KB own idx yJ0_checkBoundsOffCount_cabcc cJ0_checkBoundsOffCount_cabcc 3 (some .int) 3 := ⟨aw_mem_ws (i := 1059) rfl rfl, h_ini_J0, ⟨⟨by decide, by decide⟩, by decide +kernel⟩⟩
theorem bsJ0_checkBoundsOffCount_cabcc : Cond.static yJ0_checkBoundsOffCount_cabcc ∈ WS := ws_of 1058 (by decide +kernel)
theorem k_J2_419 : KS RJ2 419 yJ0_checkBoundsOffCount_cabcc cJ0_checkBoundsOffCount_cabcc 3 (some .int) 3 := ⟨bJ0_checkBoundsOffCount_cabcc, ws_of 1057 (by decide +kernel), bsJ0_checkBoundsOffCount_cabcc⟩
set_option maxRecDepth 100000 in
theorem bJ3_checkFromIndexSize_8c36e {own : String} {idx : Nat} : KB own idx yJ3_checkFromIndexSize_8c36e cJ3_checkFromIndexSize_8c36e 4 (some .int) 4 := ⟨aw_mem_ws (i := 1064) rfl rfl, h_ini_J3, ⟨⟨by decide, by decide⟩, by decide +kernel⟩⟩
theorem bsJ3_checkFromIndexSize_8c36e : Cond.static yJ3_checkFromIndexSize_8c36e ∈ WS := ws_of 1063 (by decide +kernel)
theorem k_J0_1065 : KS RJ0 1065 yJ3_checkFromIndexSize_8c36e cJ3_checkFromIndexSize_8c36e 4 (some .int) 4 := ⟨bJ3_checkFromIndexSize_8c36e, ws_of 1062 (by decide +kernel), bsJ3_checkFromIndexSize_8c36e⟩
set_option maxRecDepth 100000 in
theorem bJ2_putChar_b72d1 {own : String} {idx : Nat} : KB own idx yJ2_putChar_b72d1 cJ2_putChar_b72d1 3 none 3 := ⟨aw_mem_ws (i := 1067) rfl rfl, h_ini_J2, ⟨⟨by decide, by decide⟩, by decide +kernel⟩⟩
theorem bsJ2_putChar_b72d1 : Cond.static yJ2_putChar_b72d1 ∈ WS := ws_of 1066 (by decide +kernel)
theorem k_J2_111 : KS RJ2 111 yJ2_putChar_b72d1 cJ2_putChar_b72d1 3 none 3 := ⟨bJ2_putChar_b72d1, ws_of 1065 (by decide +kernel), bsJ2_putChar_b72d1⟩
set_option maxRecDepth 100000 in
theorem bJ2_putCharSB_b72d1 {own : String} {idx : Nat} : KB own idx yJ2_putCharSB_b72d1 cJ2_putCharSB_b72d1 3 none 3 := ⟨aw_mem_ws (i := 1076) rfl rfl, h_ini_J2, ⟨⟨by decide, by decide⟩, by decide +kernel⟩⟩
theorem bsJ2_putCharSB_b72d1 : Cond.static yJ2_putCharSB_b72d1 ∈ WS := ws_of 1075 (by decide +kernel)
theorem k_J5_197 : KS RJ5 197 yJ2_putCharSB_b72d1 cJ2_putCharSB_b72d1 3 none 3 := ⟨bJ2_putCharSB_b72d1, ws_of 1074 (by decide +kernel), bsJ2_putCharSB_b72d1⟩
set_option maxRecDepth 100000 in
theorem bJ2_checkIndex_2214a {own : String} {idx : Nat} : KB own idx yJ2_checkIndex_2214a cJ2_checkIndex_2214a 2 none 2 := ⟨aw_mem_ws (i := 1079) rfl rfl, h_ini_J2, ⟨⟨by decide, by decide⟩, by decide +kernel⟩⟩
theorem bsJ2_checkIndex_2214a : Cond.static yJ2_checkIndex_2214a ∈ WS := ws_of 1078 (by decide +kernel)
theorem k_J2_67 : KS RJ2 67 yJ2_checkIndex_2214a cJ2_checkIndex_2214a 2 none 2 := ⟨bJ2_checkIndex_2214a, ws_of 1077 (by decide +kernel), bsJ2_checkIndex_2214a⟩
set_option maxRecDepth 100000 in
theorem bJ0_checkIndex_df160 {own : String} {idx : Nat} : KB own idx yJ0_checkIndex_df160 cJ0_checkIndex_df160 2 none 2 := ⟨aw_mem_ws (i := 1082) rfl rfl, h_ini_J0, ⟨⟨by decide, by decide⟩, by decide +kernel⟩⟩
theorem bsJ0_checkIndex_df160 : Cond.static yJ0_checkIndex_df160 ∈ WS := ws_of 1081 (by decide +kernel)
theorem k_J2_414 : KS RJ2 414 yJ0_checkIndex_df160 cJ0_checkIndex_df160 2 none 2 := ⟨bJ0_checkIndex_df160, ws_of 1080 (by decide +kernel), bsJ0_checkIndex_df160⟩
theorem k_J0_1059 : KS RJ0 1059 yJ3_checkIndex_8e157 cJ3_checkIndex_8e157 3 (some .int) 3 := ⟨bJ3_checkIndex_8e157, ws_of 1083 (by decide +kernel), bsJ3_checkIndex_8e157⟩
set_option maxRecDepth 100000 in
theorem bJ4_append_bf812 {own : String} {idx : Nat} : KB own idx yJ4_append_bf812 cJ4_append_bf812 2 (some (.object "java/lang/StringBuilder")) 1 := ⟨aw_mem_ws (i := 1087) rfl rfl, h_ini_J4, ⟨⟨by decide, by decide⟩, by decide +kernel⟩⟩
theorem biJ4_append_bf812 : Cond.instanceMethod yJ4_append_bf812 ∈ WS ∧ Cond.selects RJ4 yJ4_append_bf812 yJ4_append_bf812 ∈ WS := ⟨ws_of 1085 (by decide +kernel), ws_of 1086 (by decide +kernel)⟩
theorem k_X8_257 : KV RX8 257 yJ4_append_bf812 cJ4_append_bf812 2 (some (.object "java/lang/StringBuilder")) 1 := ⟨bJ4_append_bf812, ws_of 1084 (by decide +kernel), biJ4_append_bf812.1, biJ4_append_bf812.2⟩
set_option maxRecDepth 100000 in
theorem bJ5_append_c97b9 {own : String} {idx : Nat} : KB own idx yJ5_append_c97b9 cJ5_append_c97b9 4 (some (.object "java/lang/AbstractStringBuilder")) 1 := ⟨aw_mem_ws (i := 1090) rfl rfl, h_ini_J5, ⟨⟨by decide, by decide⟩, by decide +kernel⟩⟩
theorem biJ5_append_c97b9 : Cond.instanceMethod yJ5_append_c97b9 ∈ WS := ws_of 1089 (by decide +kernel)
set_option maxRecDepth 100000 in
theorem bJ6_stringSize_0f7a4 {own : String} {idx : Nat} : KB own idx yJ6_stringSize_0f7a4 cJ6_stringSize_0f7a4 4 (some .int) 1 := ⟨aw_mem_ws (i := 1093) rfl rfl, h_ini_J6, ⟨⟨by decide, by decide⟩, by decide +kernel⟩⟩
theorem bsJ6_stringSize_0f7a4 : Cond.static yJ6_stringSize_0f7a4 ∈ WS := ws_of 1092 (by decide +kernel)
theorem k_J5_245 : KS RJ5 245 yJ6_stringSize_0f7a4 cJ6_stringSize_0f7a4 4 (some .int) 1 := ⟨bJ6_stringSize_0f7a4, ws_of 1091 (by decide +kernel), bsJ6_stringSize_0f7a4⟩
set_option maxRecDepth 100000 in
theorem bJ6_getChars_ba4f3 {own : String} {idx : Nat} : KB own idx yJ6_getChars_ba4f3 cJ6_getChars_ba4f3 7 (some .int) 3 := ⟨aw_mem_ws (i := 1096) rfl rfl, h_ini_J6, ⟨⟨by decide, by decide⟩, by decide +kernel⟩⟩
theorem bsJ6_getChars_ba4f3 : Cond.static yJ6_getChars_ba4f3 ∈ WS := ws_of 1095 (by decide +kernel)
theorem k_J5_248 : KS RJ5 248 yJ6_getChars_ba4f3 cJ6_getChars_ba4f3 7 (some .int) 3 := ⟨bJ6_getChars_ba4f3, ws_of 1094 (by decide +kernel), bsJ6_getChars_ba4f3⟩
set_option maxRecDepth 100000 in
theorem bJ2_getChars_46870 {own : String} {idx : Nat} : KB own idx yJ2_getChars_46870 cJ2_getChars_46870 5 (some .int) 4 := ⟨aw_mem_ws (i := 1103) rfl rfl, h_ini_J2, ⟨⟨by decide, by decide⟩, by decide +kernel⟩⟩
theorem bsJ2_getChars_46870 : Cond.static yJ2_getChars_46870 ∈ WS := ws_of 1102 (by decide +kernel)
theorem k_J5_251 : KS RJ5 251 yJ2_getChars_46870 cJ2_getChars_46870 5 (some .int) 4 := ⟨bJ2_getChars_46870, ws_of 1101 (by decide +kernel), bsJ2_getChars_46870⟩
set_option maxRecDepth 100000 in
theorem bJ2_checkBoundsBeginEnd_d044e {own : String} {idx : Nat} : KB own idx yJ2_checkBoundsBeginEnd_d044e cJ2_checkBoundsBeginEnd_d044e 3 none 3 := ⟨aw_mem_ws (i := 1106) rfl rfl, h_ini_J2, ⟨⟨by decide, by decide⟩, by decide +kernel⟩⟩
theorem bsJ2_checkBoundsBeginEnd_d044e : Cond.static yJ2_checkBoundsBeginEnd_d044e ∈ WS := ws_of 1105 (by decide +kernel)
theorem k_J2_96 : KS RJ2 96 yJ2_checkBoundsBeginEnd_d044e cJ2_checkBoundsBeginEnd_d044e 3 none 3 := ⟨bJ2_checkBoundsBeginEnd_d044e, ws_of 1104 (by decide +kernel), bsJ2_checkBoundsBeginEnd_d044e⟩
set_option maxRecDepth 100000 in
theorem bJ0_checkBoundsBeginEnd_23922 {own : String} {idx : Nat} : KB own idx yJ0_checkBoundsBeginEnd_23922 cJ0_checkBoundsBeginEnd_23922 3 none 3 := ⟨aw_mem_ws (i := 1109) rfl rfl, h_ini_J0, ⟨⟨by decide, by decide⟩, by decide +kernel⟩⟩
theorem bsJ0_checkBoundsBeginEnd_23922 : Cond.static yJ0_checkBoundsBeginEnd_23922 ∈ WS := ws_of 1108 (by decide +kernel)
theorem k_J2_241 : KS RJ2 241 yJ0_checkBoundsBeginEnd_23922 cJ0_checkBoundsBeginEnd_23922 3 none 3 := ⟨bJ0_checkBoundsBeginEnd_23922, ws_of 1107 (by decide +kernel), bsJ0_checkBoundsBeginEnd_23922⟩
set_option maxRecDepth 100000 in
theorem bJ3_checkFromToIndex_8c36e {own : String} {idx : Nat} : KB own idx yJ3_checkFromToIndex_8c36e cJ3_checkFromToIndex_8c36e 4 (some .int) 4 := ⟨aw_mem_ws (i := 1112) rfl rfl, h_ini_J3, ⟨⟨by decide, by decide⟩, by decide +kernel⟩⟩
theorem bsJ3_checkFromToIndex_8c36e : Cond.static yJ3_checkFromToIndex_8c36e ∈ WS := ws_of 1111 (by decide +kernel)
theorem k_J0_1062 : KS RJ0 1062 yJ3_checkFromToIndex_8c36e cJ3_checkFromToIndex_8c36e 4 (some .int) 4 := ⟨bJ3_checkFromToIndex_8c36e, ws_of 1110 (by decide +kernel), bsJ3_checkFromToIndex_8c36e⟩
set_option maxRecDepth 100000 in
theorem bJ2_getChars_ba4f3 {own : String} {idx : Nat} : KB own idx yJ2_getChars_ba4f3 cJ2_getChars_ba4f3 7 (some .int) 3 := ⟨aw_mem_ws (i := 1115) rfl rfl, h_ini_J2, ⟨⟨by decide, by decide⟩, by decide +kernel⟩⟩
theorem bsJ2_getChars_ba4f3 : Cond.static yJ2_getChars_ba4f3 ∈ WS := ws_of 1114 (by decide +kernel)
theorem k_J2_393 : KS RJ2 393 yJ2_getChars_ba4f3 cJ2_getChars_ba4f3 7 (some .int) 3 := ⟨bJ2_getChars_ba4f3, ws_of 1113 (by decide +kernel), bsJ2_getChars_ba4f3⟩
set_option maxRecDepth 100000 in
theorem bX8_stateLetter {own : String} {idx : Nat} : KB own idx yX8_stateLetter cX8_stateLetter 1 (some .char) 1 := ⟨aw_mem_ws (i := 1120) rfl rfl, h_ini_X8, ⟨⟨by decide, by decide⟩, by decide +kernel⟩⟩
theorem bsX8_stateLetter : Cond.static yX8_stateLetter ∈ WS := ws_of 1119 (by decide +kernel)
theorem k_X8_260 : KS RX8 260 yX8_stateLetter cX8_stateLetter 1 (some .char) 1 := ⟨bX8_stateLetter, ws_of 1118 (by decide +kernel), bsX8_stateLetter⟩
set_option maxRecDepth 100000 in
theorem bJ4_length_8abf5 {own : String} {idx : Nat} : KB own idx yJ4_length_8abf5 cJ4_length_8abf5 1 (some .int) 0 := ⟨aw_mem_ws (i := 1124) rfl rfl, h_ini_J4, ⟨⟨by decide, by decide⟩, by decide +kernel⟩⟩
theorem biJ4_length_8abf5 : Cond.instanceMethod yJ4_length_8abf5 ∈ WS ∧ Cond.selects RJ4 yJ4_length_8abf5 yJ4_length_8abf5 ∈ WS := ⟨ws_of 1122 (by decide +kernel), ws_of 1123 (by decide +kernel)⟩
theorem k_X8_263 : KV RX8 263 yJ4_length_8abf5 cJ4_length_8abf5 1 (some .int) 0 := ⟨bJ4_length_8abf5, ws_of 1121 (by decide +kernel), biJ4_length_8abf5.1, biJ4_length_8abf5.2⟩
set_option maxRecDepth 100000 in
theorem bJ5_length_8abf5 {own : String} {idx : Nat} : KB own idx yJ5_length_8abf5 cJ5_length_8abf5 1 (some .int) 0 := ⟨aw_mem_ws (i := 1127) rfl rfl, h_ini_J5, ⟨⟨by decide, by decide⟩, by decide +kernel⟩⟩
theorem biJ5_length_8abf5 : Cond.instanceMethod yJ5_length_8abf5 ∈ WS := ws_of 1126 (by decide +kernel)
set_option maxRecDepth 100000 in
theorem bJ4_charAt_5068e {own : String} {idx : Nat} : KB own idx yJ4_charAt_5068e cJ4_charAt_5068e 2 (some .char) 1 := ⟨aw_mem_ws (i := 1131) rfl rfl, h_ini_J4, ⟨⟨by decide, by decide⟩, by decide +kernel⟩⟩
theorem biJ4_charAt_5068e : Cond.instanceMethod yJ4_charAt_5068e ∈ WS ∧ Cond.selects RJ4 yJ4_charAt_5068e yJ4_charAt_5068e ∈ WS := ⟨ws_of 1129 (by decide +kernel), ws_of 1130 (by decide +kernel)⟩
theorem k_X8_266 : KV RX8 266 yJ4_charAt_5068e cJ4_charAt_5068e 2 (some .char) 1 := ⟨bJ4_charAt_5068e, ws_of 1128 (by decide +kernel), biJ4_charAt_5068e.1, biJ4_charAt_5068e.2⟩
set_option maxRecDepth 100000 in
theorem bJ5_charAt_5068e {own : String} {idx : Nat} : KB own idx yJ5_charAt_5068e cJ5_charAt_5068e 5 (some .char) 1 := ⟨aw_mem_ws (i := 1134) rfl rfl, h_ini_J5, ⟨⟨by decide, by decide⟩, by decide +kernel⟩⟩
theorem biJ5_charAt_5068e : Cond.instanceMethod yJ5_charAt_5068e ∈ WS := ws_of 1133 (by decide +kernel)
theorem k_J5_138 : KS RJ5 138 yJ9_min_7cf53 cJ9_min_7cf53 2 (some .int) 2 := ⟨bJ9_min_7cf53, ws_of 1135 (by decide +kernel), bsJ9_min_7cf53⟩
theorem k_J5_144 : KS RJ5 144 yJ0_checkIndex_df160 cJ0_checkIndex_df160 2 none 2 := ⟨bJ0_checkIndex_df160, ws_of 1136 (by decide +kernel), bsJ0_checkIndex_df160⟩
set_option maxRecDepth 100000 in
theorem bJ2_getChar_3b067 {own : String} {idx : Nat} : KB own idx yJ2_getChar_3b067 cJ2_getChar_3b067 2 (some .char) 2 := ⟨aw_mem_ws (i := 1139) rfl rfl, h_ini_J2, ⟨⟨by decide, by decide⟩, by decide +kernel⟩⟩
theorem bsJ2_getChar_3b067 : Cond.static yJ2_getChar_3b067 ∈ WS := ws_of 1138 (by decide +kernel)
theorem k_J5_148 : KS RJ5 148 yJ2_getChar_3b067 cJ2_getChar_3b067 2 (some .char) 2 := ⟨bJ2_getChar_3b067, ws_of 1137 (by decide +kernel), bsJ2_getChar_3b067⟩
theorem h_L_11 : Cond.classLink RL 11 "DeedProtocol" ∈ WS := ws_of 78 (by decide +kernel)
theorem h_new_X8 : Cond.instantiable RX8 8 ∈ WS := ws_of 79 (by decide +kernel)
theorem h_X8_9 : Cond.classLink RX8 9 "java/util/ArrayList" ∈ WS := ws_of 86 (by decide +kernel)
theorem h_new_Jx4a65c : Cond.instantiable RJx4a65c 3 ∈ WS := ws_of 87 (by decide +kernel)
theorem h_X8_25 : Cond.classLink RX8 25 "DeedProtocol$Shares" ∈ WS := ws_of 112 (by decide +kernel)
theorem h_new_X6 : Cond.instantiable RX6 2 ∈ WS := ws_of 113 (by decide +kernel)
theorem h_arr_long : Cond.arrayClass .long ∈ WS := ws_of 125 (by decide +kernel)
theorem h_X8_43 : Cond.classLink RX8 43 "java/lang/IllegalArgumentException" ∈ WS := ws_of 155 (by decide +kernel)
theorem h_arr_byte : Cond.arrayClass .byte ∈ WS := ws_of 222 (by decide +kernel)
theorem h_X8_54 : Cond.classLink RX8 54 "java/lang/IllegalStateException" ∈ WS := ws_of 227 (by decide +kernel)
theorem h_X8_59 : Cond.classLink RX8 59 "DeedProtocol$Person" ∈ WS := ws_of 243 (by decide +kernel)
theorem h_new_X5 : Cond.instantiable RX5 7 ∈ WS := ws_of 244 (by decide +kernel)
theorem q_J8_200 : Cond.constant RJ8 200 2147483639 ∈ WS := ws_of 298 (by decide +kernel)
theorem h_J7_110 : Cond.classLink RJ7 110 "[Ljava/lang/Object;" ∈ WS := ws_of 326 (by decide +kernel)
theorem h_J7_2 : Cond.classLink RJ7 2 "java/lang/Object" ∈ WS := ws_of 328 (by decide +kernel)
theorem h_Jx4a65c_7 : Cond.classLink RJx4a65c 7 "java/lang/Object" ∈ WS := ws_of 336 (by decide +kernel)
theorem h_X8_242 : Cond.classLink RX8 242 "java/lang/IndexOutOfBoundsException" ∈ WS := ws_of 345 (by decide +kernel)
theorem q_X8_106 : Cond.constant RX8 106 1000000 ∈ WS := ws_of 375 (by decide +kernel)
theorem h_X8_111 : Cond.classLink RX8 111 "DeedProtocol$Thing" ∈ WS := ws_of 378 (by decide +kernel)
theorem h_new_X7 : Cond.instantiable RX7 4 ∈ WS := ws_of 379 (by decide +kernel)
theorem h_X7_7 : Cond.classLink RX7 7 "DeedProtocol$Shares" ∈ WS := ws_of 384 (by decide +kernel)
theorem q_L_7 : Cond.constant RL 7 50683 ∈ WS := ws_of 414 (by decide +kernel)
theorem q_L_8 : Cond.constant RL 8 2826045 ∈ WS := ws_of 415 (by decide +kernel)
theorem q_L_9 : Cond.constant RL 9 2147483647 ∈ WS := ws_of 419 (by decide +kernel)
theorem h_L_61 : Cond.classLink RL 61 "java/lang/IllegalStateException" ∈ WS := ws_of 423 (by decide +kernel)
theorem h_X8_137 : Cond.classLink RX8 137 "DeedProtocol$Deed" ∈ WS := ws_of 449 (by decide +kernel)
theorem h_new_X0 : Cond.instantiable RX0 15 ∈ WS := ws_of 450 (by decide +kernel)
theorem h_X0_9 : Cond.classLink RX0 9 "DeedProtocol$Papers" ∈ WS := ws_of 455 (by decide +kernel)
theorem h_new_X4 : Cond.instantiable RX4 2 ∈ WS := ws_of 456 (by decide +kernel)
theorem h_arr_int : Cond.arrayClass .int ∈ WS := ws_of 469 (by decide +kernel)
theorem h_X8_148 : Cond.classLink RX8 148 "DeedProtocol$Mandate" ∈ WS := ws_of 539 (by decide +kernel)
theorem h_new_X2 : Cond.instantiable RX2 5 ∈ WS := ws_of 540 (by decide +kernel)
theorem q_J6_265 : Cond.constant RJ6 265 1431655765 ∈ WS := ws_of 655 (by decide +kernel)
theorem q_J6_266 : Cond.constant RJ6 266 858993459 ∈ WS := ws_of 656 (by decide +kernel)
theorem q_J6_267 : Cond.constant RJ6 267 252645135 ∈ WS := ws_of 657 (by decide +kernel)
theorem h_X8_446 : Cond.classLink RX8 446 "DeedProtocol$Move" ∈ WS := ws_of 707 (by decide +kernel)
theorem h_new_X3 : Cond.instantiable RX3 5 ∈ WS := ws_of 708 (by decide +kernel)
theorem q_X6_22 : Cond.constantLong RX6 22 1000000 ∈ WS := ws_of 769 (by decide +kernel)
theorem q_X8_461 : Cond.constantLong RX8 461 20 ∈ WS := ws_of 774 (by decide +kernel)
theorem q_X8_463 : Cond.constantLong RX8 463 100 ∈ WS := ws_of 775 (by decide +kernel)
theorem h_X8_330 : Cond.classLink RX8 330 "DeedProtocol$Entry" ∈ WS := ws_of 776 (by decide +kernel)
theorem h_new_X1 : Cond.instantiable RX1 5 ∈ WS := ws_of 777 (by decide +kernel)
theorem q_L_96 : Cond.constantLong RL 96 2 ∈ WS := ws_of 878 (by decide +kernel)
theorem q_L_77 : Cond.constantLong RL 77 80244904034304 ∈ WS := ws_of 882 (by decide +kernel)
theorem q_L_86 : Cond.constantLong RL 86 1000000 ∈ WS := ws_of 883 (by decide +kernel)
theorem q_L_88 : Cond.constant RL 88 54321 ∈ WS := ws_of 917 (by decide +kernel)
theorem h_X8_247 : Cond.classLink RX8 247 "java/lang/StringBuilder" ∈ WS := ws_of 973 (by decide +kernel)
theorem h_new_J4 : Cond.instantiable RJ4 4 ∈ WS := ws_of 974 (by decide +kernel)
theorem q_J2_20 : Cond.constant RJ2 20 1073741823 ∈ WS := ws_of 990 (by decide +kernel)
theorem q_J5_39 : Cond.constant RJ5 39 2147483647 ∈ WS := ws_of 1022 (by decide +kernel)
theorem h_J7_311 : Cond.classLink RJ7 311 "[B" ∈ WS := ws_of 1032 (by decide +kernel)
