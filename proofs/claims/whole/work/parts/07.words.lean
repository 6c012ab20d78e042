/-! words of the tables by their places: fields, calls; printed by program -/
theorem cf_J4 : CF 0 RJ4 TJ4 4 tyJ4 := ⟨rfl, ws_all [790, 792, 794, 796] (by decide +kernel) (by decide +kernel), tyJ4_ok, nmJ4⟩
theorem cf_Jx4a65c : CF 1 RJx4a65c TJx4a65c 3 tyJx4a65c := ⟨rfl, ws_all [134, 130, 132] (by decide +kernel) (by decide +kernel), tyJx4a65c_ok, nmJx4a65c⟩
theorem cf_X0 : CF 2 RX0 TX0 15 tyX0 := ⟨rfl, ws_all [574, 576, 578, 580, 582, 584, 586, 588, 590, 592, 594, 596, 598, 600, 602] (by decide +kernel) (by decide +kernel), tyX0_ok, nmX0⟩
theorem cf_X1 : CF 3 RX1 TX1 5 tyX1 := ⟨rfl, ws_all [1081, 1083, 1085, 1087, 1089] (by decide +kernel) (by decide +kernel), tyX1_ok, nmX1⟩
theorem cf_X2 : CF 4 RX2 TX2 5 tyX2 := ⟨rfl, ws_all [633, 635, 637, 639, 641] (by decide +kernel) (by decide +kernel), tyX2_ok, nmX2⟩
theorem cf_X3 : CF 5 RX3 TX3 5 tyX3 := ⟨rfl, ws_all [1012, 1014, 1016, 1018, 1020] (by decide +kernel) (by decide +kernel), tyX3_ok, nmX3⟩
theorem cf_X4 : CF 6 RX4 TX4 2 tyX4 := ⟨rfl, ws_all [539, 541] (by decide +kernel) (by decide +kernel), tyX4_ok, nmX4⟩
theorem cf_X5 : CF 7 RX5 TX5 7 tyX5 := ⟨rfl, ws_all [299, 301, 303, 305, 307, 309, 311] (by decide +kernel) (by decide +kernel), tyX5_ok, nmX5⟩
theorem cf_X6 : CF 8 RX6 TX6 2 tyX6 := ⟨rfl, ws_all [145, 147] (by decide +kernel) (by decide +kernel), tyX6_ok, nmX6⟩
theorem cf_X7 : CF 9 RX7 TX7 4 tyX7 := ⟨rfl, ws_all [480, 482, 484, 486] (by decide +kernel) (by decide +kernel), tyX7_ok, nmX7⟩
theorem cf_X8 : CF 10 RX8 TX8 8 tyX8 := ⟨rfl, ws_all [159, 161, 163, 165, 167, 169, 171, 173] (by decide +kernel) (by decide +kernel), tyX8_ok, nmX8⟩
theorem cf_X9 : CF 11 RX9 TX9 43 tyX9 := ⟨rfl, ws_all [1248, 1250, 1252, 1254, 1256, 1258, 1260, 1262, 1264, 1266, 1268, 1270, 1272, 1274, 1276, 1278, 1280, 1282, 1284, 1286, 1288, 1290, 1292, 1294, 1296, 1298, 1300, 1302, 1304, 1306, 1308, 1310, 1312, 1314, 1316, 1318, 1320, 1322, 1324, 1326, 1328, 1330, 1332] (by decide +kernel) (by decide +kernel), tyX9_ok, nmX9⟩
theorem f_Jx4a65c_9 : FL RJx4a65c 9 1 1 RJx4a65c TJx4a65c 3 tyJx4a65c := FL.of "java/util/ArrayList" cf_Jx4a65c (Nat.le_of_ble_eq_true rfl) (fsame_rf rfl) (ws_of 125 (by decide +kernel))
theorem f_Jx4a65c_48 : FL RJx4a65c 48 1 2 RJx4a65c TJx4a65c 3 tyJx4a65c := FL.of "java/util/ArrayList" cf_Jx4a65c (Nat.le_of_ble_eq_true rfl) (fsame_rf rfl) (ws_of 126 (by decide +kernel))
theorem f_Jxc12de_7 : FL RJxc12de 7 1 0 RJx4a65c TJx4a65c 3 tyJx4a65c := FL.of "java/util/AbstractList" cf_Jx4a65c (Nat.le_of_ble_eq_true rfl) (fsame_rf rfl) (ws_of 127 (by decide +kernel))
theorem f_X6_9 : FL RX6 9 8 0 RX6 TX6 2 tyX6 := FL.of "DeedProtocol$Shares" cf_X6 (Nat.le_of_ble_eq_true rfl) (fsame_rf rfl) (ws_of 143 (by decide +kernel))
theorem f_X6_15 : FL RX6 15 8 1 RX6 TX6 2 tyX6 := FL.of "DeedProtocol$Shares" cf_X6 (Nat.le_of_ble_eq_true rfl) (fsame_rf rfl) (ws_of 144 (by decide +kernel))
theorem f_X8_12 : FL RX8 12 10 0 RX8 TX8 8 tyX8 := FL.of "DeedProtocol" cf_X8 (Nat.le_of_ble_eq_true rfl) (fsame_rf rfl) (ws_of 151 (by decide +kernel))
theorem f_X8_16 : FL RX8 16 10 1 RX8 TX8 8 tyX8 := FL.of "DeedProtocol" cf_X8 (Nat.le_of_ble_eq_true rfl) (fsame_rf rfl) (ws_of 152 (by decide +kernel))
theorem f_X8_19 : FL RX8 19 10 2 RX8 TX8 8 tyX8 := FL.of "DeedProtocol" cf_X8 (Nat.le_of_ble_eq_true rfl) (fsame_rf rfl) (ws_of 153 (by decide +kernel))
theorem f_X8_22 : FL RX8 22 10 3 RX8 TX8 8 tyX8 := FL.of "DeedProtocol" cf_X8 (Nat.le_of_ble_eq_true rfl) (fsame_rf rfl) (ws_of 154 (by decide +kernel))
theorem f_X8_28 : FL RX8 28 10 4 RX8 TX8 8 tyX8 := FL.of "DeedProtocol" cf_X8 (Nat.le_of_ble_eq_true rfl) (fsame_rf rfl) (ws_of 155 (by decide +kernel))
theorem f_X8_32 : FL RX8 32 10 5 RX8 TX8 8 tyX8 := FL.of "DeedProtocol" cf_X8 (Nat.le_of_ble_eq_true rfl) (fsame_rf rfl) (ws_of 156 (by decide +kernel))
theorem f_X8_36 : FL RX8 36 10 6 RX8 TX8 8 tyX8 := FL.of "DeedProtocol" cf_X8 (Nat.le_of_ble_eq_true rfl) (fsame_rf rfl) (ws_of 157 (by decide +kernel))
theorem f_X8_39 : FL RX8 39 10 7 RX8 TX8 8 tyX8 := FL.of "DeedProtocol" cf_X8 (Nat.le_of_ble_eq_true rfl) (fsame_rf rfl) (ws_of 158 (by decide +kernel))
theorem f_X5_23 : FL RX5 23 7 0 RX5 TX5 7 tyX5 := FL.of "DeedProtocol$Person" cf_X5 (Nat.le_of_ble_eq_true rfl) (fsame_rf rfl) (ws_of 287 (by decide +kernel))
theorem f_X8_68 : FL RX8 68 7 0 RX5 TX5 7 tyX5 := FL.ofN "DeedProtocol$Person" "DeedProtocol" cf_X5 (Nat.le_of_ble_eq_true rfl) (fsame_rf rfl) (ws_of 288 (by decide +kernel))
theorem f_X0_64 : FL RX0 64 7 0 RX5 TX5 7 tyX5 := FL.ofN "DeedProtocol$Person" "DeedProtocol" cf_X5 (Nat.le_of_ble_eq_true rfl) (fsame_rf rfl) (ws_of 289 (by decide +kernel))
theorem f_X5_26 : FL RX5 26 7 1 RX5 TX5 7 tyX5 := FL.of "DeedProtocol$Person" cf_X5 (Nat.le_of_ble_eq_true rfl) (fsame_rf rfl) (ws_of 290 (by decide +kernel))
theorem f_X5_29 : FL RX5 29 7 2 RX5 TX5 7 tyX5 := FL.of "DeedProtocol$Person" cf_X5 (Nat.le_of_ble_eq_true rfl) (fsame_rf rfl) (ws_of 291 (by decide +kernel))
theorem f_X5_32 : FL RX5 32 7 3 RX5 TX5 7 tyX5 := FL.of "DeedProtocol$Person" cf_X5 (Nat.le_of_ble_eq_true rfl) (fsame_rf rfl) (ws_of 292 (by decide +kernel))
theorem f_X8_427 : FL RX8 427 7 3 RX5 TX5 7 tyX5 := FL.ofN "DeedProtocol$Person" "DeedProtocol" cf_X5 (Nat.le_of_ble_eq_true rfl) (fsame_rf rfl) (ws_of 293 (by decide +kernel))
theorem f_X5_9 : FL RX5 9 7 4 RX5 TX5 7 tyX5 := FL.of "DeedProtocol$Person" cf_X5 (Nat.le_of_ble_eq_true rfl) (fsame_rf rfl) (ws_of 294 (by decide +kernel))
theorem f_X8_96 : FL RX8 96 7 4 RX5 TX5 7 tyX5 := FL.ofN "DeedProtocol$Person" "DeedProtocol" cf_X5 (Nat.le_of_ble_eq_true rfl) (fsame_rf rfl) (ws_of 295 (by decide +kernel))
theorem f_X5_15 : FL RX5 15 7 5 RX5 TX5 7 tyX5 := FL.of "DeedProtocol$Person" cf_X5 (Nat.le_of_ble_eq_true rfl) (fsame_rf rfl) (ws_of 296 (by decide +kernel))
theorem f_X8_102 : FL RX8 102 7 5 RX5 TX5 7 tyX5 := FL.ofN "DeedProtocol$Person" "DeedProtocol" cf_X5 (Nat.le_of_ble_eq_true rfl) (fsame_rf rfl) (ws_of 297 (by decide +kernel))
theorem f_X5_19 : FL RX5 19 7 6 RX5 TX5 7 tyX5 := FL.of "DeedProtocol$Person" cf_X5 (Nat.le_of_ble_eq_true rfl) (fsame_rf rfl) (ws_of 298 (by decide +kernel))
theorem f_X7_16 : FL RX7 16 9 0 RX7 TX7 4 tyX7 := FL.of "DeedProtocol$Thing" cf_X7 (Nat.le_of_ble_eq_true rfl) (fsame_rf rfl) (ws_of 472 (by decide +kernel))
theorem f_X8_116 : FL RX8 116 9 0 RX7 TX7 4 tyX7 := FL.ofN "DeedProtocol$Thing" "DeedProtocol" cf_X7 (Nat.le_of_ble_eq_true rfl) (fsame_rf rfl) (ws_of 473 (by decide +kernel))
theorem f_X7_20 : FL RX7 20 9 1 RX7 TX7 4 tyX7 := FL.of "DeedProtocol$Thing" cf_X7 (Nat.le_of_ble_eq_true rfl) (fsame_rf rfl) (ws_of 474 (by decide +kernel))
theorem f_X8_384 : FL RX8 384 9 1 RX7 TX7 4 tyX7 := FL.ofN "DeedProtocol$Thing" "DeedProtocol" cf_X7 (Nat.le_of_ble_eq_true rfl) (fsame_rf rfl) (ws_of 475 (by decide +kernel))
theorem f_X7_23 : FL RX7 23 9 2 RX7 TX7 4 tyX7 := FL.of "DeedProtocol$Thing" cf_X7 (Nat.le_of_ble_eq_true rfl) (fsame_rf rfl) (ws_of 476 (by decide +kernel))
theorem f_X8_458 : FL RX8 458 9 2 RX7 TX7 4 tyX7 := FL.ofN "DeedProtocol$Thing" "DeedProtocol" cf_X7 (Nat.le_of_ble_eq_true rfl) (fsame_rf rfl) (ws_of 477 (by decide +kernel))
theorem f_X7_10 : FL RX7 10 9 3 RX7 TX7 4 tyX7 := FL.of "DeedProtocol$Thing" cf_X7 (Nat.le_of_ble_eq_true rfl) (fsame_rf rfl) (ws_of 478 (by decide +kernel))
theorem f_X8_307 : FL RX8 307 9 3 RX7 TX7 4 tyX7 := FL.ofN "DeedProtocol$Thing" "DeedProtocol" cf_X7 (Nat.le_of_ble_eq_true rfl) (fsame_rf rfl) (ws_of 479 (by decide +kernel))
theorem f_X4_9 : FL RX4 9 6 0 RX4 TX4 2 tyX4 := FL.of "DeedProtocol$Papers" cf_X4 (Nat.le_of_ble_eq_true rfl) (fsame_rf rfl) (ws_of 536 (by decide +kernel))
theorem f_X4_15 : FL RX4 15 6 1 RX4 TX4 2 tyX4 := FL.of "DeedProtocol$Papers" cf_X4 (Nat.le_of_ble_eq_true rfl) (fsame_rf rfl) (ws_of 537 (by decide +kernel))
theorem f_X8_281 : FL RX8 281 6 1 RX4 TX4 2 tyX4 := FL.ofN "DeedProtocol$Papers" "DeedProtocol" cf_X4 (Nat.le_of_ble_eq_true rfl) (fsame_rf rfl) (ws_of 538 (by decide +kernel))
theorem f_X0_41 : FL RX0 41 2 0 RX0 TX0 15 tyX0 := FL.of "DeedProtocol$Deed" cf_X0 (Nat.le_of_ble_eq_true rfl) (fsame_rf rfl) (ws_of 545 (by decide +kernel))
theorem f_X8_332 : FL RX8 332 2 0 RX0 TX0 15 tyX0 := FL.ofN "DeedProtocol$Deed" "DeedProtocol" cf_X0 (Nat.le_of_ble_eq_true rfl) (fsame_rf rfl) (ws_of 546 (by decide +kernel))
theorem f_X0_44 : FL RX0 44 2 1 RX0 TX0 15 tyX0 := FL.of "DeedProtocol$Deed" cf_X0 (Nat.le_of_ble_eq_true rfl) (fsame_rf rfl) (ws_of 547 (by decide +kernel))
theorem f_X8_236 : FL RX8 236 2 1 RX0 TX0 15 tyX0 := FL.ofN "DeedProtocol$Deed" "DeedProtocol" cf_X0 (Nat.le_of_ble_eq_true rfl) (fsame_rf rfl) (ws_of 548 (by decide +kernel))
theorem f_X0_47 : FL RX0 47 2 2 RX0 TX0 15 tyX0 := FL.of "DeedProtocol$Deed" cf_X0 (Nat.le_of_ble_eq_true rfl) (fsame_rf rfl) (ws_of 549 (by decide +kernel))
theorem f_X8_206 : FL RX8 206 2 2 RX0 TX0 15 tyX0 := FL.ofN "DeedProtocol$Deed" "DeedProtocol" cf_X0 (Nat.le_of_ble_eq_true rfl) (fsame_rf rfl) (ws_of 550 (by decide +kernel))
theorem f_X0_51 : FL RX0 51 2 3 RX0 TX0 15 tyX0 := FL.of "DeedProtocol$Deed" cf_X0 (Nat.le_of_ble_eq_true rfl) (fsame_rf rfl) (ws_of 551 (by decide +kernel))
theorem f_X8_209 : FL RX8 209 2 3 RX0 TX0 15 tyX0 := FL.ofN "DeedProtocol$Deed" "DeedProtocol" cf_X0 (Nat.le_of_ble_eq_true rfl) (fsame_rf rfl) (ws_of 552 (by decide +kernel))
theorem f_X0_54 : FL RX0 54 2 4 RX0 TX0 15 tyX0 := FL.of "DeedProtocol$Deed" cf_X0 (Nat.le_of_ble_eq_true rfl) (fsame_rf rfl) (ws_of 553 (by decide +kernel))
theorem f_X8_294 : FL RX8 294 2 4 RX0 TX0 15 tyX0 := FL.ofN "DeedProtocol$Deed" "DeedProtocol" cf_X0 (Nat.le_of_ble_eq_true rfl) (fsame_rf rfl) (ws_of 554 (by decide +kernel))
theorem f_X0_58 : FL RX0 58 2 5 RX0 TX0 15 tyX0 := FL.of "DeedProtocol$Deed" cf_X0 (Nat.le_of_ble_eq_true rfl) (fsame_rf rfl) (ws_of 555 (by decide +kernel))
theorem f_X8_310 : FL RX8 310 2 5 RX0 TX0 15 tyX0 := FL.ofN "DeedProtocol$Deed" "DeedProtocol" cf_X0 (Nat.le_of_ble_eq_true rfl) (fsame_rf rfl) (ws_of 556 (by decide +kernel))
theorem f_X0_61 : FL RX0 61 2 6 RX0 TX0 15 tyX0 := FL.of "DeedProtocol$Deed" cf_X0 (Nat.le_of_ble_eq_true rfl) (fsame_rf rfl) (ws_of 557 (by decide +kernel))
theorem f_X8_313 : FL RX8 313 2 6 RX0 TX0 15 tyX0 := FL.ofN "DeedProtocol$Deed" "DeedProtocol" cf_X0 (Nat.le_of_ble_eq_true rfl) (fsame_rf rfl) (ws_of 558 (by decide +kernel))
theorem f_X0_12 : FL RX0 12 2 7 RX0 TX0 15 tyX0 := FL.of "DeedProtocol$Deed" cf_X0 (Nat.le_of_ble_eq_true rfl) (fsame_rf rfl) (ws_of 559 (by decide +kernel))
theorem f_X8_224 : FL RX8 224 2 7 RX0 TX0 15 tyX0 := FL.ofN "DeedProtocol$Deed" "DeedProtocol" cf_X0 (Nat.le_of_ble_eq_true rfl) (fsame_rf rfl) (ws_of 560 (by decide +kernel))
theorem f_X0_18 : FL RX0 18 2 8 RX0 TX0 15 tyX0 := FL.of "DeedProtocol$Deed" cf_X0 (Nat.le_of_ble_eq_true rfl) (fsame_rf rfl) (ws_of 561 (by decide +kernel))
theorem f_X8_153 : FL RX8 153 2 8 RX0 TX0 15 tyX0 := FL.ofN "DeedProtocol$Deed" "DeedProtocol" cf_X0 (Nat.le_of_ble_eq_true rfl) (fsame_rf rfl) (ws_of 562 (by decide +kernel))
theorem f_X0_22 : FL RX0 22 2 9 RX0 TX0 15 tyX0 := FL.of "DeedProtocol$Deed" cf_X0 (Nat.le_of_ble_eq_true rfl) (fsame_rf rfl) (ws_of 563 (by decide +kernel))
theorem f_X8_171 : FL RX8 171 2 9 RX0 TX0 15 tyX0 := FL.ofN "DeedProtocol$Deed" "DeedProtocol" cf_X0 (Nat.le_of_ble_eq_true rfl) (fsame_rf rfl) (ws_of 564 (by decide +kernel))
theorem f_X0_26 : FL RX0 26 2 10 RX0 TX0 15 tyX0 := FL.of "DeedProtocol$Deed" cf_X0 (Nat.le_of_ble_eq_true rfl) (fsame_rf rfl) (ws_of 565 (by decide +kernel))
theorem f_X0_29 : FL RX0 29 2 11 RX0 TX0 15 tyX0 := FL.of "DeedProtocol$Deed" cf_X0 (Nat.le_of_ble_eq_true rfl) (fsame_rf rfl) (ws_of 566 (by decide +kernel))
theorem f_X8_221 : FL RX8 221 2 11 RX0 TX0 15 tyX0 := FL.ofN "DeedProtocol$Deed" "DeedProtocol" cf_X0 (Nat.le_of_ble_eq_true rfl) (fsame_rf rfl) (ws_of 567 (by decide +kernel))
theorem f_X0_32 : FL RX0 32 2 12 RX0 TX0 15 tyX0 := FL.of "DeedProtocol$Deed" cf_X0 (Nat.le_of_ble_eq_true rfl) (fsame_rf rfl) (ws_of 568 (by decide +kernel))
theorem f_X8_212 : FL RX8 212 2 12 RX0 TX0 15 tyX0 := FL.ofN "DeedProtocol$Deed" "DeedProtocol" cf_X0 (Nat.le_of_ble_eq_true rfl) (fsame_rf rfl) (ws_of 569 (by decide +kernel))
theorem f_X0_35 : FL RX0 35 2 13 RX0 TX0 15 tyX0 := FL.of "DeedProtocol$Deed" cf_X0 (Nat.le_of_ble_eq_true rfl) (fsame_rf rfl) (ws_of 570 (by decide +kernel))
theorem f_X8_215 : FL RX8 215 2 13 RX0 TX0 15 tyX0 := FL.ofN "DeedProtocol$Deed" "DeedProtocol" cf_X0 (Nat.le_of_ble_eq_true rfl) (fsame_rf rfl) (ws_of 571 (by decide +kernel))
theorem f_X0_38 : FL RX0 38 2 14 RX0 TX0 15 tyX0 := FL.of "DeedProtocol$Deed" cf_X0 (Nat.le_of_ble_eq_true rfl) (fsame_rf rfl) (ws_of 572 (by decide +kernel))
theorem f_X8_239 : FL RX8 239 2 14 RX0 TX0 15 tyX0 := FL.ofN "DeedProtocol$Deed" "DeedProtocol" cf_X0 (Nat.le_of_ble_eq_true rfl) (fsame_rf rfl) (ws_of 573 (by decide +kernel))
theorem f_X2_20 : FL RX2 20 4 0 RX2 TX2 5 tyX2 := FL.of "DeedProtocol$Mandate" cf_X2 (Nat.le_of_ble_eq_true rfl) (fsame_rf rfl) (ws_of 623 (by decide +kernel))
theorem f_X8_437 : FL RX8 437 4 0 RX2 TX2 5 tyX2 := FL.ofN "DeedProtocol$Mandate" "DeedProtocol" cf_X2 (Nat.le_of_ble_eq_true rfl) (fsame_rf rfl) (ws_of 624 (by decide +kernel))
theorem f_X2_24 : FL RX2 24 4 1 RX2 TX2 5 tyX2 := FL.of "DeedProtocol$Mandate" cf_X2 (Nat.le_of_ble_eq_true rfl) (fsame_rf rfl) (ws_of 625 (by decide +kernel))
theorem f_X8_434 : FL RX8 434 4 1 RX2 TX2 5 tyX2 := FL.ofN "DeedProtocol$Mandate" "DeedProtocol" cf_X2 (Nat.le_of_ble_eq_true rfl) (fsame_rf rfl) (ws_of 626 (by decide +kernel))
theorem f_X2_7 : FL RX2 7 4 2 RX2 TX2 5 tyX2 := FL.of "DeedProtocol$Mandate" cf_X2 (Nat.le_of_ble_eq_true rfl) (fsame_rf rfl) (ws_of 627 (by decide +kernel))
theorem f_X8_271 : FL RX8 271 4 2 RX2 TX2 5 tyX2 := FL.ofN "DeedProtocol$Mandate" "DeedProtocol" cf_X2 (Nat.le_of_ble_eq_true rfl) (fsame_rf rfl) (ws_of 628 (by decide +kernel))
theorem f_X2_13 : FL RX2 13 4 3 RX2 TX2 5 tyX2 := FL.of "DeedProtocol$Mandate" cf_X2 (Nat.le_of_ble_eq_true rfl) (fsame_rf rfl) (ws_of 629 (by decide +kernel))
theorem f_X8_274 : FL RX8 274 4 3 RX2 TX2 5 tyX2 := FL.ofN "DeedProtocol$Mandate" "DeedProtocol" cf_X2 (Nat.le_of_ble_eq_true rfl) (fsame_rf rfl) (ws_of 630 (by decide +kernel))
theorem f_X2_16 : FL RX2 16 4 4 RX2 TX2 5 tyX2 := FL.of "DeedProtocol$Mandate" cf_X2 (Nat.le_of_ble_eq_true rfl) (fsame_rf rfl) (ws_of 631 (by decide +kernel))
theorem f_X8_178 : FL RX8 178 4 4 RX2 TX2 5 tyX2 := FL.ofN "DeedProtocol$Mandate" "DeedProtocol" cf_X2 (Nat.le_of_ble_eq_true rfl) (fsame_rf rfl) (ws_of 632 (by decide +kernel))
theorem f_J5_15 : FL RJ5 15 0 0 RJ4 TJ4 4 tyJ4 := FL.of "java/lang/AbstractStringBuilder" cf_J4 (Nat.le_of_ble_eq_true rfl) (fsame_rf rfl) (ws_of 787 (by decide +kernel))
theorem f_J5_22 : FL RJ5 22 0 1 RJ4 TJ4 4 tyJ4 := FL.of "java/lang/AbstractStringBuilder" cf_J4 (Nat.le_of_ble_eq_true rfl) (fsame_rf rfl) (ws_of 788 (by decide +kernel))
theorem f_J5_79 : FL RJ5 79 0 3 RJ4 TJ4 4 tyJ4 := FL.of "java/lang/AbstractStringBuilder" cf_J4 (Nat.le_of_ble_eq_true rfl) (fsame_rf rfl) (ws_of 789 (by decide +kernel))
theorem f_X3_7 : FL RX3 7 5 0 RX3 TX3 5 tyX3 := FL.of "DeedProtocol$Move" cf_X3 (Nat.le_of_ble_eq_true rfl) (fsame_rf rfl) (ws_of 1002 (by decide +kernel))
theorem f_X6_30 : FL RX6 30 5 0 RX3 TX3 5 tyX3 := FL.ofN "DeedProtocol$Move" "DeedProtocol" cf_X3 (Nat.le_of_ble_eq_true rfl) (fsame_rf rfl) (ws_of 1003 (by decide +kernel))
theorem f_X3_13 : FL RX3 13 5 1 RX3 TX3 5 tyX3 := FL.of "DeedProtocol$Move" cf_X3 (Nat.le_of_ble_eq_true rfl) (fsame_rf rfl) (ws_of 1004 (by decide +kernel))
theorem f_X6_41 : FL RX6 41 5 1 RX3 TX3 5 tyX3 := FL.ofN "DeedProtocol$Move" "DeedProtocol" cf_X3 (Nat.le_of_ble_eq_true rfl) (fsame_rf rfl) (ws_of 1005 (by decide +kernel))
theorem f_X3_16 : FL RX3 16 5 2 RX3 TX3 5 tyX3 := FL.of "DeedProtocol$Move" cf_X3 (Nat.le_of_ble_eq_true rfl) (fsame_rf rfl) (ws_of 1006 (by decide +kernel))
theorem f_X6_33 : FL RX6 33 5 2 RX3 TX3 5 tyX3 := FL.ofN "DeedProtocol$Move" "DeedProtocol" cf_X3 (Nat.le_of_ble_eq_true rfl) (fsame_rf rfl) (ws_of 1007 (by decide +kernel))
theorem f_X3_19 : FL RX3 19 5 3 RX3 TX3 5 tyX3 := FL.of "DeedProtocol$Move" cf_X3 (Nat.le_of_ble_eq_true rfl) (fsame_rf rfl) (ws_of 1008 (by decide +kernel))
theorem f_X6_35 : FL RX6 35 5 3 RX3 TX3 5 tyX3 := FL.ofN "DeedProtocol$Move" "DeedProtocol" cf_X3 (Nat.le_of_ble_eq_true rfl) (fsame_rf rfl) (ws_of 1009 (by decide +kernel))
theorem f_X3_22 : FL RX3 22 5 4 RX3 TX3 5 tyX3 := FL.of "DeedProtocol$Move" cf_X3 (Nat.le_of_ble_eq_true rfl) (fsame_rf rfl) (ws_of 1010 (by decide +kernel))
theorem f_X6_24 : FL RX6 24 5 4 RX3 TX3 5 tyX3 := FL.ofN "DeedProtocol$Move" "DeedProtocol" cf_X3 (Nat.le_of_ble_eq_true rfl) (fsame_rf rfl) (ws_of 1011 (by decide +kernel))
theorem f_X1_7 : FL RX1 7 3 0 RX1 TX1 5 tyX1 := FL.of "DeedProtocol$Entry" cf_X1 (Nat.le_of_ble_eq_true rfl) (fsame_rf rfl) (ws_of 1071 (by decide +kernel))
theorem f_X8_364 : FL RX8 364 3 0 RX1 TX1 5 tyX1 := FL.ofN "DeedProtocol$Entry" "DeedProtocol" cf_X1 (Nat.le_of_ble_eq_true rfl) (fsame_rf rfl) (ws_of 1072 (by decide +kernel))
theorem f_X1_13 : FL RX1 13 3 1 RX1 TX1 5 tyX1 := FL.of "DeedProtocol$Entry" cf_X1 (Nat.le_of_ble_eq_true rfl) (fsame_rf rfl) (ws_of 1073 (by decide +kernel))
theorem f_X8_365 : FL RX8 365 3 1 RX1 TX1 5 tyX1 := FL.ofN "DeedProtocol$Entry" "DeedProtocol" cf_X1 (Nat.le_of_ble_eq_true rfl) (fsame_rf rfl) (ws_of 1074 (by decide +kernel))
theorem f_X1_16 : FL RX1 16 3 2 RX1 TX1 5 tyX1 := FL.of "DeedProtocol$Entry" cf_X1 (Nat.le_of_ble_eq_true rfl) (fsame_rf rfl) (ws_of 1075 (by decide +kernel))
theorem f_X8_368 : FL RX8 368 3 2 RX1 TX1 5 tyX1 := FL.ofN "DeedProtocol$Entry" "DeedProtocol" cf_X1 (Nat.le_of_ble_eq_true rfl) (fsame_rf rfl) (ws_of 1076 (by decide +kernel))
theorem f_X1_20 : FL RX1 20 3 3 RX1 TX1 5 tyX1 := FL.of "DeedProtocol$Entry" cf_X1 (Nat.le_of_ble_eq_true rfl) (fsame_rf rfl) (ws_of 1077 (by decide +kernel))
theorem f_X8_369 : FL RX8 369 3 3 RX1 TX1 5 tyX1 := FL.ofN "DeedProtocol$Entry" "DeedProtocol" cf_X1 (Nat.le_of_ble_eq_true rfl) (fsame_rf rfl) (ws_of 1078 (by decide +kernel))
theorem f_X1_23 : FL RX1 23 3 4 RX1 TX1 5 tyX1 := FL.of "DeedProtocol$Entry" cf_X1 (Nat.le_of_ble_eq_true rfl) (fsame_rf rfl) (ws_of 1079 (by decide +kernel))
theorem f_X8_390 : FL RX8 390 3 4 RX1 TX1 5 tyX1 := FL.ofN "DeedProtocol$Entry" "DeedProtocol" cf_X1 (Nat.le_of_ble_eq_true rfl) (fsame_rf rfl) (ws_of 1080 (by decide +kernel))
theorem f_X9_117 : FL RX9 117 11 0 RX9 TX9 43 tyX9 := FL.of "DeedProtocolModel" cf_X9 (Nat.le_of_ble_eq_true rfl) (fsame_rf rfl) (ws_of 1205 (by decide +kernel))
theorem f_X9_134 : FL RX9 134 11 1 RX9 TX9 43 tyX9 := FL.of "DeedProtocolModel" cf_X9 (Nat.le_of_ble_eq_true rfl) (fsame_rf rfl) (ws_of 1206 (by decide +kernel))
theorem f_X9_121 : FL RX9 121 11 2 RX9 TX9 43 tyX9 := FL.of "DeedProtocolModel" cf_X9 (Nat.le_of_ble_eq_true rfl) (fsame_rf rfl) (ws_of 1207 (by decide +kernel))
theorem f_X9_7 : FL RX9 7 11 3 RX9 TX9 43 tyX9 := FL.of "DeedProtocolModel" cf_X9 (Nat.le_of_ble_eq_true rfl) (fsame_rf rfl) (ws_of 1208 (by decide +kernel))
theorem f_X9_13 : FL RX9 13 11 4 RX9 TX9 43 tyX9 := FL.of "DeedProtocolModel" cf_X9 (Nat.le_of_ble_eq_true rfl) (fsame_rf rfl) (ws_of 1209 (by decide +kernel))
theorem f_X9_16 : FL RX9 16 11 5 RX9 TX9 43 tyX9 := FL.of "DeedProtocolModel" cf_X9 (Nat.le_of_ble_eq_true rfl) (fsame_rf rfl) (ws_of 1210 (by decide +kernel))
theorem f_X9_20 : FL RX9 20 11 6 RX9 TX9 43 tyX9 := FL.of "DeedProtocolModel" cf_X9 (Nat.le_of_ble_eq_true rfl) (fsame_rf rfl) (ws_of 1211 (by decide +kernel))
theorem f_X9_23 : FL RX9 23 11 7 RX9 TX9 43 tyX9 := FL.of "DeedProtocolModel" cf_X9 (Nat.le_of_ble_eq_true rfl) (fsame_rf rfl) (ws_of 1212 (by decide +kernel))
theorem f_X9_26 : FL RX9 26 11 8 RX9 TX9 43 tyX9 := FL.of "DeedProtocolModel" cf_X9 (Nat.le_of_ble_eq_true rfl) (fsame_rf rfl) (ws_of 1213 (by decide +kernel))
theorem f_X9_29 : FL RX9 29 11 9 RX9 TX9 43 tyX9 := FL.of "DeedProtocolModel" cf_X9 (Nat.le_of_ble_eq_true rfl) (fsame_rf rfl) (ws_of 1214 (by decide +kernel))
theorem f_X9_128 : FL RX9 128 11 10 RX9 TX9 43 tyX9 := FL.of "DeedProtocolModel" cf_X9 (Nat.le_of_ble_eq_true rfl) (fsame_rf rfl) (ws_of 1215 (by decide +kernel))
theorem f_X9_32 : FL RX9 32 11 11 RX9 TX9 43 tyX9 := FL.of "DeedProtocolModel" cf_X9 (Nat.le_of_ble_eq_true rfl) (fsame_rf rfl) (ws_of 1216 (by decide +kernel))
theorem f_X9_35 : FL RX9 35 11 12 RX9 TX9 43 tyX9 := FL.of "DeedProtocolModel" cf_X9 (Nat.le_of_ble_eq_true rfl) (fsame_rf rfl) (ws_of 1217 (by decide +kernel))
theorem f_X9_38 : FL RX9 38 11 13 RX9 TX9 43 tyX9 := FL.of "DeedProtocolModel" cf_X9 (Nat.le_of_ble_eq_true rfl) (fsame_rf rfl) (ws_of 1218 (by decide +kernel))
theorem f_X9_41 : FL RX9 41 11 14 RX9 TX9 43 tyX9 := FL.of "DeedProtocolModel" cf_X9 (Nat.le_of_ble_eq_true rfl) (fsame_rf rfl) (ws_of 1219 (by decide +kernel))
theorem f_X9_44 : FL RX9 44 11 15 RX9 TX9 43 tyX9 := FL.of "DeedProtocolModel" cf_X9 (Nat.le_of_ble_eq_true rfl) (fsame_rf rfl) (ws_of 1220 (by decide +kernel))
theorem f_X9_47 : FL RX9 47 11 16 RX9 TX9 43 tyX9 := FL.of "DeedProtocolModel" cf_X9 (Nat.le_of_ble_eq_true rfl) (fsame_rf rfl) (ws_of 1221 (by decide +kernel))
theorem f_X9_50 : FL RX9 50 11 17 RX9 TX9 43 tyX9 := FL.of "DeedProtocolModel" cf_X9 (Nat.le_of_ble_eq_true rfl) (fsame_rf rfl) (ws_of 1222 (by decide +kernel))
theorem f_X9_53 : FL RX9 53 11 18 RX9 TX9 43 tyX9 := FL.of "DeedProtocolModel" cf_X9 (Nat.le_of_ble_eq_true rfl) (fsame_rf rfl) (ws_of 1223 (by decide +kernel))
theorem f_X9_56 : FL RX9 56 11 19 RX9 TX9 43 tyX9 := FL.of "DeedProtocolModel" cf_X9 (Nat.le_of_ble_eq_true rfl) (fsame_rf rfl) (ws_of 1224 (by decide +kernel))
theorem f_X9_59 : FL RX9 59 11 20 RX9 TX9 43 tyX9 := FL.of "DeedProtocolModel" cf_X9 (Nat.le_of_ble_eq_true rfl) (fsame_rf rfl) (ws_of 1225 (by decide +kernel))
theorem f_X9_62 : FL RX9 62 11 21 RX9 TX9 43 tyX9 := FL.of "DeedProtocolModel" cf_X9 (Nat.le_of_ble_eq_true rfl) (fsame_rf rfl) (ws_of 1226 (by decide +kernel))
theorem f_X9_65 : FL RX9 65 11 22 RX9 TX9 43 tyX9 := FL.of "DeedProtocolModel" cf_X9 (Nat.le_of_ble_eq_true rfl) (fsame_rf rfl) (ws_of 1227 (by decide +kernel))
theorem f_X9_68 : FL RX9 68 11 23 RX9 TX9 43 tyX9 := FL.of "DeedProtocolModel" cf_X9 (Nat.le_of_ble_eq_true rfl) (fsame_rf rfl) (ws_of 1228 (by decide +kernel))
theorem f_X9_71 : FL RX9 71 11 24 RX9 TX9 43 tyX9 := FL.of "DeedProtocolModel" cf_X9 (Nat.le_of_ble_eq_true rfl) (fsame_rf rfl) (ws_of 1229 (by decide +kernel))
theorem f_X9_74 : FL RX9 74 11 25 RX9 TX9 43 tyX9 := FL.of "DeedProtocolModel" cf_X9 (Nat.le_of_ble_eq_true rfl) (fsame_rf rfl) (ws_of 1230 (by decide +kernel))
theorem f_X9_77 : FL RX9 77 11 26 RX9 TX9 43 tyX9 := FL.of "DeedProtocolModel" cf_X9 (Nat.le_of_ble_eq_true rfl) (fsame_rf rfl) (ws_of 1231 (by decide +kernel))
theorem f_X9_80 : FL RX9 80 11 27 RX9 TX9 43 tyX9 := FL.of "DeedProtocolModel" cf_X9 (Nat.le_of_ble_eq_true rfl) (fsame_rf rfl) (ws_of 1232 (by decide +kernel))
theorem f_X9_83 : FL RX9 83 11 28 RX9 TX9 43 tyX9 := FL.of "DeedProtocolModel" cf_X9 (Nat.le_of_ble_eq_true rfl) (fsame_rf rfl) (ws_of 1233 (by decide +kernel))
theorem f_X9_86 : FL RX9 86 11 29 RX9 TX9 43 tyX9 := FL.of "DeedProtocolModel" cf_X9 (Nat.le_of_ble_eq_true rfl) (fsame_rf rfl) (ws_of 1234 (by decide +kernel))
theorem f_X9_185 : FL RX9 185 11 30 RX9 TX9 43 tyX9 := FL.of "DeedProtocolModel" cf_X9 (Nat.le_of_ble_eq_true rfl) (fsame_rf rfl) (ws_of 1235 (by decide +kernel))
theorem f_X9_131 : FL RX9 131 11 31 RX9 TX9 43 tyX9 := FL.of "DeedProtocolModel" cf_X9 (Nat.le_of_ble_eq_true rfl) (fsame_rf rfl) (ws_of 1236 (by decide +kernel))
theorem f_X9_89 : FL RX9 89 11 32 RX9 TX9 43 tyX9 := FL.of "DeedProtocolModel" cf_X9 (Nat.le_of_ble_eq_true rfl) (fsame_rf rfl) (ws_of 1237 (by decide +kernel))
theorem f_X9_92 : FL RX9 92 11 33 RX9 TX9 43 tyX9 := FL.of "DeedProtocolModel" cf_X9 (Nat.le_of_ble_eq_true rfl) (fsame_rf rfl) (ws_of 1238 (by decide +kernel))
theorem f_X9_96 : FL RX9 96 11 34 RX9 TX9 43 tyX9 := FL.of "DeedProtocolModel" cf_X9 (Nat.le_of_ble_eq_true rfl) (fsame_rf rfl) (ws_of 1239 (by decide +kernel))
theorem f_X9_201 : FL RX9 201 11 35 RX9 TX9 43 tyX9 := FL.of "DeedProtocolModel" cf_X9 (Nat.le_of_ble_eq_true rfl) (fsame_rf rfl) (ws_of 1240 (by decide +kernel))
theorem f_X9_99 : FL RX9 99 11 36 RX9 TX9 43 tyX9 := FL.of "DeedProtocolModel" cf_X9 (Nat.le_of_ble_eq_true rfl) (fsame_rf rfl) (ws_of 1241 (by decide +kernel))
theorem f_X9_102 : FL RX9 102 11 37 RX9 TX9 43 tyX9 := FL.of "DeedProtocolModel" cf_X9 (Nat.le_of_ble_eq_true rfl) (fsame_rf rfl) (ws_of 1242 (by decide +kernel))
theorem f_X9_105 : FL RX9 105 11 38 RX9 TX9 43 tyX9 := FL.of "DeedProtocolModel" cf_X9 (Nat.le_of_ble_eq_true rfl) (fsame_rf rfl) (ws_of 1243 (by decide +kernel))
theorem f_X9_108 : FL RX9 108 11 39 RX9 TX9 43 tyX9 := FL.of "DeedProtocolModel" cf_X9 (Nat.le_of_ble_eq_true rfl) (fsame_rf rfl) (ws_of 1244 (by decide +kernel))
theorem f_X9_217 : FL RX9 217 11 40 RX9 TX9 43 tyX9 := FL.of "DeedProtocolModel" cf_X9 (Nat.le_of_ble_eq_true rfl) (fsame_rf rfl) (ws_of 1245 (by decide +kernel))
theorem f_X9_111 : FL RX9 111 11 41 RX9 TX9 43 tyX9 := FL.of "DeedProtocolModel" cf_X9 (Nat.le_of_ble_eq_true rfl) (fsame_rf rfl) (ws_of 1246 (by decide +kernel))
theorem f_X9_114 : FL RX9 114 11 42 RX9 TX9 43 tyX9 := FL.of "DeedProtocolModel" cf_X9 (Nat.le_of_ble_eq_true rfl) (fsame_rf rfl) (ws_of 1247 (by decide +kernel))
theorem h_ini_L : Cond.initialized RL ∈ WS := ws_of 70 (by decide +kernel)
theorem h_ini_X8 : Cond.initialized RX8 ∈ WS := ws_of 71 (by decide +kernel)
theorem h_ini_Jxa1e45 : Cond.initialized RJxa1e45 ∈ WS := ws_of 72 (by decide +kernel)
theorem h_ini_Jxc12de : Cond.initialized RJxc12de ∈ WS := ws_of 73 (by decide +kernel)
theorem h_ini_Jx4a65c : Cond.initialized RJx4a65c ∈ WS := ws_of 74 (by decide +kernel)
theorem h_ini_X6 : Cond.initialized RX6 ∈ WS := ws_of 75 (by decide +kernel)
theorem h_ini_X9 : Cond.initialized RX9 ∈ WS := ws_of 76 (by decide +kernel)
theorem h_ini_X5 : Cond.initialized RX5 ∈ WS := ws_of 82 (by decide +kernel)
theorem h_ini_J8 : Cond.initialized RJ8 ∈ WS := ws_of 83 (by decide +kernel)
theorem h_ini_J9 : Cond.initialized RJ9 ∈ WS := ws_of 84 (by decide +kernel)
theorem h_ini_J7 : Cond.initialized RJ7 ∈ WS := ws_of 85 (by decide +kernel)
theorem h_ini_J10 : Cond.initialized RJ10 ∈ WS := ws_of 86 (by decide +kernel)
theorem h_ini_J15 : Cond.initialized RJ15 ∈ WS := ws_of 88 (by decide +kernel)
theorem h_ini_J3 : Cond.initialized RJ3 ∈ WS := ws_of 89 (by decide +kernel)
theorem h_ini_Jxd2413 : Cond.initialized RJxd2413 ∈ WS := ws_of 90 (by decide +kernel)
theorem h_ini_J6 : Cond.initialized RJ6 ∈ WS := ws_of 91 (by decide +kernel)
theorem h_ini_X7 : Cond.initialized RX7 ∈ WS := ws_of 92 (by decide +kernel)
theorem h_ini_X0 : Cond.initialized RX0 ∈ WS := ws_of 93 (by decide +kernel)
theorem h_ini_X4 : Cond.initialized RX4 ∈ WS := ws_of 94 (by decide +kernel)
theorem h_ini_X2 : Cond.initialized RX2 ∈ WS := ws_of 95 (by decide +kernel)
theorem h_ini_J5 : Cond.initialized RJ5 ∈ WS := ws_of 96 (by decide +kernel)
theorem h_ini_J4 : Cond.initialized RJ4 ∈ WS := ws_of 97 (by decide +kernel)
theorem h_ini_J0 : Cond.initialized RJ0 ∈ WS := ws_of 98 (by decide +kernel)
theorem h_ini_J2 : Cond.initialized RJ2 ∈ WS := ws_of 99 (by decide +kernel)
theorem h_ini_J1 : Cond.initialized RJ1 ∈ WS := ws_of 100 (by decide +kernel)
theorem h_ini_X3 : Cond.initialized RX3 ∈ WS := ws_of 101 (by decide +kernel)
theorem h_ini_X1 : Cond.initialized RX1 ∈ WS := ws_of 102 (by decide +kernel)
set_option maxRecDepth 100000 in
theorem bX8_init {own : String} {idx : Nat} : KB own idx yX8_init cX8_init 1 none 0 := ⟨aw_mem_ws (i := 107) rfl rfl, h_ini_X8, ⟨⟨by decide, by decide⟩, by decide +kernel⟩⟩
theorem biX8_init : Cond.instanceMethod yX8_init ∈ WS := ws_of 106 (by decide +kernel)
theorem k_L_108 : KI RL 108 yX8_init cX8_init 1 0 := ⟨bX8_init, ws_of 105 (by decide +kernel), rfl, biX8_init⟩
set_option maxRecDepth 100000 in
theorem bJx4a65c_init_da8c8 {own : String} {idx : Nat} : KB own idx yJx4a65c_init_da8c8 cJx4a65c_init_da8c8 1 none 0 := ⟨aw_mem_ws (i := 115) rfl rfl, h_ini_Jx4a65c, ⟨⟨by decide, by decide⟩, by decide +kernel⟩⟩
theorem biJx4a65c_init_da8c8 : Cond.instanceMethod yJx4a65c_init_da8c8 ∈ WS := ws_of 114 (by decide +kernel)
theorem k_X8_11 : KI RX8 11 yJx4a65c_init_da8c8 cJx4a65c_init_da8c8 1 0 := ⟨bJx4a65c_init_da8c8, ws_of 113 (by decide +kernel), rfl, biJx4a65c_init_da8c8⟩
set_option maxRecDepth 100000 in
theorem bJxc12de_init_da8c8 {own : String} {idx : Nat} : KB own idx yJxc12de_init_da8c8 cJxc12de_init_da8c8 1 none 0 := ⟨aw_mem_ws (i := 118) rfl rfl, h_ini_Jxc12de, ⟨⟨by decide, by decide⟩, by decide +kernel⟩⟩
theorem biJxc12de_init_da8c8 : Cond.instanceMethod yJxc12de_init_da8c8 ∈ WS := ws_of 117 (by decide +kernel)
theorem k_Jx4a65c_1 : KI RJx4a65c 1 yJxc12de_init_da8c8 cJxc12de_init_da8c8 1 0 := ⟨bJxc12de_init_da8c8, ws_of 116 (by decide +kernel), rfl, biJxc12de_init_da8c8⟩
set_option maxRecDepth 100000 in
theorem bJxa1e45_init_da8c8 {own : String} {idx : Nat} : KB own idx yJxa1e45_init_da8c8 cJxa1e45_init_da8c8 1 none 0 := ⟨aw_mem_ws (i := 121) rfl rfl, h_ini_Jxa1e45, ⟨⟨by decide, by decide⟩, by decide +kernel⟩⟩
theorem biJxa1e45_init_da8c8 : Cond.instanceMethod yJxa1e45_init_da8c8 ∈ WS := ws_of 120 (by decide +kernel)
theorem k_Jxc12de_1 : KI RJxc12de 1 yJxa1e45_init_da8c8 cJxa1e45_init_da8c8 1 0 := ⟨bJxa1e45_init_da8c8, ws_of 119 (by decide +kernel), rfl, biJxa1e45_init_da8c8⟩
set_option maxRecDepth 100000 in
theorem bX6_init {own : String} {idx : Nat} : KB own idx yX6_init cX6_init 1 none 0 := ⟨aw_mem_ws (i := 141) rfl rfl, h_ini_X6, ⟨⟨by decide, by decide⟩, by decide +kernel⟩⟩
theorem biX6_init : Cond.instanceMethod yX6_init ∈ WS := ws_of 140 (by decide +kernel)
theorem k_X8_27 : KIN RX8 27 yX6_init cX6_init 1 0 := ⟨bX6_init, ⟨"DeedProtocol", ws_of 139 (by decide +kernel)⟩, rfl, biX6_init⟩
set_option maxRecDepth 100000 in
theorem bX8_entries {own : String} {idx : Nat} : KB own idx yX8_entries cX8_entries 1 (some .int) 0 := ⟨aw_mem_ws (i := 179) rfl rfl, h_ini_X8, ⟨⟨by decide, by decide⟩, by decide +kernel⟩⟩
theorem biX8_entries : Cond.instanceMethod yX8_entries ∈ WS ∧ Cond.selects RX8 yX8_entries yX8_entries ∈ WS := ⟨ws_of 177 (by decide +kernel), ws_of 178 (by decide +kernel)⟩
theorem k_L_191 : KV RL 191 yX8_entries cX8_entries 1 (some .int) 0 := ⟨bX8_entries, ws_of 176 (by decide +kernel), biX8_entries.1, biX8_entries.2⟩
set_option maxRecDepth 100000 in
theorem bJx4a65c_size_8abf5 {own : String} {idx : Nat} : KB own idx yJx4a65c_size_8abf5 cJx4a65c_size_8abf5 1 (some .int) 0 := ⟨aw_mem_ws (i := 183) rfl rfl, h_ini_Jx4a65c, ⟨⟨by decide, by decide⟩, by decide +kernel⟩⟩
theorem biJx4a65c_size_8abf5 : Cond.instanceMethod yJx4a65c_size_8abf5 ∈ WS ∧ Cond.selects RJx4a65c yJx4a65c_size_8abf5 yJx4a65c_size_8abf5 ∈ WS := ⟨ws_of 181 (by decide +kernel), ws_of 182 (by decide +kernel)⟩
theorem k_X8_50 : KV RX8 50 yJx4a65c_size_8abf5 cJx4a65c_size_8abf5 1 (some .int) 0 := ⟨bJx4a65c_size_8abf5, ws_of 180 (by decide +kernel), biJx4a65c_size_8abf5.1, biJx4a65c_size_8abf5.2⟩
set_option maxRecDepth 100000 in
theorem bX8_duties {own : String} {idx : Nat} : KB own idx yX8_duties cX8_duties 1 (some .long) 0 := ⟨aw_mem_ws (i := 187) rfl rfl, h_ini_X8, ⟨⟨by decide, by decide⟩, by decide +kernel⟩⟩
theorem biX8_duties : Cond.instanceMethod yX8_duties ∈ WS ∧ Cond.selects RX8 yX8_duties yX8_duties ∈ WS := ⟨ws_of 185 (by decide +kernel), ws_of 186 (by decide +kernel)⟩
theorem k_L_209 : KV RL 209 yX8_duties cX8_duties 1 (some .long) 0 := ⟨bX8_duties, ws_of 184 (by decide +kernel), biX8_duties.1, biX8_duties.2⟩
set_option maxRecDepth 100000 in
theorem bX8_person {own : String} {idx : Nat} : KB own idx yX8_person cX8_person 4 (some .int) 2 := ⟨aw_mem_ws (i := 196) rfl rfl, h_ini_X8, ⟨⟨by decide, by decide⟩, by decide +kernel⟩⟩
theorem biX8_person : Cond.instanceMethod yX8_person ∈ WS ∧ Cond.selects RX8 yX8_person yX8_person ∈ WS := ⟨ws_of 194 (by decide +kernel), ws_of 195 (by decide +kernel)⟩
theorem k_L_7 : KV RL 7 yX8_person cX8_person 4 (some .int) 2 := ⟨bX8_person, ws_of 193 (by decide +kernel), biX8_person.1, biX8_person.2⟩
set_option maxRecDepth 100000 in
theorem bX5_init {own : String} {idx : Nat} : KB own idx yX5_init cX5_init 5 none 4 := ⟨aw_mem_ws (i := 285) rfl rfl, h_ini_X5, ⟨⟨by decide, by decide⟩, by decide +kernel⟩⟩
theorem biX5_init : Cond.instanceMethod yX5_init ∈ WS := ws_of 284 (by decide +kernel)
theorem k_X8_61 : KIN RX8 61 yX5_init cX5_init 5 4 := ⟨bX5_init, ⟨"DeedProtocol", ws_of 283 (by decide +kernel)⟩, rfl, biX5_init⟩
set_option maxRecDepth 100000 in
theorem bJx4a65c_add_9ea2d {own : String} {idx : Nat} : KB own idx yJx4a65c_add_9ea2d cJx4a65c_add_9ea2d 2 (some .boolean) 1 := ⟨aw_mem_ws (i := 317) rfl rfl, h_ini_Jx4a65c, ⟨⟨by decide, by decide⟩, by decide +kernel⟩⟩
theorem biJx4a65c_add_9ea2d : Cond.instanceMethod yJx4a65c_add_9ea2d ∈ WS ∧ Cond.selects RJx4a65c yJx4a65c_add_9ea2d yJx4a65c_add_9ea2d ∈ WS := ⟨ws_of 315 (by decide +kernel), ws_of 316 (by decide +kernel)⟩
theorem k_X8_64 : KV RX8 64 yJx4a65c_add_9ea2d cJx4a65c_add_9ea2d 2 (some .boolean) 1 := ⟨bJx4a65c_add_9ea2d, ws_of 314 (by decide +kernel), biJx4a65c_add_9ea2d.1, biJx4a65c_add_9ea2d.2⟩
set_option maxRecDepth 100000 in
theorem bJx4a65c_add_72be8 {own : String} {idx : Nat} : KB own idx yJx4a65c_add_72be8 cJx4a65c_add_72be8 4 none 3 := ⟨aw_mem_ws (i := 321) rfl rfl, h_ini_Jx4a65c, ⟨⟨by decide, by decide⟩, by decide +kernel⟩⟩
theorem biJx4a65c_add_72be8 : Cond.instanceMethod yJx4a65c_add_72be8 ∈ WS ∧ Cond.selects RJx4a65c yJx4a65c_add_72be8 yJx4a65c_add_72be8 ∈ WS := ⟨ws_of 320 (by decide +kernel), ws_of 1 (by decide +kernel)⟩
theorem k_Jx4a65c_131 : KV RJx4a65c 131 yJx4a65c_add_72be8 cJx4a65c_add_72be8 4 none 3 := ⟨bJx4a65c_add_72be8, ws_of 318 (by decide +kernel), biJx4a65c_add_72be8.1, biJx4a65c_add_72be8.2⟩
set_option maxRecDepth 100000 in
theorem bJx4a65c_grow_d5877 {own : String} {idx : Nat} : KB own idx yJx4a65c_grow_d5877 cJx4a65c_grow_d5877 1 (some (.array (.object "java/lang/Object"))) 0 := ⟨aw_mem_ws (i := 325) rfl rfl, h_ini_Jx4a65c, ⟨⟨by decide, by decide⟩, by decide +kernel⟩⟩
theorem biJx4a65c_grow_d5877 : Cond.instanceMethod yJx4a65c_grow_d5877 ∈ WS ∧ Cond.selects RJx4a65c yJx4a65c_grow_d5877 yJx4a65c_grow_d5877 ∈ WS := ⟨ws_of 324 (by decide +kernel), ws_of 2 (by decide +kernel)⟩
theorem k_Jx4a65c_129 : KV RJx4a65c 129 yJx4a65c_grow_d5877 cJx4a65c_grow_d5877 1 (some (.array (.object "java/lang/Object"))) 0 := ⟨bJx4a65c_grow_d5877, ws_of 322 (by decide +kernel), biJx4a65c_grow_d5877.1, biJx4a65c_grow_d5877.2⟩
set_option maxRecDepth 100000 in
theorem bJx4a65c_grow_92f84 {own : String} {idx : Nat} : KB own idx yJx4a65c_grow_92f84 cJx4a65c_grow_92f84 4 (some (.array (.object "java/lang/Object"))) 1 := ⟨aw_mem_ws (i := 329) rfl rfl, h_ini_Jx4a65c, ⟨⟨by decide, by decide⟩, by decide +kernel⟩⟩
theorem biJx4a65c_grow_92f84 : Cond.instanceMethod yJx4a65c_grow_92f84 ∈ WS ∧ Cond.selects RJx4a65c yJx4a65c_grow_92f84 yJx4a65c_grow_92f84 ∈ WS := ⟨ws_of 328 (by decide +kernel), ws_of 3 (by decide +kernel)⟩
theorem k_Jx4a65c_69 : KV RJx4a65c 69 yJx4a65c_grow_92f84 cJx4a65c_grow_92f84 4 (some (.array (.object "java/lang/Object"))) 1 := ⟨bJx4a65c_grow_92f84, ws_of 326 (by decide +kernel), biJx4a65c_grow_92f84.1, biJx4a65c_grow_92f84.2⟩
set_option maxRecDepth 100000 in
theorem bJ8_newLength_cabcc {own : String} {idx : Nat} : KB own idx yJ8_newLength_cabcc cJ8_newLength_cabcc 4 (some .int) 3 := ⟨aw_mem_ws (i := 332) rfl rfl, h_ini_J8, ⟨⟨by decide, by decide⟩, by decide +kernel⟩⟩
theorem bsJ8_newLength_cabcc : Cond.static yJ8_newLength_cabcc ∈ WS := ws_of 331 (by decide +kernel)
theorem k_Jx4a65c_73 : KS RJx4a65c 73 yJ8_newLength_cabcc cJ8_newLength_cabcc 4 (some .int) 3 := ⟨bJ8_newLength_cabcc, ws_of 330 (by decide +kernel), bsJ8_newLength_cabcc⟩
set_option maxRecDepth 100000 in
theorem bJ9_max_7cf53 {own : String} {idx : Nat} : KB own idx yJ9_max_7cf53 cJ9_max_7cf53 2 (some .int) 2 := ⟨aw_mem_ws (i := 335) rfl rfl, h_ini_J9, ⟨⟨by decide, by decide⟩, by decide +kernel⟩⟩
theorem bsJ9_max_7cf53 : Cond.static yJ9_max_7cf53 ∈ WS := ws_of 334 (by decide +kernel)
theorem k_J8_194 : KS RJ8 194 yJ9_max_7cf53 cJ9_max_7cf53 2 (some .int) 2 := ⟨bJ9_max_7cf53, ws_of 333 (by decide +kernel), bsJ9_max_7cf53⟩
set_option maxRecDepth 100000 in
theorem bJ8_hugeLength_7cf53 {own : String} {idx : Nat} : KB own idx yJ8_hugeLength_7cf53 cJ8_hugeLength_7cf53 3 (some .int) 2 := ⟨aw_mem_ws (i := 339) rfl rfl, h_ini_J8, ⟨⟨by decide, by decide⟩, by decide +kernel⟩⟩
theorem bsJ8_hugeLength_7cf53 : Cond.static yJ8_hugeLength_7cf53 ∈ WS := ws_of 338 (by decide +kernel)
theorem k_J8_201 : KS RJ8 201 yJ8_hugeLength_7cf53 cJ8_hugeLength_7cf53 3 (some .int) 2 := ⟨bJ8_hugeLength_7cf53, ws_of 337 (by decide +kernel), bsJ8_hugeLength_7cf53⟩
set_option maxRecDepth 100000 in
theorem bJ7_copyOf_1904c {own : String} {idx : Nat} : KB own idx yJ7_copyOf_1904c cJ7_copyOf_1904c 2 (some (.array (.object "java/lang/Object"))) 2 := ⟨aw_mem_ws (i := 342) rfl rfl, h_ini_J7, ⟨⟨by decide, by decide⟩, by decide +kernel⟩⟩
theorem bsJ7_copyOf_1904c : Cond.static yJ7_copyOf_1904c ∈ WS := ws_of 341 (by decide +kernel)
theorem k_Jx4a65c_66 : KS RJx4a65c 66 yJ7_copyOf_1904c cJ7_copyOf_1904c 2 (some (.array (.object "java/lang/Object"))) 2 := ⟨bJ7_copyOf_1904c, ws_of 340 (by decide +kernel), bsJ7_copyOf_1904c⟩
set_option maxRecDepth 100000 in
theorem bJ7_copyOf_6403c {own : String} {idx : Nat} : KB own idx yJ7_copyOf_6403c cJ7_copyOf_6403c 4 (some (.array (.object "java/lang/Object"))) 3 := ⟨aw_mem_ws (i := 364) rfl rfl, h_ini_J7, ⟨⟨by decide, by decide⟩, by decide +kernel⟩⟩
theorem bsJ7_copyOf_6403c : Cond.static yJ7_copyOf_6403c ∈ WS := ws_of 363 (by decide +kernel)
theorem k_J7_300 : KS RJ7 300 yJ7_copyOf_6403c cJ7_copyOf_6403c 4 (some (.array (.object "java/lang/Object"))) 3 := ⟨bJ7_copyOf_6403c, ws_of 362 (by decide +kernel), bsJ7_copyOf_6403c⟩
set_option maxRecDepth 100000 in
theorem bJ9_min_7cf53 {own : String} {idx : Nat} : KB own idx yJ9_min_7cf53 cJ9_min_7cf53 2 (some .int) 2 := ⟨aw_mem_ws (i := 370) rfl rfl, h_ini_J9, ⟨⟨by decide, by decide⟩, by decide +kernel⟩⟩
theorem bsJ9_min_7cf53 : Cond.static yJ9_min_7cf53 ∈ WS := ws_of 369 (by decide +kernel)
theorem k_J7_304 : KS RJ7 304 yJ9_min_7cf53 cJ9_min_7cf53 2 (some .int) 2 := ⟨bJ9_min_7cf53, ws_of 368 (by decide +kernel), bsJ9_min_7cf53⟩
theorem k_Jx4a65c_79 : KS RJx4a65c 79 yJ9_max_7cf53 cJ9_max_7cf53 2 (some .int) 2 := ⟨bJ9_max_7cf53, ws_of 374 (by decide +kernel), bsJ9_max_7cf53⟩
set_option maxRecDepth 100000 in
theorem bX8_child {own : String} {idx : Nat} : KB own idx yX8_child cX8_child 5 (some .int) 2 := ⟨aw_mem_ws (i := 383) rfl rfl, h_ini_X8, ⟨⟨by decide, by decide⟩, by decide +kernel⟩⟩
theorem biX8_child : Cond.instanceMethod yX8_child ∈ WS ∧ Cond.selects RX8 yX8_child yX8_child ∈ WS := ⟨ws_of 381 (by decide +kernel), ws_of 382 (by decide +kernel)⟩
theorem k_L_17 : KV RL 17 yX8_child cX8_child 5 (some .int) 2 := ⟨bX8_child, ws_of 380 (by decide +kernel), biX8_child.1, biX8_child.2⟩
set_option maxRecDepth 100000 in
theorem bX8_personAt {own : String} {idx : Nat} : KB own idx yX8_personAt cX8_personAt 2 (some (.object "DeedProtocol$Person")) 1 := ⟨aw_mem_ws (i := 387) rfl rfl, h_ini_X8, ⟨⟨by decide, by decide⟩, by decide +kernel⟩⟩
theorem biX8_personAt : Cond.instanceMethod yX8_personAt ∈ WS ∧ Cond.selects RX8 yX8_personAt yX8_personAt ∈ WS := ⟨ws_of 386 (by decide +kernel), ws_of 4 (by decide +kernel)⟩
theorem k_X8_71 : KV RX8 71 yX8_personAt cX8_personAt 2 (some (.object "DeedProtocol$Person")) 1 := ⟨bX8_personAt, ws_of 384 (by decide +kernel), biX8_personAt.1, biX8_personAt.2⟩
set_option maxRecDepth 100000 in
theorem bJx4a65c_get_915e3 {own : String} {idx : Nat} : KB own idx yJx4a65c_get_915e3 cJx4a65c_get_915e3 2 (some (.object "java/lang/Object")) 1 := ⟨aw_mem_ws (i := 407) rfl rfl, h_ini_Jx4a65c, ⟨⟨by decide, by decide⟩, by decide +kernel⟩⟩
theorem biJx4a65c_get_915e3 : Cond.instanceMethod yJx4a65c_get_915e3 ∈ WS ∧ Cond.selects RJx4a65c yJx4a65c_get_915e3 yJx4a65c_get_915e3 ∈ WS := ⟨ws_of 405 (by decide +kernel), ws_of 406 (by decide +kernel)⟩
theorem k_X8_355 : KV RX8 355 yJx4a65c_get_915e3 cJx4a65c_get_915e3 2 (some (.object "java/lang/Object")) 1 := ⟨bJx4a65c_get_915e3, ws_of 404 (by decide +kernel), biJx4a65c_get_915e3.1, biJx4a65c_get_915e3.2⟩
set_option maxRecDepth 100000 in
theorem bJ15_checkIndex_7cf53 {own : String} {idx : Nat} : KB own idx yJ15_checkIndex_7cf53 cJ15_checkIndex_7cf53 2 (some .int) 2 := ⟨aw_mem_ws (i := 410) rfl rfl, h_ini_J15, ⟨⟨by decide, by decide⟩, by decide +kernel⟩⟩
theorem bsJ15_checkIndex_7cf53 : Cond.static yJ15_checkIndex_7cf53 ∈ WS := ws_of 409 (by decide +kernel)
theorem k_Jx4a65c_118 : KS RJx4a65c 118 yJ15_checkIndex_7cf53 cJ15_checkIndex_7cf53 2 (some .int) 2 := ⟨bJ15_checkIndex_7cf53, ws_of 408 (by decide +kernel), bsJ15_checkIndex_7cf53⟩
set_option maxRecDepth 100000 in
theorem bJ3_checkIndex_8e157 {own : String} {idx : Nat} : KB own idx yJ3_checkIndex_8e157 cJ3_checkIndex_8e157 3 (some .int) 3 := ⟨aw_mem_ws (i := 413) rfl rfl, h_ini_J3, ⟨⟨by decide, by decide⟩, by decide +kernel⟩⟩
theorem bsJ3_checkIndex_8e157 : Cond.static yJ3_checkIndex_8e157 ∈ WS := ws_of 412 (by decide +kernel)
theorem k_J15_105 : KS RJ15 105 yJ3_checkIndex_8e157 cJ3_checkIndex_8e157 3 (some .int) 3 := ⟨bJ3_checkIndex_8e157, ws_of 411 (by decide +kernel), bsJ3_checkIndex_8e157⟩
set_option maxRecDepth 100000 in
theorem bJx4a65c_elementData_915e3 {own : String} {idx : Nat} : KB own idx yJx4a65c_elementData_915e3 cJx4a65c_elementData_915e3 2 (some (.object "java/lang/Object")) 1 := ⟨aw_mem_ws (i := 417) rfl rfl, h_ini_Jx4a65c, ⟨⟨by decide, by decide⟩, by decide +kernel⟩⟩
theorem biJx4a65c_elementData_915e3 : Cond.instanceMethod yJx4a65c_elementData_915e3 ∈ WS ∧ Cond.selects RJx4a65c yJx4a65c_elementData_915e3 yJx4a65c_elementData_915e3 ∈ WS := ⟨ws_of 415 (by decide +kernel), ws_of 416 (by decide +kernel)⟩
theorem k_Jx4a65c_123 : KV RJx4a65c 123 yJx4a65c_elementData_915e3 cJx4a65c_elementData_915e3 2 (some (.object "java/lang/Object")) 1 := ⟨bJx4a65c_elementData_915e3, ws_of 414 (by decide +kernel), biJx4a65c_elementData_915e3.1, biJx4a65c_elementData_915e3.2⟩
set_option maxRecDepth 100000 in
theorem bX5_parentCount {own : String} {idx : Nat} : KB own idx yX5_parentCount cX5_parentCount 1 (some .int) 0 := ⟨aw_mem_ws (i := 422) rfl rfl, h_ini_X5, ⟨⟨by decide, by decide⟩, by decide +kernel⟩⟩
theorem biX5_parentCount : Cond.instanceMethod yX5_parentCount ∈ WS ∧ Cond.selects RX5 yX5_parentCount yX5_parentCount ∈ WS := ⟨ws_of 421 (by decide +kernel), ws_of 5 (by decide +kernel)⟩
theorem k_X8_77 : KVN RX8 77 yX5_parentCount cX5_parentCount 1 (some .int) 0 := ⟨bX5_parentCount, ⟨"DeedProtocol", ws_of 419 (by decide +kernel)⟩, biX5_parentCount.1, biX5_parentCount.2⟩
set_option maxRecDepth 100000 in
theorem bJ6_bitCount_0f7a4 {own : String} {idx : Nat} : KB own idx yJ6_bitCount_0f7a4 cJ6_bitCount_0f7a4 1 (some .int) 1 := ⟨aw_mem_ws (i := 425) rfl rfl, h_ini_J6, ⟨⟨by decide, by decide⟩, by decide +kernel⟩⟩
theorem bsJ6_bitCount_0f7a4 : Cond.static yJ6_bitCount_0f7a4 ∈ WS := ws_of 424 (by decide +kernel)
theorem k_X5_35 : KS RX5 35 yJ6_bitCount_0f7a4 cJ6_bitCount_0f7a4 1 (some .int) 1 := ⟨bJ6_bitCount_0f7a4, ws_of 423 (by decide +kernel), bsJ6_bitCount_0f7a4⟩
set_option maxRecDepth 100000 in
theorem bX5_isChildOf {own : String} {idx : Nat} : KB own idx yX5_isChildOf cX5_isChildOf 2 (some .boolean) 1 := ⟨aw_mem_ws (i := 432) rfl rfl, h_ini_X5, ⟨⟨by decide, by decide⟩, by decide +kernel⟩⟩
theorem biX5_isChildOf : Cond.instanceMethod yX5_isChildOf ∈ WS ∧ Cond.selects RX5 yX5_isChildOf yX5_isChildOf ∈ WS := ⟨ws_of 431 (by decide +kernel), ws_of 6 (by decide +kernel)⟩
theorem k_X8_80 : KVN RX8 80 yX5_isChildOf cX5_isChildOf 2 (some .boolean) 1 := ⟨bX5_isChildOf, ⟨"DeedProtocol", ws_of 429 (by decide +kernel)⟩, biX5_isChildOf.1, biX5_isChildOf.2⟩
set_option maxRecDepth 100000 in
theorem bX8_refuseDead {own : String} {idx : Nat} : KB own idx yX8_refuseDead cX8_refuseDead 2 none 2 := ⟨aw_mem_ws (i := 436) rfl rfl, h_ini_X8, ⟨⟨by decide, by decide⟩, by decide +kernel⟩⟩
theorem bsX8_refuseDead : Cond.static yX8_refuseDead ∈ WS := ws_of 435 (by decide +kernel)
theorem k_X8_86 : KS RX8 86 yX8_refuseDead cX8_refuseDead 2 none 2 := ⟨bX8_refuseDead, ws_of 434 (by decide +kernel), bsX8_refuseDead⟩
set_option maxRecDepth 100000 in
theorem bX5_addParent {own : String} {idx : Nat} : KB own idx yX5_addParent cX5_addParent 2 none 1 := ⟨aw_mem_ws (i := 441) rfl rfl, h_ini_X5, ⟨⟨by decide, by decide⟩, by decide +kernel⟩⟩
theorem biX5_addParent : Cond.instanceMethod yX5_addParent ∈ WS ∧ Cond.selects RX5 yX5_addParent yX5_addParent ∈ WS := ⟨ws_of 440 (by decide +kernel), ws_of 7 (by decide +kernel)⟩
theorem k_X8_90 : KVN RX8 90 yX5_addParent cX5_addParent 2 none 1 := ⟨bX5_addParent, ⟨"DeedProtocol", ws_of 438 (by decide +kernel)⟩, biX5_addParent.1, biX5_addParent.2⟩
set_option maxRecDepth 100000 in
theorem bX8_guard {own : String} {idx : Nat} : KB own idx yX8_guard cX8_guard 6 (some .int) 2 := ⟨aw_mem_ws (i := 448) rfl rfl, h_ini_X8, ⟨⟨by decide, by decide⟩, by decide +kernel⟩⟩
theorem biX8_guard : Cond.instanceMethod yX8_guard ∈ WS ∧ Cond.selects RX8 yX8_guard yX8_guard ∈ WS := ⟨ws_of 446 (by decide +kernel), ws_of 447 (by decide +kernel)⟩
theorem k_L_23 : KV RL 23 yX8_guard cX8_guard 6 (some .int) 2 := ⟨bX8_guard, ws_of 445 (by decide +kernel), biX8_guard.1, biX8_guard.2⟩
set_option maxRecDepth 100000 in
theorem bX8_thing {own : String} {idx : Nat} : KB own idx yX8_thing cX8_thing 5 (some .int) 2 := ⟨aw_mem_ws (i := 456) rfl rfl, h_ini_X8, ⟨⟨by decide, by decide⟩, by decide +kernel⟩⟩
theorem biX8_thing : Cond.instanceMethod yX8_thing ∈ WS ∧ Cond.selects RX8 yX8_thing yX8_thing ∈ WS := ⟨ws_of 454 (by decide +kernel), ws_of 455 (by decide +kernel)⟩
theorem k_L_26 : KV RL 26 yX8_thing cX8_thing 5 (some .int) 2 := ⟨bX8_thing, ws_of 453 (by decide +kernel), biX8_thing.1, biX8_thing.2⟩
set_option maxRecDepth 100000 in
theorem bX7_init {own : String} {idx : Nat} : KB own idx yX7_init cX7_init 4 none 3 := ⟨aw_mem_ws (i := 464) rfl rfl, h_ini_X7, ⟨⟨by decide, by decide⟩, by decide +kernel⟩⟩
theorem biX7_init : Cond.instanceMethod yX7_init ∈ WS := ws_of 463 (by decide +kernel)
theorem k_X8_113 : KIN RX8 113 yX7_init cX7_init 4 3 := ⟨bX7_init, ⟨"DeedProtocol", ws_of 462 (by decide +kernel)⟩, rfl, biX7_init⟩
theorem k_X7_9 : KIN RX7 9 yX6_init cX6_init 1 0 := ⟨bX6_init, ⟨"DeedProtocol", ws_of 467 (by decide +kernel)⟩, rfl, biX6_init⟩
set_option maxRecDepth 100000 in
theorem bX6_startWith {own : String} {idx : Nat} : KB own idx yX6_startWith cX6_startWith 3 none 1 := ⟨aw_mem_ws (i := 471) rfl rfl, h_ini_X6, ⟨⟨by decide, by decide⟩, by decide +kernel⟩⟩
theorem biX6_startWith : Cond.instanceMethod yX6_startWith ∈ WS ∧ Cond.selects RX6 yX6_startWith yX6_startWith ∈ WS := ⟨ws_of 470 (by decide +kernel), ws_of 8 (by decide +kernel)⟩
theorem k_X7_26 : KVN RX7 26 yX6_startWith cX6_startWith 3 none 1 := ⟨bX6_startWith, ⟨"DeedProtocol", ws_of 468 (by decide +kernel)⟩, biX6_startWith.1, biX6_startWith.2⟩
set_option maxRecDepth 100000 in
theorem bX8_isAble {own : String} {idx : Nat} : KB own idx yX8_isAble cX8_isAble 2 (some .boolean) 1 := ⟨aw_mem_ws (i := 495) rfl rfl, h_ini_X8, ⟨⟨by decide, by decide⟩, by decide +kernel⟩⟩
theorem biX8_isAble : Cond.instanceMethod yX8_isAble ∈ WS ∧ Cond.selects RX8 yX8_isAble yX8_isAble ∈ WS := ⟨ws_of 493 (by decide +kernel), ws_of 494 (by decide +kernel)⟩
theorem k_L_29 : KV RL 29 yX8_isAble cX8_isAble 2 (some .boolean) 1 := ⟨bX8_isAble, ws_of 492 (by decide +kernel), biX8_isAble.1, biX8_isAble.2⟩
set_option maxRecDepth 100000 in
theorem bX5_isAbleOn {own : String} {idx : Nat} : KB own idx yX5_isAbleOn cX5_isAbleOn 3 (some .boolean) 1 := ⟨aw_mem_ws (i := 499) rfl rfl, h_ini_X5, ⟨⟨by decide, by decide⟩, by decide +kernel⟩⟩
theorem biX5_isAbleOn : Cond.instanceMethod yX5_isAbleOn ∈ WS ∧ Cond.selects RX5 yX5_isAbleOn yX5_isAbleOn ∈ WS := ⟨ws_of 498 (by decide +kernel), ws_of 9 (by decide +kernel)⟩
theorem k_X8_117 : KVN RX8 117 yX5_isAbleOn cX5_isAbleOn 3 (some .boolean) 1 := ⟨bX5_isAbleOn, ⟨"DeedProtocol", ws_of 496 (by decide +kernel)⟩, biX5_isAbleOn.1, biX5_isAbleOn.2⟩
set_option maxRecDepth 100000 in
theorem bX8_draft {own : String} {idx : Nat} : KB own idx yX8_draft cX8_draft 10 (some .int) 6 := ⟨aw_mem_ws (i := 506) rfl rfl, h_ini_X8, ⟨⟨by decide, by decide⟩, by decide +kernel⟩⟩
theorem biX8_draft : Cond.instanceMethod yX8_draft ∈ WS ∧ Cond.selects RX8 yX8_draft yX8_draft ∈ WS := ⟨ws_of 504 (by decide +kernel), ws_of 505 (by decide +kernel)⟩
theorem k_L_33 : KV RL 33 yX8_draft cX8_draft 10 (some .int) 6 := ⟨bX8_draft, ws_of 503 (by decide +kernel), biX8_draft.1, biX8_draft.2⟩
set_option maxRecDepth 100000 in
theorem bX8_thingAt {own : String} {idx : Nat} : KB own idx yX8_thingAt cX8_thingAt 2 (some (.object "DeedProtocol$Thing")) 1 := ⟨aw_mem_ws (i := 510) rfl rfl, h_ini_X8, ⟨⟨by decide, by decide⟩, by decide +kernel⟩⟩
theorem biX8_thingAt : Cond.instanceMethod yX8_thingAt ∈ WS ∧ Cond.selects RX8 yX8_thingAt yX8_thingAt ∈ WS := ⟨ws_of 509 (by decide +kernel), ws_of 10 (by decide +kernel)⟩
theorem k_X8_121 : KV RX8 121 yX8_thingAt cX8_thingAt 2 (some (.object "DeedProtocol$Thing")) 1 := ⟨bX8_thingAt, ws_of 507 (by decide +kernel), biX8_thingAt.1, biX8_thingAt.2⟩
set_option maxRecDepth 100000 in
theorem bX8_isOfThing {own : String} {idx : Nat} : KB own idx yX8_isOfThing cX8_isOfThing 1 (some .boolean) 1 := ⟨aw_mem_ws (i := 514) rfl rfl, h_ini_X8, ⟨⟨by decide, by decide⟩, by decide +kernel⟩⟩
theorem bsX8_isOfThing : Cond.static yX8_isOfThing ∈ WS := ws_of 513 (by decide +kernel)
theorem k_X8_125 : KS RX8 125 yX8_isOfThing cX8_isOfThing 1 (some .boolean) 1 := ⟨bX8_isOfThing, ws_of 512 (by decide +kernel), bsX8_isOfThing⟩
set_option maxRecDepth 100000 in
theorem bX8_isPart {own : String} {idx : Nat} : KB own idx yX8_isPart cX8_isPart 2 (some .boolean) 2 := ⟨aw_mem_ws (i := 517) rfl rfl, h_ini_X8, ⟨⟨by decide, by decide⟩, by decide +kernel⟩⟩
theorem bsX8_isPart : Cond.static yX8_isPart ∈ WS := ws_of 516 (by decide +kernel)
theorem k_X8_128 : KS RX8 128 yX8_isPart cX8_isPart 2 (some .boolean) 2 := ⟨bX8_isPart, ws_of 515 (by decide +kernel), bsX8_isPart⟩
set_option maxRecDepth 100000 in
theorem bX8_refuseNewDeed {own : String} {idx : Nat} : KB own idx yX8_refuseNewDeed cX8_refuseNewDeed 3 none 2 := ⟨aw_mem_ws (i := 522) rfl rfl, h_ini_X8, ⟨⟨by decide, by decide⟩, by decide +kernel⟩⟩
theorem biX8_refuseNewDeed : Cond.instanceMethod yX8_refuseNewDeed ∈ WS ∧ Cond.selects RX8 yX8_refuseNewDeed yX8_refuseNewDeed ∈ WS := ⟨ws_of 521 (by decide +kernel), ws_of 11 (by decide +kernel)⟩
theorem k_X8_134 : KV RX8 134 yX8_refuseNewDeed cX8_refuseNewDeed 3 none 2 := ⟨bX8_refuseNewDeed, ws_of 519 (by decide +kernel), biX8_refuseNewDeed.1, biX8_refuseNewDeed.2⟩
set_option maxRecDepth 100000 in
theorem bX0_init {own : String} {idx : Nat} : KB own idx yX0_init cX0_init 8 none 7 := ⟨aw_mem_ws (i := 528) rfl rfl, h_ini_X0, ⟨⟨by decide, by decide⟩, by decide +kernel⟩⟩
theorem biX0_init : Cond.instanceMethod yX0_init ∈ WS := ws_of 527 (by decide +kernel)
theorem k_X8_139 : KIN RX8 139 yX0_init cX0_init 8 7 := ⟨bX0_init, ⟨"DeedProtocol", ws_of 526 (by decide +kernel)⟩, rfl, biX0_init⟩
set_option maxRecDepth 100000 in
theorem bX4_init {own : String} {idx : Nat} : KB own idx yX4_init cX4_init 1 none 0 := ⟨aw_mem_ws (i := 534) rfl rfl, h_ini_X4, ⟨⟨by decide, by decide⟩, by decide +kernel⟩⟩
theorem biX4_init : Cond.instanceMethod yX4_init ∈ WS := ws_of 533 (by decide +kernel)
theorem k_X0_11 : KIN RX0 11 yX4_init cX4_init 1 0 := ⟨bX4_init, ⟨"DeedProtocol", ws_of 532 (by decide +kernel)⟩, rfl, biX4_init⟩
set_option maxRecDepth 100000 in
theorem bX8_keepDeed {own : String} {idx : Nat} : KB own idx yX8_keepDeed cX8_keepDeed 2 (some .int) 1 := ⟨aw_mem_ws (i := 608) rfl rfl, h_ini_X8, ⟨⟨by decide, by decide⟩, by decide +kernel⟩⟩
theorem biX8_keepDeed : Cond.instanceMethod yX8_keepDeed ∈ WS ∧ Cond.selects RX8 yX8_keepDeed yX8_keepDeed ∈ WS := ⟨ws_of 607 (by decide +kernel), ws_of 12 (by decide +kernel)⟩
theorem k_X8_142 : KV RX8 142 yX8_keepDeed cX8_keepDeed 2 (some .int) 1 := ⟨bX8_keepDeed, ws_of 605 (by decide +kernel), biX8_keepDeed.1, biX8_keepDeed.2⟩
set_option maxRecDepth 100000 in
theorem bX8_power {own : String} {idx : Nat} : KB own idx yX8_power cX8_power 10 (some .int) 5 := ⟨aw_mem_ws (i := 615) rfl rfl, h_ini_X8, ⟨⟨by decide, by decide⟩, by decide +kernel⟩⟩
theorem biX8_power : Cond.instanceMethod yX8_power ∈ WS ∧ Cond.selects RX8 yX8_power yX8_power ∈ WS := ⟨ws_of 613 (by decide +kernel), ws_of 614 (by decide +kernel)⟩
theorem k_L_37 : KV RL 37 yX8_power cX8_power 10 (some .int) 5 := ⟨bX8_power, ws_of 612 (by decide +kernel), biX8_power.1, biX8_power.2⟩
set_option maxRecDepth 100000 in
theorem bX2_init {own : String} {idx : Nat} : KB own idx yX2_init cX2_init 3 none 2 := ⟨aw_mem_ws (i := 621) rfl rfl, h_ini_X2, ⟨⟨by decide, by decide⟩, by decide +kernel⟩⟩
theorem biX2_init : Cond.instanceMethod yX2_init ∈ WS := ws_of 620 (by decide +kernel)
theorem k_X8_150 : KIN RX8 150 yX2_init cX2_init 3 2 := ⟨bX2_init, ⟨"DeedProtocol", ws_of 619 (by decide +kernel)⟩, rfl, biX2_init⟩
set_option maxRecDepth 100000 in
theorem bX8_will {own : String} {idx : Nat} : KB own idx yX8_will cX8_will 7 (some .int) 4 := ⟨aw_mem_ws (i := 650) rfl rfl, h_ini_X8, ⟨⟨by decide, by decide⟩, by decide +kernel⟩⟩
theorem biX8_will : Cond.instanceMethod yX8_will ∈ WS ∧ Cond.selects RX8 yX8_will yX8_will ∈ WS := ⟨ws_of 648 (by decide +kernel), ws_of 649 (by decide +kernel)⟩
theorem k_L_41 : KV RL 41 yX8_will cX8_will 7 (some .int) 4 := ⟨bX8_will, ws_of 647 (by decide +kernel), biX8_will.1, biX8_will.2⟩
set_option maxRecDepth 100000 in
theorem bX8_sign {own : String} {idx : Nat} : KB own idx yX8_sign cX8_sign 9 (some .int) 4 := ⟨aw_mem_ws (i := 658) rfl rfl, h_ini_X8, ⟨⟨by decide, by decide⟩, by decide +kernel⟩⟩
theorem biX8_sign : Cond.instanceMethod yX8_sign ∈ WS ∧ Cond.selects RX8 yX8_sign yX8_sign ∈ WS := ⟨ws_of 656 (by decide +kernel), ws_of 657 (by decide +kernel)⟩
theorem k_L_45 : KV RL 45 yX8_sign cX8_sign 9 (some .int) 4 := ⟨bX8_sign, ws_of 655 (by decide +kernel), biX8_sign.1, biX8_sign.2⟩
set_option maxRecDepth 100000 in
theorem bX8_deedAt {own : String} {idx : Nat} : KB own idx yX8_deedAt cX8_deedAt 2 (some (.object "DeedProtocol$Deed")) 1 := ⟨aw_mem_ws (i := 662) rfl rfl, h_ini_X8, ⟨⟨by decide, by decide⟩, by decide +kernel⟩⟩
theorem biX8_deedAt : Cond.instanceMethod yX8_deedAt ∈ WS ∧ Cond.selects RX8 yX8_deedAt yX8_deedAt ∈ WS := ⟨ws_of 661 (by decide +kernel), ws_of 13 (by decide +kernel)⟩
theorem k_X8_159 : KV RX8 159 yX8_deedAt cX8_deedAt 2 (some (.object "DeedProtocol$Deed")) 1 := ⟨bX8_deedAt, ws_of 659 (by decide +kernel), biX8_deedAt.1, biX8_deedAt.2⟩
set_option maxRecDepth 100000 in
theorem bX8_refuseClosedOrHaving {own : String} {idx : Nat} : KB own idx yX8_refuseClosedOrHaving cX8_refuseClosedOrHaving 2 none 2 := ⟨aw_mem_ws (i := 666) rfl rfl, h_ini_X8, ⟨⟨by decide, by decide⟩, by decide +kernel⟩⟩
theorem bsX8_refuseClosedOrHaving : Cond.static yX8_refuseClosedOrHaving ∈ WS := ws_of 665 (by decide +kernel)
theorem k_X8_163 : KS RX8 163 yX8_refuseClosedOrHaving cX8_refuseClosedOrHaving 2 none 2 := ⟨bX8_refuseClosedOrHaving, ws_of 664 (by decide +kernel), bsX8_refuseClosedOrHaving⟩
set_option maxRecDepth 100000 in
theorem bX0_isClosed {own : String} {idx : Nat} : KB own idx yX0_isClosed cX0_isClosed 1 (some .boolean) 0 := ⟨aw_mem_ws (i := 670) rfl rfl, h_ini_X0, ⟨⟨by decide, by decide⟩, by decide +kernel⟩⟩
theorem biX0_isClosed : Cond.instanceMethod yX0_isClosed ∈ WS ∧ Cond.selects RX0 yX0_isClosed yX0_isClosed ∈ WS := ⟨ws_of 669 (by decide +kernel), ws_of 14 (by decide +kernel)⟩
theorem k_X8_186 : KVN RX8 186 yX0_isClosed cX0_isClosed 1 (some .boolean) 0 := ⟨bX0_isClosed, ⟨"DeedProtocol", ws_of 667 (by decide +kernel)⟩, biX0_isClosed.1, biX0_isClosed.2⟩
set_option maxRecDepth 100000 in
theorem bX0_hasAll {own : String} {idx : Nat} : KB own idx yX0_hasAll cX0_hasAll 2 (some .boolean) 1 := ⟨aw_mem_ws (i := 674) rfl rfl, h_ini_X0, ⟨⟨by decide, by decide⟩, by decide +kernel⟩⟩
theorem biX0_hasAll : Cond.instanceMethod yX0_hasAll ∈ WS ∧ Cond.selects RX0 yX0_hasAll yX0_hasAll ∈ WS := ⟨ws_of 673 (by decide +kernel), ws_of 15 (by decide +kernel)⟩
theorem k_X8_408 : KVN RX8 408 yX0_hasAll cX0_hasAll 2 (some .boolean) 1 := ⟨bX0_hasAll, ⟨"DeedProtocol", ws_of 671 (by decide +kernel)⟩, biX0_hasAll.1, biX0_hasAll.2⟩
set_option maxRecDepth 100000 in
theorem bX8_signsWithoutPower {own : String} {idx : Nat} : KB own idx yX8_signsWithoutPower cX8_signsWithoutPower 5 (some .boolean) 3 := ⟨aw_mem_ws (i := 679) rfl rfl, h_ini_X8, ⟨⟨by decide, by decide⟩, by decide +kernel⟩⟩
theorem biX8_signsWithoutPower : Cond.instanceMethod yX8_signsWithoutPower ∈ WS ∧ Cond.selects RX8 yX8_signsWithoutPower yX8_signsWithoutPower ∈ WS := ⟨ws_of 678 (by decide +kernel), ws_of 16 (by decide +kernel)⟩
theorem k_X8_167 : KV RX8 167 yX8_signsWithoutPower cX8_signsWithoutPower 5 (some .boolean) 3 := ⟨bX8_signsWithoutPower, ws_of 676 (by decide +kernel), biX8_signsWithoutPower.1, biX8_signsWithoutPower.2⟩
set_option maxRecDepth 100000 in
theorem bX0_side {own : String} {idx : Nat} : KB own idx yX0_side cX0_side 2 (some (.object "DeedProtocol$Person")) 1 := ⟨aw_mem_ws (i := 683) rfl rfl, h_ini_X0, ⟨⟨by decide, by decide⟩, by decide +kernel⟩⟩
theorem biX0_side : Cond.instanceMethod yX0_side ∈ WS ∧ Cond.selects RX0 yX0_side yX0_side ∈ WS := ⟨ws_of 682 (by decide +kernel), ws_of 17 (by decide +kernel)⟩
theorem k_X8_413 : KVN RX8 413 yX0_side cX0_side 2 (some (.object "DeedProtocol$Person")) 1 := ⟨bX0_side, ⟨"DeedProtocol", ws_of 680 (by decide +kernel)⟩, biX0_side.1, biX0_side.2⟩
set_option maxRecDepth 100000 in
theorem bX8_signsAsGuardian {own : String} {idx : Nat} : KB own idx yX8_signsAsGuardian cX8_signsAsGuardian 5 (some .boolean) 3 := ⟨aw_mem_ws (i := 687) rfl rfl, h_ini_X8, ⟨⟨by decide, by decide⟩, by decide +kernel⟩⟩
theorem biX8_signsAsGuardian : Cond.instanceMethod yX8_signsAsGuardian ∈ WS ∧ Cond.selects RX8 yX8_signsAsGuardian yX8_signsAsGuardian ∈ WS := ⟨ws_of 686 (by decide +kernel), ws_of 18 (by decide +kernel)⟩
theorem k_X8_417 : KV RX8 417 yX8_signsAsGuardian cX8_signsAsGuardian 5 (some .boolean) 3 := ⟨bX8_signsAsGuardian, ws_of 684 (by decide +kernel), biX8_signsAsGuardian.1, biX8_signsAsGuardian.2⟩
set_option maxRecDepth 100000 in
theorem bX8_signsByPower {own : String} {idx : Nat} : KB own idx yX8_signsByPower cX8_signsByPower 5 (some .boolean) 4 := ⟨aw_mem_ws (i := 691) rfl rfl, h_ini_X8, ⟨⟨by decide, by decide⟩, by decide +kernel⟩⟩
theorem biX8_signsByPower : Cond.instanceMethod yX8_signsByPower ∈ WS ∧ Cond.selects RX8 yX8_signsByPower yX8_signsByPower ∈ WS := ⟨ws_of 690 (by decide +kernel), ws_of 19 (by decide +kernel)⟩
theorem k_X8_174 : KV RX8 174 yX8_signsByPower cX8_signsByPower 5 (some .boolean) 4 := ⟨bX8_signsByPower, ws_of 688 (by decide +kernel), biX8_signsByPower.1, biX8_signsByPower.2⟩
set_option maxRecDepth 100000 in
theorem bX8_isGoodPower {own : String} {idx : Nat} : KB own idx yX8_isGoodPower cX8_isGoodPower 5 (some .boolean) 1 := ⟨aw_mem_ws (i := 695) rfl rfl, h_ini_X8, ⟨⟨by decide, by decide⟩, by decide +kernel⟩⟩
theorem biX8_isGoodPower : Cond.instanceMethod yX8_isGoodPower ∈ WS ∧ Cond.selects RX8 yX8_isGoodPower yX8_isGoodPower ∈ WS := ⟨ws_of 694 (by decide +kernel), ws_of 20 (by decide +kernel)⟩
theorem k_X8_277 : KV RX8 277 yX8_isGoodPower cX8_isGoodPower 5 (some .boolean) 1 := ⟨bX8_isGoodPower, ws_of 692 (by decide +kernel), biX8_isGoodPower.1, biX8_isGoodPower.2⟩
set_option maxRecDepth 100000 in
theorem bX8_isGoodByItself {own : String} {idx : Nat} : KB own idx yX8_isGoodByItself cX8_isGoodByItself 4 (some .boolean) 2 := ⟨aw_mem_ws (i := 699) rfl rfl, h_ini_X8, ⟨⟨by decide, by decide⟩, by decide +kernel⟩⟩
theorem biX8_isGoodByItself : Cond.instanceMethod yX8_isGoodByItself ∈ WS ∧ Cond.selects RX8 yX8_isGoodByItself yX8_isGoodByItself ∈ WS := ⟨ws_of 698 (by decide +kernel), ws_of 21 (by decide +kernel)⟩
theorem k_X8_430 : KV RX8 430 yX8_isGoodByItself cX8_isGoodByItself 4 (some .boolean) 2 := ⟨bX8_isGoodByItself, ws_of 696 (by decide +kernel), biX8_isGoodByItself.1, biX8_isGoodByItself.2⟩
theorem k_X8_440 : KS RX8 440 yJ9_min_7cf53 cJ9_min_7cf53 2 (some .int) 2 := ⟨bJ9_min_7cf53, ws_of 700 (by decide +kernel), bsJ9_min_7cf53⟩
set_option maxRecDepth 100000 in
theorem bX8_add {own : String} {idx : Nat} : KB own idx yX8_add cX8_add 4 (some .int) 2 := ⟨aw_mem_ws (i := 708) rfl rfl, h_ini_X8, ⟨⟨by decide, by decide⟩, by decide +kernel⟩⟩
theorem biX8_add : Cond.instanceMethod yX8_add ∈ WS ∧ Cond.selects RX8 yX8_add yX8_add ∈ WS := ⟨ws_of 706 (by decide +kernel), ws_of 707 (by decide +kernel)⟩
theorem k_L_49 : KV RL 49 yX8_add cX8_add 4 (some .int) 2 := ⟨bX8_add, ws_of 705 (by decide +kernel), biX8_add.1, biX8_add.2⟩
set_option maxRecDepth 100000 in
theorem bX8_witness {own : String} {idx : Nat} : KB own idx yX8_witness cX8_witness 5 (some .int) 2 := ⟨aw_mem_ws (i := 716) rfl rfl, h_ini_X8, ⟨⟨by decide, by decide⟩, by decide +kernel⟩⟩
theorem biX8_witness : Cond.instanceMethod yX8_witness ∈ WS ∧ Cond.selects RX8 yX8_witness yX8_witness ∈ WS := ⟨ws_of 714 (by decide +kernel), ws_of 715 (by decide +kernel)⟩
theorem k_L_52 : KV RL 52 yX8_witness cX8_witness 5 (some .int) 2 := ⟨bX8_witness, ws_of 713 (by decide +kernel), biX8_witness.1, biX8_witness.2⟩
set_option maxRecDepth 100000 in
theorem bX0_hasWitness {own : String} {idx : Nat} : KB own idx yX0_hasWitness cX0_hasWitness 2 (some .boolean) 1 := ⟨aw_mem_ws (i := 720) rfl rfl, h_ini_X0, ⟨⟨by decide, by decide⟩, by decide +kernel⟩⟩
theorem biX0_hasWitness : Cond.instanceMethod yX0_hasWitness ∈ WS ∧ Cond.selects RX0 yX0_hasWitness yX0_hasWitness ∈ WS := ⟨ws_of 719 (by decide +kernel), ws_of 22 (by decide +kernel)⟩
theorem k_X8_190 : KVN RX8 190 yX0_hasWitness cX0_hasWitness 2 (some .boolean) 1 := ⟨bX0_hasWitness, ⟨"DeedProtocol", ws_of 717 (by decide +kernel)⟩, biX0_hasWitness.1, biX0_hasWitness.2⟩
set_option maxRecDepth 100000 in
theorem bX8_canWitness {own : String} {idx : Nat} : KB own idx yX8_canWitness cX8_canWitness 3 (some .boolean) 2 := ⟨aw_mem_ws (i := 725) rfl rfl, h_ini_X8, ⟨⟨by decide, by decide⟩, by decide +kernel⟩⟩
theorem biX8_canWitness : Cond.instanceMethod yX8_canWitness ∈ WS ∧ Cond.selects RX8 yX8_canWitness yX8_canWitness ∈ WS := ⟨ws_of 724 (by decide +kernel), ws_of 23 (by decide +kernel)⟩
theorem k_X8_195 : KV RX8 195 yX8_canWitness cX8_canWitness 3 (some .boolean) 2 := ⟨bX8_canWitness, ws_of 722 (by decide +kernel), biX8_canWitness.1, biX8_canWitness.2⟩
set_option maxRecDepth 100000 in
theorem bX8_areParentAndChild {own : String} {idx : Nat} : KB own idx yX8_areParentAndChild cX8_areParentAndChild 2 (some .boolean) 2 := ⟨aw_mem_ws (i := 728) rfl rfl, h_ini_X8, ⟨⟨by decide, by decide⟩, by decide +kernel⟩⟩
theorem bsX8_areParentAndChild : Cond.static yX8_areParentAndChild ∈ WS := ws_of 727 (by decide +kernel)
theorem k_X8_420 : KS RX8 420 yX8_areParentAndChild cX8_areParentAndChild 2 (some .boolean) 2 := ⟨bX8_areParentAndChild, ws_of 726 (by decide +kernel), bsX8_areParentAndChild⟩
set_option maxRecDepth 100000 in
theorem bX0_addWitness {own : String} {idx : Nat} : KB own idx yX0_addWitness cX0_addWitness 2 none 1 := ⟨aw_mem_ws (i := 733) rfl rfl, h_ini_X0, ⟨⟨by decide, by decide⟩, by decide +kernel⟩⟩
theorem biX0_addWitness : Cond.instanceMethod yX0_addWitness ∈ WS ∧ Cond.selects RX0 yX0_addWitness yX0_addWitness ∈ WS := ⟨ws_of 732 (by decide +kernel), ws_of 24 (by decide +kernel)⟩
theorem k_X8_201 : KVN RX8 201 yX0_addWitness cX0_addWitness 2 none 1 := ⟨bX0_addWitness, ⟨"DeedProtocol", ws_of 730 (by decide +kernel)⟩, biX0_addWitness.1, biX0_addWitness.2⟩
theorem k_X0_67 : KS RX0 67 yJ6_bitCount_0f7a4 cJ6_bitCount_0f7a4 1 (some .int) 1 := ⟨bJ6_bitCount_0f7a4, ws_of 734 (by decide +kernel), bsJ6_bitCount_0f7a4⟩
set_option maxRecDepth 100000 in
theorem bX8_close {own : String} {idx : Nat} : KB own idx yX8_close cX8_close 3 (some .int) 1 := ⟨aw_mem_ws (i := 741) rfl rfl, h_ini_X8, ⟨⟨by decide, by decide⟩, by decide +kernel⟩⟩
theorem biX8_close : Cond.instanceMethod yX8_close ∈ WS ∧ Cond.selects RX8 yX8_close yX8_close ∈ WS := ⟨ws_of 739 (by decide +kernel), ws_of 740 (by decide +kernel)⟩
theorem k_L_55 : KV RL 55 yX8_close cX8_close 3 (some .int) 1 := ⟨bX8_close, ws_of 738 (by decide +kernel), biX8_close.1, biX8_close.2⟩
set_option maxRecDepth 100000 in
theorem bX8_stateByParts {own : String} {idx : Nat} : KB own idx yX8_stateByParts cX8_stateByParts 2 (some .int) 1 := ⟨aw_mem_ws (i := 745) rfl rfl, h_ini_X8, ⟨⟨by decide, by decide⟩, by decide +kernel⟩⟩
theorem bsX8_stateByParts : Cond.static yX8_stateByParts ∈ WS := ws_of 744 (by decide +kernel)
theorem k_X8_218 : KS RX8 218 yX8_stateByParts cX8_stateByParts 2 (some .int) 1 := ⟨bX8_stateByParts, ws_of 743 (by decide +kernel), bsX8_stateByParts⟩
set_option maxRecDepth 100000 in
theorem bX8_neededParts {own : String} {idx : Nat} : KB own idx yX8_neededParts cX8_neededParts 3 (some .int) 1 := ⟨aw_mem_ws (i := 748) rfl rfl, h_ini_X8, ⟨⟨by decide, by decide⟩, by decide +kernel⟩⟩
theorem bsX8_neededParts : Cond.static yX8_neededParts ∈ WS := ws_of 747 (by decide +kernel)
theorem k_X8_424 : KS RX8 424 yX8_neededParts cX8_neededParts 3 (some .int) 1 := ⟨bX8_neededParts, ws_of 746 (by decide +kernel), bsX8_neededParts⟩
set_option maxRecDepth 100000 in
theorem bX4_append {own : String} {idx : Nat} : KB own idx yX4_append cX4_append 2 none 1 := ⟨aw_mem_ws (i := 752) rfl rfl, h_ini_X4, ⟨⟨by decide, by decide⟩, by decide +kernel⟩⟩
theorem biX4_append : Cond.instanceMethod yX4_append ∈ WS ∧ Cond.selects RX4 yX4_append yX4_append ∈ WS := ⟨ws_of 751 (by decide +kernel), ws_of 25 (by decide +kernel)⟩
theorem k_X8_228 : KVN RX8 228 yX4_append cX4_append 2 none 1 := ⟨bX4_append, ⟨"DeedProtocol", ws_of 749 (by decide +kernel)⟩, biX4_append.1, biX4_append.2⟩
set_option maxRecDepth 100000 in
theorem bX8_deed {own : String} {idx : Nat} : KB own idx yX8_deed cX8_deed 4 (some .int) 2 := ⟨aw_mem_ws (i := 759) rfl rfl, h_ini_X8, ⟨⟨by decide, by decide⟩, by decide +kernel⟩⟩
theorem biX8_deed : Cond.instanceMethod yX8_deed ∈ WS ∧ Cond.selects RX8 yX8_deed yX8_deed ∈ WS := ⟨ws_of 757 (by decide +kernel), ws_of 758 (by decide +kernel)⟩
theorem k_L_59 : KV RL 59 yX8_deed cX8_deed 4 (some .int) 2 := ⟨bX8_deed, ws_of 756 (by decide +kernel), biX8_deed.1, biX8_deed.2⟩
set_option maxRecDepth 100000 in
theorem bX8_label {own : String} {idx : Nat} : KB own idx yX8_label cX8_label 5 (some .char) 2 := ⟨aw_mem_ws (i := 767) rfl rfl, h_ini_X8, ⟨⟨by decide, by decide⟩, by decide +kernel⟩⟩
theorem biX8_label : Cond.instanceMethod yX8_label ∈ WS ∧ Cond.selects RX8 yX8_label yX8_label ∈ WS := ⟨ws_of 765 (by decide +kernel), ws_of 766 (by decide +kernel)⟩
theorem k_L_62 : KV RL 62 yX8_label cX8_label 5 (some .char) 2 := ⟨bX8_label, ws_of 764 (by decide +kernel), biX8_label.1, biX8_label.2⟩
set_option maxRecDepth 100000 in
theorem bJ4_init_da8c8 {own : String} {idx : Nat} : KB own idx yJ4_init_da8c8 cJ4_init_da8c8 1 none 0 := ⟨aw_mem_ws (i := 773) rfl rfl, h_ini_J4, ⟨⟨by decide, by decide⟩, by decide +kernel⟩⟩
theorem biJ4_init_da8c8 : Cond.instanceMethod yJ4_init_da8c8 ∈ WS := ws_of 772 (by decide +kernel)
theorem k_X8_249 : KI RX8 249 yJ4_init_da8c8 cJ4_init_da8c8 1 0 := ⟨bJ4_init_da8c8, ws_of 771 (by decide +kernel), rfl, biJ4_init_da8c8⟩
set_option maxRecDepth 100000 in
theorem bJ5_init_d00df {own : String} {idx : Nat} : KB own idx yJ5_init_d00df cJ5_init_d00df 2 none 1 := ⟨aw_mem_ws (i := 776) rfl rfl, h_ini_J5, ⟨⟨by decide, by decide⟩, by decide +kernel⟩⟩
theorem biJ5_init_d00df : Cond.instanceMethod yJ5_init_d00df ∈ WS := ws_of 775 (by decide +kernel)
theorem k_J4_1 : KI RJ4 1 yJ5_init_d00df cJ5_init_d00df 2 1 := ⟨bJ5_init_d00df, ws_of 774 (by decide +kernel), rfl, biJ5_init_d00df⟩
set_option maxRecDepth 100000 in
theorem bJ2_newBytesFor_77867 {own : String} {idx : Nat} : KB own idx yJ2_newBytesFor_77867 cJ2_newBytesFor_77867 1 (some (.array .byte)) 1 := ⟨aw_mem_ws (i := 782) rfl rfl, h_ini_J2, ⟨⟨by decide, by decide⟩, by decide +kernel⟩⟩
theorem bsJ2_newBytesFor_77867 : Cond.static yJ2_newBytesFor_77867 ∈ WS := ws_of 781 (by decide +kernel)
theorem k_J5_26 : KS RJ5 26 yJ2_newBytesFor_77867 cJ2_newBytesFor_77867 1 (some (.array .byte)) 1 := ⟨bJ2_newBytesFor_77867, ws_of 780 (by decide +kernel), bsJ2_newBytesFor_77867⟩
set_option maxRecDepth 100000 in
theorem bJ2_newBytesLength_0f7a4 {own : String} {idx : Nat} : KB own idx yJ2_newBytesLength_0f7a4 cJ2_newBytesLength_0f7a4 1 (some .int) 1 := ⟨aw_mem_ws (i := 785) rfl rfl, h_ini_J2, ⟨⟨by decide, by decide⟩, by decide +kernel⟩⟩
theorem bsJ2_newBytesLength_0f7a4 : Cond.static yJ2_newBytesLength_0f7a4 ∈ WS := ws_of 784 (by decide +kernel)
theorem k_J2_11 : KS RJ2 11 yJ2_newBytesLength_0f7a4 cJ2_newBytesLength_0f7a4 1 (some .int) 1 := ⟨bJ2_newBytesLength_0f7a4, ws_of 783 (by decide +kernel), bsJ2_newBytesLength_0f7a4⟩
set_option maxRecDepth 100000 in
theorem bX8_kindLetter {own : String} {idx : Nat} : KB own idx yX8_kindLetter cX8_kindLetter 1 (some .char) 1 := ⟨aw_mem_ws (i := 801) rfl rfl, h_ini_X8, ⟨⟨by decide, by decide⟩, by decide +kernel⟩⟩
theorem bsX8_kindLetter : Cond.static yX8_kindLetter ∈ WS := ws_of 800 (by decide +kernel)
theorem k_X8_250 : KS RX8 250 yX8_kindLetter cX8_kindLetter 1 (some .char) 1 := ⟨bX8_kindLetter, ws_of 799 (by decide +kernel), bsX8_kindLetter⟩
set_option maxRecDepth 100000 in
theorem bJ4_append_cf468 {own : String} {idx : Nat} : KB own idx yJ4_append_cf468 cJ4_append_cf468 2 (some (.object "java/lang/StringBuilder")) 1 := ⟨aw_mem_ws (i := 805) rfl rfl, h_ini_J4, ⟨⟨by decide, by decide⟩, by decide +kernel⟩⟩
theorem biJ4_append_cf468 : Cond.instanceMethod yJ4_append_cf468 ∈ WS ∧ Cond.selects RJ4 yJ4_append_cf468 yJ4_append_cf468 ∈ WS := ⟨ws_of 803 (by decide +kernel), ws_of 804 (by decide +kernel)⟩
theorem k_X8_254 : KV RX8 254 yJ4_append_cf468 cJ4_append_cf468 2 (some (.object "java/lang/StringBuilder")) 1 := ⟨bJ4_append_cf468, ws_of 802 (by decide +kernel), biJ4_append_cf468.1, biJ4_append_cf468.2⟩
set_option maxRecDepth 100000 in
theorem bJ5_append_3fe6f {own : String} {idx : Nat} : KB own idx yJ5_append_3fe6f cJ5_append_3fe6f 2 (some (.object "java/lang/AbstractStringBuilder")) 1 := ⟨aw_mem_ws (i := 808) rfl rfl, h_ini_J5, ⟨⟨by decide, by decide⟩, by decide +kernel⟩⟩
theorem biJ5_append_3fe6f : Cond.instanceMethod yJ5_append_3fe6f ∈ WS := ws_of 807 (by decide +kernel)
set_option maxRecDepth 100000 in
theorem bJ5_ensureCapacityInternal_d00df {own : String} {idx : Nat} : KB own idx yJ5_ensureCapacityInternal_d00df cJ5_ensureCapacityInternal_d00df 3 none 1 := ⟨aw_mem_ws (i := 812) rfl rfl, h_ini_J5, ⟨⟨by decide, by decide⟩, by decide +kernel⟩⟩
theorem biJ5_ensureCapacityInternal_d00df : Cond.instanceMethod yJ5_ensureCapacityInternal_d00df ∈ WS := ws_of 811 (by decide +kernel)
set_option maxRecDepth 100000 in
theorem bJ5_newCapacity_0f7a4 {own : String} {idx : Nat} : KB own idx yJ5_newCapacity_0f7a4 cJ5_newCapacity_0f7a4 6 (some .int) 1 := ⟨aw_mem_ws (i := 816) rfl rfl, h_ini_J5, ⟨⟨by decide, by decide⟩, by decide +kernel⟩⟩
theorem biJ5_newCapacity_0f7a4 : Cond.instanceMethod yJ5_newCapacity_0f7a4 ∈ WS := ws_of 815 (by decide +kernel)
theorem k_J5_114 : KS RJ5 114 yJ8_newLength_cabcc cJ8_newLength_cabcc 4 (some .int) 3 := ⟨bJ8_newLength_cabcc, ws_of 817 (by decide +kernel), bsJ8_newLength_cabcc⟩
set_option maxRecDepth 100000 in
theorem bJ7_copyOf_9075b {own : String} {idx : Nat} : KB own idx yJ7_copyOf_9075b cJ7_copyOf_9075b 3 (some (.array .byte)) 2 := ⟨aw_mem_ws (i := 821) rfl rfl, h_ini_J7, ⟨⟨by decide, by decide⟩, by decide +kernel⟩⟩
theorem bsJ7_copyOf_9075b : Cond.static yJ7_copyOf_9075b ∈ WS := ws_of 820 (by decide +kernel)
theorem k_J5_108 : KS RJ5 108 yJ7_copyOf_9075b cJ7_copyOf_9075b 3 (some (.array .byte)) 2 := ⟨bJ7_copyOf_9075b, ws_of 819 (by decide +kernel), bsJ7_copyOf_9075b⟩
set_option maxRecDepth 100000 in
theorem bJ5_isLatin1_aae02 {own : String} {idx : Nat} : KB own idx yJ5_isLatin1_aae02 cJ5_isLatin1_aae02 1 (some .boolean) 0 := ⟨aw_mem_ws (i := 833) rfl rfl, h_ini_J5, ⟨⟨by decide, by decide⟩, by decide +kernel⟩⟩
theorem biJ5_isLatin1_aae02 : Cond.instanceMethod yJ5_isLatin1_aae02 ∈ WS := ws_of 830 (by decide +kernel)
set_option maxRecDepth 100000 in
theorem bJ1_canEncode_fc78d {own : String} {idx : Nat} : KB own idx yJ1_canEncode_fc78d cJ1_canEncode_fc78d 1 (some .boolean) 1 := ⟨aw_mem_ws (i := 836) rfl rfl, h_ini_J1, ⟨⟨by decide, by decide⟩, by decide +kernel⟩⟩
theorem bsJ1_canEncode_fc78d : Cond.static yJ1_canEncode_fc78d ∈ WS := ws_of 835 (by decide +kernel)
theorem k_J5_191 : KS RJ5 191 yJ1_canEncode_fc78d cJ1_canEncode_fc78d 1 (some .boolean) 1 := ⟨bJ1_canEncode_fc78d, ws_of 834 (by decide +kernel), bsJ1_canEncode_fc78d⟩
set_option maxRecDepth 100000 in
theorem bJ5_inflate_da8c8 {own : String} {idx : Nat} : KB own idx yJ5_inflate_da8c8 cJ5_inflate_da8c8 2 none 0 := ⟨aw_mem_ws (i := 840) rfl rfl, h_ini_J5, ⟨⟨by decide, by decide⟩, by decide +kernel⟩⟩
theorem biJ5_inflate_da8c8 : Cond.instanceMethod yJ5_inflate_da8c8 ∈ WS := ws_of 839 (by decide +kernel)
set_option maxRecDepth 100000 in
theorem bJ1_inflate_0e8fd {own : String} {idx : Nat} : KB own idx yJ1_inflate_0e8fd cJ1_inflate_0e8fd 5 none 5 := ⟨aw_mem_ws (i := 843) rfl rfl, h_ini_J1, ⟨⟨by decide, by decide⟩, by decide +kernel⟩⟩
theorem bsJ1_inflate_0e8fd : Cond.static yJ1_inflate_0e8fd ∈ WS := ws_of 842 (by decide +kernel)
theorem k_J5_125 : KS RJ5 125 yJ1_inflate_0e8fd cJ1_inflate_0e8fd 5 none 5 := ⟨bJ1_inflate_0e8fd, ws_of 841 (by decide +kernel), bsJ1_inflate_0e8fd⟩
set_option maxRecDepth 100000 in
theorem bJ2_inflate_0e8fd {own : String} {idx : Nat} : KB own idx yJ2_inflate_0e8fd cJ2_inflate_0e8fd 6 none 5 := ⟨aw_mem_ws (i := 846) rfl rfl, h_ini_J2, ⟨⟨by decide, by decide⟩, by decide +kernel⟩⟩
theorem bsJ2_inflate_0e8fd : Cond.static yJ2_inflate_0e8fd ∈ WS := ws_of 845 (by decide +kernel)
theorem k_J1_240 : KS RJ1 240 yJ2_inflate_0e8fd cJ2_inflate_0e8fd 6 none 5 := ⟨bJ2_inflate_0e8fd, ws_of 844 (by decide +kernel), bsJ2_inflate_0e8fd⟩
set_option maxRecDepth 100000 in
theorem bJ2_checkBoundsOffCount_d044e {own : String} {idx : Nat} : KB own idx yJ2_checkBoundsOffCount_d044e cJ2_checkBoundsOffCount_d044e 3 none 3 := ⟨aw_mem_ws (i := 849) rfl rfl, h_ini_J2, ⟨⟨by decide, by decide⟩, by decide +kernel⟩⟩
theorem bsJ2_checkBoundsOffCount_d044e : Cond.static yJ2_checkBoundsOffCount_d044e ∈ WS := ws_of 848 (by decide +kernel)
theorem k_J2_173 : KS RJ2 173 yJ2_checkBoundsOffCount_d044e cJ2_checkBoundsOffCount_d044e 3 none 3 := ⟨bJ2_checkBoundsOffCount_d044e, ws_of 847 (by decide +kernel), bsJ2_checkBoundsOffCount_d044e⟩
set_option maxRecDepth 100000 in
theorem bJ2_length_9d52b {own : String} {idx : Nat} : KB own idx yJ2_length_9d52b cJ2_length_9d52b 1 (some .int) 1 := ⟨aw_mem_ws (i := 852) rfl rfl, h_ini_J2, ⟨⟨by decide, by decide⟩, by decide +kernel⟩⟩
theorem bsJ2_length_9d52b : Cond.static yJ2_length_9d52b ∈ WS := ws_of 851 (by decide +kernel)
theorem k_J2_48 : KS RJ2 48 yJ2_length_9d52b cJ2_length_9d52b 1 (some .int) 1 := ⟨bJ2_length_9d52b, ws_of 850 (by decide +kernel), bsJ2_length_9d52b⟩
set_option maxRecDepth 100000 in
theorem bJ0_checkBoundsOffCount_cabcc {own : String} {idx : Nat} : KB own idx yJ0_checkBoundsOffCount_cabcc cJ0_checkBoundsOffCount_cabcc 3 (some .int) 3 := ⟨aw_mem_ws (i := 855) rfl rfl, h_ini_J0, ⟨⟨by decide, by decide⟩, by decide +kernel⟩⟩
theorem bsJ0_checkBoundsOffCount_cabcc : Cond.static yJ0_checkBoundsOffCount_cabcc ∈ WS := ws_of 854 (by decide +kernel)
theorem k_J2_419 : KS RJ2 419 yJ0_checkBoundsOffCount_cabcc cJ0_checkBoundsOffCount_cabcc 3 (some .int) 3 := ⟨bJ0_checkBoundsOffCount_cabcc, ws_of 853 (by decide +kernel), bsJ0_checkBoundsOffCount_cabcc⟩
set_option maxRecDepth 100000 in
theorem bJ3_checkFromIndexSize_8c36e {own : String} {idx : Nat} : KB own idx yJ3_checkFromIndexSize_8c36e cJ3_checkFromIndexSize_8c36e 4 (some .int) 4 := ⟨aw_mem_ws (i := 860) rfl rfl, h_ini_J3, ⟨⟨by decide, by decide⟩, by decide +kernel⟩⟩
theorem bsJ3_checkFromIndexSize_8c36e : Cond.static yJ3_checkFromIndexSize_8c36e ∈ WS := ws_of 859 (by decide +kernel)
theorem k_J0_1065 : KS RJ0 1065 yJ3_checkFromIndexSize_8c36e cJ3_checkFromIndexSize_8c36e 4 (some .int) 4 := ⟨bJ3_checkFromIndexSize_8c36e, ws_of 858 (by decide +kernel), bsJ3_checkFromIndexSize_8c36e⟩
set_option maxRecDepth 100000 in
theorem bJ2_putChar_b72d1 {own : String} {idx : Nat} : KB own idx yJ2_putChar_b72d1 cJ2_putChar_b72d1 3 none 3 := ⟨aw_mem_ws (i := 863) rfl rfl, h_ini_J2, ⟨⟨by decide, by decide⟩, by decide +kernel⟩⟩
theorem bsJ2_putChar_b72d1 : Cond.static yJ2_putChar_b72d1 ∈ WS := ws_of 862 (by decide +kernel)
theorem k_J2_111 : KS RJ2 111 yJ2_putChar_b72d1 cJ2_putChar_b72d1 3 none 3 := ⟨bJ2_putChar_b72d1, ws_of 861 (by decide +kernel), bsJ2_putChar_b72d1⟩
set_option maxRecDepth 100000 in
theorem bJ2_putCharSB_b72d1 {own : String} {idx : Nat} : KB own idx yJ2_putCharSB_b72d1 cJ2_putCharSB_b72d1 3 none 3 := ⟨aw_mem_ws (i := 872) rfl rfl, h_ini_J2, ⟨⟨by decide, by decide⟩, by decide +kernel⟩⟩
theorem bsJ2_putCharSB_b72d1 : Cond.static yJ2_putCharSB_b72d1 ∈ WS := ws_of 871 (by decide +kernel)
theorem k_J5_197 : KS RJ5 197 yJ2_putCharSB_b72d1 cJ2_putCharSB_b72d1 3 none 3 := ⟨bJ2_putCharSB_b72d1, ws_of 870 (by decide +kernel), bsJ2_putCharSB_b72d1⟩
set_option maxRecDepth 100000 in
theorem bJ2_checkIndex_2214a {own : String} {idx : Nat} : KB own idx yJ2_checkIndex_2214a cJ2_checkIndex_2214a 2 none 2 := ⟨aw_mem_ws (i := 875) rfl rfl, h_ini_J2, ⟨⟨by decide, by decide⟩, by decide +kernel⟩⟩
theorem bsJ2_checkIndex_2214a : Cond.static yJ2_checkIndex_2214a ∈ WS := ws_of 874 (by decide +kernel)
theorem k_J2_67 : KS RJ2 67 yJ2_checkIndex_2214a cJ2_checkIndex_2214a 2 none 2 := ⟨bJ2_checkIndex_2214a, ws_of 873 (by decide +kernel), bsJ2_checkIndex_2214a⟩
set_option maxRecDepth 100000 in
theorem bJ0_checkIndex_df160 {own : String} {idx : Nat} : KB own idx yJ0_checkIndex_df160 cJ0_checkIndex_df160 2 none 2 := ⟨aw_mem_ws (i := 878) rfl rfl, h_ini_J0, ⟨⟨by decide, by decide⟩, by decide +kernel⟩⟩
theorem bsJ0_checkIndex_df160 : Cond.static yJ0_checkIndex_df160 ∈ WS := ws_of 877 (by decide +kernel)
theorem k_J2_414 : KS RJ2 414 yJ0_checkIndex_df160 cJ0_checkIndex_df160 2 none 2 := ⟨bJ0_checkIndex_df160, ws_of 876 (by decide +kernel), bsJ0_checkIndex_df160⟩
theorem k_J0_1059 : KS RJ0 1059 yJ3_checkIndex_8e157 cJ3_checkIndex_8e157 3 (some .int) 3 := ⟨bJ3_checkIndex_8e157, ws_of 879 (by decide +kernel), bsJ3_checkIndex_8e157⟩
set_option maxRecDepth 100000 in
theorem bJ4_append_bf812 {own : String} {idx : Nat} : KB own idx yJ4_append_bf812 cJ4_append_bf812 2 (some (.object "java/lang/StringBuilder")) 1 := ⟨aw_mem_ws (i := 883) rfl rfl, h_ini_J4, ⟨⟨by decide, by decide⟩, by decide +kernel⟩⟩
theorem biJ4_append_bf812 : Cond.instanceMethod yJ4_append_bf812 ∈ WS ∧ Cond.selects RJ4 yJ4_append_bf812 yJ4_append_bf812 ∈ WS := ⟨ws_of 881 (by decide +kernel), ws_of 882 (by decide +kernel)⟩
theorem k_X8_257 : KV RX8 257 yJ4_append_bf812 cJ4_append_bf812 2 (some (.object "java/lang/StringBuilder")) 1 := ⟨bJ4_append_bf812, ws_of 880 (by decide +kernel), biJ4_append_bf812.1, biJ4_append_bf812.2⟩
set_option maxRecDepth 100000 in
theorem bJ5_append_c97b9 {own : String} {idx : Nat} : KB own idx yJ5_append_c97b9 cJ5_append_c97b9 4 (some (.object "java/lang/AbstractStringBuilder")) 1 := ⟨aw_mem_ws (i := 886) rfl rfl, h_ini_J5, ⟨⟨by decide, by decide⟩, by decide +kernel⟩⟩
theorem biJ5_append_c97b9 : Cond.instanceMethod yJ5_append_c97b9 ∈ WS := ws_of 885 (by decide +kernel)
set_option maxRecDepth 100000 in
theorem bJ6_stringSize_0f7a4 {own : String} {idx : Nat} : KB own idx yJ6_stringSize_0f7a4 cJ6_stringSize_0f7a4 4 (some .int) 1 := ⟨aw_mem_ws (i := 889) rfl rfl, h_ini_J6, ⟨⟨by decide, by decide⟩, by decide +kernel⟩⟩
theorem bsJ6_stringSize_0f7a4 : Cond.static yJ6_stringSize_0f7a4 ∈ WS := ws_of 888 (by decide +kernel)
theorem k_J5_245 : KS RJ5 245 yJ6_stringSize_0f7a4 cJ6_stringSize_0f7a4 4 (some .int) 1 := ⟨bJ6_stringSize_0f7a4, ws_of 887 (by decide +kernel), bsJ6_stringSize_0f7a4⟩
set_option maxRecDepth 100000 in
theorem bJ6_getChars_ba4f3 {own : String} {idx : Nat} : KB own idx yJ6_getChars_ba4f3 cJ6_getChars_ba4f3 7 (some .int) 3 := ⟨aw_mem_ws (i := 892) rfl rfl, h_ini_J6, ⟨⟨by decide, by decide⟩, by decide +kernel⟩⟩
theorem bsJ6_getChars_ba4f3 : Cond.static yJ6_getChars_ba4f3 ∈ WS := ws_of 891 (by decide +kernel)
theorem k_J5_248 : KS RJ5 248 yJ6_getChars_ba4f3 cJ6_getChars_ba4f3 7 (some .int) 3 := ⟨bJ6_getChars_ba4f3, ws_of 890 (by decide +kernel), bsJ6_getChars_ba4f3⟩
set_option maxRecDepth 100000 in
theorem bJ2_getChars_46870 {own : String} {idx : Nat} : KB own idx yJ2_getChars_46870 cJ2_getChars_46870 5 (some .int) 4 := ⟨aw_mem_ws (i := 899) rfl rfl, h_ini_J2, ⟨⟨by decide, by decide⟩, by decide +kernel⟩⟩
theorem bsJ2_getChars_46870 : Cond.static yJ2_getChars_46870 ∈ WS := ws_of 898 (by decide +kernel)
theorem k_J5_251 : KS RJ5 251 yJ2_getChars_46870 cJ2_getChars_46870 5 (some .int) 4 := ⟨bJ2_getChars_46870, ws_of 897 (by decide +kernel), bsJ2_getChars_46870⟩
set_option maxRecDepth 100000 in
theorem bJ2_checkBoundsBeginEnd_d044e {own : String} {idx : Nat} : KB own idx yJ2_checkBoundsBeginEnd_d044e cJ2_checkBoundsBeginEnd_d044e 3 none 3 := ⟨aw_mem_ws (i := 902) rfl rfl, h_ini_J2, ⟨⟨by decide, by decide⟩, by decide +kernel⟩⟩
theorem bsJ2_checkBoundsBeginEnd_d044e : Cond.static yJ2_checkBoundsBeginEnd_d044e ∈ WS := ws_of 901 (by decide +kernel)
theorem k_J2_96 : KS RJ2 96 yJ2_checkBoundsBeginEnd_d044e cJ2_checkBoundsBeginEnd_d044e 3 none 3 := ⟨bJ2_checkBoundsBeginEnd_d044e, ws_of 900 (by decide +kernel), bsJ2_checkBoundsBeginEnd_d044e⟩
set_option maxRecDepth 100000 in
theorem bJ0_checkBoundsBeginEnd_23922 {own : String} {idx : Nat} : KB own idx yJ0_checkBoundsBeginEnd_23922 cJ0_checkBoundsBeginEnd_23922 3 none 3 := ⟨aw_mem_ws (i := 905) rfl rfl, h_ini_J0, ⟨⟨by decide, by decide⟩, by decide +kernel⟩⟩
theorem bsJ0_checkBoundsBeginEnd_23922 : Cond.static yJ0_checkBoundsBeginEnd_23922 ∈ WS := ws_of 904 (by decide +kernel)
theorem k_J2_241 : KS RJ2 241 yJ0_checkBoundsBeginEnd_23922 cJ0_checkBoundsBeginEnd_23922 3 none 3 := ⟨bJ0_checkBoundsBeginEnd_23922, ws_of 903 (by decide +kernel), bsJ0_checkBoundsBeginEnd_23922⟩
set_option maxRecDepth 100000 in
theorem bJ3_checkFromToIndex_8c36e {own : String} {idx : Nat} : KB own idx yJ3_checkFromToIndex_8c36e cJ3_checkFromToIndex_8c36e 4 (some .int) 4 := ⟨aw_mem_ws (i := 908) rfl rfl, h_ini_J3, ⟨⟨by decide, by decide⟩, by decide +kernel⟩⟩
theorem bsJ3_checkFromToIndex_8c36e : Cond.static yJ3_checkFromToIndex_8c36e ∈ WS := ws_of 907 (by decide +kernel)
theorem k_J0_1062 : KS RJ0 1062 yJ3_checkFromToIndex_8c36e cJ3_checkFromToIndex_8c36e 4 (some .int) 4 := ⟨bJ3_checkFromToIndex_8c36e, ws_of 906 (by decide +kernel), bsJ3_checkFromToIndex_8c36e⟩
set_option maxRecDepth 100000 in
theorem bJ2_getChars_ba4f3 {own : String} {idx : Nat} : KB own idx yJ2_getChars_ba4f3 cJ2_getChars_ba4f3 7 (some .int) 3 := ⟨aw_mem_ws (i := 911) rfl rfl, h_ini_J2, ⟨⟨by decide, by decide⟩, by decide +kernel⟩⟩
theorem bsJ2_getChars_ba4f3 : Cond.static yJ2_getChars_ba4f3 ∈ WS := ws_of 910 (by decide +kernel)
theorem k_J2_393 : KS RJ2 393 yJ2_getChars_ba4f3 cJ2_getChars_ba4f3 7 (some .int) 3 := ⟨bJ2_getChars_ba4f3, ws_of 909 (by decide +kernel), bsJ2_getChars_ba4f3⟩
set_option maxRecDepth 100000 in
theorem bX8_stateLetter {own : String} {idx : Nat} : KB own idx yX8_stateLetter cX8_stateLetter 1 (some .char) 1 := ⟨aw_mem_ws (i := 916) rfl rfl, h_ini_X8, ⟨⟨by decide, by decide⟩, by decide +kernel⟩⟩
theorem bsX8_stateLetter : Cond.static yX8_stateLetter ∈ WS := ws_of 915 (by decide +kernel)
theorem k_X8_260 : KS RX8 260 yX8_stateLetter cX8_stateLetter 1 (some .char) 1 := ⟨bX8_stateLetter, ws_of 914 (by decide +kernel), bsX8_stateLetter⟩
set_option maxRecDepth 100000 in
theorem bJ4_length_8abf5 {own : String} {idx : Nat} : KB own idx yJ4_length_8abf5 cJ4_length_8abf5 1 (some .int) 0 := ⟨aw_mem_ws (i := 920) rfl rfl, h_ini_J4, ⟨⟨by decide, by decide⟩, by decide +kernel⟩⟩
theorem biJ4_length_8abf5 : Cond.instanceMethod yJ4_length_8abf5 ∈ WS ∧ Cond.selects RJ4 yJ4_length_8abf5 yJ4_length_8abf5 ∈ WS := ⟨ws_of 918 (by decide +kernel), ws_of 919 (by decide +kernel)⟩
theorem k_X8_263 : KV RX8 263 yJ4_length_8abf5 cJ4_length_8abf5 1 (some .int) 0 := ⟨bJ4_length_8abf5, ws_of 917 (by decide +kernel), biJ4_length_8abf5.1, biJ4_length_8abf5.2⟩
set_option maxRecDepth 100000 in
theorem bJ5_length_8abf5 {own : String} {idx : Nat} : KB own idx yJ5_length_8abf5 cJ5_length_8abf5 1 (some .int) 0 := ⟨aw_mem_ws (i := 923) rfl rfl, h_ini_J5, ⟨⟨by decide, by decide⟩, by decide +kernel⟩⟩
theorem biJ5_length_8abf5 : Cond.instanceMethod yJ5_length_8abf5 ∈ WS := ws_of 922 (by decide +kernel)
set_option maxRecDepth 100000 in
theorem bJ4_charAt_5068e {own : String} {idx : Nat} : KB own idx yJ4_charAt_5068e cJ4_charAt_5068e 2 (some .char) 1 := ⟨aw_mem_ws (i := 927) rfl rfl, h_ini_J4, ⟨⟨by decide, by decide⟩, by decide +kernel⟩⟩
theorem biJ4_charAt_5068e : Cond.instanceMethod yJ4_charAt_5068e ∈ WS ∧ Cond.selects RJ4 yJ4_charAt_5068e yJ4_charAt_5068e ∈ WS := ⟨ws_of 925 (by decide +kernel), ws_of 926 (by decide +kernel)⟩
theorem k_X8_266 : KV RX8 266 yJ4_charAt_5068e cJ4_charAt_5068e 2 (some .char) 1 := ⟨bJ4_charAt_5068e, ws_of 924 (by decide +kernel), biJ4_charAt_5068e.1, biJ4_charAt_5068e.2⟩
set_option maxRecDepth 100000 in
theorem bJ5_charAt_5068e {own : String} {idx : Nat} : KB own idx yJ5_charAt_5068e cJ5_charAt_5068e 5 (some .char) 1 := ⟨aw_mem_ws (i := 930) rfl rfl, h_ini_J5, ⟨⟨by decide, by decide⟩, by decide +kernel⟩⟩
theorem biJ5_charAt_5068e : Cond.instanceMethod yJ5_charAt_5068e ∈ WS := ws_of 929 (by decide +kernel)
theorem k_J5_138 : KS RJ5 138 yJ9_min_7cf53 cJ9_min_7cf53 2 (some .int) 2 := ⟨bJ9_min_7cf53, ws_of 931 (by decide +kernel), bsJ9_min_7cf53⟩
theorem k_J5_144 : KS RJ5 144 yJ0_checkIndex_df160 cJ0_checkIndex_df160 2 none 2 := ⟨bJ0_checkIndex_df160, ws_of 932 (by decide +kernel), bsJ0_checkIndex_df160⟩
set_option maxRecDepth 100000 in
theorem bJ2_getChar_3b067 {own : String} {idx : Nat} : KB own idx yJ2_getChar_3b067 cJ2_getChar_3b067 2 (some .char) 2 := ⟨aw_mem_ws (i := 935) rfl rfl, h_ini_J2, ⟨⟨by decide, by decide⟩, by decide +kernel⟩⟩
theorem bsJ2_getChar_3b067 : Cond.static yJ2_getChar_3b067 ∈ WS := ws_of 934 (by decide +kernel)
theorem k_J5_148 : KS RJ5 148 yJ2_getChar_3b067 cJ2_getChar_3b067 2 (some .char) 2 := ⟨bJ2_getChar_3b067, ws_of 933 (by decide +kernel), bsJ2_getChar_3b067⟩
set_option maxRecDepth 100000 in
theorem bX8_revoke {own : String} {idx : Nat} : KB own idx yX8_revoke cX8_revoke 6 (some .boolean) 2 := ⟨aw_mem_ws (i := 942) rfl rfl, h_ini_X8, ⟨⟨by decide, by decide⟩, by decide +kernel⟩⟩
theorem biX8_revoke : Cond.instanceMethod yX8_revoke ∈ WS ∧ Cond.selects RX8 yX8_revoke yX8_revoke ∈ WS := ⟨ws_of 940 (by decide +kernel), ws_of 941 (by decide +kernel)⟩
theorem k_L_66 : KV RL 66 yX8_revoke cX8_revoke 6 (some .boolean) 2 := ⟨bX8_revoke, ws_of 939 (by decide +kernel), biX8_revoke.1, biX8_revoke.2⟩
set_option maxRecDepth 100000 in
theorem bX8_isGood {own : String} {idx : Nat} : KB own idx yX8_isGood cX8_isGood 2 (some .boolean) 1 := ⟨aw_mem_ws (i := 950) rfl rfl, h_ini_X8, ⟨⟨by decide, by decide⟩, by decide +kernel⟩⟩
theorem biX8_isGood : Cond.instanceMethod yX8_isGood ∈ WS ∧ Cond.selects RX8 yX8_isGood yX8_isGood ∈ WS := ⟨ws_of 948 (by decide +kernel), ws_of 949 (by decide +kernel)⟩
theorem k_L_70 : KV RL 70 yX8_isGood cX8_isGood 2 (some .boolean) 1 := ⟨bX8_isGood, ws_of 947 (by decide +kernel), biX8_isGood.1, biX8_isGood.2⟩
set_option maxRecDepth 100000 in
theorem bX8_copy {own : String} {idx : Nat} : KB own idx yX8_copy cX8_copy 4 (some .int) 1 := ⟨aw_mem_ws (i := 957) rfl rfl, h_ini_X8, ⟨⟨by decide, by decide⟩, by decide +kernel⟩⟩
theorem biX8_copy : Cond.instanceMethod yX8_copy ∈ WS ∧ Cond.selects RX8 yX8_copy yX8_copy ∈ WS := ⟨ws_of 955 (by decide +kernel), ws_of 956 (by decide +kernel)⟩
theorem k_L_73 : KV RL 73 yX8_copy cX8_copy 4 (some .int) 1 := ⟨bX8_copy, ws_of 954 (by decide +kernel), biX8_copy.1, biX8_copy.2⟩
set_option maxRecDepth 100000 in
theorem bX4_leastGrade {own : String} {idx : Nat} : KB own idx yX4_leastGrade cX4_leastGrade 1 (some .int) 0 := ⟨aw_mem_ws (i := 962) rfl rfl, h_ini_X4, ⟨⟨by decide, by decide⟩, by decide +kernel⟩⟩
theorem biX4_leastGrade : Cond.instanceMethod yX4_leastGrade ∈ WS ∧ Cond.selects RX4 yX4_leastGrade yX4_leastGrade ∈ WS := ⟨ws_of 961 (by decide +kernel), ws_of 26 (by decide +kernel)⟩
theorem k_X8_286 : KVN RX8 286 yX4_leastGrade cX4_leastGrade 1 (some .int) 0 := ⟨bX4_leastGrade, ⟨"DeedProtocol", ws_of 959 (by decide +kernel)⟩, biX4_leastGrade.1, biX4_leastGrade.2⟩
set_option maxRecDepth 100000 in
theorem bX8_lose {own : String} {idx : Nat} : KB own idx yX8_lose cX8_lose 3 (some .int) 1 := ⟨aw_mem_ws (i := 969) rfl rfl, h_ini_X8, ⟨⟨by decide, by decide⟩, by decide +kernel⟩⟩
theorem biX8_lose : Cond.instanceMethod yX8_lose ∈ WS ∧ Cond.selects RX8 yX8_lose yX8_lose ∈ WS := ⟨ws_of 967 (by decide +kernel), ws_of 968 (by decide +kernel)⟩
theorem k_L_76 : KV RL 76 yX8_lose cX8_lose 3 (some .int) 1 := ⟨bX8_lose, ws_of 966 (by decide +kernel), biX8_lose.1, biX8_lose.2⟩
set_option maxRecDepth 100000 in
theorem bX4_dropFirst {own : String} {idx : Nat} : KB own idx yX4_dropFirst cX4_dropFirst 2 none 0 := ⟨aw_mem_ws (i := 974) rfl rfl, h_ini_X4, ⟨⟨by decide, by decide⟩, by decide +kernel⟩⟩
theorem biX4_dropFirst : Cond.instanceMethod yX4_dropFirst ∈ WS ∧ Cond.selects RX4 yX4_dropFirst yX4_dropFirst ∈ WS := ⟨ws_of 973 (by decide +kernel), ws_of 27 (by decide +kernel)⟩
theorem k_X8_291 : KVN RX8 291 yX4_dropFirst cX4_dropFirst 2 none 0 := ⟨bX4_dropFirst, ⟨"DeedProtocol", ws_of 971 (by decide +kernel)⟩, biX4_dropFirst.1, biX4_dropFirst.2⟩
set_option maxRecDepth 100000 in
theorem bX8_proof {own : String} {idx : Nat} : KB own idx yX8_proof cX8_proof 2 (some .int) 1 := ⟨aw_mem_ws (i := 981) rfl rfl, h_ini_X8, ⟨⟨by decide, by decide⟩, by decide +kernel⟩⟩
theorem biX8_proof : Cond.instanceMethod yX8_proof ∈ WS ∧ Cond.selects RX8 yX8_proof yX8_proof ∈ WS := ⟨ws_of 979 (by decide +kernel), ws_of 980 (by decide +kernel)⟩
theorem k_L_79 : KV RL 79 yX8_proof cX8_proof 2 (some .int) 1 := ⟨bX8_proof, ws_of 978 (by decide +kernel), biX8_proof.1, biX8_proof.2⟩
set_option maxRecDepth 100000 in
theorem bX8_enter {own : String} {idx : Nat} : KB own idx yX8_enter cX8_enter 5 (some .int) 1 := ⟨aw_mem_ws (i := 988) rfl rfl, h_ini_X8, ⟨⟨by decide, by decide⟩, by decide +kernel⟩⟩
theorem biX8_enter : Cond.instanceMethod yX8_enter ∈ WS ∧ Cond.selects RX8 yX8_enter yX8_enter ∈ WS := ⟨ws_of 986 (by decide +kernel), ws_of 987 (by decide +kernel)⟩
theorem k_L_82 : KV RL 82 yX8_enter cX8_enter 5 (some .int) 1 := ⟨bX8_enter, ws_of 985 (by decide +kernel), biX8_enter.1, biX8_enter.2⟩
set_option maxRecDepth 100000 in
theorem bX8_isReadyToEnter {own : String} {idx : Nat} : KB own idx yX8_isReadyToEnter cX8_isReadyToEnter 2 (some .boolean) 1 := ⟨aw_mem_ws (i := 991) rfl rfl, h_ini_X8, ⟨⟨by decide, by decide⟩, by decide +kernel⟩⟩
theorem bsX8_isReadyToEnter : Cond.static yX8_isReadyToEnter ∈ WS := ws_of 990 (by decide +kernel)
theorem k_X8_298 : KS RX8 298 yX8_isReadyToEnter cX8_isReadyToEnter 2 (some .boolean) 1 := ⟨bX8_isReadyToEnter, ws_of 989 (by decide +kernel), bsX8_isReadyToEnter⟩
set_option maxRecDepth 100000 in
theorem bX8_moveOf {own : String} {idx : Nat} : KB own idx yX8_moveOf cX8_moveOf 1 (some (.object "DeedProtocol$Move")) 1 := ⟨aw_mem_ws (i := 995) rfl rfl, h_ini_X8, ⟨⟨by decide, by decide⟩, by decide +kernel⟩⟩
theorem bsX8_moveOf : Cond.static yX8_moveOf ∈ WS := ws_of 994 (by decide +kernel)
theorem k_X8_303 : KS RX8 303 yX8_moveOf cX8_moveOf 1 (some (.object "DeedProtocol$Move")) 1 := ⟨bX8_moveOf, ws_of 993 (by decide +kernel), bsX8_moveOf⟩
set_option maxRecDepth 100000 in
theorem bX3_init {own : String} {idx : Nat} : KB own idx yX3_init cX3_init 6 none 5 := ⟨aw_mem_ws (i := 1000) rfl rfl, h_ini_X3, ⟨⟨by decide, by decide⟩, by decide +kernel⟩⟩
theorem biX3_init : Cond.instanceMethod yX3_init ∈ WS := ws_of 999 (by decide +kernel)
theorem k_X8_448 : KIN RX8 448 yX3_init cX3_init 6 5 := ⟨bX3_init, ⟨"DeedProtocol", ws_of 998 (by decide +kernel)⟩, rfl, biX3_init⟩
set_option maxRecDepth 100000 in
theorem bX6_has {own : String} {idx : Nat} : KB own idx yX6_has cX6_has 4 (some .boolean) 3 := ⟨aw_mem_ws (i := 1026) rfl rfl, h_ini_X6, ⟨⟨by decide, by decide⟩, by decide +kernel⟩⟩
theorem biX6_has : Cond.instanceMethod yX6_has ∈ WS ∧ Cond.selects RX6 yX6_has yX6_has ∈ WS := ⟨ws_of 1025 (by decide +kernel), ws_of 28 (by decide +kernel)⟩
theorem k_X8_316 : KVN RX8 316 yX6_has cX6_has 4 (some .boolean) 3 := ⟨bX6_has, ⟨"DeedProtocol", ws_of 1023 (by decide +kernel)⟩, biX6_has.1, biX6_has.2⟩
set_option maxRecDepth 100000 in
theorem bX6_isHolder {own : String} {idx : Nat} : KB own idx yX6_isHolder cX6_isHolder 1 (some .boolean) 1 := ⟨aw_mem_ws (i := 1029) rfl rfl, h_ini_X6, ⟨⟨by decide, by decide⟩, by decide +kernel⟩⟩
theorem bsX6_isHolder : Cond.static yX6_isHolder ∈ WS := ws_of 1028 (by decide +kernel)
theorem k_X6_18 : KS RX6 18 yX6_isHolder cX6_isHolder 1 (some .boolean) 1 := ⟨bX6_isHolder, ws_of 1027 (by decide +kernel), bsX6_isHolder⟩
set_option maxRecDepth 100000 in
theorem bX8_leavesSmallShares {own : String} {idx : Nat} : KB own idx yX8_leavesSmallShares cX8_leavesSmallShares 3 (some .boolean) 2 := ⟨aw_mem_ws (i := 1033) rfl rfl, h_ini_X8, ⟨⟨by decide, by decide⟩, by decide +kernel⟩⟩
theorem biX8_leavesSmallShares : Cond.instanceMethod yX8_leavesSmallShares ∈ WS ∧ Cond.selects RX8 yX8_leavesSmallShares yX8_leavesSmallShares ∈ WS := ⟨ws_of 1032 (by decide +kernel), ws_of 29 (by decide +kernel)⟩
theorem k_X8_320 : KV RX8 320 yX8_leavesSmallShares cX8_leavesSmallShares 3 (some .boolean) 2 := ⟨bX8_leavesSmallShares, ws_of 1030 (by decide +kernel), biX8_leavesSmallShares.1, biX8_leavesSmallShares.2⟩
set_option maxRecDepth 100000 in
theorem bX6_copyFrom {own : String} {idx : Nat} : KB own idx yX6_copyFrom cX6_copyFrom 3 none 1 := ⟨aw_mem_ws (i := 1037) rfl rfl, h_ini_X6, ⟨⟨by decide, by decide⟩, by decide +kernel⟩⟩
theorem biX6_copyFrom : Cond.instanceMethod yX6_copyFrom ∈ WS ∧ Cond.selects RX6 yX6_copyFrom yX6_copyFrom ∈ WS := ⟨ws_of 1036 (by decide +kernel), ws_of 30 (by decide +kernel)⟩
theorem k_X8_451 : KVN RX8 451 yX6_copyFrom cX6_copyFrom 3 none 1 := ⟨bX6_copyFrom, ⟨"DeedProtocol", ws_of 1034 (by decide +kernel)⟩, biX6_copyFrom.1, biX6_copyFrom.2⟩
set_option maxRecDepth 100000 in
theorem bX6_carryOut {own : String} {idx : Nat} : KB own idx yX6_carryOut cX6_carryOut 2 none 1 := ⟨aw_mem_ws (i := 1041) rfl rfl, h_ini_X6, ⟨⟨by decide, by decide⟩, by decide +kernel⟩⟩
theorem biX6_carryOut : Cond.instanceMethod yX6_carryOut ∈ WS ∧ Cond.selects RX6 yX6_carryOut yX6_carryOut ∈ WS := ⟨ws_of 1040 (by decide +kernel), ws_of 31 (by decide +kernel)⟩
theorem k_X8_394 : KVN RX8 394 yX6_carryOut cX6_carryOut 2 none 1 := ⟨bX6_carryOut, ⟨"DeedProtocol", ws_of 1038 (by decide +kernel)⟩, biX6_carryOut.1, biX6_carryOut.2⟩
set_option maxRecDepth 100000 in
theorem bX6_change {own : String} {idx : Nat} : KB own idx yX6_change cX6_change 14 none 3 := ⟨aw_mem_ws (i := 1045) rfl rfl, h_ini_X6, ⟨⟨by decide, by decide⟩, by decide +kernel⟩⟩
theorem biX6_change : Cond.instanceMethod yX6_change ∈ WS ∧ Cond.selects RX6 yX6_change yX6_change ∈ WS := ⟨ws_of 1044 (by decide +kernel), ws_of 32 (by decide +kernel)⟩
theorem k_X6_37 : KV RX6 37 yX6_change cX6_change 14 none 3 := ⟨bX6_change, ws_of 1042 (by decide +kernel), biX6_change.1, biX6_change.2⟩
set_option maxRecDepth 100000 in
theorem bX6_commonDivisor {own : String} {idx : Nat} : KB own idx yX6_commonDivisor cX6_commonDivisor 11 (some .long) 2 := ⟨aw_mem_ws (i := 1048) rfl rfl, h_ini_X6, ⟨⟨by decide, by decide⟩, by decide +kernel⟩⟩
theorem bsX6_commonDivisor : Cond.static yX6_commonDivisor ∈ WS := ws_of 1047 (by decide +kernel)
theorem k_X6_54 : KS RX6 54 yX6_commonDivisor cX6_commonDivisor 11 (some .long) 2 := ⟨bX6_commonDivisor, ws_of 1046 (by decide +kernel), bsX6_commonDivisor⟩
set_option maxRecDepth 100000 in
theorem bX6_bequeath {own : String} {idx : Nat} : KB own idx yX6_bequeath cX6_bequeath 11 none 3 := ⟨aw_mem_ws (i := 1052) rfl rfl, h_ini_X6, ⟨⟨by decide, by decide⟩, by decide +kernel⟩⟩
theorem biX6_bequeath : Cond.instanceMethod yX6_bequeath ∈ WS ∧ Cond.selects RX6 yX6_bequeath yX6_bequeath ∈ WS := ⟨ws_of 1051 (by decide +kernel), ws_of 33 (by decide +kernel)⟩
theorem k_X6_44 : KV RX6 44 yX6_bequeath cX6_bequeath 11 none 3 := ⟨bX6_bequeath, ws_of 1049 (by decide +kernel), biX6_bequeath.1, biX6_bequeath.2⟩
theorem k_X6_48 : KS RX6 48 yJ6_bitCount_0f7a4 cJ6_bitCount_0f7a4 1 (some .int) 1 := ⟨bJ6_bitCount_0f7a4, ws_of 1053 (by decide +kernel), bsJ6_bitCount_0f7a4⟩
set_option maxRecDepth 100000 in
theorem bX6_areSmall {own : String} {idx : Nat} : KB own idx yX6_areSmall cX6_areSmall 2 (some .boolean) 0 := ⟨aw_mem_ws (i := 1057) rfl rfl, h_ini_X6, ⟨⟨by decide, by decide⟩, by decide +kernel⟩⟩
theorem biX6_areSmall : Cond.instanceMethod yX6_areSmall ∈ WS ∧ Cond.selects RX6 yX6_areSmall yX6_areSmall ∈ WS := ⟨ws_of 1056 (by decide +kernel), ws_of 34 (by decide +kernel)⟩
theorem k_X8_455 : KVN RX8 455 yX6_areSmall cX6_areSmall 2 (some .boolean) 0 := ⟨bX6_areSmall, ⟨"DeedProtocol", ws_of 1054 (by decide +kernel)⟩, biX6_areSmall.1, biX6_areSmall.2⟩
set_option maxRecDepth 100000 in
theorem bX8_dutyOf {own : String} {idx : Nat} : KB own idx yX8_dutyOf cX8_dutyOf 4 (some .long) 2 := ⟨aw_mem_ws (i := 1062) rfl rfl, h_ini_X8, ⟨⟨by decide, by decide⟩, by decide +kernel⟩⟩
theorem bsX8_dutyOf : Cond.static yX8_dutyOf ∈ WS := ws_of 1061 (by decide +kernel)
theorem k_X8_326 : KS RX8 326 yX8_dutyOf cX8_dutyOf 4 (some .long) 2 := ⟨bX8_dutyOf, ws_of 1060 (by decide +kernel), bsX8_dutyOf⟩
set_option maxRecDepth 100000 in
theorem bX1_init {own : String} {idx : Nat} : KB own idx yX1_init cX1_init 6 none 5 := ⟨aw_mem_ws (i := 1069) rfl rfl, h_ini_X1, ⟨⟨by decide, by decide⟩, by decide +kernel⟩⟩
theorem biX1_init : Cond.instanceMethod yX1_init ∈ WS := ws_of 1068 (by decide +kernel)
theorem k_X8_333 : KIN RX8 333 yX1_init cX1_init 6 5 := ⟨bX1_init, ⟨"DeedProtocol", ws_of 1067 (by decide +kernel)⟩, rfl, biX1_init⟩
set_option maxRecDepth 100000 in
theorem bX8_keepEntry {own : String} {idx : Nat} : KB own idx yX8_keepEntry cX8_keepEntry 2 none 1 := ⟨aw_mem_ws (i := 1095) rfl rfl, h_ini_X8, ⟨⟨by decide, by decide⟩, by decide +kernel⟩⟩
theorem biX8_keepEntry : Cond.instanceMethod yX8_keepEntry ∈ WS ∧ Cond.selects RX8 yX8_keepEntry yX8_keepEntry ∈ WS := ⟨ws_of 1094 (by decide +kernel), ws_of 35 (by decide +kernel)⟩
theorem k_X8_336 : KV RX8 336 yX8_keepEntry cX8_keepEntry 2 none 1 := ⟨bX8_keepEntry, ws_of 1092 (by decide +kernel), biX8_keepEntry.1, biX8_keepEntry.2⟩
set_option maxRecDepth 100000 in
theorem bX8_die {own : String} {idx : Nat} : KB own idx yX8_die cX8_die 7 (some .int) 1 := ⟨aw_mem_ws (i := 1102) rfl rfl, h_ini_X8, ⟨⟨by decide, by decide⟩, by decide +kernel⟩⟩
theorem biX8_die : Cond.instanceMethod yX8_die ∈ WS ∧ Cond.selects RX8 yX8_die yX8_die ∈ WS := ⟨ws_of 1100 (by decide +kernel), ws_of 1101 (by decide +kernel)⟩
theorem k_L_85 : KV RL 85 yX8_die cX8_die 7 (some .int) 1 := ⟨bX8_die, ws_of 1099 (by decide +kernel), biX8_die.1, biX8_die.2⟩
set_option maxRecDepth 100000 in
theorem bX8_successionOf {own : String} {idx : Nat} : KB own idx yX8_successionOf cX8_successionOf 6 (some (.object "DeedProtocol$Move")) 1 := ⟨aw_mem_ws (i := 1107) rfl rfl, h_ini_X8, ⟨⟨by decide, by decide⟩, by decide +kernel⟩⟩
theorem biX8_successionOf : Cond.instanceMethod yX8_successionOf ∈ WS ∧ Cond.selects RX8 yX8_successionOf yX8_successionOf ∈ WS := ⟨ws_of 1106 (by decide +kernel), ws_of 36 (by decide +kernel)⟩
theorem k_X8_342 : KV RX8 342 yX8_successionOf cX8_successionOf 6 (some (.object "DeedProtocol$Move")) 1 := ⟨bX8_successionOf, ws_of 1104 (by decide +kernel), biX8_successionOf.1, biX8_successionOf.2⟩
set_option maxRecDepth 100000 in
theorem bX8_livingChildren {own : String} {idx : Nat} : KB own idx yX8_livingChildren cX8_livingChildren 5 (some .int) 1 := ⟨aw_mem_ws (i := 1111) rfl rfl, h_ini_X8, ⟨⟨by decide, by decide⟩, by decide +kernel⟩⟩
theorem biX8_livingChildren : Cond.instanceMethod yX8_livingChildren ∈ WS ∧ Cond.selects RX8 yX8_livingChildren yX8_livingChildren ∈ WS := ⟨ws_of 1110 (by decide +kernel), ws_of 37 (by decide +kernel)⟩
theorem k_X8_467 : KV RX8 467 yX8_livingChildren cX8_livingChildren 5 (some .int) 1 := ⟨bX8_livingChildren, ws_of 1108 (by decide +kernel), biX8_livingChildren.1, biX8_livingChildren.2⟩
set_option maxRecDepth 100000 in
theorem bX8_countingWill {own : String} {idx : Nat} : KB own idx yX8_countingWill cX8_countingWill 5 (some (.object "DeedProtocol$Deed")) 1 := ⟨aw_mem_ws (i := 1115) rfl rfl, h_ini_X8, ⟨⟨by decide, by decide⟩, by decide +kernel⟩⟩
theorem biX8_countingWill : Cond.instanceMethod yX8_countingWill ∈ WS ∧ Cond.selects RX8 yX8_countingWill yX8_countingWill ∈ WS := ⟨ws_of 1114 (by decide +kernel), ws_of 38 (by decide +kernel)⟩
theorem k_X8_471 : KV RX8 471 yX8_countingWill cX8_countingWill 5 (some (.object "DeedProtocol$Deed")) 1 := ⟨bX8_countingWill, ws_of 1112 (by decide +kernel), biX8_countingWill.1, biX8_countingWill.2⟩
set_option maxRecDepth 100000 in
theorem bX8_isStandingWillOf {own : String} {idx : Nat} : KB own idx yX8_isStandingWillOf cX8_isStandingWillOf 2 (some .boolean) 2 := ⟨aw_mem_ws (i := 1118) rfl rfl, h_ini_X8, ⟨⟨by decide, by decide⟩, by decide +kernel⟩⟩
theorem bsX8_isStandingWillOf : Cond.static yX8_isStandingWillOf ∈ WS := ws_of 1117 (by decide +kernel)
theorem k_X8_482 : KS RX8 482 yX8_isStandingWillOf cX8_isStandingWillOf 2 (some .boolean) 2 := ⟨bX8_isStandingWillOf, ws_of 1116 (by decide +kernel), bsX8_isStandingWillOf⟩
set_option maxRecDepth 100000 in
theorem bX8_goesBefore {own : String} {idx : Nat} : KB own idx yX8_goesBefore cX8_goesBefore 2 (some .boolean) 2 := ⟨aw_mem_ws (i := 1121) rfl rfl, h_ini_X8, ⟨⟨by decide, by decide⟩, by decide +kernel⟩⟩
theorem bsX8_goesBefore : Cond.static yX8_goesBefore ∈ WS := ws_of 1120 (by decide +kernel)
theorem k_X8_485 : KS RX8 485 yX8_goesBefore cX8_goesBefore 2 (some .boolean) 2 := ⟨bX8_goesBefore, ws_of 1119 (by decide +kernel), bsX8_goesBefore⟩
set_option maxRecDepth 100000 in
theorem bX8_heirsOf {own : String} {idx : Nat} : KB own idx yX8_heirsOf cX8_heirsOf 4 (some .int) 2 := ⟨aw_mem_ws (i := 1125) rfl rfl, h_ini_X8, ⟨⟨by decide, by decide⟩, by decide +kernel⟩⟩
theorem biX8_heirsOf : Cond.instanceMethod yX8_heirsOf ∈ WS ∧ Cond.selects RX8 yX8_heirsOf yX8_heirsOf ∈ WS := ⟨ws_of 1124 (by decide +kernel), ws_of 39 (by decide +kernel)⟩
theorem k_X8_475 : KV RX8 475 yX8_heirsOf cX8_heirsOf 4 (some .int) 2 := ⟨bX8_heirsOf, ws_of 1122 (by decide +kernel), biX8_heirsOf.1, biX8_heirsOf.2⟩
set_option maxRecDepth 100000 in
theorem bX8_livingParents {own : String} {idx : Nat} : KB own idx yX8_livingParents cX8_livingParents 5 (some .int) 1 := ⟨aw_mem_ws (i := 1129) rfl rfl, h_ini_X8, ⟨⟨by decide, by decide⟩, by decide +kernel⟩⟩
theorem biX8_livingParents : Cond.instanceMethod yX8_livingParents ∈ WS ∧ Cond.selects RX8 yX8_livingParents yX8_livingParents ∈ WS := ⟨ws_of 1128 (by decide +kernel), ws_of 40 (by decide +kernel)⟩
theorem k_X8_479 : KV RX8 479 yX8_livingParents cX8_livingParents 5 (some .int) 1 := ⟨bX8_livingParents, ws_of 1126 (by decide +kernel), biX8_livingParents.1, biX8_livingParents.2⟩
set_option maxRecDepth 100000 in
theorem bX8_countEstateThings {own : String} {idx : Nat} : KB own idx yX8_countEstateThings cX8_countEstateThings 6 (some .int) 2 := ⟨aw_mem_ws (i := 1133) rfl rfl, h_ini_X8, ⟨⟨by decide, by decide⟩, by decide +kernel⟩⟩
theorem biX8_countEstateThings : Cond.instanceMethod yX8_countEstateThings ∈ WS ∧ Cond.selects RX8 yX8_countEstateThings yX8_countEstateThings ∈ WS := ⟨ws_of 1132 (by decide +kernel), ws_of 41 (by decide +kernel)⟩
theorem k_X8_346 : KV RX8 346 yX8_countEstateThings cX8_countEstateThings 6 (some .int) 2 := ⟨bX8_countEstateThings, ws_of 1130 (by decide +kernel), biX8_countEstateThings.1, biX8_countEstateThings.2⟩
set_option maxRecDepth 100000 in
theorem bX6_isEmptyOf {own : String} {idx : Nat} : KB own idx yX6_isEmptyOf cX6_isEmptyOf 2 (some .boolean) 1 := ⟨aw_mem_ws (i := 1137) rfl rfl, h_ini_X6, ⟨⟨by decide, by decide⟩, by decide +kernel⟩⟩
theorem biX6_isEmptyOf : Cond.instanceMethod yX6_isEmptyOf ∈ WS ∧ Cond.selects RX6 yX6_isEmptyOf yX6_isEmptyOf ∈ WS := ⟨ws_of 1136 (by decide +kernel), ws_of 42 (by decide +kernel)⟩
theorem k_X8_359 : KVN RX8 359 yX6_isEmptyOf cX6_isEmptyOf 2 (some .boolean) 1 := ⟨bX6_isEmptyOf, ⟨"DeedProtocol", ws_of 1134 (by decide +kernel)⟩, biX6_isEmptyOf.1, biX6_isEmptyOf.2⟩
set_option maxRecDepth 100000 in
theorem bX8_endGuardianships {own : String} {idx : Nat} : KB own idx yX8_endGuardianships cX8_endGuardianships 4 none 1 := ⟨aw_mem_ws (i := 1143) rfl rfl, h_ini_X8, ⟨⟨by decide, by decide⟩, by decide +kernel⟩⟩
theorem biX8_endGuardianships : Cond.instanceMethod yX8_endGuardianships ∈ WS ∧ Cond.selects RX8 yX8_endGuardianships yX8_endGuardianships ∈ WS := ⟨ws_of 1142 (by decide +kernel), ws_of 43 (by decide +kernel)⟩
theorem k_X8_352 : KV RX8 352 yX8_endGuardianships cX8_endGuardianships 4 none 1 := ⟨bX8_endGuardianships, ws_of 1140 (by decide +kernel), biX8_endGuardianships.1, biX8_endGuardianships.2⟩
set_option maxRecDepth 100000 in
theorem bX8_entry {own : String} {idx : Nat} : KB own idx yX8_entry cX8_entry 4 (some .int) 2 := ⟨aw_mem_ws (i := 1150) rfl rfl, h_ini_X8, ⟨⟨by decide, by decide⟩, by decide +kernel⟩⟩
theorem biX8_entry : Cond.instanceMethod yX8_entry ∈ WS ∧ Cond.selects RX8 yX8_entry yX8_entry ∈ WS := ⟨ws_of 1148 (by decide +kernel), ws_of 1149 (by decide +kernel)⟩
theorem k_L_88 : KV RL 88 yX8_entry cX8_entry 4 (some .int) 2 := ⟨bX8_entry, ws_of 1147 (by decide +kernel), biX8_entry.1, biX8_entry.2⟩
set_option maxRecDepth 100000 in
theorem bX8_search {own : String} {idx : Nat} : KB own idx yX8_search cX8_search 7 (some .int) 3 := ⟨aw_mem_ws (i := 1158) rfl rfl, h_ini_X8, ⟨⟨by decide, by decide⟩, by decide +kernel⟩⟩
theorem biX8_search : Cond.instanceMethod yX8_search ∈ WS ∧ Cond.selects RX8 yX8_search yX8_search ∈ WS := ⟨ws_of 1156 (by decide +kernel), ws_of 1157 (by decide +kernel)⟩
theorem k_L_91 : KV RL 91 yX8_search cX8_search 7 (some .int) 3 := ⟨bX8_search, ws_of 1155 (by decide +kernel), biX8_search.1, biX8_search.2⟩
set_option maxRecDepth 100000 in
theorem bX8_pledge {own : String} {idx : Nat} : KB own idx yX8_pledge cX8_pledge 7 (some .int) 2 := ⟨aw_mem_ws (i := 1166) rfl rfl, h_ini_X8, ⟨⟨by decide, by decide⟩, by decide +kernel⟩⟩
theorem biX8_pledge : Cond.instanceMethod yX8_pledge ∈ WS ∧ Cond.selects RX8 yX8_pledge yX8_pledge ∈ WS := ⟨ws_of 1164 (by decide +kernel), ws_of 1165 (by decide +kernel)⟩
theorem k_L_95 : KV RL 95 yX8_pledge cX8_pledge 7 (some .int) 2 := ⟨bX8_pledge, ws_of 1163 (by decide +kernel), biX8_pledge.1, biX8_pledge.2⟩
set_option maxRecDepth 100000 in
theorem bX8_share {own : String} {idx : Nat} : KB own idx yX8_share cX8_share 5 (some .int) 3 := ⟨aw_mem_ws (i := 1174) rfl rfl, h_ini_X8, ⟨⟨by decide, by decide⟩, by decide +kernel⟩⟩
theorem biX8_share : Cond.instanceMethod yX8_share ∈ WS ∧ Cond.selects RX8 yX8_share yX8_share ∈ WS := ⟨ws_of 1172 (by decide +kernel), ws_of 1173 (by decide +kernel)⟩
theorem k_L_98 : KV RL 98 yX8_share cX8_share 5 (some .int) 3 := ⟨bX8_share, ws_of 1171 (by decide +kernel), biX8_share.1, biX8_share.2⟩
set_option maxRecDepth 100000 in
theorem bX8_holderAt {own : String} {idx : Nat} : KB own idx yX8_holderAt cX8_holderAt 2 (some .int) 1 := ⟨aw_mem_ws (i := 1178) rfl rfl, h_ini_X8, ⟨⟨by decide, by decide⟩, by decide +kernel⟩⟩
theorem biX8_holderAt : Cond.instanceMethod yX8_holderAt ∈ WS ∧ Cond.selects RX8 yX8_holderAt yX8_holderAt ∈ WS := ⟨ws_of 1177 (by decide +kernel), ws_of 44 (by decide +kernel)⟩
theorem k_X8_376 : KV RX8 376 yX8_holderAt cX8_holderAt 2 (some .int) 1 := ⟨bX8_holderAt, ws_of 1175 (by decide +kernel), biX8_holderAt.1, biX8_holderAt.2⟩
set_option maxRecDepth 100000 in
theorem bX6_termOf {own : String} {idx : Nat} : KB own idx yX6_termOf cX6_termOf 3 (some .int) 2 := ⟨aw_mem_ws (i := 1182) rfl rfl, h_ini_X6, ⟨⟨by decide, by decide⟩, by decide +kernel⟩⟩
theorem biX6_termOf : Cond.instanceMethod yX6_termOf ∈ WS ∧ Cond.selects RX6 yX6_termOf yX6_termOf ∈ WS := ⟨ws_of 1181 (by decide +kernel), ws_of 45 (by decide +kernel)⟩
theorem k_X8_380 : KVN RX8 380 yX6_termOf cX6_termOf 3 (some .int) 2 := ⟨bX6_termOf, ⟨"DeedProtocol", ws_of 1179 (by decide +kernel)⟩, biX6_termOf.1, biX6_termOf.2⟩
set_option maxRecDepth 100000 in
theorem bX8_shareAnew {own : String} {idx : Nat} : KB own idx yX8_shareAnew cX8_shareAnew 8 (some .int) 3 := ⟨aw_mem_ws (i := 1189) rfl rfl, h_ini_X8, ⟨⟨by decide, by decide⟩, by decide +kernel⟩⟩
theorem biX8_shareAnew : Cond.instanceMethod yX8_shareAnew ∈ WS ∧ Cond.selects RX8 yX8_shareAnew yX8_shareAnew ∈ WS := ⟨ws_of 1187 (by decide +kernel), ws_of 1188 (by decide +kernel)⟩
theorem k_L_102 : KV RL 102 yX8_shareAnew cX8_shareAnew 8 (some .int) 3 := ⟨bX8_shareAnew, ws_of 1186 (by decide +kernel), biX8_shareAnew.1, biX8_shareAnew.2⟩
theorem k_X8_387 : KVN RX8 387 yX6_startWith cX6_startWith 3 none 1 := ⟨bX6_startWith, ⟨"DeedProtocol", ws_of 1190 (by decide +kernel)⟩, biX6_startWith.1, biX6_startWith.2⟩
set_option maxRecDepth 100000 in
theorem bX8_pass {own : String} {idx : Nat} : KB own idx yX8_pass cX8_pass 2 (some .int) 1 := ⟨aw_mem_ws (i := 1197) rfl rfl, h_ini_X8, ⟨⟨by decide, by decide⟩, by decide +kernel⟩⟩
theorem biX8_pass : Cond.instanceMethod yX8_pass ∈ WS ∧ Cond.selects RX8 yX8_pass yX8_pass ∈ WS := ⟨ws_of 1195 (by decide +kernel), ws_of 1196 (by decide +kernel)⟩
theorem k_L_105 : KV RL 105 yX8_pass cX8_pass 2 (some .int) 1 := ⟨bX8_pass, ws_of 1194 (by decide +kernel), biX8_pass.1, biX8_pass.2⟩
set_option maxRecDepth 100000 in
theorem bX9_init {own : String} {idx : Nat} : KB own idx yX9_init cX9_init 1 none 0 := ⟨aw_mem_ws (i := 1203) rfl rfl, h_ini_X9, ⟨⟨by decide, by decide⟩, by decide +kernel⟩⟩
theorem biX9_init : Cond.instanceMethod yX9_init ∈ WS := ws_of 1202 (by decide +kernel)
theorem k_L_111 : KI RL 111 yX9_init cX9_init 1 0 := ⟨bX9_init, ws_of 1201 (by decide +kernel), rfl, biX9_init⟩
set_option maxRecDepth 100000 in
theorem bX9_thrown {own : String} {idx : Nat} : KB own idx yX9_thrown cX9_thrown 1 (some .int) 0 := ⟨aw_mem_ws (i := 1339) rfl rfl, h_ini_X9, ⟨⟨by decide, by decide⟩, by decide +kernel⟩⟩
theorem biX9_thrown : Cond.instanceMethod yX9_thrown ∈ WS ∧ Cond.selects RX9 yX9_thrown yX9_thrown ∈ WS := ⟨ws_of 1337 (by decide +kernel), ws_of 1338 (by decide +kernel)⟩
theorem k_L_118 : KV RL 118 yX9_thrown cX9_thrown 1 (some .int) 0 := ⟨bX9_thrown, ws_of 1336 (by decide +kernel), biX9_thrown.1, biX9_thrown.2⟩
set_option maxRecDepth 100000 in
theorem bX9_person {own : String} {idx : Nat} : KB own idx yX9_person cX9_person 3 (some .int) 2 := ⟨aw_mem_ws (i := 1343) rfl rfl, h_ini_X9, ⟨⟨by decide, by decide⟩, by decide +kernel⟩⟩
theorem biX9_person : Cond.instanceMethod yX9_person ∈ WS ∧ Cond.selects RX9 yX9_person yX9_person ∈ WS := ⟨ws_of 1341 (by decide +kernel), ws_of 1342 (by decide +kernel)⟩
theorem k_L_117 : KV RL 117 yX9_person cX9_person 3 (some .int) 2 := ⟨bX9_person, ws_of 1340 (by decide +kernel), biX9_person.1, biX9_person.2⟩
set_option maxRecDepth 100000 in
theorem bX9_in {own : String} {idx : Nat} : KB own idx yX9_in cX9_in 3 (some .boolean) 3 := ⟨aw_mem_ws (i := 1346) rfl rfl, h_ini_X9, ⟨⟨by decide, by decide⟩, by decide +kernel⟩⟩
theorem bsX9_in : Cond.static yX9_in ∈ WS := ws_of 1345 (by decide +kernel)
theorem k_X9_124 : KS RX9 124 yX9_in cX9_in 3 (some .boolean) 3 := ⟨bX9_in, ws_of 1344 (by decide +kernel), bsX9_in⟩
set_option maxRecDepth 100000 in
theorem bX9_child {own : String} {idx : Nat} : KB own idx yX9_child cX9_child 3 (some .int) 2 := ⟨aw_mem_ws (i := 1350) rfl rfl, h_ini_X9, ⟨⟨by decide, by decide⟩, by decide +kernel⟩⟩
theorem biX9_child : Cond.instanceMethod yX9_child ∈ WS ∧ Cond.selects RX9 yX9_child yX9_child ∈ WS := ⟨ws_of 1348 (by decide +kernel), ws_of 1349 (by decide +kernel)⟩
theorem k_L_125 : KV RL 125 yX9_child cX9_child 3 (some .int) 2 := ⟨bX9_child, ws_of 1347 (by decide +kernel), biX9_child.1, biX9_child.2⟩
set_option maxRecDepth 100000 in
theorem bX9_isPerson {own : String} {idx : Nat} : KB own idx yX9_isPerson cX9_isPerson 2 (some .boolean) 1 := ⟨aw_mem_ws (i := 1354) rfl rfl, h_ini_X9, ⟨⟨by decide, by decide⟩, by decide +kernel⟩⟩
theorem biX9_isPerson : Cond.instanceMethod yX9_isPerson ∈ WS ∧ Cond.selects RX9 yX9_isPerson yX9_isPerson ∈ WS := ⟨ws_of 1353 (by decide +kernel), ws_of 46 (by decide +kernel)⟩
theorem k_X9_137 : KV RX9 137 yX9_isPerson cX9_isPerson 2 (some .boolean) 1 := ⟨bX9_isPerson, ws_of 1351 (by decide +kernel), biX9_isPerson.1, biX9_isPerson.2⟩
set_option maxRecDepth 100000 in
theorem bX9_isChild {own : String} {idx : Nat} : KB own idx yX9_isChild cX9_isChild 5 (some .boolean) 2 := ⟨aw_mem_ws (i := 1358) rfl rfl, h_ini_X9, ⟨⟨by decide, by decide⟩, by decide +kernel⟩⟩
theorem biX9_isChild : Cond.instanceMethod yX9_isChild ∈ WS ∧ Cond.selects RX9 yX9_isChild yX9_isChild ∈ WS := ⟨ws_of 1357 (by decide +kernel), ws_of 47 (by decide +kernel)⟩
theorem k_X9_141 : KV RX9 141 yX9_isChild cX9_isChild 5 (some .boolean) 2 := ⟨bX9_isChild, ws_of 1355 (by decide +kernel), biX9_isChild.1, biX9_isChild.2⟩
set_option maxRecDepth 100000 in
theorem bX9_guard {own : String} {idx : Nat} : KB own idx yX9_guard cX9_guard 4 (some .int) 2 := ⟨aw_mem_ws (i := 1362) rfl rfl, h_ini_X9, ⟨⟨by decide, by decide⟩, by decide +kernel⟩⟩
theorem biX9_guard : Cond.instanceMethod yX9_guard ∈ WS ∧ Cond.selects RX9 yX9_guard yX9_guard ∈ WS := ⟨ws_of 1360 (by decide +kernel), ws_of 1361 (by decide +kernel)⟩
theorem k_L_128 : KV RL 128 yX9_guard cX9_guard 4 (some .int) 2 := ⟨bX9_guard, ws_of 1359 (by decide +kernel), biX9_guard.1, biX9_guard.2⟩
set_option maxRecDepth 100000 in
theorem bX9_thing {own : String} {idx : Nat} : KB own idx yX9_thing cX9_thing 4 (some .int) 2 := ⟨aw_mem_ws (i := 1366) rfl rfl, h_ini_X9, ⟨⟨by decide, by decide⟩, by decide +kernel⟩⟩
theorem biX9_thing : Cond.instanceMethod yX9_thing ∈ WS ∧ Cond.selects RX9 yX9_thing yX9_thing ∈ WS := ⟨ws_of 1364 (by decide +kernel), ws_of 1365 (by decide +kernel)⟩
theorem k_L_131 : KV RL 131 yX9_thing cX9_thing 4 (some .int) 2 := ⟨bX9_thing, ws_of 1363 (by decide +kernel), biX9_thing.1, biX9_thing.2⟩
set_option maxRecDepth 100000 in
theorem bX9_isAble {own : String} {idx : Nat} : KB own idx yX9_isAble cX9_isAble 2 (some .boolean) 1 := ⟨aw_mem_ws (i := 1371) rfl rfl, h_ini_X9, ⟨⟨by decide, by decide⟩, by decide +kernel⟩⟩
theorem biX9_isAble : Cond.instanceMethod yX9_isAble ∈ WS ∧ Cond.selects RX9 yX9_isAble yX9_isAble ∈ WS := ⟨ws_of 1369 (by decide +kernel), ws_of 1370 (by decide +kernel)⟩
theorem k_L_135 : KV RL 135 yX9_isAble cX9_isAble 2 (some .boolean) 1 := ⟨bX9_isAble, ws_of 1368 (by decide +kernel), biX9_isAble.1, biX9_isAble.2⟩
set_option maxRecDepth 100000 in
theorem bX9_able {own : String} {idx : Nat} : KB own idx yX9_able cX9_able 2 (some .boolean) 1 := ⟨aw_mem_ws (i := 1375) rfl rfl, h_ini_X9, ⟨⟨by decide, by decide⟩, by decide +kernel⟩⟩
theorem biX9_able : Cond.instanceMethod yX9_able ∈ WS ∧ Cond.selects RX9 yX9_able yX9_able ∈ WS := ⟨ws_of 1374 (by decide +kernel), ws_of 48 (by decide +kernel)⟩
theorem k_X9_146 : KV RX9 146 yX9_able cX9_able 2 (some .boolean) 1 := ⟨bX9_able, ws_of 1372 (by decide +kernel), biX9_able.1, biX9_able.2⟩
set_option maxRecDepth 100000 in
theorem bX9_draft {own : String} {idx : Nat} : KB own idx yX9_draft cX9_draft 8 (some .int) 6 := ⟨aw_mem_ws (i := 1379) rfl rfl, h_ini_X9, ⟨⟨by decide, by decide⟩, by decide +kernel⟩⟩
theorem biX9_draft : Cond.instanceMethod yX9_draft ∈ WS ∧ Cond.selects RX9 yX9_draft yX9_draft ∈ WS := ⟨ws_of 1377 (by decide +kernel), ws_of 1378 (by decide +kernel)⟩
theorem k_L_139 : KV RL 139 yX9_draft cX9_draft 8 (some .int) 6 := ⟨bX9_draft, ws_of 1376 (by decide +kernel), biX9_draft.1, biX9_draft.2⟩
set_option maxRecDepth 100000 in
theorem bX9_isThing {own : String} {idx : Nat} : KB own idx yX9_isThing cX9_isThing 2 (some .boolean) 1 := ⟨aw_mem_ws (i := 1383) rfl rfl, h_ini_X9, ⟨⟨by decide, by decide⟩, by decide +kernel⟩⟩
theorem biX9_isThing : Cond.instanceMethod yX9_isThing ∈ WS ∧ Cond.selects RX9 yX9_isThing yX9_isThing ∈ WS := ⟨ws_of 1382 (by decide +kernel), ws_of 49 (by decide +kernel)⟩
theorem k_X9_149 : KV RX9 149 yX9_isThing cX9_isThing 2 (some .boolean) 1 := ⟨bX9_isThing, ws_of 1380 (by decide +kernel), biX9_isThing.1, biX9_isThing.2⟩
set_option maxRecDepth 100000 in
theorem bX9_hasRoom {own : String} {idx : Nat} : KB own idx yX9_hasRoom cX9_hasRoom 3 (some .boolean) 2 := ⟨aw_mem_ws (i := 1387) rfl rfl, h_ini_X9, ⟨⟨by decide, by decide⟩, by decide +kernel⟩⟩
theorem biX9_hasRoom : Cond.instanceMethod yX9_hasRoom ∈ WS ∧ Cond.selects RX9 yX9_hasRoom yX9_hasRoom ∈ WS := ⟨ws_of 1386 (by decide +kernel), ws_of 50 (by decide +kernel)⟩
theorem k_X9_152 : KV RX9 152 yX9_hasRoom cX9_hasRoom 3 (some .boolean) 2 := ⟨bX9_hasRoom, ws_of 1384 (by decide +kernel), biX9_hasRoom.1, biX9_hasRoom.2⟩
set_option maxRecDepth 100000 in
theorem bX9_drafts {own : String} {idx : Nat} : KB own idx yX9_drafts cX9_drafts 4 (some .int) 3 := ⟨aw_mem_ws (i := 1391) rfl rfl, h_ini_X9, ⟨⟨by decide, by decide⟩, by decide +kernel⟩⟩
theorem biX9_drafts : Cond.instanceMethod yX9_drafts ∈ WS ∧ Cond.selects RX9 yX9_drafts yX9_drafts ∈ WS := ⟨ws_of 1390 (by decide +kernel), ws_of 51 (by decide +kernel)⟩
theorem k_X9_155 : KV RX9 155 yX9_drafts cX9_drafts 4 (some .int) 3 := ⟨bX9_drafts, ws_of 1388 (by decide +kernel), biX9_drafts.1, biX9_drafts.2⟩
set_option maxRecDepth 100000 in
theorem bX9_power {own : String} {idx : Nat} : KB own idx yX9_power cX9_power 7 (some .int) 5 := ⟨aw_mem_ws (i := 1395) rfl rfl, h_ini_X9, ⟨⟨by decide, by decide⟩, by decide +kernel⟩⟩
theorem biX9_power : Cond.instanceMethod yX9_power ∈ WS ∧ Cond.selects RX9 yX9_power yX9_power ∈ WS := ⟨ws_of 1393 (by decide +kernel), ws_of 1394 (by decide +kernel)⟩
theorem k_L_143 : KV RL 143 yX9_power cX9_power 7 (some .int) 5 := ⟨bX9_power, ws_of 1392 (by decide +kernel), biX9_power.1, biX9_power.2⟩
set_option maxRecDepth 100000 in
theorem bX9_will {own : String} {idx : Nat} : KB own idx yX9_will cX9_will 5 (some .int) 4 := ⟨aw_mem_ws (i := 1399) rfl rfl, h_ini_X9, ⟨⟨by decide, by decide⟩, by decide +kernel⟩⟩
theorem biX9_will : Cond.instanceMethod yX9_will ∈ WS ∧ Cond.selects RX9 yX9_will yX9_will ∈ WS := ⟨ws_of 1397 (by decide +kernel), ws_of 1398 (by decide +kernel)⟩
theorem k_L_147 : KV RL 147 yX9_will cX9_will 5 (some .int) 4 := ⟨bX9_will, ws_of 1396 (by decide +kernel), biX9_will.1, biX9_will.2⟩
set_option maxRecDepth 100000 in
theorem bX9_sign {own : String} {idx : Nat} : KB own idx yX9_sign cX9_sign 13 (some .int) 4 := ⟨aw_mem_ws (i := 1403) rfl rfl, h_ini_X9, ⟨⟨by decide, by decide⟩, by decide +kernel⟩⟩
theorem biX9_sign : Cond.instanceMethod yX9_sign ∈ WS ∧ Cond.selects RX9 yX9_sign yX9_sign ∈ WS := ⟨ws_of 1401 (by decide +kernel), ws_of 1402 (by decide +kernel)⟩
theorem k_L_151 : KV RL 151 yX9_sign cX9_sign 13 (some .int) 4 := ⟨bX9_sign, ws_of 1400 (by decide +kernel), biX9_sign.1, biX9_sign.2⟩
set_option maxRecDepth 100000 in
theorem bX9_isDeed {own : String} {idx : Nat} : KB own idx yX9_isDeed cX9_isDeed 2 (some .boolean) 1 := ⟨aw_mem_ws (i := 1407) rfl rfl, h_ini_X9, ⟨⟨by decide, by decide⟩, by decide +kernel⟩⟩
theorem biX9_isDeed : Cond.instanceMethod yX9_isDeed ∈ WS ∧ Cond.selects RX9 yX9_isDeed yX9_isDeed ∈ WS := ⟨ws_of 1406 (by decide +kernel), ws_of 52 (by decide +kernel)⟩
theorem k_X9_165 : KV RX9 165 yX9_isDeed cX9_isDeed 2 (some .boolean) 1 := ⟨bX9_isDeed, ws_of 1404 (by decide +kernel), biX9_isDeed.1, biX9_isDeed.2⟩
set_option maxRecDepth 100000 in
theorem bX9_isGuardian {own : String} {idx : Nat} : KB own idx yX9_isGuardian cX9_isGuardian 3 (some .boolean) 2 := ⟨aw_mem_ws (i := 1411) rfl rfl, h_ini_X9, ⟨⟨by decide, by decide⟩, by decide +kernel⟩⟩
theorem biX9_isGuardian : Cond.instanceMethod yX9_isGuardian ∈ WS ∧ Cond.selects RX9 yX9_isGuardian yX9_isGuardian ∈ WS := ⟨ws_of 1410 (by decide +kernel), ws_of 53 (by decide +kernel)⟩
theorem k_X9_168 : KV RX9 168 yX9_isGuardian cX9_isGuardian 3 (some .boolean) 2 := ⟨bX9_isGuardian, ws_of 1408 (by decide +kernel), biX9_isGuardian.1, biX9_isGuardian.2⟩
set_option maxRecDepth 100000 in
theorem bX9_signsBy {own : String} {idx : Nat} : KB own idx yX9_signsBy cX9_signsBy 5 (some .boolean) 4 := ⟨aw_mem_ws (i := 1415) rfl rfl, h_ini_X9, ⟨⟨by decide, by decide⟩, by decide +kernel⟩⟩
theorem biX9_signsBy : Cond.instanceMethod yX9_signsBy ∈ WS ∧ Cond.selects RX9 yX9_signsBy yX9_signsBy ∈ WS := ⟨ws_of 1414 (by decide +kernel), ws_of 54 (by decide +kernel)⟩
theorem k_X9_171 : KV RX9 171 yX9_signsBy cX9_signsBy 5 (some .boolean) 4 := ⟨bX9_signsBy, ws_of 1412 (by decide +kernel), biX9_signsBy.1, biX9_signsBy.2⟩
set_option maxRecDepth 100000 in
theorem bX9_good {own : String} {idx : Nat} : KB own idx yX9_good cX9_good 4 (some .boolean) 1 := ⟨aw_mem_ws (i := 1419) rfl rfl, h_ini_X9, ⟨⟨by decide, by decide⟩, by decide +kernel⟩⟩
theorem biX9_good : Cond.instanceMethod yX9_good ∈ WS ∧ Cond.selects RX9 yX9_good yX9_good ∈ WS := ⟨ws_of 1418 (by decide +kernel), ws_of 55 (by decide +kernel)⟩
theorem k_X9_162 : KV RX9 162 yX9_good cX9_good 4 (some .boolean) 1 := ⟨bX9_good, ws_of 1416 (by decide +kernel), biX9_good.1, biX9_good.2⟩
set_option maxRecDepth 100000 in
theorem bX9_isGoodAlone {own : String} {idx : Nat} : KB own idx yX9_isGoodAlone cX9_isGoodAlone 3 (some .boolean) 1 := ⟨aw_mem_ws (i := 1423) rfl rfl, h_ini_X9, ⟨⟨by decide, by decide⟩, by decide +kernel⟩⟩
theorem biX9_isGoodAlone : Cond.instanceMethod yX9_isGoodAlone ∈ WS ∧ Cond.selects RX9 yX9_isGoodAlone yX9_isGoodAlone ∈ WS := ⟨ws_of 1422 (by decide +kernel), ws_of 56 (by decide +kernel)⟩
theorem k_X9_159 : KV RX9 159 yX9_isGoodAlone cX9_isGoodAlone 3 (some .boolean) 1 := ⟨bX9_isGoodAlone, ws_of 1420 (by decide +kernel), biX9_isGoodAlone.1, biX9_isGoodAlone.2⟩
set_option maxRecDepth 100000 in
theorem bX9_add {own : String} {idx : Nat} : KB own idx yX9_add cX9_add 3 (some .int) 2 := ⟨aw_mem_ws (i := 1427) rfl rfl, h_ini_X9, ⟨⟨by decide, by decide⟩, by decide +kernel⟩⟩
theorem biX9_add : Cond.instanceMethod yX9_add ∈ WS ∧ Cond.selects RX9 yX9_add yX9_add ∈ WS := ⟨ws_of 1425 (by decide +kernel), ws_of 1426 (by decide +kernel)⟩
theorem k_L_154 : KV RL 154 yX9_add cX9_add 3 (some .int) 2 := ⟨bX9_add, ws_of 1424 (by decide +kernel), biX9_add.1, biX9_add.2⟩
set_option maxRecDepth 100000 in
theorem bX9_witness {own : String} {idx : Nat} : KB own idx yX9_witness cX9_witness 4 (some .int) 2 := ⟨aw_mem_ws (i := 1431) rfl rfl, h_ini_X9, ⟨⟨by decide, by decide⟩, by decide +kernel⟩⟩
theorem biX9_witness : Cond.instanceMethod yX9_witness ∈ WS ∧ Cond.selects RX9 yX9_witness yX9_witness ∈ WS := ⟨ws_of 1429 (by decide +kernel), ws_of 1430 (by decide +kernel)⟩
theorem k_L_157 : KV RL 157 yX9_witness cX9_witness 4 (some .int) 2 := ⟨bX9_witness, ws_of 1428 (by decide +kernel), biX9_witness.1, biX9_witness.2⟩
set_option maxRecDepth 100000 in
theorem bX9_isKin {own : String} {idx : Nat} : KB own idx yX9_isKin cX9_isKin 3 (some .boolean) 2 := ⟨aw_mem_ws (i := 1435) rfl rfl, h_ini_X9, ⟨⟨by decide, by decide⟩, by decide +kernel⟩⟩
theorem biX9_isKin : Cond.instanceMethod yX9_isKin ∈ WS ∧ Cond.selects RX9 yX9_isKin yX9_isKin ∈ WS := ⟨ws_of 1434 (by decide +kernel), ws_of 57 (by decide +kernel)⟩
theorem k_X9_175 : KV RX9 175 yX9_isKin cX9_isKin 3 (some .boolean) 2 := ⟨bX9_isKin, ws_of 1432 (by decide +kernel), biX9_isKin.1, biX9_isKin.2⟩
set_option maxRecDepth 100000 in
theorem bX9_close {own : String} {idx : Nat} : KB own idx yX9_close cX9_close 3 (some .int) 1 := ⟨aw_mem_ws (i := 1439) rfl rfl, h_ini_X9, ⟨⟨by decide, by decide⟩, by decide +kernel⟩⟩
theorem biX9_close : Cond.instanceMethod yX9_close ∈ WS ∧ Cond.selects RX9 yX9_close yX9_close ∈ WS := ⟨ws_of 1437 (by decide +kernel), ws_of 1438 (by decide +kernel)⟩
theorem k_L_160 : KV RL 160 yX9_close cX9_close 3 (some .int) 1 := ⟨bX9_close, ws_of 1436 (by decide +kernel), biX9_close.1, biX9_close.2⟩
set_option maxRecDepth 100000 in
theorem bX9_isOfThing {own : String} {idx : Nat} : KB own idx yX9_isOfThing cX9_isOfThing 2 (some .boolean) 1 := ⟨aw_mem_ws (i := 1443) rfl rfl, h_ini_X9, ⟨⟨by decide, by decide⟩, by decide +kernel⟩⟩
theorem biX9_isOfThing : Cond.instanceMethod yX9_isOfThing ∈ WS ∧ Cond.selects RX9 yX9_isOfThing yX9_isOfThing ∈ WS := ⟨ws_of 1442 (by decide +kernel), ws_of 58 (by decide +kernel)⟩
theorem k_X9_178 : KV RX9 178 yX9_isOfThing cX9_isOfThing 2 (some .boolean) 1 := ⟨bX9_isOfThing, ws_of 1440 (by decide +kernel), biX9_isOfThing.1, biX9_isOfThing.2⟩
set_option maxRecDepth 100000 in
theorem bX9_needs {own : String} {idx : Nat} : KB own idx yX9_needs cX9_needs 3 (some .int) 1 := ⟨aw_mem_ws (i := 1447) rfl rfl, h_ini_X9, ⟨⟨by decide, by decide⟩, by decide +kernel⟩⟩
theorem biX9_needs : Cond.instanceMethod yX9_needs ∈ WS ∧ Cond.selects RX9 yX9_needs yX9_needs ∈ WS := ⟨ws_of 1446 (by decide +kernel), ws_of 59 (by decide +kernel)⟩
theorem k_X9_181 : KV RX9 181 yX9_needs cX9_needs 3 (some .int) 1 := ⟨bX9_needs, ws_of 1444 (by decide +kernel), biX9_needs.1, biX9_needs.2⟩
set_option maxRecDepth 100000 in
theorem bX9_deed {own : String} {idx : Nat} : KB own idx yX9_deed cX9_deed 3 (some .int) 2 := ⟨aw_mem_ws (i := 1451) rfl rfl, h_ini_X9, ⟨⟨by decide, by decide⟩, by decide +kernel⟩⟩
theorem biX9_deed : Cond.instanceMethod yX9_deed ∈ WS ∧ Cond.selects RX9 yX9_deed yX9_deed ∈ WS := ⟨ws_of 1449 (by decide +kernel), ws_of 1450 (by decide +kernel)⟩
theorem k_L_163 : KV RL 163 yX9_deed cX9_deed 3 (some .int) 2 := ⟨bX9_deed, ws_of 1448 (by decide +kernel), biX9_deed.1, biX9_deed.2⟩
set_option maxRecDepth 100000 in
theorem bX9_label {own : String} {idx : Nat} : KB own idx yX9_label cX9_label 4 (some .char) 2 := ⟨aw_mem_ws (i := 1455) rfl rfl, h_ini_X9, ⟨⟨by decide, by decide⟩, by decide +kernel⟩⟩
theorem biX9_label : Cond.instanceMethod yX9_label ∈ WS ∧ Cond.selects RX9 yX9_label yX9_label ∈ WS := ⟨ws_of 1453 (by decide +kernel), ws_of 1454 (by decide +kernel)⟩
theorem k_L_166 : KV RL 166 yX9_label cX9_label 4 (some .char) 2 := ⟨bX9_label, ws_of 1452 (by decide +kernel), biX9_label.1, biX9_label.2⟩
set_option maxRecDepth 100000 in
theorem bX9_letter {own : String} {idx : Nat} : KB own idx yX9_letter cX9_letter 1 (some .char) 1 := ⟨aw_mem_ws (i := 1458) rfl rfl, h_ini_X9, ⟨⟨by decide, by decide⟩, by decide +kernel⟩⟩
theorem bsX9_letter : Cond.static yX9_letter ∈ WS := ws_of 1457 (by decide +kernel)
theorem k_X9_188 : KS RX9 188 yX9_letter cX9_letter 1 (some .char) 1 := ⟨bX9_letter, ws_of 1456 (by decide +kernel), bsX9_letter⟩
set_option maxRecDepth 100000 in
theorem bX9_revoke {own : String} {idx : Nat} : KB own idx yX9_revoke cX9_revoke 4 (some .boolean) 2 := ⟨aw_mem_ws (i := 1462) rfl rfl, h_ini_X9, ⟨⟨by decide, by decide⟩, by decide +kernel⟩⟩
theorem biX9_revoke : Cond.instanceMethod yX9_revoke ∈ WS ∧ Cond.selects RX9 yX9_revoke yX9_revoke ∈ WS := ⟨ws_of 1460 (by decide +kernel), ws_of 1461 (by decide +kernel)⟩
theorem k_L_169 : KV RL 169 yX9_revoke cX9_revoke 4 (some .boolean) 2 := ⟨bX9_revoke, ws_of 1459 (by decide +kernel), biX9_revoke.1, biX9_revoke.2⟩
set_option maxRecDepth 100000 in
theorem bX9_isGood {own : String} {idx : Nat} : KB own idx yX9_isGood cX9_isGood 2 (some .boolean) 1 := ⟨aw_mem_ws (i := 1466) rfl rfl, h_ini_X9, ⟨⟨by decide, by decide⟩, by decide +kernel⟩⟩
theorem biX9_isGood : Cond.instanceMethod yX9_isGood ∈ WS ∧ Cond.selects RX9 yX9_isGood yX9_isGood ∈ WS := ⟨ws_of 1464 (by decide +kernel), ws_of 1465 (by decide +kernel)⟩
theorem k_L_172 : KV RL 172 yX9_isGood cX9_isGood 2 (some .boolean) 1 := ⟨bX9_isGood, ws_of 1463 (by decide +kernel), biX9_isGood.1, biX9_isGood.2⟩
set_option maxRecDepth 100000 in
theorem bX9_copy {own : String} {idx : Nat} : KB own idx yX9_copy cX9_copy 4 (some .int) 1 := ⟨aw_mem_ws (i := 1470) rfl rfl, h_ini_X9, ⟨⟨by decide, by decide⟩, by decide +kernel⟩⟩
theorem biX9_copy : Cond.instanceMethod yX9_copy ∈ WS ∧ Cond.selects RX9 yX9_copy yX9_copy ∈ WS := ⟨ws_of 1468 (by decide +kernel), ws_of 1469 (by decide +kernel)⟩
theorem k_L_175 : KV RL 175 yX9_copy cX9_copy 4 (some .int) 1 := ⟨bX9_copy, ws_of 1467 (by decide +kernel), biX9_copy.1, biX9_copy.2⟩
set_option maxRecDepth 100000 in
theorem bX9_lose {own : String} {idx : Nat} : KB own idx yX9_lose cX9_lose 3 (some .int) 1 := ⟨aw_mem_ws (i := 1474) rfl rfl, h_ini_X9, ⟨⟨by decide, by decide⟩, by decide +kernel⟩⟩
theorem biX9_lose : Cond.instanceMethod yX9_lose ∈ WS ∧ Cond.selects RX9 yX9_lose yX9_lose ∈ WS := ⟨ws_of 1472 (by decide +kernel), ws_of 1473 (by decide +kernel)⟩
theorem k_L_178 : KV RL 178 yX9_lose cX9_lose 3 (some .int) 1 := ⟨bX9_lose, ws_of 1471 (by decide +kernel), biX9_lose.1, biX9_lose.2⟩
set_option maxRecDepth 100000 in
theorem bX9_least {own : String} {idx : Nat} : KB own idx yX9_least cX9_least 2 (some .int) 1 := ⟨aw_mem_ws (i := 1478) rfl rfl, h_ini_X9, ⟨⟨by decide, by decide⟩, by decide +kernel⟩⟩
theorem biX9_least : Cond.instanceMethod yX9_least ∈ WS ∧ Cond.selects RX9 yX9_least yX9_least ∈ WS := ⟨ws_of 1477 (by decide +kernel), ws_of 60 (by decide +kernel)⟩
theorem k_X9_192 : KV RX9 192 yX9_least cX9_least 2 (some .int) 1 := ⟨bX9_least, ws_of 1475 (by decide +kernel), biX9_least.1, biX9_least.2⟩
set_option maxRecDepth 100000 in
theorem bX9_proof {own : String} {idx : Nat} : KB own idx yX9_proof cX9_proof 2 (some .int) 1 := ⟨aw_mem_ws (i := 1482) rfl rfl, h_ini_X9, ⟨⟨by decide, by decide⟩, by decide +kernel⟩⟩
theorem biX9_proof : Cond.instanceMethod yX9_proof ∈ WS ∧ Cond.selects RX9 yX9_proof yX9_proof ∈ WS := ⟨ws_of 1480 (by decide +kernel), ws_of 1481 (by decide +kernel)⟩
theorem k_L_181 : KV RL 181 yX9_proof cX9_proof 2 (some .int) 1 := ⟨bX9_proof, ws_of 1479 (by decide +kernel), biX9_proof.1, biX9_proof.2⟩
set_option maxRecDepth 100000 in
theorem bX9_enter {own : String} {idx : Nat} : KB own idx yX9_enter cX9_enter 5 (some .int) 1 := ⟨aw_mem_ws (i := 1486) rfl rfl, h_ini_X9, ⟨⟨by decide, by decide⟩, by decide +kernel⟩⟩
theorem biX9_enter : Cond.instanceMethod yX9_enter ∈ WS ∧ Cond.selects RX9 yX9_enter yX9_enter ∈ WS := ⟨ws_of 1484 (by decide +kernel), ws_of 1485 (by decide +kernel)⟩
theorem k_L_184 : KV RL 184 yX9_enter cX9_enter 5 (some .int) 1 := ⟨bX9_enter, ws_of 1483 (by decide +kernel), biX9_enter.1, biX9_enter.2⟩
set_option maxRecDepth 100000 in
theorem bX9_canEnter {own : String} {idx : Nat} : KB own idx yX9_canEnter cX9_canEnter 5 (some .boolean) 1 := ⟨aw_mem_ws (i := 1490) rfl rfl, h_ini_X9, ⟨⟨by decide, by decide⟩, by decide +kernel⟩⟩
theorem biX9_canEnter : Cond.instanceMethod yX9_canEnter ∈ WS ∧ Cond.selects RX9 yX9_canEnter yX9_canEnter ∈ WS := ⟨ws_of 1489 (by decide +kernel), ws_of 61 (by decide +kernel)⟩
theorem k_X9_211 : KV RX9 211 yX9_canEnter cX9_canEnter 5 (some .boolean) 1 := ⟨bX9_canEnter, ws_of 1487 (by decide +kernel), biX9_canEnter.1, biX9_canEnter.2⟩
set_option maxRecDepth 100000 in
theorem bX9_laysNew {own : String} {idx : Nat} : KB own idx yX9_laysNew cX9_laysNew 2 none 0 := ⟨aw_mem_ws (i := 1494) rfl rfl, h_ini_X9, ⟨⟨by decide, by decide⟩, by decide +kernel⟩⟩
theorem biX9_laysNew : Cond.instanceMethod yX9_laysNew ∈ WS ∧ Cond.selects RX9 yX9_laysNew yX9_laysNew ∈ WS := ⟨ws_of 1493 (by decide +kernel), ws_of 62 (by decide +kernel)⟩
theorem k_X9_204 : KV RX9 204 yX9_laysNew cX9_laysNew 2 none 0 := ⟨bX9_laysNew, ws_of 1491 (by decide +kernel), biX9_laysNew.1, biX9_laysNew.2⟩
set_option maxRecDepth 100000 in
theorem bX9_adds {own : String} {idx : Nat} : KB own idx yX9_adds cX9_adds 12 (some .boolean) 3 := ⟨aw_mem_ws (i := 1498) rfl rfl, h_ini_X9, ⟨⟨by decide, by decide⟩, by decide +kernel⟩⟩
theorem biX9_adds : Cond.instanceMethod yX9_adds ∈ WS ∧ Cond.selects RX9 yX9_adds yX9_adds ∈ WS := ⟨ws_of 1497 (by decide +kernel), ws_of 63 (by decide +kernel)⟩
theorem k_X9_207 : KV RX9 207 yX9_adds cX9_adds 12 (some .boolean) 3 := ⟨bX9_adds, ws_of 1495 (by decide +kernel), biX9_adds.1, biX9_adds.2⟩
set_option maxRecDepth 100000 in
theorem bX9_common {own : String} {idx : Nat} : KB own idx yX9_common cX9_common 10 (some .long) 2 := ⟨aw_mem_ws (i := 1501) rfl rfl, h_ini_X9, ⟨⟨by decide, by decide⟩, by decide +kernel⟩⟩
theorem bsX9_common : Cond.static yX9_common ∈ WS := ws_of 1500 (by decide +kernel)
theorem k_X9_195 : KS RX9 195 yX9_common cX9_common 10 (some .long) 2 := ⟨bX9_common, ws_of 1499 (by decide +kernel), bsX9_common⟩
set_option maxRecDepth 100000 in
theorem bX9_takesNew {own : String} {idx : Nat} : KB own idx yX9_takesNew cX9_takesNew 2 none 0 := ⟨aw_mem_ws (i := 1506) rfl rfl, h_ini_X9, ⟨⟨by decide, by decide⟩, by decide +kernel⟩⟩
theorem biX9_takesNew : Cond.instanceMethod yX9_takesNew ∈ WS ∧ Cond.selects RX9 yX9_takesNew yX9_takesNew ∈ WS := ⟨ws_of 1505 (by decide +kernel), ws_of 64 (by decide +kernel)⟩
theorem k_X9_214 : KV RX9 214 yX9_takesNew cX9_takesNew 2 none 0 := ⟨bX9_takesNew, ws_of 1503 (by decide +kernel), biX9_takesNew.1, biX9_takesNew.2⟩
set_option maxRecDepth 100000 in
theorem bX9_comes {own : String} {idx : Nat} : KB own idx yX9_comes cX9_comes 4 (some .int) 3 := ⟨aw_mem_ws (i := 1510) rfl rfl, h_ini_X9, ⟨⟨by decide, by decide⟩, by decide +kernel⟩⟩
theorem biX9_comes : Cond.instanceMethod yX9_comes ∈ WS ∧ Cond.selects RX9 yX9_comes yX9_comes ∈ WS := ⟨ws_of 1509 (by decide +kernel), ws_of 65 (by decide +kernel)⟩
theorem k_X9_221 : KV RX9 221 yX9_comes cX9_comes 4 (some .int) 3 := ⟨bX9_comes, ws_of 1507 (by decide +kernel), biX9_comes.1, biX9_comes.2⟩
set_option maxRecDepth 100000 in
theorem bX9_die {own : String} {idx : Nat} : KB own idx yX9_die cX9_die 5 (some .int) 1 := ⟨aw_mem_ws (i := 1514) rfl rfl, h_ini_X9, ⟨⟨by decide, by decide⟩, by decide +kernel⟩⟩
theorem biX9_die : Cond.instanceMethod yX9_die ∈ WS ∧ Cond.selects RX9 yX9_die yX9_die ∈ WS := ⟨ws_of 1512 (by decide +kernel), ws_of 1513 (by decide +kernel)⟩
theorem k_L_187 : KV RL 187 yX9_die cX9_die 5 (some .int) 1 := ⟨bX9_die, ws_of 1511 (by decide +kernel), biX9_die.1, biX9_die.2⟩
set_option maxRecDepth 100000 in
theorem bX9_leaves {own : String} {idx : Nat} : KB own idx yX9_leaves cX9_leaves 23 (some .boolean) 2 := ⟨aw_mem_ws (i := 1518) rfl rfl, h_ini_X9, ⟨⟨by decide, by decide⟩, by decide +kernel⟩⟩
theorem biX9_leaves : Cond.instanceMethod yX9_leaves ∈ WS ∧ Cond.selects RX9 yX9_leaves yX9_leaves ∈ WS := ⟨ws_of 1517 (by decide +kernel), ws_of 66 (by decide +kernel)⟩
theorem k_X9_237 : KV RX9 237 yX9_leaves cX9_leaves 23 (some .boolean) 2 := ⟨bX9_leaves, ws_of 1515 (by decide +kernel), biX9_leaves.1, biX9_leaves.2⟩
set_option maxRecDepth 100000 in
theorem bX9_willOf {own : String} {idx : Nat} : KB own idx yX9_willOf cX9_willOf 5 (some .int) 1 := ⟨aw_mem_ws (i := 1522) rfl rfl, h_ini_X9, ⟨⟨by decide, by decide⟩, by decide +kernel⟩⟩
theorem biX9_willOf : Cond.instanceMethod yX9_willOf ∈ WS ∧ Cond.selects RX9 yX9_willOf yX9_willOf ∈ WS := ⟨ws_of 1521 (by decide +kernel), ws_of 67 (by decide +kernel)⟩
theorem k_X9_228 : KV RX9 228 yX9_willOf cX9_willOf 5 (some .int) 1 := ⟨bX9_willOf, ws_of 1519 (by decide +kernel), biX9_willOf.1, biX9_willOf.2⟩
set_option maxRecDepth 100000 in
theorem bX9_heirs {own : String} {idx : Nat} : KB own idx yX9_heirs cX9_heirs 5 (some .int) 2 := ⟨aw_mem_ws (i := 1526) rfl rfl, h_ini_X9, ⟨⟨by decide, by decide⟩, by decide +kernel⟩⟩
theorem biX9_heirs : Cond.instanceMethod yX9_heirs ∈ WS ∧ Cond.selects RX9 yX9_heirs yX9_heirs ∈ WS := ⟨ws_of 1525 (by decide +kernel), ws_of 68 (by decide +kernel)⟩
theorem k_X9_231 : KV RX9 231 yX9_heirs cX9_heirs 5 (some .int) 2 := ⟨bX9_heirs, ws_of 1523 (by decide +kernel), biX9_heirs.1, biX9_heirs.2⟩
set_option maxRecDepth 100000 in
theorem bX9_isHeir {own : String} {idx : Nat} : KB own idx yX9_isHeir cX9_isHeir 4 (some .boolean) 3 := ⟨aw_mem_ws (i := 1530) rfl rfl, h_ini_X9, ⟨⟨by decide, by decide⟩, by decide +kernel⟩⟩
theorem biX9_isHeir : Cond.instanceMethod yX9_isHeir ∈ WS ∧ Cond.selects RX9 yX9_isHeir yX9_isHeir ∈ WS := ⟨ws_of 1529 (by decide +kernel), ws_of 69 (by decide +kernel)⟩
theorem k_X9_224 : KV RX9 224 yX9_isHeir cX9_isHeir 4 (some .boolean) 3 := ⟨bX9_isHeir, ws_of 1527 (by decide +kernel), biX9_isHeir.1, biX9_isHeir.2⟩
set_option maxRecDepth 100000 in
theorem bX9_entry {own : String} {idx : Nat} : KB own idx yX9_entry cX9_entry 3 (some .int) 2 := ⟨aw_mem_ws (i := 1535) rfl rfl, h_ini_X9, ⟨⟨by decide, by decide⟩, by decide +kernel⟩⟩
theorem biX9_entry : Cond.instanceMethod yX9_entry ∈ WS ∧ Cond.selects RX9 yX9_entry yX9_entry ∈ WS := ⟨ws_of 1533 (by decide +kernel), ws_of 1534 (by decide +kernel)⟩
theorem k_L_190 : KV RL 190 yX9_entry cX9_entry 3 (some .int) 2 := ⟨bX9_entry, ws_of 1532 (by decide +kernel), biX9_entry.1, biX9_entry.2⟩
set_option maxRecDepth 100000 in
theorem bX9_entries {own : String} {idx : Nat} : KB own idx yX9_entries cX9_entries 1 (some .int) 0 := ⟨aw_mem_ws (i := 1539) rfl rfl, h_ini_X9, ⟨⟨by decide, by decide⟩, by decide +kernel⟩⟩
theorem biX9_entries : Cond.instanceMethod yX9_entries ∈ WS ∧ Cond.selects RX9 yX9_entries yX9_entries ∈ WS := ⟨ws_of 1537 (by decide +kernel), ws_of 1538 (by decide +kernel)⟩
theorem k_L_194 : KV RL 194 yX9_entries cX9_entries 1 (some .int) 0 := ⟨bX9_entries, ws_of 1536 (by decide +kernel), biX9_entries.1, biX9_entries.2⟩
set_option maxRecDepth 100000 in
theorem bX9_search {own : String} {idx : Nat} : KB own idx yX9_search cX9_search 6 (some .int) 3 := ⟨aw_mem_ws (i := 1543) rfl rfl, h_ini_X9, ⟨⟨by decide, by decide⟩, by decide +kernel⟩⟩
theorem biX9_search : Cond.instanceMethod yX9_search ∈ WS ∧ Cond.selects RX9 yX9_search yX9_search ∈ WS := ⟨ws_of 1541 (by decide +kernel), ws_of 1542 (by decide +kernel)⟩
theorem k_L_198 : KV RL 198 yX9_search cX9_search 6 (some .int) 3 := ⟨bX9_search, ws_of 1540 (by decide +kernel), biX9_search.1, biX9_search.2⟩
set_option maxRecDepth 100000 in
theorem bX9_pledge {own : String} {idx : Nat} : KB own idx yX9_pledge cX9_pledge 5 (some .int) 2 := ⟨aw_mem_ws (i := 1547) rfl rfl, h_ini_X9, ⟨⟨by decide, by decide⟩, by decide +kernel⟩⟩
theorem biX9_pledge : Cond.instanceMethod yX9_pledge ∈ WS ∧ Cond.selects RX9 yX9_pledge yX9_pledge ∈ WS := ⟨ws_of 1545 (by decide +kernel), ws_of 1546 (by decide +kernel)⟩
theorem k_L_201 : KV RL 201 yX9_pledge cX9_pledge 5 (some .int) 2 := ⟨bX9_pledge, ws_of 1544 (by decide +kernel), biX9_pledge.1, biX9_pledge.2⟩
set_option maxRecDepth 100000 in
theorem bX9_share {own : String} {idx : Nat} : KB own idx yX9_share cX9_share 5 (some .int) 3 := ⟨aw_mem_ws (i := 1551) rfl rfl, h_ini_X9, ⟨⟨by decide, by decide⟩, by decide +kernel⟩⟩
theorem biX9_share : Cond.instanceMethod yX9_share ∈ WS ∧ Cond.selects RX9 yX9_share yX9_share ∈ WS := ⟨ws_of 1549 (by decide +kernel), ws_of 1550 (by decide +kernel)⟩
theorem k_L_205 : KV RL 205 yX9_share cX9_share 5 (some .int) 3 := ⟨bX9_share, ws_of 1548 (by decide +kernel), biX9_share.1, biX9_share.2⟩
set_option maxRecDepth 100000 in
theorem bX9_shareAnew {own : String} {idx : Nat} : KB own idx yX9_shareAnew cX9_shareAnew 4 (some .int) 3 := ⟨aw_mem_ws (i := 1555) rfl rfl, h_ini_X9, ⟨⟨by decide, by decide⟩, by decide +kernel⟩⟩
theorem biX9_shareAnew : Cond.instanceMethod yX9_shareAnew ∈ WS ∧ Cond.selects RX9 yX9_shareAnew yX9_shareAnew ∈ WS := ⟨ws_of 1553 (by decide +kernel), ws_of 1554 (by decide +kernel)⟩
theorem k_L_208 : KV RL 208 yX9_shareAnew cX9_shareAnew 4 (some .int) 3 := ⟨bX9_shareAnew, ws_of 1552 (by decide +kernel), biX9_shareAnew.1, biX9_shareAnew.2⟩
theorem k_X9_240 : KV RX9 240 yX9_share cX9_share 5 (some .int) 3 := ⟨bX9_share, ws_of 1556 (by decide +kernel), biX9_share.1, biX9_share.2⟩
set_option maxRecDepth 100000 in
theorem bX9_duties {own : String} {idx : Nat} : KB own idx yX9_duties cX9_duties 1 (some .long) 0 := ⟨aw_mem_ws (i := 1560) rfl rfl, h_ini_X9, ⟨⟨by decide, by decide⟩, by decide +kernel⟩⟩
theorem biX9_duties : Cond.instanceMethod yX9_duties ∈ WS ∧ Cond.selects RX9 yX9_duties yX9_duties ∈ WS := ⟨ws_of 1558 (by decide +kernel), ws_of 1559 (by decide +kernel)⟩
theorem k_L_213 : KV RL 213 yX9_duties cX9_duties 1 (some .long) 0 := ⟨bX9_duties, ws_of 1557 (by decide +kernel), biX9_duties.1, biX9_duties.2⟩
set_option maxRecDepth 100000 in
theorem bX9_pass {own : String} {idx : Nat} : KB own idx yX9_pass cX9_pass 2 (some .int) 1 := ⟨aw_mem_ws (i := 1564) rfl rfl, h_ini_X9, ⟨⟨by decide, by decide⟩, by decide +kernel⟩⟩
theorem biX9_pass : Cond.instanceMethod yX9_pass ∈ WS ∧ Cond.selects RX9 yX9_pass yX9_pass ∈ WS := ⟨ws_of 1562 (by decide +kernel), ws_of 1563 (by decide +kernel)⟩
theorem k_L_216 : KV RL 216 yX9_pass cX9_pass 2 (some .int) 1 := ⟨bX9_pass, ws_of 1561 (by decide +kernel), biX9_pass.1, biX9_pass.2⟩
theorem h_L_8 : Cond.classLink RL 8 "DeedProtocol" ∈ WS := ws_of 103 (by decide +kernel)
theorem h_new_X8 : Cond.instantiable RX8 8 ∈ WS := ws_of 104 (by decide +kernel)
theorem h_X8_9 : Cond.classLink RX8 9 "java/util/ArrayList" ∈ WS := ws_of 111 (by decide +kernel)
theorem h_new_Jx4a65c : Cond.instantiable RJx4a65c 3 ∈ WS := ws_of 112 (by decide +kernel)
theorem h_X8_25 : Cond.classLink RX8 25 "DeedProtocol$Shares" ∈ WS := ws_of 137 (by decide +kernel)
theorem h_new_X6 : Cond.instantiable RX6 2 ∈ WS := ws_of 138 (by decide +kernel)
theorem h_arr_long : Cond.arrayClass .long ∈ WS := ws_of 150 (by decide +kernel)
theorem h_L_13 : Cond.classLink RL 13 "java/lang/IllegalArgumentException" ∈ WS := ws_of 191 (by decide +kernel)
theorem h_L_15 : Cond.classLink RL 15 "java/lang/IllegalStateException" ∈ WS := ws_of 192 (by decide +kernel)
theorem h_X8_43 : Cond.classLink RX8 43 "java/lang/IllegalArgumentException" ∈ WS := ws_of 197 (by decide +kernel)
theorem h_arr_byte : Cond.arrayClass .byte ∈ WS := ws_of 264 (by decide +kernel)
theorem h_X8_54 : Cond.classLink RX8 54 "java/lang/IllegalStateException" ∈ WS := ws_of 265 (by decide +kernel)
theorem h_X8_59 : Cond.classLink RX8 59 "DeedProtocol$Person" ∈ WS := ws_of 281 (by decide +kernel)
theorem h_new_X5 : Cond.instantiable RX5 7 ∈ WS := ws_of 282 (by decide +kernel)
theorem q_J8_200 : Cond.constant RJ8 200 2147483639 ∈ WS := ws_of 336 (by decide +kernel)
theorem h_J7_110 : Cond.classLink RJ7 110 "[Ljava/lang/Object;" ∈ WS := ws_of 365 (by decide +kernel)
theorem h_J7_2 : Cond.classLink RJ7 2 "java/lang/Object" ∈ WS := ws_of 367 (by decide +kernel)
theorem h_Jx4a65c_7 : Cond.classLink RJx4a65c 7 "java/lang/Object" ∈ WS := ws_of 375 (by decide +kernel)
theorem h_L_21 : Cond.classLink RL 21 "java/lang/IndexOutOfBoundsException" ∈ WS := ws_of 379 (by decide +kernel)
theorem h_X8_242 : Cond.classLink RX8 242 "java/lang/IndexOutOfBoundsException" ∈ WS := ws_of 388 (by decide +kernel)
theorem q_J6_265 : Cond.constant RJ6 265 1431655765 ∈ WS := ws_of 426 (by decide +kernel)
theorem q_J6_266 : Cond.constant RJ6 266 858993459 ∈ WS := ws_of 427 (by decide +kernel)
theorem q_J6_267 : Cond.constant RJ6 267 252645135 ∈ WS := ws_of 428 (by decide +kernel)
theorem q_X8_106 : Cond.constant RX8 106 1000000 ∈ WS := ws_of 457 (by decide +kernel)
theorem h_X8_111 : Cond.classLink RX8 111 "DeedProtocol$Thing" ∈ WS := ws_of 460 (by decide +kernel)
theorem h_new_X7 : Cond.instantiable RX7 4 ∈ WS := ws_of 461 (by decide +kernel)
theorem h_X7_7 : Cond.classLink RX7 7 "DeedProtocol$Shares" ∈ WS := ws_of 466 (by decide +kernel)
theorem h_X8_137 : Cond.classLink RX8 137 "DeedProtocol$Deed" ∈ WS := ws_of 524 (by decide +kernel)
theorem h_new_X0 : Cond.instantiable RX0 15 ∈ WS := ws_of 525 (by decide +kernel)
theorem h_X0_9 : Cond.classLink RX0 9 "DeedProtocol$Papers" ∈ WS := ws_of 530 (by decide +kernel)
theorem h_new_X4 : Cond.instantiable RX4 2 ∈ WS := ws_of 531 (by decide +kernel)
theorem h_arr_int : Cond.arrayClass .int ∈ WS := ws_of 544 (by decide +kernel)
theorem h_X8_148 : Cond.classLink RX8 148 "DeedProtocol$Mandate" ∈ WS := ws_of 617 (by decide +kernel)
theorem h_new_X2 : Cond.instantiable RX2 5 ∈ WS := ws_of 618 (by decide +kernel)
theorem h_X8_247 : Cond.classLink RX8 247 "java/lang/StringBuilder" ∈ WS := ws_of 769 (by decide +kernel)
theorem h_new_J4 : Cond.instantiable RJ4 4 ∈ WS := ws_of 770 (by decide +kernel)
theorem q_J2_20 : Cond.constant RJ2 20 1073741823 ∈ WS := ws_of 786 (by decide +kernel)
theorem q_J5_39 : Cond.constant RJ5 39 2147483647 ∈ WS := ws_of 818 (by decide +kernel)
theorem h_J7_311 : Cond.classLink RJ7 311 "[B" ∈ WS := ws_of 828 (by decide +kernel)
theorem h_X8_446 : Cond.classLink RX8 446 "DeedProtocol$Move" ∈ WS := ws_of 996 (by decide +kernel)
theorem h_new_X3 : Cond.instantiable RX3 5 ∈ WS := ws_of 997 (by decide +kernel)
theorem q_X6_22 : Cond.constantLong RX6 22 1000000 ∈ WS := ws_of 1058 (by decide +kernel)
theorem q_X8_461 : Cond.constantLong RX8 461 20 ∈ WS := ws_of 1063 (by decide +kernel)
theorem q_X8_463 : Cond.constantLong RX8 463 100 ∈ WS := ws_of 1064 (by decide +kernel)
theorem h_X8_330 : Cond.classLink RX8 330 "DeedProtocol$Entry" ∈ WS := ws_of 1065 (by decide +kernel)
theorem h_new_X1 : Cond.instantiable RX1 5 ∈ WS := ws_of 1066 (by decide +kernel)
theorem h_L_109 : Cond.classLink RL 109 "DeedProtocolModel" ∈ WS := ws_of 1199 (by decide +kernel)
theorem h_new_X9 : Cond.instantiable RX9 43 ∈ WS := ws_of 1200 (by decide +kernel)
theorem h_arr_boolean : Cond.arrayClass .boolean ∈ WS := ws_of 1335 (by decide +kernel)
theorem q_X9_145 : Cond.constant RX9 145 1000000 ∈ WS := ws_of 1367 (by decide +kernel)
theorem q_X9_199 : Cond.constantLong RX9 199 1000000 ∈ WS := ws_of 1502 (by decide +kernel)
theorem q_X9_235 : Cond.constantLong RX9 235 2 ∈ WS := ws_of 1531 (by decide +kernel)
