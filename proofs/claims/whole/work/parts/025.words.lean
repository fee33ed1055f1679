def lw_g : List Cond := lw_tbl.filter goodWord
theorem lw_in {w : Cond} (i : Nat) (h : lw_tbl[i]? = some w) (hg : goodWord w = true) : w ∈ lw_g := List.mem_filter.mpr ⟨List.mem_of_getElem? h, hg⟩
theorem lw_good : ∀ w ∈ lw_g, (w.onTables && w.keeps) = true ∨ ∃ ty, w = .arrayClass ty := fun w h => good_of_word (List.mem_filter.mp h).2
def cnm (k : Nat) : String := match k with
  | 0 => RX0
  | 1 => RX1
  | 2 => RX2
  | 3 => RX3
  | 4 => RX4
  | 5 => RX5
  | 6 => RX6
  | 7 => RX7
  | 8 => RX8
  | 9 => RX9
  | 10 => RX10
  | _ => RX11
def cT (k : Nat) : u_T := match k with
  | 0 => TX0
  | 1 => TX1
  | 2 => TX2
  | 3 => TX3
  | 4 => TX4
  | 5 => TX5
  | 6 => TX6
  | 7 => TX7
  | 8 => TX8
  | 9 => TX9
  | 10 => TX10
  | _ => TX11
def cty (k : Nat) : Nat → FieldType := match k with
  | 0 => tyX0
  | 1 => tyX1
  | 2 => tyX2
  | 3 => tyX3
  | 4 => tyX4
  | 5 => tyX5
  | 6 => tyX6
  | 7 => tyX7
  | 8 => tyX8
  | 9 => tyX9
  | 10 => tyX10
  | _ => tyX11
def cN (k : Nat) : Nat := match k with
  | 0 => 18
  | 1 => 6
  | 2 => 2
  | 3 => 14
  | 4 => 9
  | 5 => 3
  | 6 => 6
  | 7 => 13
  | 8 => 3
  | 9 => 4
  | 10 => 3
  | _ => 61
theorem cl_at {k : Nat} (h : k < 12) : vwCl[k]? = some (cnm k, cT k, cN k) := by
  rcases (show k = 0 ∨ k = 1 ∨ k = 2 ∨ k = 3 ∨ k = 4 ∨ k = 5 ∨ k = 6 ∨ k = 7 ∨ k = 8 ∨ k = 9 ∨ k = 10 ∨ k = 11 by omega) with rfl | rfl | rfl | rfl | rfl | rfl | rfl | rfl | rfl | rfl | rfl | rfl <;> rfl
theorem cl_nm {k : Nat} (h : k < 12) : ∀ a, a < cN k → ∀ b, b < cN k → a ≠ b → (cT k a).2.1 ≠ (cT k b).2.1 := by
  rcases (show k = 0 ∨ k = 1 ∨ k = 2 ∨ k = 3 ∨ k = 4 ∨ k = 5 ∨ k = 6 ∨ k = 7 ∨ k = 8 ∨ k = 9 ∨ k = 10 ∨ k = 11 by omega) with rfl | rfl | rfl | rfl | rfl | rfl | rfl | rfl | rfl | rfl | rfl | rfl
  · exact nmX0
  · exact nmX1
  · exact nmX2
  · exact nmX3
  · exact nmX4
  · exact nmX5
  · exact nmX6
  · exact nmX7
  · exact nmX8
  · exact nmX9
  · exact nmX10
  · exact nmX11
theorem cl_ty {k : Nat} (h : k < 12) : ∀ j, j < cN k → parseFieldDescriptor (cT k j).2.2.1 = some (cty k j) := by
  rcases (show k = 0 ∨ k = 1 ∨ k = 2 ∨ k = 3 ∨ k = 4 ∨ k = 5 ∨ k = 6 ∨ k = 7 ∨ k = 8 ∨ k = 9 ∨ k = 10 ∨ k = 11 by omega) with rfl | rfl | rfl | rfl | rfl | rfl | rfl | rfl | rfl | rfl | rfl | rfl
  · exact tyX0_ok
  · exact tyX1_ok
  · exact tyX2_ok
  · exact tyX3_ok
  · exact tyX4_ok
  · exact tyX5_ok
  · exact tyX6_ok
  · exact tyX7_ok
  · exact tyX8_ok
  · exact tyX9_ok
  · exact tyX10_ok
  · exact tyX11_ok
theorem kl_0_0 : u_lay RX0 TX0 0 ∈ lw_g := lw_in 227 (by decide +kernel) (by decide +kernel)
theorem kl_0_1 : u_lay RX0 TX0 1 ∈ lw_g := lw_in 229 (by decide +kernel) (by decide +kernel)
theorem kl_0_2 : u_lay RX0 TX0 2 ∈ lw_g := lw_in 231 (by decide +kernel) (by decide +kernel)
theorem kl_0_3 : u_lay RX0 TX0 3 ∈ lw_g := lw_in 233 (by decide +kernel) (by decide +kernel)
theorem kl_0_4 : u_lay RX0 TX0 4 ∈ lw_g := lw_in 235 (by decide +kernel) (by decide +kernel)
theorem kl_0_5 : u_lay RX0 TX0 5 ∈ lw_g := lw_in 237 (by decide +kernel) (by decide +kernel)
theorem kl_0_6 : u_lay RX0 TX0 6 ∈ lw_g := lw_in 239 (by decide +kernel) (by decide +kernel)
theorem kl_0_7 : u_lay RX0 TX0 7 ∈ lw_g := lw_in 241 (by decide +kernel) (by decide +kernel)
theorem kl_0_8 : u_lay RX0 TX0 8 ∈ lw_g := lw_in 243 (by decide +kernel) (by decide +kernel)
theorem kl_0_9 : u_lay RX0 TX0 9 ∈ lw_g := lw_in 245 (by decide +kernel) (by decide +kernel)
theorem kl_0_10 : u_lay RX0 TX0 10 ∈ lw_g := lw_in 247 (by decide +kernel) (by decide +kernel)
theorem kl_0_11 : u_lay RX0 TX0 11 ∈ lw_g := lw_in 249 (by decide +kernel) (by decide +kernel)
theorem kl_0_12 : u_lay RX0 TX0 12 ∈ lw_g := lw_in 251 (by decide +kernel) (by decide +kernel)
theorem kl_0_13 : u_lay RX0 TX0 13 ∈ lw_g := lw_in 253 (by decide +kernel) (by decide +kernel)
theorem kl_0_14 : u_lay RX0 TX0 14 ∈ lw_g := lw_in 255 (by decide +kernel) (by decide +kernel)
theorem kl_0_15 : u_lay RX0 TX0 15 ∈ lw_g := lw_in 257 (by decide +kernel) (by decide +kernel)
theorem kl_0_16 : u_lay RX0 TX0 16 ∈ lw_g := lw_in 259 (by decide +kernel) (by decide +kernel)
theorem kl_0_17 : u_lay RX0 TX0 17 ∈ lw_g := lw_in 261 (by decide +kernel) (by decide +kernel)
theorem kl_1_0 : u_lay RX1 TX1 0 ∈ lw_g := lw_in 535 (by decide +kernel) (by decide +kernel)
theorem kl_1_1 : u_lay RX1 TX1 1 ∈ lw_g := lw_in 537 (by decide +kernel) (by decide +kernel)
theorem kl_1_2 : u_lay RX1 TX1 2 ∈ lw_g := lw_in 539 (by decide +kernel) (by decide +kernel)
theorem kl_1_3 : u_lay RX1 TX1 3 ∈ lw_g := lw_in 541 (by decide +kernel) (by decide +kernel)
theorem kl_1_4 : u_lay RX1 TX1 4 ∈ lw_g := lw_in 543 (by decide +kernel) (by decide +kernel)
theorem kl_1_5 : u_lay RX1 TX1 5 ∈ lw_g := lw_in 545 (by decide +kernel) (by decide +kernel)
theorem kl_2_0 : u_lay RX2 TX2 0 ∈ lw_g := lw_in 414 (by decide +kernel) (by decide +kernel)
theorem kl_2_1 : u_lay RX2 TX2 1 ∈ lw_g := lw_in 416 (by decide +kernel) (by decide +kernel)
theorem kl_3_0 : u_lay RX3 TX3 0 ∈ lw_g := lw_in 291 (by decide +kernel) (by decide +kernel)
theorem kl_3_1 : u_lay RX3 TX3 1 ∈ lw_g := lw_in 293 (by decide +kernel) (by decide +kernel)
theorem kl_3_2 : u_lay RX3 TX3 2 ∈ lw_g := lw_in 295 (by decide +kernel) (by decide +kernel)
theorem kl_3_3 : u_lay RX3 TX3 3 ∈ lw_g := lw_in 297 (by decide +kernel) (by decide +kernel)
theorem kl_3_4 : u_lay RX3 TX3 4 ∈ lw_g := lw_in 299 (by decide +kernel) (by decide +kernel)
theorem kl_3_5 : u_lay RX3 TX3 5 ∈ lw_g := lw_in 301 (by decide +kernel) (by decide +kernel)
theorem kl_3_6 : u_lay RX3 TX3 6 ∈ lw_g := lw_in 303 (by decide +kernel) (by decide +kernel)
theorem kl_3_7 : u_lay RX3 TX3 7 ∈ lw_g := lw_in 305 (by decide +kernel) (by decide +kernel)
theorem kl_3_8 : u_lay RX3 TX3 8 ∈ lw_g := lw_in 307 (by decide +kernel) (by decide +kernel)
theorem kl_3_9 : u_lay RX3 TX3 9 ∈ lw_g := lw_in 309 (by decide +kernel) (by decide +kernel)
theorem kl_3_10 : u_lay RX3 TX3 10 ∈ lw_g := lw_in 311 (by decide +kernel) (by decide +kernel)
theorem kl_3_11 : u_lay RX3 TX3 11 ∈ lw_g := lw_in 313 (by decide +kernel) (by decide +kernel)
theorem kl_3_12 : u_lay RX3 TX3 12 ∈ lw_g := lw_in 315 (by decide +kernel) (by decide +kernel)
theorem kl_3_13 : u_lay RX3 TX3 13 ∈ lw_g := lw_in 317 (by decide +kernel) (by decide +kernel)
theorem kl_4_0 : u_lay RX4 TX4 0 ∈ lw_g := lw_in 332 (by decide +kernel) (by decide +kernel)
theorem kl_4_1 : u_lay RX4 TX4 1 ∈ lw_g := lw_in 334 (by decide +kernel) (by decide +kernel)
theorem kl_4_2 : u_lay RX4 TX4 2 ∈ lw_g := lw_in 336 (by decide +kernel) (by decide +kernel)
theorem kl_4_3 : u_lay RX4 TX4 3 ∈ lw_g := lw_in 338 (by decide +kernel) (by decide +kernel)
theorem kl_4_4 : u_lay RX4 TX4 4 ∈ lw_g := lw_in 340 (by decide +kernel) (by decide +kernel)
theorem kl_4_5 : u_lay RX4 TX4 5 ∈ lw_g := lw_in 342 (by decide +kernel) (by decide +kernel)
theorem kl_4_6 : u_lay RX4 TX4 6 ∈ lw_g := lw_in 344 (by decide +kernel) (by decide +kernel)
theorem kl_4_7 : u_lay RX4 TX4 7 ∈ lw_g := lw_in 346 (by decide +kernel) (by decide +kernel)
theorem kl_4_8 : u_lay RX4 TX4 8 ∈ lw_g := lw_in 348 (by decide +kernel) (by decide +kernel)
theorem kl_5_0 : u_lay RX5 TX5 0 ∈ lw_g := lw_in 118 (by decide +kernel) (by decide +kernel)
theorem kl_5_1 : u_lay RX5 TX5 1 ∈ lw_g := lw_in 120 (by decide +kernel) (by decide +kernel)
theorem kl_5_2 : u_lay RX5 TX5 2 ∈ lw_g := lw_in 122 (by decide +kernel) (by decide +kernel)
theorem kl_6_0 : u_lay RX6 TX6 0 ∈ lw_g := lw_in 165 (by decide +kernel) (by decide +kernel)
theorem kl_6_1 : u_lay RX6 TX6 1 ∈ lw_g := lw_in 167 (by decide +kernel) (by decide +kernel)
theorem kl_6_2 : u_lay RX6 TX6 2 ∈ lw_g := lw_in 169 (by decide +kernel) (by decide +kernel)
theorem kl_6_3 : u_lay RX6 TX6 3 ∈ lw_g := lw_in 171 (by decide +kernel) (by decide +kernel)
theorem kl_6_4 : u_lay RX6 TX6 4 ∈ lw_g := lw_in 173 (by decide +kernel) (by decide +kernel)
theorem kl_6_5 : u_lay RX6 TX6 5 ∈ lw_g := lw_in 175 (by decide +kernel) (by decide +kernel)
theorem kl_7_0 : u_lay RX7 TX7 0 ∈ lw_g := lw_in 450 (by decide +kernel) (by decide +kernel)
theorem kl_7_1 : u_lay RX7 TX7 1 ∈ lw_g := lw_in 452 (by decide +kernel) (by decide +kernel)
theorem kl_7_2 : u_lay RX7 TX7 2 ∈ lw_g := lw_in 454 (by decide +kernel) (by decide +kernel)
theorem kl_7_3 : u_lay RX7 TX7 3 ∈ lw_g := lw_in 456 (by decide +kernel) (by decide +kernel)
theorem kl_7_4 : u_lay RX7 TX7 4 ∈ lw_g := lw_in 458 (by decide +kernel) (by decide +kernel)
theorem kl_7_5 : u_lay RX7 TX7 5 ∈ lw_g := lw_in 460 (by decide +kernel) (by decide +kernel)
theorem kl_7_6 : u_lay RX7 TX7 6 ∈ lw_g := lw_in 462 (by decide +kernel) (by decide +kernel)
theorem kl_7_7 : u_lay RX7 TX7 7 ∈ lw_g := lw_in 464 (by decide +kernel) (by decide +kernel)
theorem kl_7_8 : u_lay RX7 TX7 8 ∈ lw_g := lw_in 466 (by decide +kernel) (by decide +kernel)
theorem kl_7_9 : u_lay RX7 TX7 9 ∈ lw_g := lw_in 468 (by decide +kernel) (by decide +kernel)
theorem kl_7_10 : u_lay RX7 TX7 10 ∈ lw_g := lw_in 470 (by decide +kernel) (by decide +kernel)
theorem kl_7_11 : u_lay RX7 TX7 11 ∈ lw_g := lw_in 472 (by decide +kernel) (by decide +kernel)
theorem kl_7_12 : u_lay RX7 TX7 12 ∈ lw_g := lw_in 474 (by decide +kernel) (by decide +kernel)
theorem kl_8_0 : u_lay RX8 TX8 0 ∈ lw_g := lw_in 404 (by decide +kernel) (by decide +kernel)
theorem kl_8_1 : u_lay RX8 TX8 1 ∈ lw_g := lw_in 406 (by decide +kernel) (by decide +kernel)
theorem kl_8_2 : u_lay RX8 TX8 2 ∈ lw_g := lw_in 408 (by decide +kernel) (by decide +kernel)
theorem kl_9_0 : u_lay RX9 TX9 0 ∈ lw_g := lw_in 390 (by decide +kernel) (by decide +kernel)
theorem kl_9_1 : u_lay RX9 TX9 1 ∈ lw_g := lw_in 392 (by decide +kernel) (by decide +kernel)
theorem kl_9_2 : u_lay RX9 TX9 2 ∈ lw_g := lw_in 394 (by decide +kernel) (by decide +kernel)
theorem kl_9_3 : u_lay RX9 TX9 3 ∈ lw_g := lw_in 396 (by decide +kernel) (by decide +kernel)
theorem kl_10_0 : u_lay RX10 TX10 0 ∈ lw_g := lw_in 551 (by decide +kernel) (by decide +kernel)
theorem kl_10_1 : u_lay RX10 TX10 1 ∈ lw_g := lw_in 553 (by decide +kernel) (by decide +kernel)
theorem kl_10_2 : u_lay RX10 TX10 2 ∈ lw_g := lw_in 555 (by decide +kernel) (by decide +kernel)
theorem kl_11_0 : u_lay RX11 TX11 0 ∈ lw_g := lw_in 1344 (by decide +kernel) (by decide +kernel)
theorem kl_11_1 : u_lay RX11 TX11 1 ∈ lw_g := lw_in 1346 (by decide +kernel) (by decide +kernel)
theorem kl_11_2 : u_lay RX11 TX11 2 ∈ lw_g := lw_in 1348 (by decide +kernel) (by decide +kernel)
theorem kl_11_3 : u_lay RX11 TX11 3 ∈ lw_g := lw_in 1350 (by decide +kernel) (by decide +kernel)
theorem kl_11_4 : u_lay RX11 TX11 4 ∈ lw_g := lw_in 1352 (by decide +kernel) (by decide +kernel)
theorem kl_11_5 : u_lay RX11 TX11 5 ∈ lw_g := lw_in 1354 (by decide +kernel) (by decide +kernel)
theorem kl_11_6 : u_lay RX11 TX11 6 ∈ lw_g := lw_in 1356 (by decide +kernel) (by decide +kernel)
theorem kl_11_7 : u_lay RX11 TX11 7 ∈ lw_g := lw_in 1358 (by decide +kernel) (by decide +kernel)
theorem kl_11_8 : u_lay RX11 TX11 8 ∈ lw_g := lw_in 1360 (by decide +kernel) (by decide +kernel)
theorem kl_11_9 : u_lay RX11 TX11 9 ∈ lw_g := lw_in 1362 (by decide +kernel) (by decide +kernel)
theorem kl_11_10 : u_lay RX11 TX11 10 ∈ lw_g := lw_in 1364 (by decide +kernel) (by decide +kernel)
theorem kl_11_11 : u_lay RX11 TX11 11 ∈ lw_g := lw_in 1366 (by decide +kernel) (by decide +kernel)
theorem kl_11_12 : u_lay RX11 TX11 12 ∈ lw_g := lw_in 1368 (by decide +kernel) (by decide +kernel)
theorem kl_11_13 : u_lay RX11 TX11 13 ∈ lw_g := lw_in 1370 (by decide +kernel) (by decide +kernel)
theorem kl_11_14 : u_lay RX11 TX11 14 ∈ lw_g := lw_in 1372 (by decide +kernel) (by decide +kernel)
theorem kl_11_15 : u_lay RX11 TX11 15 ∈ lw_g := lw_in 1374 (by decide +kernel) (by decide +kernel)
theorem kl_11_16 : u_lay RX11 TX11 16 ∈ lw_g := lw_in 1376 (by decide +kernel) (by decide +kernel)
theorem kl_11_17 : u_lay RX11 TX11 17 ∈ lw_g := lw_in 1378 (by decide +kernel) (by decide +kernel)
theorem kl_11_18 : u_lay RX11 TX11 18 ∈ lw_g := lw_in 1380 (by decide +kernel) (by decide +kernel)
theorem kl_11_19 : u_lay RX11 TX11 19 ∈ lw_g := lw_in 1382 (by decide +kernel) (by decide +kernel)
theorem kl_11_20 : u_lay RX11 TX11 20 ∈ lw_g := lw_in 1384 (by decide +kernel) (by decide +kernel)
theorem kl_11_21 : u_lay RX11 TX11 21 ∈ lw_g := lw_in 1386 (by decide +kernel) (by decide +kernel)
theorem kl_11_22 : u_lay RX11 TX11 22 ∈ lw_g := lw_in 1388 (by decide +kernel) (by decide +kernel)
theorem kl_11_23 : u_lay RX11 TX11 23 ∈ lw_g := lw_in 1390 (by decide +kernel) (by decide +kernel)
theorem kl_11_24 : u_lay RX11 TX11 24 ∈ lw_g := lw_in 1392 (by decide +kernel) (by decide +kernel)
theorem kl_11_25 : u_lay RX11 TX11 25 ∈ lw_g := lw_in 1394 (by decide +kernel) (by decide +kernel)
theorem kl_11_26 : u_lay RX11 TX11 26 ∈ lw_g := lw_in 1396 (by decide +kernel) (by decide +kernel)
theorem kl_11_27 : u_lay RX11 TX11 27 ∈ lw_g := lw_in 1398 (by decide +kernel) (by decide +kernel)
theorem kl_11_28 : u_lay RX11 TX11 28 ∈ lw_g := lw_in 1400 (by decide +kernel) (by decide +kernel)
theorem kl_11_29 : u_lay RX11 TX11 29 ∈ lw_g := lw_in 1402 (by decide +kernel) (by decide +kernel)
theorem kl_11_30 : u_lay RX11 TX11 30 ∈ lw_g := lw_in 1404 (by decide +kernel) (by decide +kernel)
theorem kl_11_31 : u_lay RX11 TX11 31 ∈ lw_g := lw_in 1406 (by decide +kernel) (by decide +kernel)
theorem kl_11_32 : u_lay RX11 TX11 32 ∈ lw_g := lw_in 1408 (by decide +kernel) (by decide +kernel)
theorem kl_11_33 : u_lay RX11 TX11 33 ∈ lw_g := lw_in 1410 (by decide +kernel) (by decide +kernel)
theorem kl_11_34 : u_lay RX11 TX11 34 ∈ lw_g := lw_in 1412 (by decide +kernel) (by decide +kernel)
theorem kl_11_35 : u_lay RX11 TX11 35 ∈ lw_g := lw_in 1414 (by decide +kernel) (by decide +kernel)
theorem kl_11_36 : u_lay RX11 TX11 36 ∈ lw_g := lw_in 1416 (by decide +kernel) (by decide +kernel)
theorem kl_11_37 : u_lay RX11 TX11 37 ∈ lw_g := lw_in 1418 (by decide +kernel) (by decide +kernel)
theorem kl_11_38 : u_lay RX11 TX11 38 ∈ lw_g := lw_in 1420 (by decide +kernel) (by decide +kernel)
theorem kl_11_39 : u_lay RX11 TX11 39 ∈ lw_g := lw_in 1422 (by decide +kernel) (by decide +kernel)
theorem kl_11_40 : u_lay RX11 TX11 40 ∈ lw_g := lw_in 1424 (by decide +kernel) (by decide +kernel)
theorem kl_11_41 : u_lay RX11 TX11 41 ∈ lw_g := lw_in 1426 (by decide +kernel) (by decide +kernel)
theorem kl_11_42 : u_lay RX11 TX11 42 ∈ lw_g := lw_in 1428 (by decide +kernel) (by decide +kernel)
theorem kl_11_43 : u_lay RX11 TX11 43 ∈ lw_g := lw_in 1430 (by decide +kernel) (by decide +kernel)
theorem kl_11_44 : u_lay RX11 TX11 44 ∈ lw_g := lw_in 1432 (by decide +kernel) (by decide +kernel)
theorem kl_11_45 : u_lay RX11 TX11 45 ∈ lw_g := lw_in 1434 (by decide +kernel) (by decide +kernel)
theorem kl_11_46 : u_lay RX11 TX11 46 ∈ lw_g := lw_in 1436 (by decide +kernel) (by decide +kernel)
theorem kl_11_47 : u_lay RX11 TX11 47 ∈ lw_g := lw_in 1438 (by decide +kernel) (by decide +kernel)
theorem kl_11_48 : u_lay RX11 TX11 48 ∈ lw_g := lw_in 1440 (by decide +kernel) (by decide +kernel)
theorem kl_11_49 : u_lay RX11 TX11 49 ∈ lw_g := lw_in 1442 (by decide +kernel) (by decide +kernel)
theorem kl_11_50 : u_lay RX11 TX11 50 ∈ lw_g := lw_in 1444 (by decide +kernel) (by decide +kernel)
theorem kl_11_51 : u_lay RX11 TX11 51 ∈ lw_g := lw_in 1446 (by decide +kernel) (by decide +kernel)
theorem kl_11_52 : u_lay RX11 TX11 52 ∈ lw_g := lw_in 1448 (by decide +kernel) (by decide +kernel)
theorem kl_11_53 : u_lay RX11 TX11 53 ∈ lw_g := lw_in 1450 (by decide +kernel) (by decide +kernel)
theorem kl_11_54 : u_lay RX11 TX11 54 ∈ lw_g := lw_in 1452 (by decide +kernel) (by decide +kernel)
theorem kl_11_55 : u_lay RX11 TX11 55 ∈ lw_g := lw_in 1454 (by decide +kernel) (by decide +kernel)
theorem kl_11_56 : u_lay RX11 TX11 56 ∈ lw_g := lw_in 1456 (by decide +kernel) (by decide +kernel)
theorem kl_11_57 : u_lay RX11 TX11 57 ∈ lw_g := lw_in 1458 (by decide +kernel) (by decide +kernel)
theorem kl_11_58 : u_lay RX11 TX11 58 ∈ lw_g := lw_in 1460 (by decide +kernel) (by decide +kernel)
theorem kl_11_59 : u_lay RX11 TX11 59 ∈ lw_g := lw_in 1462 (by decide +kernel) (by decide +kernel)
theorem kl_11_60 : u_lay RX11 TX11 60 ∈ lw_g := lw_in 1464 (by decide +kernel) (by decide +kernel)
theorem klw_0 : ∀ w ∈ u_ws RX0 TX0 18, w ∈ lw_g := by
  intro w hw
  obtain ⟨j, hj, rfl⟩ := List.mem_map.mp hw
  have hj := List.mem_range.mp hj
  rcases (show j = 0 ∨ j = 1 ∨ j = 2 ∨ j = 3 ∨ j = 4 ∨ j = 5 ∨ j = 6 ∨ j = 7 ∨ j = 8 ∨ j = 9 ∨ j = 10 ∨ j = 11 ∨ j = 12 ∨ j = 13 ∨ j = 14 ∨ j = 15 ∨ j = 16 ∨ j = 17 by omega) with rfl | rfl | rfl | rfl | rfl | rfl | rfl | rfl | rfl | rfl | rfl | rfl | rfl | rfl | rfl | rfl | rfl | rfl
  · exact kl_0_0
  · exact kl_0_1
  · exact kl_0_2
  · exact kl_0_3
  · exact kl_0_4
  · exact kl_0_5
  · exact kl_0_6
  · exact kl_0_7
  · exact kl_0_8
  · exact kl_0_9
  · exact kl_0_10
  · exact kl_0_11
  · exact kl_0_12
  · exact kl_0_13
  · exact kl_0_14
  · exact kl_0_15
  · exact kl_0_16
  · exact kl_0_17
theorem klw_1 : ∀ w ∈ u_ws RX1 TX1 6, w ∈ lw_g := by
  intro w hw
  obtain ⟨j, hj, rfl⟩ := List.mem_map.mp hw
  have hj := List.mem_range.mp hj
  rcases (show j = 0 ∨ j = 1 ∨ j = 2 ∨ j = 3 ∨ j = 4 ∨ j = 5 by omega) with rfl | rfl | rfl | rfl | rfl | rfl
  · exact kl_1_0
  · exact kl_1_1
  · exact kl_1_2
  · exact kl_1_3
  · exact kl_1_4
  · exact kl_1_5
theorem klw_2 : ∀ w ∈ u_ws RX2 TX2 2, w ∈ lw_g := by
  intro w hw
  obtain ⟨j, hj, rfl⟩ := List.mem_map.mp hw
  have hj := List.mem_range.mp hj
  rcases (show j = 0 ∨ j = 1 by omega) with rfl | rfl
  · exact kl_2_0
  · exact kl_2_1
theorem klw_3 : ∀ w ∈ u_ws RX3 TX3 14, w ∈ lw_g := by
  intro w hw
  obtain ⟨j, hj, rfl⟩ := List.mem_map.mp hw
  have hj := List.mem_range.mp hj
  rcases (show j = 0 ∨ j = 1 ∨ j = 2 ∨ j = 3 ∨ j = 4 ∨ j = 5 ∨ j = 6 ∨ j = 7 ∨ j = 8 ∨ j = 9 ∨ j = 10 ∨ j = 11 ∨ j = 12 ∨ j = 13 by omega) with rfl | rfl | rfl | rfl | rfl | rfl | rfl | rfl | rfl | rfl | rfl | rfl | rfl | rfl
  · exact kl_3_0
  · exact kl_3_1
  · exact kl_3_2
  · exact kl_3_3
  · exact kl_3_4
  · exact kl_3_5
  · exact kl_3_6
  · exact kl_3_7
  · exact kl_3_8
  · exact kl_3_9
  · exact kl_3_10
  · exact kl_3_11
  · exact kl_3_12
  · exact kl_3_13
theorem klw_4 : ∀ w ∈ u_ws RX4 TX4 9, w ∈ lw_g := by
  intro w hw
  obtain ⟨j, hj, rfl⟩ := List.mem_map.mp hw
  have hj := List.mem_range.mp hj
  rcases (show j = 0 ∨ j = 1 ∨ j = 2 ∨ j = 3 ∨ j = 4 ∨ j = 5 ∨ j = 6 ∨ j = 7 ∨ j = 8 by omega) with rfl | rfl | rfl | rfl | rfl | rfl | rfl | rfl | rfl
  · exact kl_4_0
  · exact kl_4_1
  · exact kl_4_2
  · exact kl_4_3
  · exact kl_4_4
  · exact kl_4_5
  · exact kl_4_6
  · exact kl_4_7
  · exact kl_4_8
theorem klw_5 : ∀ w ∈ u_ws RX5 TX5 3, w ∈ lw_g := by
  intro w hw
  obtain ⟨j, hj, rfl⟩ := List.mem_map.mp hw
  have hj := List.mem_range.mp hj
  rcases (show j = 0 ∨ j = 1 ∨ j = 2 by omega) with rfl | rfl | rfl
  · exact kl_5_0
  · exact kl_5_1
  · exact kl_5_2
theorem klw_6 : ∀ w ∈ u_ws RX6 TX6 6, w ∈ lw_g := by
  intro w hw
  obtain ⟨j, hj, rfl⟩ := List.mem_map.mp hw
  have hj := List.mem_range.mp hj
  rcases (show j = 0 ∨ j = 1 ∨ j = 2 ∨ j = 3 ∨ j = 4 ∨ j = 5 by omega) with rfl | rfl | rfl | rfl | rfl | rfl
  · exact kl_6_0
  · exact kl_6_1
  · exact kl_6_2
  · exact kl_6_3
  · exact kl_6_4
  · exact kl_6_5
theorem klw_7 : ∀ w ∈ u_ws RX7 TX7 13, w ∈ lw_g := by
  intro w hw
  obtain ⟨j, hj, rfl⟩ := List.mem_map.mp hw
  have hj := List.mem_range.mp hj
  rcases (show j = 0 ∨ j = 1 ∨ j = 2 ∨ j = 3 ∨ j = 4 ∨ j = 5 ∨ j = 6 ∨ j = 7 ∨ j = 8 ∨ j = 9 ∨ j = 10 ∨ j = 11 ∨ j = 12 by omega) with rfl | rfl | rfl | rfl | rfl | rfl | rfl | rfl | rfl | rfl | rfl | rfl | rfl
  · exact kl_7_0
  · exact kl_7_1
  · exact kl_7_2
  · exact kl_7_3
  · exact kl_7_4
  · exact kl_7_5
  · exact kl_7_6
  · exact kl_7_7
  · exact kl_7_8
  · exact kl_7_9
  · exact kl_7_10
  · exact kl_7_11
  · exact kl_7_12
theorem klw_8 : ∀ w ∈ u_ws RX8 TX8 3, w ∈ lw_g := by
  intro w hw
  obtain ⟨j, hj, rfl⟩ := List.mem_map.mp hw
  have hj := List.mem_range.mp hj
  rcases (show j = 0 ∨ j = 1 ∨ j = 2 by omega) with rfl | rfl | rfl
  · exact kl_8_0
  · exact kl_8_1
  · exact kl_8_2
theorem klw_9 : ∀ w ∈ u_ws RX9 TX9 4, w ∈ lw_g := by
  intro w hw
  obtain ⟨j, hj, rfl⟩ := List.mem_map.mp hw
  have hj := List.mem_range.mp hj
  rcases (show j = 0 ∨ j = 1 ∨ j = 2 ∨ j = 3 by omega) with rfl | rfl | rfl | rfl
  · exact kl_9_0
  · exact kl_9_1
  · exact kl_9_2
  · exact kl_9_3
theorem klw_10 : ∀ w ∈ u_ws RX10 TX10 3, w ∈ lw_g := by
  intro w hw
  obtain ⟨j, hj, rfl⟩ := List.mem_map.mp hw
  have hj := List.mem_range.mp hj
  rcases (show j = 0 ∨ j = 1 ∨ j = 2 by omega) with rfl | rfl | rfl
  · exact kl_10_0
  · exact kl_10_1
  · exact kl_10_2
theorem klw_11 : ∀ w ∈ u_ws RX11 TX11 61, w ∈ lw_g := by
  intro w hw
  obtain ⟨j, hj, rfl⟩ := List.mem_map.mp hw
  have hj := List.mem_range.mp hj
  rcases (show j = 0 ∨ j = 1 ∨ j = 2 ∨ j = 3 ∨ j = 4 ∨ j = 5 ∨ j = 6 ∨ j = 7 ∨ j = 8 ∨ j = 9 ∨ j = 10 ∨ j = 11 ∨ j = 12 ∨ j = 13 ∨ j = 14 ∨ j = 15 ∨ j = 16 ∨ j = 17 ∨ j = 18 ∨ j = 19 ∨ j = 20 ∨ j = 21 ∨ j = 22 ∨ j = 23 ∨ j = 24 ∨ j = 25 ∨ j = 26 ∨ j = 27 ∨ j = 28 ∨ j = 29 ∨ j = 30 ∨ j = 31 ∨ j = 32 ∨ j = 33 ∨ j = 34 ∨ j = 35 ∨ j = 36 ∨ j = 37 ∨ j = 38 ∨ j = 39 ∨ j = 40 ∨ j = 41 ∨ j = 42 ∨ j = 43 ∨ j = 44 ∨ j = 45 ∨ j = 46 ∨ j = 47 ∨ j = 48 ∨ j = 49 ∨ j = 50 ∨ j = 51 ∨ j = 52 ∨ j = 53 ∨ j = 54 ∨ j = 55 ∨ j = 56 ∨ j = 57 ∨ j = 58 ∨ j = 59 ∨ j = 60 by omega) with rfl | rfl | rfl | rfl | rfl | rfl | rfl | rfl | rfl | rfl | rfl | rfl | rfl | rfl | rfl | rfl | rfl | rfl | rfl | rfl | rfl | rfl | rfl | rfl | rfl | rfl | rfl | rfl | rfl | rfl | rfl | rfl | rfl | rfl | rfl | rfl | rfl | rfl | rfl | rfl | rfl | rfl | rfl | rfl | rfl | rfl | rfl | rfl | rfl | rfl | rfl | rfl | rfl | rfl | rfl | rfl | rfl | rfl | rfl | rfl | rfl
  · exact kl_11_0
  · exact kl_11_1
  · exact kl_11_2
  · exact kl_11_3
  · exact kl_11_4
  · exact kl_11_5
  · exact kl_11_6
  · exact kl_11_7
  · exact kl_11_8
  · exact kl_11_9
  · exact kl_11_10
  · exact kl_11_11
  · exact kl_11_12
  · exact kl_11_13
  · exact kl_11_14
  · exact kl_11_15
  · exact kl_11_16
  · exact kl_11_17
  · exact kl_11_18
  · exact kl_11_19
  · exact kl_11_20
  · exact kl_11_21
  · exact kl_11_22
  · exact kl_11_23
  · exact kl_11_24
  · exact kl_11_25
  · exact kl_11_26
  · exact kl_11_27
  · exact kl_11_28
  · exact kl_11_29
  · exact kl_11_30
  · exact kl_11_31
  · exact kl_11_32
  · exact kl_11_33
  · exact kl_11_34
  · exact kl_11_35
  · exact kl_11_36
  · exact kl_11_37
  · exact kl_11_38
  · exact kl_11_39
  · exact kl_11_40
  · exact kl_11_41
  · exact kl_11_42
  · exact kl_11_43
  · exact kl_11_44
  · exact kl_11_45
  · exact kl_11_46
  · exact kl_11_47
  · exact kl_11_48
  · exact kl_11_49
  · exact kl_11_50
  · exact kl_11_51
  · exact kl_11_52
  · exact kl_11_53
  · exact kl_11_54
  · exact kl_11_55
  · exact kl_11_56
  · exact kl_11_57
  · exact kl_11_58
  · exact kl_11_59
  · exact kl_11_60
theorem cl_ws {k : Nat} (h : k < 12) : ∀ w ∈ u_ws (cnm k) (cT k) (cN k), w ∈ lw_g := by
  rcases (show k = 0 ∨ k = 1 ∨ k = 2 ∨ k = 3 ∨ k = 4 ∨ k = 5 ∨ k = 6 ∨ k = 7 ∨ k = 8 ∨ k = 9 ∨ k = 10 ∨ k = 11 by omega) with rfl | rfl | rfl | rfl | rfl | rfl | rfl | rfl | rfl | rfl | rfl | rfl
  · exact klw_0
  · exact klw_1
  · exact klw_2
  · exact klw_3
  · exact klw_4
  · exact klw_5
  · exact klw_6
  · exact klw_7
  · exact klw_8
  · exact klw_9
  · exact klw_10
  · exact klw_11
/-- an instruction's field: by its class and its entry -/
def XF (own : String) (idx k j : Nat) : Prop := Cond.fieldLink own idx (cnm k) (cT k j).2.1 (cT k j).2.2.1 ∈ lw_g
def XMV (y : MethodName) (b : ByteArray) (maxL : Nat) (ret : Option FieldType) (n : Nat) : Prop := Cond.instanceMethod y ∈ lw_g ∧ Cond.selects y.cls y y ∈ lw_g ∧ Cond.initialized y.cls ∈ lw_g ∧ Cond.code y b maxL ret ∈ lw_g ∧ y.cls ≠ "java/lang/invoke/MethodHandle" ∧ y.cls ≠ "java/lang/invoke/VarHandle" ∧ (parseMethodDescriptor y.desc).map (fun d => d.parameters.length) = some n
def XMS (y : MethodName) (b : ByteArray) (maxL : Nat) (ret : Option FieldType) (n : Nat) : Prop := Cond.static y ∈ lw_g ∧ Cond.initialized y.cls ∈ lw_g ∧ Cond.code y b maxL ret ∈ lw_g ∧ y.cls ≠ "java/lang/invoke/MethodHandle" ∧ y.cls ≠ "java/lang/invoke/VarHandle" ∧ (parseMethodDescriptor y.desc).map (fun d => d.parameters.length) = some n
def XMI (y : MethodName) (b : ByteArray) (maxL : Nat) (n : Nat) : Prop := Cond.instanceMethod y ∈ lw_g ∧ Cond.initialized y.cls ∈ lw_g ∧ Cond.code y b maxL none ∈ lw_g ∧ y.name = "<init>" ∧ y.cls ≠ "java/lang/invoke/MethodHandle" ∧ y.cls ≠ "java/lang/invoke/VarHandle" ∧ (parseMethodDescriptor y.desc).map (fun d => d.parameters.length) = some n
theorem kn_L_8 : Cond.classLink RL 8 "ForkBridge" ∈ lw_g := lw_in 101 (by decide +kernel) (by decide +kernel)
theorem kk_L_105 : Cond.methodLink RL 105 yX10_init ∈ lw_g := lw_in 103 (by decide +kernel) (by decide +kernel)
theorem kmX10_init : XMI yX10_init cX10_init 3 0 := ⟨lw_in 104 (by decide +kernel) (by decide +kernel), lw_in 81 (by decide +kernel) (by decide +kernel), lw_in 105 (by decide +kernel) (by decide +kernel), by decide +kernel, by decide +kernel, by decide +kernel, by decide +kernel⟩
theorem kk_10_1 : Cond.methodLink RX10 1 ⟨"java/lang/Object", "<init>", "()V"⟩ ∈ lw_g := lw_in 106 (by decide +kernel) (by decide +kernel)
theorem kn_10_7 : Cond.classLink RX10 7 "ForkBridge$Programs" ∈ lw_g := lw_in 109 (by decide +kernel) (by decide +kernel)
theorem kmX5_init : XMI yX5_init cX5_init 1 0 := ⟨lw_in 112 (by decide +kernel) (by decide +kernel), lw_in 82 (by decide +kernel) (by decide +kernel), lw_in 113 (by decide +kernel) (by decide +kernel), by decide +kernel, by decide +kernel, by decide +kernel, by decide +kernel⟩
theorem kk_5_3 : Cond.methodLink RX5 3 ⟨"java/lang/Object", "<init>", "()V"⟩ ∈ lw_g := lw_in 114 (by decide +kernel) (by decide +kernel)
theorem kf_5_9 : XF RX5 9 5 0 := lw_in 115 (by decide +kernel) (by decide +kernel)
theorem kf_5_15 : XF RX5 15 5 1 := lw_in 116 (by decide +kernel) (by decide +kernel)
theorem kf_5_18 : XF RX5 18 5 2 := lw_in 117 (by decide +kernel) (by decide +kernel)
theorem kn_10_16 : Cond.classLink RX10 16 "ForkBridge$Machine" ∈ lw_g := lw_in 126 (by decide +kernel) (by decide +kernel)
theorem kk_10_18 : Cond.methodLink RX10 18 yX4_init ∈ lw_g := lw_in 128 (by decide +kernel) (by decide +kernel)
theorem kmX4_init : XMI yX4_init cX4_init 3 1 := ⟨lw_in 129 (by decide +kernel) (by decide +kernel), lw_in 83 (by decide +kernel) (by decide +kernel), lw_in 130 (by decide +kernel) (by decide +kernel), by decide +kernel, by decide +kernel, by decide +kernel, by decide +kernel⟩
theorem kk_4_3 : Cond.methodLink RX4 3 ⟨"java/lang/Object", "<init>", "()V"⟩ ∈ lw_g := lw_in 131 (by decide +kernel) (by decide +kernel)
theorem kn_4_9 : Cond.classLink RX4 9 "ForkBridge$Frame" ∈ lw_g := lw_in 132 (by decide +kernel) (by decide +kernel)
theorem kn_4_17 : Cond.classLink RX4 17 "ForkBridge$Block" ∈ lw_g := lw_in 134 (by decide +kernel) (by decide +kernel)
theorem kk_4_19 : Cond.methodLink RX4 19 yX0_init ∈ lw_g := lw_in 136 (by decide +kernel) (by decide +kernel)
theorem kmX0_init : XMI yX0_init cX0_init 2 1 := ⟨lw_in 137 (by decide +kernel) (by decide +kernel), lw_in 84 (by decide +kernel) (by decide +kernel), lw_in 138 (by decide +kernel) (by decide +kernel), by decide +kernel, by decide +kernel, by decide +kernel, by decide +kernel⟩
theorem kk_0_3 : Cond.methodLink RX0 3 ⟨"java/lang/Object", "<init>", "()V"⟩ ∈ lw_g := lw_in 139 (by decide +kernel) (by decide +kernel)
theorem kn_0_9 : Cond.classLink RX0 9 "ForkBridge$State" ∈ lw_g := lw_in 140 (by decide +kernel) (by decide +kernel)
theorem kmX6_init : XMI yX6_init cX6_init 1 0 := ⟨lw_in 143 (by decide +kernel) (by decide +kernel), lw_in 85 (by decide +kernel) (by decide +kernel), lw_in 144 (by decide +kernel) (by decide +kernel), by decide +kernel, by decide +kernel, by decide +kernel, by decide +kernel⟩
theorem kk_6_3 : Cond.methodLink RX6 3 ⟨"java/lang/Object", "<init>", "()V"⟩ ∈ lw_g := lw_in 145 (by decide +kernel) (by decide +kernel)
theorem kf_6_9 : XF RX6 9 6 0 := lw_in 146 (by decide +kernel) (by decide +kernel)
theorem kf_4_125 : XF RX4 125 6 0 := lw_in 147 (by decide +kernel) (by decide +kernel)
theorem kf_7_84 : XF RX7 84 6 0 := lw_in 148 (by decide +kernel) (by decide +kernel)
theorem kf_10_165 : XF RX10 165 6 0 := lw_in 149 (by decide +kernel) (by decide +kernel)
theorem kf_6_15 : XF RX6 15 6 1 := lw_in 150 (by decide +kernel) (by decide +kernel)
theorem kf_4_150 : XF RX4 150 6 1 := lw_in 151 (by decide +kernel) (by decide +kernel)
theorem kf_7_74 : XF RX7 74 6 1 := lw_in 152 (by decide +kernel) (by decide +kernel)
theorem kf_10_170 : XF RX10 170 6 1 := lw_in 153 (by decide +kernel) (by decide +kernel)
theorem kf_6_18 : XF RX6 18 6 2 := lw_in 154 (by decide +kernel) (by decide +kernel)
theorem kf_4_147 : XF RX4 147 6 2 := lw_in 155 (by decide +kernel) (by decide +kernel)
theorem kf_10_173 : XF RX10 173 6 2 := lw_in 156 (by decide +kernel) (by decide +kernel)
theorem kf_6_21 : XF RX6 21 6 3 := lw_in 157 (by decide +kernel) (by decide +kernel)
theorem kf_4_239 : XF RX4 239 6 3 := lw_in 158 (by decide +kernel) (by decide +kernel)
theorem kf_10_176 : XF RX10 176 6 3 := lw_in 159 (by decide +kernel) (by decide +kernel)
theorem kf_6_32 : XF RX6 32 6 4 := lw_in 160 (by decide +kernel) (by decide +kernel)
theorem kf_4_115 : XF RX4 115 6 4 := lw_in 161 (by decide +kernel) (by decide +kernel)
theorem kf_10_179 : XF RX10 179 6 4 := lw_in 162 (by decide +kernel) (by decide +kernel)
theorem kf_6_36 : XF RX6 36 6 5 := lw_in 163 (by decide +kernel) (by decide +kernel)
theorem kf_4_143 : XF RX4 143 6 5 := lw_in 164 (by decide +kernel) (by decide +kernel)
theorem kf_0_29 : XF RX0 29 0 0 := lw_in 178 (by decide +kernel) (by decide +kernel)
theorem kf_9_7 : XF RX9 7 0 0 := lw_in 179 (by decide +kernel) (by decide +kernel)
theorem kf_2_80 : XF RX2 80 0 0 := lw_in 180 (by decide +kernel) (by decide +kernel)
theorem kf_10_135 : XF RX10 135 0 0 := lw_in 181 (by decide +kernel) (by decide +kernel)
theorem kf_1_138 : XF RX1 138 0 0 := lw_in 182 (by decide +kernel) (by decide +kernel)
theorem kf_0_12 : XF RX0 12 0 1 := lw_in 183 (by decide +kernel) (by decide +kernel)
theorem kf_4_29 : XF RX4 29 0 1 := lw_in 184 (by decide +kernel) (by decide +kernel)
theorem kf_7_70 : XF RX7 70 0 1 := lw_in 185 (by decide +kernel) (by decide +kernel)
theorem kf_1_156 : XF RX1 156 0 1 := lw_in 186 (by decide +kernel) (by decide +kernel)
theorem kf_10_253 : XF RX10 253 0 1 := lw_in 187 (by decide +kernel) (by decide +kernel)
theorem kf_9_21 : XF RX9 21 0 2 := lw_in 188 (by decide +kernel) (by decide +kernel)
theorem kf_0_45 : XF RX0 45 0 2 := lw_in 189 (by decide +kernel) (by decide +kernel)
theorem kf_2_73 : XF RX2 73 0 2 := lw_in 190 (by decide +kernel) (by decide +kernel)
theorem kf_1_149 : XF RX1 149 0 2 := lw_in 191 (by decide +kernel) (by decide +kernel)
theorem kf_0_48 : XF RX0 48 0 3 := lw_in 192 (by decide +kernel) (by decide +kernel)
theorem kf_4_118 : XF RX4 118 0 3 := lw_in 193 (by decide +kernel) (by decide +kernel)
theorem kf_0_51 : XF RX0 51 0 4 := lw_in 194 (by decide +kernel) (by decide +kernel)
theorem kf_1_59 : XF RX1 59 0 4 := lw_in 195 (by decide +kernel) (by decide +kernel)
theorem kf_0_18 : XF RX0 18 0 5 := lw_in 196 (by decide +kernel) (by decide +kernel)
theorem kf_4_43 : XF RX4 43 0 5 := lw_in 197 (by decide +kernel) (by decide +kernel)
theorem kf_10_138 : XF RX10 138 0 5 := lw_in 198 (by decide +kernel) (by decide +kernel)
theorem kf_7_64 : XF RX7 64 0 5 := lw_in 199 (by decide +kernel) (by decide +kernel)
theorem kf_1_142 : XF RX1 142 0 5 := lw_in 200 (by decide +kernel) (by decide +kernel)
theorem kf_0_54 : XF RX0 54 0 6 := lw_in 201 (by decide +kernel) (by decide +kernel)
theorem kf_10_141 : XF RX10 141 0 6 := lw_in 202 (by decide +kernel) (by decide +kernel)
theorem kf_7_67 : XF RX7 67 0 6 := lw_in 203 (by decide +kernel) (by decide +kernel)
theorem kf_0_22 : XF RX0 22 0 7 := lw_in 204 (by decide +kernel) (by decide +kernel)
theorem kf_10_147 : XF RX10 147 0 7 := lw_in 205 (by decide +kernel) (by decide +kernel)
theorem kf_0_74 : XF RX0 74 0 8 := lw_in 206 (by decide +kernel) (by decide +kernel)
theorem kf_10_144 : XF RX10 144 0 8 := lw_in 207 (by decide +kernel) (by decide +kernel)
theorem kf_1_167 : XF RX1 167 0 8 := lw_in 208 (by decide +kernel) (by decide +kernel)
theorem kf_0_26 : XF RX0 26 0 9 := lw_in 209 (by decide +kernel) (by decide +kernel)
theorem kf_10_153 : XF RX10 153 0 9 := lw_in 210 (by decide +kernel) (by decide +kernel)
theorem kf_0_71 : XF RX0 71 0 10 := lw_in 211 (by decide +kernel) (by decide +kernel)
theorem kf_4_161 : XF RX4 161 0 10 := lw_in 212 (by decide +kernel) (by decide +kernel)
theorem kf_10_150 : XF RX10 150 0 10 := lw_in 213 (by decide +kernel) (by decide +kernel)
theorem kf_0_86 : XF RX0 86 0 11 := lw_in 214 (by decide +kernel) (by decide +kernel)
theorem kf_10_156 : XF RX10 156 0 11 := lw_in 215 (by decide +kernel) (by decide +kernel)
theorem kf_0_100 : XF RX0 100 0 12 := lw_in 216 (by decide +kernel) (by decide +kernel)
theorem kf_10_182 : XF RX10 182 0 12 := lw_in 217 (by decide +kernel) (by decide +kernel)
theorem kf_10_124 : XF RX10 124 0 13 := lw_in 218 (by decide +kernel) (by decide +kernel)
theorem kf_1_187 : XF RX1 187 0 13 := lw_in 219 (by decide +kernel) (by decide +kernel)
theorem kf_0_35 : XF RX0 35 0 14 := lw_in 220 (by decide +kernel) (by decide +kernel)
theorem kf_2_52 : XF RX2 52 0 14 := lw_in 221 (by decide +kernel) (by decide +kernel)
theorem kf_10_234 : XF RX10 234 0 14 := lw_in 222 (by decide +kernel) (by decide +kernel)
theorem kf_2_47 : XF RX2 47 0 15 := lw_in 223 (by decide +kernel) (by decide +kernel)
theorem kf_0_32 : XF RX0 32 0 16 := lw_in 224 (by decide +kernel) (by decide +kernel)
theorem kf_1_184 : XF RX1 184 0 16 := lw_in 225 (by decide +kernel) (by decide +kernel)
theorem kf_0_63 : XF RX0 63 0 17 := lw_in 226 (by decide +kernel) (by decide +kernel)
theorem kmX3_init : XMI yX3_init cX3_init 1 0 := ⟨lw_in 266 (by decide +kernel) (by decide +kernel), lw_in 86 (by decide +kernel) (by decide +kernel), lw_in 267 (by decide +kernel) (by decide +kernel), by decide +kernel, by decide +kernel, by decide +kernel, by decide +kernel⟩
theorem kk_3_3 : Cond.methodLink RX3 3 ⟨"java/lang/Object", "<init>", "()V"⟩ ∈ lw_g := lw_in 268 (by decide +kernel) (by decide +kernel)
theorem kn_3_18 : Cond.classLink RX3 18 "ForkBridge$State" ∈ lw_g := lw_in 269 (by decide +kernel) (by decide +kernel)
theorem kf_3_9 : XF RX3 9 3 0 := lw_in 271 (by decide +kernel) (by decide +kernel)
theorem kf_3_44 : XF RX3 44 3 1 := lw_in 272 (by decide +kernel) (by decide +kernel)
theorem kf_3_15 : XF RX3 15 3 2 := lw_in 273 (by decide +kernel) (by decide +kernel)
theorem kf_3_47 : XF RX3 47 3 3 := lw_in 274 (by decide +kernel) (by decide +kernel)
theorem kf_3_32 : XF RX3 32 3 4 := lw_in 275 (by decide +kernel) (by decide +kernel)
theorem kf_4_242 : XF RX4 242 3 4 := lw_in 276 (by decide +kernel) (by decide +kernel)
theorem kf_3_29 : XF RX3 29 3 5 := lw_in 277 (by decide +kernel) (by decide +kernel)
theorem kf_3_35 : XF RX3 35 3 6 := lw_in 278 (by decide +kernel) (by decide +kernel)
theorem kf_3_38 : XF RX3 38 3 7 := lw_in 279 (by decide +kernel) (by decide +kernel)
theorem kf_3_25 : XF RX3 25 3 8 := lw_in 280 (by decide +kernel) (by decide +kernel)
theorem kf_4_193 : XF RX4 193 3 8 := lw_in 281 (by decide +kernel) (by decide +kernel)
theorem kf_3_41 : XF RX3 41 3 9 := lw_in 282 (by decide +kernel) (by decide +kernel)
theorem kf_4_190 : XF RX4 190 3 9 := lw_in 283 (by decide +kernel) (by decide +kernel)
theorem kf_4_70 : XF RX4 70 3 10 := lw_in 284 (by decide +kernel) (by decide +kernel)
theorem kf_3_21 : XF RX3 21 3 11 := lw_in 285 (by decide +kernel) (by decide +kernel)
theorem kf_4_176 : XF RX4 176 3 11 := lw_in 286 (by decide +kernel) (by decide +kernel)
theorem kf_3_58 : XF RX3 58 3 12 := lw_in 287 (by decide +kernel) (by decide +kernel)
theorem kf_4_183 : XF RX4 183 3 12 := lw_in 288 (by decide +kernel) (by decide +kernel)
theorem kf_3_61 : XF RX3 61 3 13 := lw_in 289 (by decide +kernel) (by decide +kernel)
theorem kf_4_186 : XF RX4 186 3 13 := lw_in 290 (by decide +kernel) (by decide +kernel)
theorem kf_4_34 : XF RX4 34 4 0 := lw_in 320 (by decide +kernel) (by decide +kernel)
theorem kf_4_11 : XF RX4 11 4 1 := lw_in 321 (by decide +kernel) (by decide +kernel)
theorem kf_4_22 : XF RX4 22 4 2 := lw_in 322 (by decide +kernel) (by decide +kernel)
theorem kf_1_152 : XF RX1 152 4 2 := lw_in 323 (by decide +kernel) (by decide +kernel)
theorem kf_4_26 : XF RX4 26 4 3 := lw_in 324 (by decide +kernel) (by decide +kernel)
theorem kf_4_33 : XF RX4 33 4 4 := lw_in 325 (by decide +kernel) (by decide +kernel)
theorem kf_4_39 : XF RX4 39 4 5 := lw_in 326 (by decide +kernel) (by decide +kernel)
theorem kf_4_67 : XF RX4 67 4 6 := lw_in 327 (by decide +kernel) (by decide +kernel)
theorem kf_4_112 : XF RX4 112 4 7 := lw_in 328 (by decide +kernel) (by decide +kernel)
theorem kf_1_125 : XF RX1 125 4 7 := lw_in 329 (by decide +kernel) (by decide +kernel)
theorem kf_4_78 : XF RX4 78 4 8 := lw_in 330 (by decide +kernel) (by decide +kernel)
theorem kf_1_128 : XF RX1 128 4 8 := lw_in 331 (by decide +kernel) (by decide +kernel)
theorem kn_10_25 : Cond.classLink RX10 25 "ForkBridge$Chain" ∈ lw_g := lw_in 351 (by decide +kernel) (by decide +kernel)
theorem kk_10_31 : Cond.methodLink RX10 31 yX1_init ∈ lw_g := lw_in 354 (by decide +kernel) (by decide +kernel)
theorem kmX1_init : XMI yX1_init cX1_init 2 0 := ⟨lw_in 355 (by decide +kernel) (by decide +kernel), lw_in 87 (by decide +kernel) (by decide +kernel), lw_in 356 (by decide +kernel) (by decide +kernel), by decide +kernel, by decide +kernel, by decide +kernel, by decide +kernel⟩
theorem kk_1_3 : Cond.methodLink RX1 3 ⟨"java/lang/Object", "<init>", "()V"⟩ ∈ lw_g := lw_in 357 (by decide +kernel) (by decide +kernel)
theorem kn_1_9 : Cond.classLink RX1 9 "ForkBridge$Block" ∈ lw_g := lw_in 358 (by decide +kernel) (by decide +kernel)
theorem kn_1_21 : Cond.classLink RX1 21 "ForkBridge$Transaction" ∈ lw_g := lw_in 360 (by decide +kernel) (by decide +kernel)
theorem kn_1_30 : Cond.classLink RX1 30 "ForkBridge$Finality" ∈ lw_g := lw_in 362 (by decide +kernel) (by decide +kernel)
theorem kk_1_32 : Cond.methodLink RX1 32 yX2_init ∈ lw_g := lw_in 364 (by decide +kernel) (by decide +kernel)
theorem kmX2_init : XMI yX2_init cX2_init 2 0 := ⟨lw_in 365 (by decide +kernel) (by decide +kernel), lw_in 88 (by decide +kernel) (by decide +kernel), lw_in 366 (by decide +kernel) (by decide +kernel), by decide +kernel, by decide +kernel, by decide +kernel, by decide +kernel⟩
theorem kk_2_3 : Cond.methodLink RX2 3 ⟨"java/lang/Object", "<init>", "()V"⟩ ∈ lw_g := lw_in 367 (by decide +kernel) (by decide +kernel)
theorem kn_2_9 : Cond.classLink RX2 9 "ForkBridge$Validator" ∈ lw_g := lw_in 368 (by decide +kernel) (by decide +kernel)
theorem kk_2_17 : Cond.methodLink RX2 17 yX8_init ∈ lw_g := lw_in 371 (by decide +kernel) (by decide +kernel)
theorem kmX8_init : XMI yX8_init cX8_init 2 0 := ⟨lw_in 372 (by decide +kernel) (by decide +kernel), lw_in 89 (by decide +kernel) (by decide +kernel), lw_in 373 (by decide +kernel) (by decide +kernel), by decide +kernel, by decide +kernel, by decide +kernel, by decide +kernel⟩
theorem kk_8_3 : Cond.methodLink RX8 3 ⟨"java/lang/Object", "<init>", "()V"⟩ ∈ lw_g := lw_in 374 (by decide +kernel) (by decide +kernel)
theorem kn_8_9 : Cond.classLink RX8 9 "ForkBridge$Vote" ∈ lw_g := lw_in 375 (by decide +kernel) (by decide +kernel)
theorem kmX9_init : XMI yX9_init cX9_init 1 0 := ⟨lw_in 379 (by decide +kernel) (by decide +kernel), lw_in 90 (by decide +kernel) (by decide +kernel), lw_in 380 (by decide +kernel) (by decide +kernel), by decide +kernel, by decide +kernel, by decide +kernel, by decide +kernel⟩
theorem kk_9_1 : Cond.methodLink RX9 1 ⟨"java/lang/Object", "<init>", "()V"⟩ ∈ lw_g := lw_in 381 (by decide +kernel) (by decide +kernel)
theorem kf_9_13 : XF RX9 13 9 0 := lw_in 382 (by decide +kernel) (by decide +kernel)
theorem kf_2_38 : XF RX2 38 9 0 := lw_in 383 (by decide +kernel) (by decide +kernel)
theorem kf_8_48 : XF RX8 48 9 0 := lw_in 384 (by decide +kernel) (by decide +kernel)
theorem kf_9_18 : XF RX9 18 9 1 := lw_in 385 (by decide +kernel) (by decide +kernel)
theorem kf_2_44 : XF RX2 44 9 1 := lw_in 386 (by decide +kernel) (by decide +kernel)
theorem kf_8_51 : XF RX8 51 9 1 := lw_in 387 (by decide +kernel) (by decide +kernel)
theorem kf_9_24 : XF RX9 24 9 2 := lw_in 388 (by decide +kernel) (by decide +kernel)
theorem kf_9_27 : XF RX9 27 9 3 := lw_in 389 (by decide +kernel) (by decide +kernel)
theorem kf_8_11 : XF RX8 11 8 0 := lw_in 399 (by decide +kernel) (by decide +kernel)
theorem kf_8_22 : XF RX8 22 8 1 := lw_in 400 (by decide +kernel) (by decide +kernel)
theorem kf_10_219 : XF RX10 219 8 1 := lw_in 401 (by decide +kernel) (by decide +kernel)
theorem kf_8_18 : XF RX8 18 8 2 := lw_in 402 (by decide +kernel) (by decide +kernel)
theorem kf_10_214 : XF RX10 214 8 2 := lw_in 403 (by decide +kernel) (by decide +kernel)
theorem kf_2_11 : XF RX2 11 2 0 := lw_in 411 (by decide +kernel) (by decide +kernel)
theorem kf_1_44 : XF RX1 44 2 1 := lw_in 412 (by decide +kernel) (by decide +kernel)
theorem kf_2_66 : XF RX2 66 2 1 := lw_in 413 (by decide +kernel) (by decide +kernel)
theorem kk_1_37 : Cond.methodLink RX1 37 yX0_init ∈ lw_g := lw_in 419 (by decide +kernel) (by decide +kernel)
theorem kk_1_40 : Cond.methodLink RX1 40 yX7_init ∈ lw_g := lw_in 421 (by decide +kernel) (by decide +kernel)
theorem kmX7_init : XMI yX7_init cX7_init 2 1 := ⟨lw_in 422 (by decide +kernel) (by decide +kernel), lw_in 91 (by decide +kernel) (by decide +kernel), lw_in 423 (by decide +kernel) (by decide +kernel), by decide +kernel, by decide +kernel, by decide +kernel, by decide +kernel⟩
theorem kk_7_3 : Cond.methodLink RX7 3 ⟨"java/lang/Object", "<init>", "()V"⟩ ∈ lw_g := lw_in 424 (by decide +kernel) (by decide +kernel)
theorem kf_7_15 : XF RX7 15 7 0 := lw_in 425 (by decide +kernel) (by decide +kernel)
theorem kf_1_98 : XF RX1 98 7 0 := lw_in 426 (by decide +kernel) (by decide +kernel)
theorem kf_7_18 : XF RX7 18 7 1 := lw_in 427 (by decide +kernel) (by decide +kernel)
theorem kf_4_52 : XF RX4 52 7 1 := lw_in 428 (by decide +kernel) (by decide +kernel)
theorem kf_7_21 : XF RX7 21 7 2 := lw_in 429 (by decide +kernel) (by decide +kernel)
theorem kf_4_85 : XF RX4 85 7 2 := lw_in 430 (by decide +kernel) (by decide +kernel)
theorem kf_7_24 : XF RX7 24 7 3 := lw_in 431 (by decide +kernel) (by decide +kernel)
theorem kf_4_82 : XF RX4 82 7 3 := lw_in 432 (by decide +kernel) (by decide +kernel)
theorem kf_7_27 : XF RX7 27 7 4 := lw_in 433 (by decide +kernel) (by decide +kernel)
theorem kf_4_88 : XF RX4 88 7 4 := lw_in 434 (by decide +kernel) (by decide +kernel)
theorem kf_7_30 : XF RX7 30 7 5 := lw_in 435 (by decide +kernel) (by decide +kernel)
theorem kf_4_95 : XF RX4 95 7 5 := lw_in 436 (by decide +kernel) (by decide +kernel)
theorem kf_7_33 : XF RX7 33 7 6 := lw_in 437 (by decide +kernel) (by decide +kernel)
theorem kf_4_60 : XF RX4 60 7 6 := lw_in 438 (by decide +kernel) (by decide +kernel)
theorem kf_7_36 : XF RX7 36 7 7 := lw_in 439 (by decide +kernel) (by decide +kernel)
theorem kf_7_39 : XF RX7 39 7 8 := lw_in 440 (by decide +kernel) (by decide +kernel)
theorem kf_1_101 : XF RX1 101 7 8 := lw_in 441 (by decide +kernel) (by decide +kernel)
theorem kf_7_9 : XF RX7 9 7 9 := lw_in 442 (by decide +kernel) (by decide +kernel)
theorem kf_4_71 : XF RX4 71 7 9 := lw_in 443 (by decide +kernel) (by decide +kernel)
theorem kf_7_42 : XF RX7 42 7 10 := lw_in 444 (by decide +kernel) (by decide +kernel)
theorem kf_4_133 : XF RX4 133 7 10 := lw_in 445 (by decide +kernel) (by decide +kernel)
theorem kf_7_45 : XF RX7 45 7 11 := lw_in 446 (by decide +kernel) (by decide +kernel)
theorem kf_4_136 : XF RX4 136 7 11 := lw_in 447 (by decide +kernel) (by decide +kernel)
theorem kf_7_48 : XF RX7 48 7 12 := lw_in 448 (by decide +kernel) (by decide +kernel)
theorem kf_1_94 : XF RX1 94 7 12 := lw_in 449 (by decide +kernel) (by decide +kernel)
theorem kk_1_41 : Cond.methodLink RX1 41 yX0_becomeFirst ∈ lw_g := lw_in 477 (by decide +kernel) (by decide +kernel)
theorem kmX0_becomeFirst : XMV yX0_becomeFirst cX0_becomeFirst 1 none 0 := ⟨lw_in 478 (by decide +kernel) (by decide +kernel), lw_in 479 (by decide +kernel) (by decide +kernel), lw_in 84 (by decide +kernel) (by decide +kernel), lw_in 480 (by decide +kernel) (by decide +kernel), by decide +kernel, by decide +kernel, by decide +kernel⟩
theorem kk_0_39 : Cond.methodLink RX0 39 yX6_becomeFirst ∈ lw_g := lw_in 481 (by decide +kernel) (by decide +kernel)
theorem kmX6_becomeFirst : XMV yX6_becomeFirst cX6_becomeFirst 2 none 0 := ⟨lw_in 482 (by decide +kernel) (by decide +kernel), lw_in 483 (by decide +kernel) (by decide +kernel), lw_in 85 (by decide +kernel) (by decide +kernel), lw_in 484 (by decide +kernel) (by decide +kernel), by decide +kernel, by decide +kernel, by decide +kernel⟩
theorem kmX10_put : XMS yX10_put cX10_put 3 none 3 := ⟨lw_in 486 (by decide +kernel) (by decide +kernel), lw_in 81 (by decide +kernel) (by decide +kernel), lw_in 487 (by decide +kernel) (by decide +kernel), by decide +kernel, by decide +kernel, by decide +kernel⟩
theorem kk_6_28 : Cond.methodLink RX6 28 yX6_dropProgram ∈ lw_g := lw_in 488 (by decide +kernel) (by decide +kernel)
theorem kmX6_dropProgram : XMV yX6_dropProgram cX6_dropProgram 3 none 1 := ⟨lw_in 489 (by decide +kernel) (by decide +kernel), lw_in 490 (by decide +kernel) (by decide +kernel), lw_in 85 (by decide +kernel) (by decide +kernel), lw_in 491 (by decide +kernel) (by decide +kernel), by decide +kernel, by decide +kernel, by decide +kernel⟩
theorem kk_0_42 : Cond.methodLink RX0 42 yX0_seal ∈ lw_g := lw_in 492 (by decide +kernel) (by decide +kernel)
theorem kmX0_seal : XMV yX0_seal cX0_seal 2 none 0 := ⟨lw_in 493 (by decide +kernel) (by decide +kernel), lw_in 494 (by decide +kernel) (by decide +kernel), lw_in 84 (by decide +kernel) (by decide +kernel), lw_in 495 (by decide +kernel) (by decide +kernel), by decide +kernel, by decide +kernel, by decide +kernel⟩
theorem kk_0_89 : Cond.methodLink RX0 89 yX0_topicIn ∈ lw_g := lw_in 496 (by decide +kernel) (by decide +kernel)
theorem kmX0_topicIn : XMV yX0_topicIn cX0_topicIn 2 (some FieldType.int) 1 := ⟨lw_in 497 (by decide +kernel) (by decide +kernel), lw_in 498 (by decide +kernel) (by decide +kernel), lw_in 84 (by decide +kernel) (by decide +kernel), lw_in 499 (by decide +kernel) (by decide +kernel), by decide +kernel, by decide +kernel, by decide +kernel⟩
theorem kmX10_at : XMS yX10_at cX10_at 2 (some FieldType.int) 2 := ⟨lw_in 501 (by decide +kernel) (by decide +kernel), lw_in 81 (by decide +kernel) (by decide +kernel), lw_in 502 (by decide +kernel) (by decide +kernel), by decide +kernel, by decide +kernel, by decide +kernel⟩
theorem kk_0_93 : Cond.methodLink RX0 93 yX0_bloomOf ∈ lw_g := lw_in 503 (by decide +kernel) (by decide +kernel)
theorem kmX0_bloomOf : XMS yX0_bloomOf cX0_bloomOf 1 (some FieldType.int) 1 := ⟨lw_in 504 (by decide +kernel) (by decide +kernel), lw_in 84 (by decide +kernel) (by decide +kernel), lw_in 505 (by decide +kernel) (by decide +kernel), by decide +kernel, by decide +kernel, by decide +kernel⟩
theorem kmX10_nodeOver : XMS yX10_nodeOver cX10_nodeOver 3 (some FieldType.int) 3 := ⟨lw_in 507 (by decide +kernel) (by decide +kernel), lw_in 81 (by decide +kernel) (by decide +kernel), lw_in 508 (by decide +kernel) (by decide +kernel), by decide +kernel, by decide +kernel, by decide +kernel⟩
theorem kk_10_269 : Cond.methodLink RX10 269 yX6_leafOf ∈ lw_g := lw_in 509 (by decide +kernel) (by decide +kernel)
theorem kmX6_leafOf : XMV yX6_leafOf cX6_leafOf 4 (some FieldType.int) 1 := ⟨lw_in 510 (by decide +kernel) (by decide +kernel), lw_in 511 (by decide +kernel) (by decide +kernel), lw_in 85 (by decide +kernel) (by decide +kernel), lw_in 512 (by decide +kernel) (by decide +kernel), by decide +kernel, by decide +kernel, by decide +kernel⟩
theorem kmX10_mix : XMS yX10_mix cX10_mix 2 (some FieldType.int) 2 := ⟨lw_in 515 (by decide +kernel) (by decide +kernel), lw_in 81 (by decide +kernel) (by decide +kernel), lw_in 516 (by decide +kernel) (by decide +kernel), by decide +kernel, by decide +kernel, by decide +kernel⟩
theorem kc_10_257 : Cond.constantLong RX10 257 (31 : Int64) ∈ lw_g := lw_in 517 (by decide +kernel) (by decide +kernel)
theorem kc_10_259 : Cond.constantLong RX10 259 (17 : Int64) ∈ lw_g := lw_in 518 (by decide +kernel) (by decide +kernel)
theorem kc_10_261 : Cond.constantLong RX10 261 (7 : Int64) ∈ lw_g := lw_in 519 (by decide +kernel) (by decide +kernel)
theorem kc_10_263 : Cond.constantLong RX10 263 (1000003 : Int64) ∈ lw_g := lw_in 520 (by decide +kernel) (by decide +kernel)
theorem kc_6_54 : Cond.constant RX6 54 (1000003 : Int32) ∈ lw_g := lw_in 521 (by decide +kernel) (by decide +kernel)
theorem kk_10_189 : Cond.methodLink RX10 189 yX10_nodeOver ∈ lw_g := lw_in 522 (by decide +kernel) (by decide +kernel)
theorem kk_10_265 : Cond.methodLink RX10 265 yX10_mix ∈ lw_g := lw_in 523 (by decide +kernel) (by decide +kernel)
theorem kf_1_11 : XF RX1 11 1 0 := lw_in 524 (by decide +kernel) (by decide +kernel)
theorem kf_10_226 : XF RX10 226 1 0 := lw_in 525 (by decide +kernel) (by decide +kernel)
theorem kf_1_17 : XF RX1 17 1 1 := lw_in 526 (by decide +kernel) (by decide +kernel)
theorem kf_10_68 : XF RX10 68 1 1 := lw_in 527 (by decide +kernel) (by decide +kernel)
theorem kf_1_23 : XF RX1 23 1 2 := lw_in 528 (by decide +kernel) (by decide +kernel)
theorem kf_10_56 : XF RX10 56 1 3 := lw_in 529 (by decide +kernel) (by decide +kernel)
theorem kf_1_68 : XF RX1 68 1 3 := lw_in 530 (by decide +kernel) (by decide +kernel)
theorem kf_1_27 : XF RX1 27 1 4 := lw_in 531 (by decide +kernel) (by decide +kernel)
theorem kf_10_71 : XF RX10 71 1 4 := lw_in 532 (by decide +kernel) (by decide +kernel)
theorem kf_1_33 : XF RX1 33 1 5 := lw_in 533 (by decide +kernel) (by decide +kernel)
theorem kf_10_204 : XF RX10 204 1 5 := lw_in 534 (by decide +kernel) (by decide +kernel)
theorem kf_10_10 : XF RX10 10 10 0 := lw_in 548 (by decide +kernel) (by decide +kernel)
theorem kf_10_21 : XF RX10 21 10 1 := lw_in 549 (by decide +kernel) (by decide +kernel)
theorem kf_10_27 : XF RX10 27 10 2 := lw_in 550 (by decide +kernel) (by decide +kernel)
theorem kk_L_109 : Cond.methodLink RL 109 yL_step ∈ lw_g := lw_in 558 (by decide +kernel) (by decide +kernel)
theorem kn_L_13 : Cond.classLink RL 13 "java/lang/IndexOutOfBoundsException" ∈ lw_g := lw_in 561 (by decide +kernel) (by decide +kernel)
theorem kn_L_15 : Cond.classLink RL 15 "java/lang/IllegalArgumentException" ∈ lw_g := lw_in 562 (by decide +kernel) (by decide +kernel)
theorem kn_L_17 : Cond.classLink RL 17 "java/lang/IllegalStateException" ∈ lw_g := lw_in 563 (by decide +kernel) (by decide +kernel)
theorem kk_L_7 : Cond.methodLink RL 7 yX10_step ∈ lw_g := lw_in 564 (by decide +kernel) (by decide +kernel)
theorem kmX10_step : XMV yX10_step cX10_step 8 (some FieldType.int) 3 := ⟨lw_in 565 (by decide +kernel) (by decide +kernel), lw_in 566 (by decide +kernel) (by decide +kernel), lw_in 81 (by decide +kernel) (by decide +kernel), lw_in 567 (by decide +kernel) (by decide +kernel), by decide +kernel, by decide +kernel, by decide +kernel⟩
theorem kk_10_32 : Cond.methodLink RX10 32 yX10_demandIndex ∈ lw_g := lw_in 568 (by decide +kernel) (by decide +kernel)
theorem kmX10_demandIndex : XMS yX10_demandIndex cX10_demandIndex 2 none 2 := ⟨lw_in 569 (by decide +kernel) (by decide +kernel), lw_in 81 (by decide +kernel) (by decide +kernel), lw_in 570 (by decide +kernel) (by decide +kernel), by decide +kernel, by decide +kernel, by decide +kernel⟩
theorem kn_10_240 : Cond.classLink RX10 240 "java/lang/IndexOutOfBoundsException" ∈ lw_g := lw_in 571 (by decide +kernel) (by decide +kernel)
theorem kk_10_242 : Cond.methodLink RX10 242 ⟨"java/lang/IndexOutOfBoundsException", "<init>", "()V"⟩ ∈ lw_g := lw_in 612 (by decide +kernel) (by decide +kernel)
theorem kk_10_36 : Cond.methodLink RX10 36 yX10_demandRange ∈ lw_g := lw_in 634 (by decide +kernel) (by decide +kernel)
theorem kmX10_demandRange : XMS yX10_demandRange cX10_demandRange 3 none 3 := ⟨lw_in 635 (by decide +kernel) (by decide +kernel), lw_in 81 (by decide +kernel) (by decide +kernel), lw_in 636 (by decide +kernel) (by decide +kernel), by decide +kernel, by decide +kernel, by decide +kernel⟩
theorem kk_10_99 : Cond.methodLink RX10 99 yX10_demandArgument ∈ lw_g := lw_in 637 (by decide +kernel) (by decide +kernel)
theorem kmX10_demandArgument : XMS yX10_demandArgument cX10_demandArgument 1 none 1 := ⟨lw_in 638 (by decide +kernel) (by decide +kernel), lw_in 81 (by decide +kernel) (by decide +kernel), lw_in 639 (by decide +kernel) (by decide +kernel), by decide +kernel, by decide +kernel, by decide +kernel⟩
theorem kn_10_243 : Cond.classLink RX10 243 "java/lang/IllegalArgumentException" ∈ lw_g := lw_in 640 (by decide +kernel) (by decide +kernel)
theorem kk_10_245 : Cond.methodLink RX10 245 ⟨"java/lang/IllegalArgumentException", "<init>", "()V"⟩ ∈ lw_g := lw_in 649 (by decide +kernel) (by decide +kernel)
theorem ks_10_40 : Cond.fieldLink RX10 40 "ForkBridge" "LAST_ARGUMENT" "[I" ∈ lw_g := lw_in 655 (by decide +kernel) (by decide +kernel)
theorem kk_10_44 : Cond.methodLink RX10 44 yX10_at ∈ lw_g := lw_in 657 (by decide +kernel) (by decide +kernel)
theorem kk_10_48 : Cond.methodLink RX10 48 yX5_lengthOf ∈ lw_g := lw_in 658 (by decide +kernel) (by decide +kernel)
theorem kmX5_lengthOf : XMV yX5_lengthOf cX5_lengthOf 2 (some FieldType.int) 1 := ⟨lw_in 659 (by decide +kernel) (by decide +kernel), lw_in 660 (by decide +kernel) (by decide +kernel), lw_in 82 (by decide +kernel) (by decide +kernel), lw_in 661 (by decide +kernel) (by decide +kernel), by decide +kernel, by decide +kernel, by decide +kernel⟩
theorem kk_10_52 : Cond.methodLink RX10 52 yX10_demandState ∈ lw_g := lw_in 663 (by decide +kernel) (by decide +kernel)
theorem kmX10_demandState : XMS yX10_demandState cX10_demandState 1 none 1 := ⟨lw_in 664 (by decide +kernel) (by decide +kernel), lw_in 81 (by decide +kernel) (by decide +kernel), lw_in 665 (by decide +kernel) (by decide +kernel), by decide +kernel, by decide +kernel, by decide +kernel⟩
theorem kn_10_246 : Cond.classLink RX10 246 "java/lang/IllegalStateException" ∈ lw_g := lw_in 666 (by decide +kernel) (by decide +kernel)
theorem kk_10_248 : Cond.methodLink RX10 248 ⟨"java/lang/IllegalStateException", "<init>", "()V"⟩ ∈ lw_g := lw_in 675 (by decide +kernel) (by decide +kernel)
theorem kk_10_60 : Cond.methodLink RX10 60 yX5_append ∈ lw_g := lw_in 681 (by decide +kernel) (by decide +kernel)
theorem kmX5_append : XMV yX5_append cX5_append 5 (some FieldType.int) 3 := ⟨lw_in 682 (by decide +kernel) (by decide +kernel), lw_in 683 (by decide +kernel) (by decide +kernel), lw_in 82 (by decide +kernel) (by decide +kernel), lw_in 684 (by decide +kernel) (by decide +kernel), by decide +kernel, by decide +kernel, by decide +kernel⟩
theorem kk_5_25 : Cond.methodLink RX5 25 yX5_lengthOf ∈ lw_g := lw_in 685 (by decide +kernel) (by decide +kernel)
theorem kk_L_119 : Cond.methodLink RL 119 yL_upgrade ∈ lw_g := lw_in 687 (by decide +kernel) (by decide +kernel)
theorem kk_L_19 : Cond.methodLink RL 19 yX10_upgrade ∈ lw_g := lw_in 690 (by decide +kernel) (by decide +kernel)
theorem kmX10_upgrade : XMV yX10_upgrade cX10_upgrade 5 (some FieldType.int) 2 := ⟨lw_in 691 (by decide +kernel) (by decide +kernel), lw_in 692 (by decide +kernel) (by decide +kernel), lw_in 81 (by decide +kernel) (by decide +kernel), lw_in 693 (by decide +kernel) (by decide +kernel), by decide +kernel, by decide +kernel, by decide +kernel⟩
theorem kk_10_64 : Cond.methodLink RX10 64 yX10_demandChain ∈ lw_g := lw_in 694 (by decide +kernel) (by decide +kernel)
theorem kmX10_demandChain : XMV yX10_demandChain cX10_demandChain 2 (some (FieldType.object "ForkBridge$Chain")) 1 := ⟨lw_in 696 (by decide +kernel) (by decide +kernel), lw_in 1 (by decide +kernel) (by decide +kernel), lw_in 81 (by decide +kernel) (by decide +kernel), lw_in 697 (by decide +kernel) (by decide +kernel), by decide +kernel, by decide +kernel, by decide +kernel⟩
theorem kk_L_123 : Cond.methodLink RL 123 yL_submit ∈ lw_g := lw_in 698 (by decide +kernel) (by decide +kernel)
theorem kk_L_23 : Cond.methodLink RL 23 yX10_submit ∈ lw_g := lw_in 701 (by decide +kernel) (by decide +kernel)
theorem kmX10_submit : XMV yX10_submit cX10_submit 12 (some FieldType.int) 9 := ⟨lw_in 702 (by decide +kernel) (by decide +kernel), lw_in 703 (by decide +kernel) (by decide +kernel), lw_in 81 (by decide +kernel) (by decide +kernel), lw_in 704 (by decide +kernel) (by decide +kernel), by decide +kernel, by decide +kernel, by decide +kernel⟩
theorem kk_10_74 : Cond.methodLink RX10 74 yX1_draft ∈ lw_g := lw_in 705 (by decide +kernel) (by decide +kernel)
theorem kmX1_draft : XMV yX1_draft cX1_draft 1 (some (FieldType.object "ForkBridge$Transaction")) 0 := ⟨lw_in 706 (by decide +kernel) (by decide +kernel), lw_in 707 (by decide +kernel) (by decide +kernel), lw_in 87 (by decide +kernel) (by decide +kernel), lw_in 708 (by decide +kernel) (by decide +kernel), by decide +kernel, by decide +kernel, by decide +kernel⟩
theorem kk_1_71 : Cond.methodLink RX1 71 yX1_numbered ∈ lw_g := lw_in 709 (by decide +kernel) (by decide +kernel)
theorem kmX1_numbered : XMV yX1_numbered cX1_numbered 2 (some (FieldType.object "ForkBridge$Transaction")) 1 := ⟨lw_in 710 (by decide +kernel) (by decide +kernel), lw_in 711 (by decide +kernel) (by decide +kernel), lw_in 87 (by decide +kernel) (by decide +kernel), lw_in 712 (by decide +kernel) (by decide +kernel), by decide +kernel, by decide +kernel, by decide +kernel⟩
theorem kk_10_78 : Cond.methodLink RX10 78 yX7_order ∈ lw_g := lw_in 713 (by decide +kernel) (by decide +kernel)
theorem kmX7_order : XMV yX7_order cX7_order 7 none 6 := ⟨lw_in 714 (by decide +kernel) (by decide +kernel), lw_in 715 (by decide +kernel) (by decide +kernel), lw_in 91 (by decide +kernel) (by decide +kernel), lw_in 716 (by decide +kernel) (by decide +kernel), by decide +kernel, by decide +kernel, by decide +kernel⟩
theorem kk_10_84 : Cond.methodLink RX10 84 yX7_bid ∈ lw_g := lw_in 717 (by decide +kernel) (by decide +kernel)
theorem kmX7_bid : XMV yX7_bid cX7_bid 3 none 2 := ⟨lw_in 718 (by decide +kernel) (by decide +kernel), lw_in 719 (by decide +kernel) (by decide +kernel), lw_in 91 (by decide +kernel) (by decide +kernel), lw_in 720 (by decide +kernel) (by decide +kernel), by decide +kernel, by decide +kernel, by decide +kernel⟩
theorem kk_10_87 : Cond.methodLink RX10 87 yX1_admit ∈ lw_g := lw_in 721 (by decide +kernel) (by decide +kernel)
theorem kmX1_admit : XMV yX1_admit cX1_admit 8 (some FieldType.int) 1 := ⟨lw_in 722 (by decide +kernel) (by decide +kernel), lw_in 723 (by decide +kernel) (by decide +kernel), lw_in 87 (by decide +kernel) (by decide +kernel), lw_in 724 (by decide +kernel) (by decide +kernel), by decide +kernel, by decide +kernel, by decide +kernel⟩
theorem kk_1_62 : Cond.methodLink RX1 62 yX1_headBlock ∈ lw_g := lw_in 725 (by decide +kernel) (by decide +kernel)
theorem kmX1_headBlock : XMV yX1_headBlock cX1_headBlock 7 (some (FieldType.object "ForkBridge$Block")) 0 := ⟨lw_in 726 (by decide +kernel) (by decide +kernel), lw_in 727 (by decide +kernel) (by decide +kernel), lw_in 87 (by decide +kernel) (by decide +kernel), lw_in 728 (by decide +kernel) (by decide +kernel), by decide +kernel, by decide +kernel, by decide +kernel⟩
theorem kk_1_51 : Cond.methodLink RX1 51 yX1_lastFinalBlock ∈ lw_g := lw_in 729 (by decide +kernel) (by decide +kernel)
theorem kmX1_lastFinalBlock : XMV yX1_lastFinalBlock cX1_lastFinalBlock 1 (some (FieldType.object "ForkBridge$Block")) 0 := ⟨lw_in 730 (by decide +kernel) (by decide +kernel), lw_in 731 (by decide +kernel) (by decide +kernel), lw_in 87 (by decide +kernel) (by decide +kernel), lw_in 732 (by decide +kernel) (by decide +kernel), by decide +kernel, by decide +kernel, by decide +kernel⟩
theorem kk_1_47 : Cond.methodLink RX1 47 yX1_numberedBlock ∈ lw_g := lw_in 733 (by decide +kernel) (by decide +kernel)
theorem kmX1_numberedBlock : XMV yX1_numberedBlock cX1_numberedBlock 2 (some (FieldType.object "ForkBridge$Block")) 1 := ⟨lw_in 734 (by decide +kernel) (by decide +kernel), lw_in 735 (by decide +kernel) (by decide +kernel), lw_in 87 (by decide +kernel) (by decide +kernel), lw_in 736 (by decide +kernel) (by decide +kernel), by decide +kernel, by decide +kernel, by decide +kernel⟩
theorem kk_1_55 : Cond.methodLink RX1 55 yX0_comesFrom ∈ lw_g := lw_in 737 (by decide +kernel) (by decide +kernel)
theorem kmX0_comesFrom : XMV yX0_comesFrom cX0_comesFrom 2 (some FieldType.boolean) 1 := ⟨lw_in 738 (by decide +kernel) (by decide +kernel), lw_in 739 (by decide +kernel) (by decide +kernel), lw_in 84 (by decide +kernel) (by decide +kernel), lw_in 740 (by decide +kernel) (by decide +kernel), by decide +kernel, by decide +kernel, by decide +kernel⟩
theorem kk_1_65 : Cond.methodLink RX1 65 yX7_waitsBehind ∈ lw_g := lw_in 741 (by decide +kernel) (by decide +kernel)
theorem kmX7_waitsBehind : XMV yX7_waitsBehind cX7_waitsBehind 2 (some FieldType.boolean) 1 := ⟨lw_in 742 (by decide +kernel) (by decide +kernel), lw_in 743 (by decide +kernel) (by decide +kernel), lw_in 91 (by decide +kernel) (by decide +kernel), lw_in 744 (by decide +kernel) (by decide +kernel), by decide +kernel, by decide +kernel, by decide +kernel⟩
theorem kk_7_52 : Cond.methodLink RX7 52 yX0_holds ∈ lw_g := lw_in 745 (by decide +kernel) (by decide +kernel)
theorem kmX0_holds : XMV yX0_holds cX0_holds 2 (some FieldType.boolean) 1 := ⟨lw_in 746 (by decide +kernel) (by decide +kernel), lw_in 747 (by decide +kernel) (by decide +kernel), lw_in 84 (by decide +kernel) (by decide +kernel), lw_in 748 (by decide +kernel) (by decide +kernel), by decide +kernel, by decide +kernel, by decide +kernel⟩
theorem kk_1_75 : Cond.methodLink RX1 75 yX7_rivals ∈ lw_g := lw_in 749 (by decide +kernel) (by decide +kernel)
theorem kmX7_rivals : XMV yX7_rivals cX7_rivals 2 (some FieldType.boolean) 1 := ⟨lw_in 750 (by decide +kernel) (by decide +kernel), lw_in 751 (by decide +kernel) (by decide +kernel), lw_in 91 (by decide +kernel) (by decide +kernel), lw_in 752 (by decide +kernel) (by decide +kernel), by decide +kernel, by decide +kernel, by decide +kernel⟩
theorem kk_1_79 : Cond.methodLink RX1 79 yX7_outbids ∈ lw_g := lw_in 753 (by decide +kernel) (by decide +kernel)
theorem kmX7_outbids : XMV yX7_outbids cX7_outbids 2 (some FieldType.boolean) 1 := ⟨lw_in 754 (by decide +kernel) (by decide +kernel), lw_in 755 (by decide +kernel) (by decide +kernel), lw_in 91 (by decide +kernel) (by decide +kernel), lw_in 756 (by decide +kernel) (by decide +kernel), by decide +kernel, by decide +kernel, by decide +kernel⟩
theorem kk_1_82 : Cond.methodLink RX1 82 yX1_dropRivals ∈ lw_g := lw_in 757 (by decide +kernel) (by decide +kernel)
theorem kmX1_dropRivals : XMV yX1_dropRivals cX1_dropRivals 7 none 2 := ⟨lw_in 759 (by decide +kernel) (by decide +kernel), lw_in 2 (by decide +kernel) (by decide +kernel), lw_in 87 (by decide +kernel) (by decide +kernel), lw_in 760 (by decide +kernel) (by decide +kernel), by decide +kernel, by decide +kernel, by decide +kernel⟩
theorem kk_1_86 : Cond.methodLink RX1 86 yX1_countWaiting ∈ lw_g := lw_in 761 (by decide +kernel) (by decide +kernel)
theorem kmX1_countWaiting : XMV yX1_countWaiting cX1_countWaiting 7 (some FieldType.int) 0 := ⟨lw_in 762 (by decide +kernel) (by decide +kernel), lw_in 763 (by decide +kernel) (by decide +kernel), lw_in 87 (by decide +kernel) (by decide +kernel), lw_in 764 (by decide +kernel) (by decide +kernel), by decide +kernel, by decide +kernel, by decide +kernel⟩
theorem kk_1_90 : Cond.methodLink RX1 90 yX1_throwOutFor ∈ lw_g := lw_in 765 (by decide +kernel) (by decide +kernel)
theorem kmX1_throwOutFor : XMV yX1_throwOutFor cX1_throwOutFor 8 (some FieldType.boolean) 2 := ⟨lw_in 767 (by decide +kernel) (by decide +kernel), lw_in 3 (by decide +kernel) (by decide +kernel), lw_in 87 (by decide +kernel) (by decide +kernel), lw_in 768 (by decide +kernel) (by decide +kernel), by decide +kernel, by decide +kernel, by decide +kernel⟩
theorem kk_L_127 : Cond.methodLink RL 127 yL_claim ∈ lw_g := lw_in 769 (by decide +kernel) (by decide +kernel)
theorem kk_L_27 : Cond.methodLink RL 27 yX10_claim ∈ lw_g := lw_in 772 (by decide +kernel) (by decide +kernel)
theorem kmX10_claim : XMV yX10_claim cX10_claim 11 (some FieldType.int) 6 := ⟨lw_in 773 (by decide +kernel) (by decide +kernel), lw_in 774 (by decide +kernel) (by decide +kernel), lw_in 81 (by decide +kernel) (by decide +kernel), lw_in 775 (by decide +kernel) (by decide +kernel), by decide +kernel, by decide +kernel, by decide +kernel⟩
theorem kk_10_91 : Cond.methodLink RX10 91 yX1_numbered ∈ lw_g := lw_in 776 (by decide +kernel) (by decide +kernel)
theorem kk_10_95 : Cond.methodLink RX10 95 yX7_isLock ∈ lw_g := lw_in 777 (by decide +kernel) (by decide +kernel)
theorem kmX7_isLock : XMV yX7_isLock cX7_isLock 1 (some FieldType.boolean) 0 := ⟨lw_in 778 (by decide +kernel) (by decide +kernel), lw_in 779 (by decide +kernel) (by decide +kernel), lw_in 91 (by decide +kernel) (by decide +kernel), lw_in 780 (by decide +kernel) (by decide +kernel), by decide +kernel, by decide +kernel, by decide +kernel⟩
theorem kk_10_102 : Cond.methodLink RX10 102 yX1_lastFinalBlock ∈ lw_g := lw_in 781 (by decide +kernel) (by decide +kernel)
theorem kk_10_106 : Cond.methodLink RX10 106 yX0_holds ∈ lw_g := lw_in 782 (by decide +kernel) (by decide +kernel)
theorem kk_10_112 : Cond.methodLink RX10 112 yX7_nameLock ∈ lw_g := lw_in 783 (by decide +kernel) (by decide +kernel)
theorem kmX7_nameLock : XMV yX7_nameLock cX7_nameLock 2 none 1 := ⟨lw_in 784 (by decide +kernel) (by decide +kernel), lw_in 785 (by decide +kernel) (by decide +kernel), lw_in 91 (by decide +kernel) (by decide +kernel), lw_in 786 (by decide +kernel) (by decide +kernel), by decide +kernel, by decide +kernel, by decide +kernel⟩
theorem kk_L_131 : Cond.methodLink RL 131 yL_pool ∈ lw_g := lw_in 787 (by decide +kernel) (by decide +kernel)
theorem kk_L_31 : Cond.methodLink RL 31 yX10_pool ∈ lw_g := lw_in 790 (by decide +kernel) (by decide +kernel)
theorem kmX10_pool : XMV yX10_pool cX10_pool 2 (some FieldType.int) 1 := ⟨lw_in 791 (by decide +kernel) (by decide +kernel), lw_in 792 (by decide +kernel) (by decide +kernel), lw_in 81 (by decide +kernel) (by decide +kernel), lw_in 793 (by decide +kernel) (by decide +kernel), by decide +kernel, by decide +kernel, by decide +kernel⟩
theorem kk_10_116 : Cond.methodLink RX10 116 yX1_countWaiting ∈ lw_g := lw_in 794 (by decide +kernel) (by decide +kernel)
theorem kk_L_135 : Cond.methodLink RL 135 yL_make ∈ lw_g := lw_in 795 (by decide +kernel) (by decide +kernel)
theorem kk_L_35 : Cond.methodLink RL 35 yX10_make ∈ lw_g := lw_in 798 (by decide +kernel) (by decide +kernel)
theorem kmX10_make : XMV yX10_make cX10_make 7 (some FieldType.int) 4 := ⟨lw_in 799 (by decide +kernel) (by decide +kernel), lw_in 800 (by decide +kernel) (by decide +kernel), lw_in 81 (by decide +kernel) (by decide +kernel), lw_in 801 (by decide +kernel) (by decide +kernel), by decide +kernel, by decide +kernel, by decide +kernel⟩
theorem kk_10_120 : Cond.methodLink RX10 120 yX10_demandBlock ∈ lw_g := lw_in 802 (by decide +kernel) (by decide +kernel)
theorem kmX10_demandBlock : XMV yX10_demandBlock cX10_demandBlock 4 (some (FieldType.object "ForkBridge$Block")) 2 := ⟨lw_in 804 (by decide +kernel) (by decide +kernel), lw_in 4 (by decide +kernel) (by decide +kernel), lw_in 81 (by decide +kernel) (by decide +kernel), lw_in 805 (by decide +kernel) (by decide +kernel), by decide +kernel, by decide +kernel, by decide +kernel⟩
theorem kk_10_249 : Cond.methodLink RX10 249 yX1_numberedBlock ∈ lw_g := lw_in 806 (by decide +kernel) (by decide +kernel)
theorem kk_10_128 : Cond.methodLink RX10 128 yX1_grow ∈ lw_g := lw_in 807 (by decide +kernel) (by decide +kernel)
theorem kmX1_grow : XMV yX1_grow cX1_grow 8 (some FieldType.int) 4 := ⟨lw_in 808 (by decide +kernel) (by decide +kernel), lw_in 809 (by decide +kernel) (by decide +kernel), lw_in 87 (by decide +kernel) (by decide +kernel), lw_in 810 (by decide +kernel) (by decide +kernel), by decide +kernel, by decide +kernel, by decide +kernel⟩
theorem kk_1_104 : Cond.methodLink RX1 104 yX0_follow ∈ lw_g := lw_in 811 (by decide +kernel) (by decide +kernel)
theorem kmX0_follow : XMV yX0_follow cX0_follow 4 none 3 := ⟨lw_in 812 (by decide +kernel) (by decide +kernel), lw_in 813 (by decide +kernel) (by decide +kernel), lw_in 84 (by decide +kernel) (by decide +kernel), lw_in 814 (by decide +kernel) (by decide +kernel), by decide +kernel, by decide +kernel, by decide +kernel⟩
theorem kk_0_57 : Cond.methodLink RX0 57 yJ9_max_7cf53 ∈ lw_g := lw_in 815 (by decide +kernel) (by decide +kernel)
theorem kmJ9_max_7cf53 : XMS yJ9_max_7cf53 cJ9_max_7cf53 2 (some FieldType.int) 2 := ⟨lw_in 816 (by decide +kernel) (by decide +kernel), lw_in 99 (by decide +kernel) (by decide +kernel), lw_in 817 (by decide +kernel) (by decide +kernel), by decide +kernel, by decide +kernel, by decide +kernel⟩
theorem kk_0_67 : Cond.methodLink RX0 67 yX6_copyFrom ∈ lw_g := lw_in 818 (by decide +kernel) (by decide +kernel)
theorem kmX6_copyFrom : XMV yX6_copyFrom cX6_copyFrom 2 none 1 := ⟨lw_in 819 (by decide +kernel) (by decide +kernel), lw_in 820 (by decide +kernel) (by decide +kernel), lw_in 85 (by decide +kernel) (by decide +kernel), lw_in 821 (by decide +kernel) (by decide +kernel), by decide +kernel, by decide +kernel, by decide +kernel⟩
theorem kk_6_40 : Cond.methodLink RX6 40 ⟨"java/lang/System", "arraycopy", "(Ljava/lang/Object;ILjava/lang/Object;II)V"⟩ ∈ lw_g := lw_in 822 (by decide +kernel) (by decide +kernel)
theorem kk_1_108 : Cond.methodLink RX1 108 yX1_isUpgraded ∈ lw_g := lw_in 825 (by decide +kernel) (by decide +kernel)
theorem kmX1_isUpgraded : XMV yX1_isUpgraded cX1_isUpgraded 2 (some FieldType.boolean) 1 := ⟨lw_in 827 (by decide +kernel) (by decide +kernel), lw_in 5 (by decide +kernel) (by decide +kernel), lw_in 87 (by decide +kernel) (by decide +kernel), lw_in 828 (by decide +kernel) (by decide +kernel), by decide +kernel, by decide +kernel, by decide +kernel⟩
theorem kk_1_111 : Cond.methodLink RX1 111 yX4_open ∈ lw_g := lw_in 829 (by decide +kernel) (by decide +kernel)
theorem kmX4_open : XMV yX4_open cX4_open 3 none 2 := ⟨lw_in 830 (by decide +kernel) (by decide +kernel), lw_in 831 (by decide +kernel) (by decide +kernel), lw_in 83 (by decide +kernel) (by decide +kernel), lw_in 832 (by decide +kernel) (by decide +kernel), by decide +kernel, by decide +kernel, by decide +kernel⟩
theorem kk_1_117 : Cond.methodLink RX1 117 yX1_bestFor ∈ lw_g := lw_in 833 (by decide +kernel) (by decide +kernel)
theorem kmX1_bestFor : XMV yX1_bestFor cX1_bestFor 7 (some (FieldType.object "ForkBridge$Transaction")) 1 := ⟨lw_in 835 (by decide +kernel) (by decide +kernel), lw_in 6 (by decide +kernel) (by decide +kernel), lw_in 87 (by decide +kernel) (by decide +kernel), lw_in 836 (by decide +kernel) (by decide +kernel), by decide +kernel, by decide +kernel, by decide +kernel⟩
theorem kk_1_139 : Cond.methodLink RX1 139 yX7_fits ∈ lw_g := lw_in 837 (by decide +kernel) (by decide +kernel)
theorem kmX7_fits : XMV yX7_fits cX7_fits 2 (some FieldType.boolean) 1 := ⟨lw_in 838 (by decide +kernel) (by decide +kernel), lw_in 839 (by decide +kernel) (by decide +kernel), lw_in 91 (by decide +kernel) (by decide +kernel), lw_in 840 (by decide +kernel) (by decide +kernel), by decide +kernel, by decide +kernel, by decide +kernel⟩
theorem kk_1_145 : Cond.methodLink RX1 145 yX7_priceAt ∈ lw_g := lw_in 842 (by decide +kernel) (by decide +kernel)
theorem kmX7_priceAt : XMV yX7_priceAt cX7_priceAt 2 (some FieldType.int) 1 := ⟨lw_in 843 (by decide +kernel) (by decide +kernel), lw_in 844 (by decide +kernel) (by decide +kernel), lw_in 91 (by decide +kernel) (by decide +kernel), lw_in 845 (by decide +kernel) (by decide +kernel), by decide +kernel, by decide +kernel, by decide +kernel⟩
theorem kk_7_58 : Cond.methodLink RX7 58 yJ9_min_7cf53 ∈ lw_g := lw_in 846 (by decide +kernel) (by decide +kernel)
theorem kmJ9_min_7cf53 : XMS yJ9_min_7cf53 cJ9_min_7cf53 2 (some FieldType.int) 2 := ⟨lw_in 847 (by decide +kernel) (by decide +kernel), lw_in 99 (by decide +kernel) (by decide +kernel), lw_in 848 (by decide +kernel) (by decide +kernel), by decide +kernel, by decide +kernel, by decide +kernel⟩
theorem kk_1_121 : Cond.methodLink RX1 121 yX4_transact ∈ lw_g := lw_in 849 (by decide +kernel) (by decide +kernel)
theorem kmX4_transact : XMV yX4_transact cX4_transact 4 none 1 := ⟨lw_in 850 (by decide +kernel) (by decide +kernel), lw_in 851 (by decide +kernel) (by decide +kernel), lw_in 83 (by decide +kernel) (by decide +kernel), lw_in 852 (by decide +kernel) (by decide +kernel), by decide +kernel, by decide +kernel, by decide +kernel⟩
theorem kk_4_46 : Cond.methodLink RX4 46 yX7_priceAt ∈ lw_g := lw_in 853 (by decide +kernel) (by decide +kernel)
theorem kk_4_55 : Cond.methodLink RX4 55 yX6_raiseNonce ∈ lw_g := lw_in 854 (by decide +kernel) (by decide +kernel)
theorem kmX6_raiseNonce : XMV yX6_raiseNonce cX6_raiseNonce 2 none 1 := ⟨lw_in 855 (by decide +kernel) (by decide +kernel), lw_in 856 (by decide +kernel) (by decide +kernel), lw_in 85 (by decide +kernel) (by decide +kernel), lw_in 857 (by decide +kernel) (by decide +kernel), by decide +kernel, by decide +kernel, by decide +kernel⟩
theorem kk_4_63 : Cond.methodLink RX4 63 yX6_gain ∈ lw_g := lw_in 858 (by decide +kernel) (by decide +kernel)
theorem kmX6_gain : XMV yX6_gain cX6_gain 3 none 2 := ⟨lw_in 859 (by decide +kernel) (by decide +kernel), lw_in 860 (by decide +kernel) (by decide +kernel), lw_in 85 (by decide +kernel) (by decide +kernel), lw_in 861 (by decide +kernel) (by decide +kernel), by decide +kernel, by decide +kernel, by decide +kernel⟩
theorem kk_4_74 : Cond.methodLink RX4 74 yX4_payOut ∈ lw_g := lw_in 862 (by decide +kernel) (by decide +kernel)
theorem kmX4_payOut : XMV yX4_payOut cX4_payOut 2 (some FieldType.boolean) 1 := ⟨lw_in 864 (by decide +kernel) (by decide +kernel), lw_in 7 (by decide +kernel) (by decide +kernel), lw_in 83 (by decide +kernel) (by decide +kernel), lw_in 865 (by decide +kernel) (by decide +kernel), by decide +kernel, by decide +kernel, by decide +kernel⟩
theorem kk_4_121 : Cond.methodLink RX4 121 yX6_isPaid ∈ lw_g := lw_in 866 (by decide +kernel) (by decide +kernel)
theorem kmX6_isPaid : XMV yX6_isPaid cX6_isPaid 2 (some FieldType.boolean) 1 := ⟨lw_in 867 (by decide +kernel) (by decide +kernel), lw_in 868 (by decide +kernel) (by decide +kernel), lw_in 85 (by decide +kernel) (by decide +kernel), lw_in 869 (by decide +kernel) (by decide +kernel), by decide +kernel, by decide +kernel, by decide +kernel⟩
theorem kk_4_139 : Cond.methodLink RX4 139 yX6_move ∈ lw_g := lw_in 871 (by decide +kernel) (by decide +kernel)
theorem kmX6_move : XMV yX6_move cX6_move 4 none 3 := ⟨lw_in 872 (by decide +kernel) (by decide +kernel), lw_in 873 (by decide +kernel) (by decide +kernel), lw_in 85 (by decide +kernel) (by decide +kernel), lw_in 874 (by decide +kernel) (by decide +kernel), by decide +kernel, by decide +kernel, by decide +kernel⟩
theorem kk_4_91 : Cond.methodLink RX4 91 yX4_found ∈ lw_g := lw_in 875 (by decide +kernel) (by decide +kernel)
theorem kmX4_found : XMV yX4_found cX4_found 6 (some FieldType.int) 4 := ⟨lw_in 877 (by decide +kernel) (by decide +kernel), lw_in 8 (by decide +kernel) (by decide +kernel), lw_in 83 (by decide +kernel) (by decide +kernel), lw_in 878 (by decide +kernel) (by decide +kernel), by decide +kernel, by decide +kernel, by decide +kernel⟩
theorem kk_4_98 : Cond.methodLink RX4 98 yX4_deliver ∈ lw_g := lw_in 880 (by decide +kernel) (by decide +kernel)
theorem kmX4_deliver : XMV yX4_deliver cX4_deliver 10 (some FieldType.boolean) 6 := ⟨lw_in 882 (by decide +kernel) (by decide +kernel), lw_in 9 (by decide +kernel) (by decide +kernel), lw_in 83 (by decide +kernel) (by decide +kernel), lw_in 883 (by decide +kernel) (by decide +kernel), by decide +kernel, by decide +kernel, by decide +kernel⟩
theorem kk_4_157 : Cond.methodLink RX4 157 yX3_open ∈ lw_g := lw_in 884 (by decide +kernel) (by decide +kernel)
theorem kmX3_open : XMV yX3_open cX3_open 7 none 5 := ⟨lw_in 885 (by decide +kernel) (by decide +kernel), lw_in 886 (by decide +kernel) (by decide +kernel), lw_in 86 (by decide +kernel) (by decide +kernel), lw_in 887 (by decide +kernel) (by decide +kernel), by decide +kernel, by decide +kernel, by decide +kernel⟩
theorem kk_4_164 : Cond.methodLink RX4 164 yX3_save ∈ lw_g := lw_in 889 (by decide +kernel) (by decide +kernel)
theorem kmX3_save : XMV yX3_save cX3_save 4 none 3 := ⟨lw_in 890 (by decide +kernel) (by decide +kernel), lw_in 891 (by decide +kernel) (by decide +kernel), lw_in 86 (by decide +kernel) (by decide +kernel), lw_in 892 (by decide +kernel) (by decide +kernel), by decide +kernel, by decide +kernel, by decide +kernel⟩
theorem kk_3_54 : Cond.methodLink RX3 54 yX6_copyFrom ∈ lw_g := lw_in 893 (by decide +kernel) (by decide +kernel)
theorem kk_4_168 : Cond.methodLink RX4 168 yX4_runProgram ∈ lw_g := lw_in 894 (by decide +kernel) (by decide +kernel)
theorem kmX4_runProgram : XMV yX4_runProgram cX4_runProgram 7 (some FieldType.boolean) 2 := ⟨lw_in 896 (by decide +kernel) (by decide +kernel), lw_in 10 (by decide +kernel) (by decide +kernel), lw_in 83 (by decide +kernel) (by decide +kernel), lw_in 897 (by decide +kernel) (by decide +kernel), by decide +kernel, by decide +kernel, by decide +kernel⟩
theorem kc_4_189 : Cond.constant RX4 189 (1000000 : Int32) ∈ lw_g := lw_in 898 (by decide +kernel) (by decide +kernel)
theorem kk_4_196 : Cond.methodLink RX4 196 yX5_lengthOf ∈ lw_g := lw_in 899 (by decide +kernel) (by decide +kernel)
theorem kk_4_201 : Cond.methodLink RX4 201 yX5_operationAt ∈ lw_g := lw_in 900 (by decide +kernel) (by decide +kernel)
theorem kmX5_operationAt : XMV yX5_operationAt cX5_operationAt 3 (some FieldType.int) 2 := ⟨lw_in 901 (by decide +kernel) (by decide +kernel), lw_in 902 (by decide +kernel) (by decide +kernel), lw_in 82 (by decide +kernel) (by decide +kernel), lw_in 903 (by decide +kernel) (by decide +kernel), by decide +kernel, by decide +kernel, by decide +kernel⟩
theorem kk_4_204 : Cond.methodLink RX4 204 yX5_argumentAt ∈ lw_g := lw_in 904 (by decide +kernel) (by decide +kernel)
theorem kmX5_argumentAt : XMV yX5_argumentAt cX5_argumentAt 3 (some FieldType.int) 2 := ⟨lw_in 905 (by decide +kernel) (by decide +kernel), lw_in 906 (by decide +kernel) (by decide +kernel), lw_in 82 (by decide +kernel) (by decide +kernel), lw_in 907 (by decide +kernel) (by decide +kernel), by decide +kernel, by decide +kernel, by decide +kernel⟩
theorem kk_4_210 : Cond.methodLink RX4 210 yX4_extraGas ∈ lw_g := lw_in 910 (by decide +kernel) (by decide +kernel)
theorem kmX4_extraGas : XMV yX4_extraGas cX4_extraGas 5 (some FieldType.int) 3 := ⟨lw_in 912 (by decide +kernel) (by decide +kernel), lw_in 11 (by decide +kernel) (by decide +kernel), lw_in 83 (by decide +kernel) (by decide +kernel), lw_in 913 (by decide +kernel) (by decide +kernel), by decide +kernel, by decide +kernel, by decide +kernel⟩
theorem kk_4_236 : Cond.methodLink RX4 236 yX3_growthTo ∈ lw_g := lw_in 914 (by decide +kernel) (by decide +kernel)
theorem kmX3_growthTo : XMV yX3_growthTo cX3_growthTo 2 (some FieldType.int) 1 := ⟨lw_in 915 (by decide +kernel) (by decide +kernel), lw_in 916 (by decide +kernel) (by decide +kernel), lw_in 86 (by decide +kernel) (by decide +kernel), lw_in 917 (by decide +kernel) (by decide +kernel), by decide +kernel, by decide +kernel, by decide +kernel⟩
theorem kk_3_74 : Cond.methodLink RX3 74 yX3_memoryGas ∈ lw_g := lw_in 918 (by decide +kernel) (by decide +kernel)
theorem kmX3_memoryGas : XMS yX3_memoryGas cX3_memoryGas 1 (some FieldType.int) 1 := ⟨lw_in 919 (by decide +kernel) (by decide +kernel), lw_in 86 (by decide +kernel) (by decide +kernel), lw_in 920 (by decide +kernel) (by decide +kernel), by decide +kernel, by decide +kernel, by decide +kernel⟩
theorem kk_4_245 : Cond.methodLink RX4 245 yX3_top ∈ lw_g := lw_in 921 (by decide +kernel) (by decide +kernel)
theorem kmX3_top : XMV yX3_top cX3_top 1 (some FieldType.int) 0 := ⟨lw_in 922 (by decide +kernel) (by decide +kernel), lw_in 923 (by decide +kernel) (by decide +kernel), lw_in 86 (by decide +kernel) (by decide +kernel), lw_in 924 (by decide +kernel) (by decide +kernel), by decide +kernel, by decide +kernel, by decide +kernel⟩
theorem kk_4_214 : Cond.methodLink RX4 214 yX3_heapAllows ∈ lw_g := lw_in 926 (by decide +kernel) (by decide +kernel)
theorem kmX3_heapAllows : XMV yX3_heapAllows cX3_heapAllows 3 (some FieldType.boolean) 1 := ⟨lw_in 927 (by decide +kernel) (by decide +kernel), lw_in 928 (by decide +kernel) (by decide +kernel), lw_in 86 (by decide +kernel) (by decide +kernel), lw_in 929 (by decide +kernel) (by decide +kernel), by decide +kernel, by decide +kernel, by decide +kernel⟩
theorem kk_4_217 : Cond.methodLink RX4 217 yX4_finish ∈ lw_g := lw_in 934 (by decide +kernel) (by decide +kernel)
theorem kmX4_finish : XMV yX4_finish cX4_finish 5 (some FieldType.boolean) 2 := ⟨lw_in 936 (by decide +kernel) (by decide +kernel), lw_in 12 (by decide +kernel) (by decide +kernel), lw_in 83 (by decide +kernel) (by decide +kernel), lw_in 937 (by decide +kernel) (by decide +kernel), by decide +kernel, by decide +kernel, by decide +kernel⟩
theorem kk_4_249 : Cond.methodLink RX4 249 yX3_take ∈ lw_g := lw_in 938 (by decide +kernel) (by decide +kernel)
theorem kmX3_take : XMV yX3_take cX3_take 1 (some FieldType.int) 0 := ⟨lw_in 939 (by decide +kernel) (by decide +kernel), lw_in 940 (by decide +kernel) (by decide +kernel), lw_in 86 (by decide +kernel) (by decide +kernel), lw_in 941 (by decide +kernel) (by decide +kernel), by decide +kernel, by decide +kernel, by decide +kernel⟩
theorem kk_4_252 : Cond.methodLink RX4 252 yX6_dropProgram ∈ lw_g := lw_in 942 (by decide +kernel) (by decide +kernel)
theorem kk_4_221 : Cond.methodLink RX4 221 yX4_callFrom ∈ lw_g := lw_in 943 (by decide +kernel) (by decide +kernel)
theorem kmX4_callFrom : XMV yX4_callFrom cX4_callFrom 8 none 2 := ⟨lw_in 945 (by decide +kernel) (by decide +kernel), lw_in 13 (by decide +kernel) (by decide +kernel), lw_in 83 (by decide +kernel) (by decide +kernel), lw_in 946 (by decide +kernel) (by decide +kernel), by decide +kernel, by decide +kernel, by decide +kernel⟩
theorem kk_4_255 : Cond.methodLink RX4 255 yX3_push ∈ lw_g := lw_in 947 (by decide +kernel) (by decide +kernel)
theorem kmX3_push : XMV yX3_push cX3_push 2 none 1 := ⟨lw_in 948 (by decide +kernel) (by decide +kernel), lw_in 949 (by decide +kernel) (by decide +kernel), lw_in 86 (by decide +kernel) (by decide +kernel), lw_in 950 (by decide +kernel) (by decide +kernel), by decide +kernel, by decide +kernel, by decide +kernel⟩
theorem kk_4_225 : Cond.methodLink RX4 225 yX4_makeFrom ∈ lw_g := lw_in 951 (by decide +kernel) (by decide +kernel)
theorem kmX4_makeFrom : XMV yX4_makeFrom cX4_makeFrom 6 none 2 := ⟨lw_in 953 (by decide +kernel) (by decide +kernel), lw_in 14 (by decide +kernel) (by decide +kernel), lw_in 83 (by decide +kernel) (by decide +kernel), lw_in 954 (by decide +kernel) (by decide +kernel), by decide +kernel, by decide +kernel, by decide +kernel⟩
theorem kk_4_229 : Cond.methodLink RX4 229 yX4_touchState ∈ lw_g := lw_in 955 (by decide +kernel) (by decide +kernel)
theorem kmX4_touchState : XMV yX4_touchState cX4_touchState 4 (some FieldType.boolean) 3 := ⟨lw_in 957 (by decide +kernel) (by decide +kernel), lw_in 15 (by decide +kernel) (by decide +kernel), lw_in 83 (by decide +kernel) (by decide +kernel), lw_in 958 (by decide +kernel) (by decide +kernel), by decide +kernel, by decide +kernel, by decide +kernel⟩
theorem kk_4_258 : Cond.methodLink RX4 258 yX4_write ∈ lw_g := lw_in 959 (by decide +kernel) (by decide +kernel)
theorem kmX4_write : XMV yX4_write cX4_write 3 none 2 := ⟨lw_in 961 (by decide +kernel) (by decide +kernel), lw_in 16 (by decide +kernel) (by decide +kernel), lw_in 83 (by decide +kernel) (by decide +kernel), lw_in 962 (by decide +kernel) (by decide +kernel), by decide +kernel, by decide +kernel, by decide +kernel⟩
theorem kk_4_261 : Cond.methodLink RX4 261 yX0_addEvent ∈ lw_g := lw_in 963 (by decide +kernel) (by decide +kernel)
theorem kmX0_addEvent : XMV yX0_addEvent cX0_addEvent 3 none 2 := ⟨lw_in 964 (by decide +kernel) (by decide +kernel), lw_in 965 (by decide +kernel) (by decide +kernel), lw_in 84 (by decide +kernel) (by decide +kernel), lw_in 966 (by decide +kernel) (by decide +kernel), by decide +kernel, by decide +kernel, by decide +kernel⟩
theorem kk_4_233 : Cond.methodLink RX4 233 yX3_perform ∈ lw_g := lw_in 967 (by decide +kernel) (by decide +kernel)
theorem kmX3_perform : XMV yX3_perform cX3_perform 3 none 2 := ⟨lw_in 968 (by decide +kernel) (by decide +kernel), lw_in 969 (by decide +kernel) (by decide +kernel), lw_in 86 (by decide +kernel) (by decide +kernel), lw_in 970 (by decide +kernel) (by decide +kernel), by decide +kernel, by decide +kernel, by decide +kernel⟩
theorem kk_3_84 : Cond.methodLink RX3 84 yX3_push ∈ lw_g := lw_in 971 (by decide +kernel) (by decide +kernel)
theorem kk_3_88 : Cond.methodLink RX3 88 yX3_top ∈ lw_g := lw_in 972 (by decide +kernel) (by decide +kernel)
theorem kk_3_92 : Cond.methodLink RX3 92 yX3_take ∈ lw_g := lw_in 973 (by decide +kernel) (by decide +kernel)
theorem kk_3_95 : Cond.methodLink RX3 95 yX3_reach ∈ lw_g := lw_in 974 (by decide +kernel) (by decide +kernel)
theorem kmX3_reach : XMV yX3_reach cX3_reach 2 none 1 := ⟨lw_in 976 (by decide +kernel) (by decide +kernel), lw_in 17 (by decide +kernel) (by decide +kernel), lw_in 86 (by decide +kernel) (by decide +kernel), lw_in 977 (by decide +kernel) (by decide +kernel), by decide +kernel, by decide +kernel, by decide +kernel⟩
theorem kk_3_78 : Cond.methodLink RX3 78 yJ9_max_7cf53 ∈ lw_g := lw_in 978 (by decide +kernel) (by decide +kernel)
theorem kk_3_98 : Cond.methodLink RX3 98 yX3_calculate ∈ lw_g := lw_in 979 (by decide +kernel) (by decide +kernel)
theorem kmX3_calculate : XMV yX3_calculate cX3_calculate 4 none 1 := ⟨lw_in 981 (by decide +kernel) (by decide +kernel), lw_in 18 (by decide +kernel) (by decide +kernel), lw_in 86 (by decide +kernel) (by decide +kernel), lw_in 982 (by decide +kernel) (by decide +kernel), by decide +kernel, by decide +kernel, by decide +kernel⟩
theorem kc_3_101 : Cond.constant RX3 101 (1000000 : Int32) ∈ lw_g := lw_in 983 (by decide +kernel) (by decide +kernel)
theorem kk_3_102 : Cond.methodLink RX3 102 yJ9_floorMod_7cf53 ∈ lw_g := lw_in 984 (by decide +kernel) (by decide +kernel)
theorem kmJ9_floorMod_7cf53 : XMS yJ9_floorMod_7cf53 cJ9_floorMod_7cf53 3 (some FieldType.int) 2 := ⟨lw_in 985 (by decide +kernel) (by decide +kernel), lw_in 99 (by decide +kernel) (by decide +kernel), lw_in 986 (by decide +kernel) (by decide +kernel), by decide +kernel, by decide +kernel, by decide +kernel⟩
theorem kc_3_105 : Cond.constantLong RX3 105 (1000000 : Int64) ∈ lw_g := lw_in 987 (by decide +kernel) (by decide +kernel)
theorem kk_4_172 : Cond.methodLink RX4 172 yX4_undo ∈ lw_g := lw_in 988 (by decide +kernel) (by decide +kernel)
theorem kmX4_undo : XMV yX4_undo cX4_undo 2 none 1 := ⟨lw_in 990 (by decide +kernel) (by decide +kernel), lw_in 19 (by decide +kernel) (by decide +kernel), lw_in 83 (by decide +kernel) (by decide +kernel), lw_in 991 (by decide +kernel) (by decide +kernel), by decide +kernel, by decide +kernel, by decide +kernel⟩
theorem kk_4_179 : Cond.methodLink RX4 179 yX6_copyFrom ∈ lw_g := lw_in 992 (by decide +kernel) (by decide +kernel)
theorem kk_4_102 : Cond.methodLink RX4 102 yX4_settleGas ∈ lw_g := lw_in 993 (by decide +kernel) (by decide +kernel)
theorem kmX4_settleGas : XMV yX4_settleGas cX4_settleGas 4 none 3 := ⟨lw_in 995 (by decide +kernel) (by decide +kernel), lw_in 20 (by decide +kernel) (by decide +kernel), lw_in 83 (by decide +kernel) (by decide +kernel), lw_in 996 (by decide +kernel) (by decide +kernel), by decide +kernel, by decide +kernel, by decide +kernel⟩
theorem kk_4_106 : Cond.methodLink RX4 106 yJ9_min_7cf53 ∈ lw_g := lw_in 997 (by decide +kernel) (by decide +kernel)
theorem kk_1_131 : Cond.methodLink RX1 131 yX0_enter ∈ lw_g := lw_in 998 (by decide +kernel) (by decide +kernel)
theorem kmX0_enter : XMV yX0_enter cX0_enter 4 none 3 := ⟨lw_in 999 (by decide +kernel) (by decide +kernel), lw_in 1000 (by decide +kernel) (by decide +kernel), lw_in 84 (by decide +kernel) (by decide +kernel), lw_in 1001 (by decide +kernel) (by decide +kernel), by decide +kernel, by decide +kernel, by decide +kernel⟩
theorem kc_0_77 : Cond.constant RX0 77 (100000 : Int32) ∈ lw_g := lw_in 1002 (by decide +kernel) (by decide +kernel)
theorem kk_1_135 : Cond.methodLink RX1 135 yX0_seal ∈ lw_g := lw_in 1004 (by decide +kernel) (by decide +kernel)
theorem kk_L_139 : Cond.methodLink RL 139 yL_head ∈ lw_g := lw_in 1005 (by decide +kernel) (by decide +kernel)
theorem kk_L_39 : Cond.methodLink RL 39 yX10_head ∈ lw_g := lw_in 1008 (by decide +kernel) (by decide +kernel)
theorem kmX10_head : XMV yX10_head cX10_head 2 (some FieldType.int) 1 := ⟨lw_in 1009 (by decide +kernel) (by decide +kernel), lw_in 1010 (by decide +kernel) (by decide +kernel), lw_in 81 (by decide +kernel) (by decide +kernel), lw_in 1011 (by decide +kernel) (by decide +kernel), by decide +kernel, by decide +kernel, by decide +kernel⟩
theorem kk_10_132 : Cond.methodLink RX10 132 yX1_headBlock ∈ lw_g := lw_in 1012 (by decide +kernel) (by decide +kernel)
theorem kk_L_142 : Cond.methodLink RL 142 yL_base ∈ lw_g := lw_in 1013 (by decide +kernel) (by decide +kernel)
theorem kk_L_42 : Cond.methodLink RL 42 yX10_base ∈ lw_g := lw_in 1016 (by decide +kernel) (by decide +kernel)
theorem kmX10_base : XMV yX10_base cX10_base 3 (some FieldType.int) 2 := ⟨lw_in 1017 (by decide +kernel) (by decide +kernel), lw_in 1018 (by decide +kernel) (by decide +kernel), lw_in 81 (by decide +kernel) (by decide +kernel), lw_in 1019 (by decide +kernel) (by decide +kernel), by decide +kernel, by decide +kernel, by decide +kernel⟩
theorem kk_L_145 : Cond.methodLink RL 145 yL_used ∈ lw_g := lw_in 1020 (by decide +kernel) (by decide +kernel)
theorem kk_L_45 : Cond.methodLink RL 45 yX10_used ∈ lw_g := lw_in 1023 (by decide +kernel) (by decide +kernel)
theorem kmX10_used : XMV yX10_used cX10_used 3 (some FieldType.int) 2 := ⟨lw_in 1024 (by decide +kernel) (by decide +kernel), lw_in 1025 (by decide +kernel) (by decide +kernel), lw_in 81 (by decide +kernel) (by decide +kernel), lw_in 1026 (by decide +kernel) (by decide +kernel), by decide +kernel, by decide +kernel, by decide +kernel⟩
theorem kk_L_148 : Cond.methodLink RL 148 yL_transactionAt ∈ lw_g := lw_in 1027 (by decide +kernel) (by decide +kernel)
theorem kk_L_48 : Cond.methodLink RL 48 yX10_transactionAt ∈ lw_g := lw_in 1030 (by decide +kernel) (by decide +kernel)
theorem kmX10_transactionAt : XMV yX10_transactionAt cX10_transactionAt 5 (some FieldType.int) 3 := ⟨lw_in 1031 (by decide +kernel) (by decide +kernel), lw_in 1032 (by decide +kernel) (by decide +kernel), lw_in 81 (by decide +kernel) (by decide +kernel), lw_in 1033 (by decide +kernel) (by decide +kernel), by decide +kernel, by decide +kernel, by decide +kernel⟩
theorem kk_L_151 : Cond.methodLink RL 151 yL_eventAt ∈ lw_g := lw_in 1034 (by decide +kernel) (by decide +kernel)
theorem kk_L_51 : Cond.methodLink RL 51 yX10_eventAt ∈ lw_g := lw_in 1037 (by decide +kernel) (by decide +kernel)
theorem kmX10_eventAt : XMV yX10_eventAt cX10_eventAt 5 (some FieldType.int) 3 := ⟨lw_in 1038 (by decide +kernel) (by decide +kernel), lw_in 1039 (by decide +kernel) (by decide +kernel), lw_in 81 (by decide +kernel) (by decide +kernel), lw_in 1040 (by decide +kernel) (by decide +kernel), by decide +kernel, by decide +kernel, by decide +kernel⟩
theorem kk_L_154 : Cond.methodLink RL 154 yL_bloom ∈ lw_g := lw_in 1041 (by decide +kernel) (by decide +kernel)
theorem kk_L_54 : Cond.methodLink RL 54 yX10_bloom ∈ lw_g := lw_in 1044 (by decide +kernel) (by decide +kernel)
theorem kmX10_bloom : XMV yX10_bloom cX10_bloom 3 (some FieldType.int) 2 := ⟨lw_in 1045 (by decide +kernel) (by decide +kernel), lw_in 1046 (by decide +kernel) (by decide +kernel), lw_in 81 (by decide +kernel) (by decide +kernel), lw_in 1047 (by decide +kernel) (by decide +kernel), by decide +kernel, by decide +kernel, by decide +kernel⟩
theorem kk_L_157 : Cond.methodLink RL 157 yL_find ∈ lw_g := lw_in 1048 (by decide +kernel) (by decide +kernel)
theorem kk_L_57 : Cond.methodLink RL 57 yX10_find ∈ lw_g := lw_in 1051 (by decide +kernel) (by decide +kernel)
theorem kmX10_find : XMV yX10_find cX10_find 4 (some FieldType.int) 2 := ⟨lw_in 1052 (by decide +kernel) (by decide +kernel), lw_in 1053 (by decide +kernel) (by decide +kernel), lw_in 81 (by decide +kernel) (by decide +kernel), lw_in 1054 (by decide +kernel) (by decide +kernel), by decide +kernel, by decide +kernel, by decide +kernel⟩
theorem kk_10_159 : Cond.methodLink RX10 159 yX1_search ∈ lw_g := lw_in 1055 (by decide +kernel) (by decide +kernel)
theorem kmX1_search : XMV yX1_search cX1_search 9 (some FieldType.int) 1 := ⟨lw_in 1056 (by decide +kernel) (by decide +kernel), lw_in 1057 (by decide +kernel) (by decide +kernel), lw_in 87 (by decide +kernel) (by decide +kernel), lw_in 1058 (by decide +kernel) (by decide +kernel), by decide +kernel, by decide +kernel, by decide +kernel⟩
theorem kk_1_177 : Cond.methodLink RX1 177 yX0_hasBloomOf ∈ lw_g := lw_in 1059 (by decide +kernel) (by decide +kernel)
theorem kmX0_hasBloomOf : XMV yX0_hasBloomOf cX0_hasBloomOf 3 (some FieldType.boolean) 1 := ⟨lw_in 1060 (by decide +kernel) (by decide +kernel), lw_in 1061 (by decide +kernel) (by decide +kernel), lw_in 84 (by decide +kernel) (by decide +kernel), lw_in 1062 (by decide +kernel) (by decide +kernel), by decide +kernel, by decide +kernel, by decide +kernel⟩
theorem kk_1_181 : Cond.methodLink RX1 181 yX0_countEvents ∈ lw_g := lw_in 1063 (by decide +kernel) (by decide +kernel)
theorem kmX0_countEvents : XMV yX0_countEvents cX0_countEvents 4 (some FieldType.int) 1 := ⟨lw_in 1064 (by decide +kernel) (by decide +kernel), lw_in 1065 (by decide +kernel) (by decide +kernel), lw_in 84 (by decide +kernel) (by decide +kernel), lw_in 1066 (by decide +kernel) (by decide +kernel), by decide +kernel, by decide +kernel, by decide +kernel⟩
theorem kk_L_160 : Cond.methodLink RL 160 yL_coins ∈ lw_g := lw_in 1067 (by decide +kernel) (by decide +kernel)
theorem kk_L_60 : Cond.methodLink RL 60 yX10_coins ∈ lw_g := lw_in 1070 (by decide +kernel) (by decide +kernel)
theorem kmX10_coins : XMV yX10_coins cX10_coins 4 (some FieldType.int) 3 := ⟨lw_in 1071 (by decide +kernel) (by decide +kernel), lw_in 1072 (by decide +kernel) (by decide +kernel), lw_in 81 (by decide +kernel) (by decide +kernel), lw_in 1073 (by decide +kernel) (by decide +kernel), by decide +kernel, by decide +kernel, by decide +kernel⟩
theorem kk_10_162 : Cond.methodLink RX10 162 yX10_demandState_ ∈ lw_g := lw_in 1074 (by decide +kernel) (by decide +kernel)
theorem kmX10_demandState_ : XMV yX10_demandState_ cX10_demandState_ 5 (some (FieldType.object "ForkBridge$State")) 3 := ⟨lw_in 1076 (by decide +kernel) (by decide +kernel), lw_in 21 (by decide +kernel) (by decide +kernel), lw_in 81 (by decide +kernel) (by decide +kernel), lw_in 1077 (by decide +kernel) (by decide +kernel), by decide +kernel, by decide +kernel, by decide +kernel⟩
theorem kk_L_163 : Cond.methodLink RL 163 yL_codeOf ∈ lw_g := lw_in 1078 (by decide +kernel) (by decide +kernel)
theorem kk_L_63 : Cond.methodLink RL 63 yX10_codeOf ∈ lw_g := lw_in 1081 (by decide +kernel) (by decide +kernel)
theorem kmX10_codeOf : XMV yX10_codeOf cX10_codeOf 5 (some FieldType.int) 3 := ⟨lw_in 1082 (by decide +kernel) (by decide +kernel), lw_in 1083 (by decide +kernel) (by decide +kernel), lw_in 81 (by decide +kernel) (by decide +kernel), lw_in 1084 (by decide +kernel) (by decide +kernel), by decide +kernel, by decide +kernel, by decide +kernel⟩
theorem kk_L_166 : Cond.methodLink RL 166 yL_slot ∈ lw_g := lw_in 1085 (by decide +kernel) (by decide +kernel)
theorem kk_L_66 : Cond.methodLink RL 66 yX10_slot ∈ lw_g := lw_in 1088 (by decide +kernel) (by decide +kernel)
theorem kmX10_slot : XMV yX10_slot cX10_slot 5 (some FieldType.int) 4 := ⟨lw_in 1089 (by decide +kernel) (by decide +kernel), lw_in 1090 (by decide +kernel) (by decide +kernel), lw_in 81 (by decide +kernel) (by decide +kernel), lw_in 1091 (by decide +kernel) (by decide +kernel), by decide +kernel, by decide +kernel, by decide +kernel⟩
theorem kk_L_169 : Cond.methodLink RL 169 yL_burned ∈ lw_g := lw_in 1092 (by decide +kernel) (by decide +kernel)
theorem kk_L_69 : Cond.methodLink RL 69 yX10_burned ∈ lw_g := lw_in 1095 (by decide +kernel) (by decide +kernel)
theorem kmX10_burned : XMV yX10_burned cX10_burned 3 (some FieldType.int) 2 := ⟨lw_in 1096 (by decide +kernel) (by decide +kernel), lw_in 1097 (by decide +kernel) (by decide +kernel), lw_in 81 (by decide +kernel) (by decide +kernel), lw_in 1098 (by decide +kernel) (by decide +kernel), by decide +kernel, by decide +kernel, by decide +kernel⟩
theorem kk_L_172 : Cond.methodLink RL 172 yL_root ∈ lw_g := lw_in 1099 (by decide +kernel) (by decide +kernel)
theorem kk_L_72 : Cond.methodLink RL 72 yX10_root ∈ lw_g := lw_in 1102 (by decide +kernel) (by decide +kernel)
theorem kmX10_root : XMV yX10_root cX10_root 3 (some FieldType.int) 2 := ⟨lw_in 1103 (by decide +kernel) (by decide +kernel), lw_in 1104 (by decide +kernel) (by decide +kernel), lw_in 81 (by decide +kernel) (by decide +kernel), lw_in 1105 (by decide +kernel) (by decide +kernel), by decide +kernel, by decide +kernel, by decide +kernel⟩
theorem kk_L_175 : Cond.methodLink RL 175 yL_rootAnew ∈ lw_g := lw_in 1106 (by decide +kernel) (by decide +kernel)
theorem kk_L_75 : Cond.methodLink RL 75 yX10_rootAnew ∈ lw_g := lw_in 1109 (by decide +kernel) (by decide +kernel)
theorem kmX10_rootAnew : XMV yX10_rootAnew cX10_rootAnew 4 (some FieldType.int) 2 := ⟨lw_in 1110 (by decide +kernel) (by decide +kernel), lw_in 1111 (by decide +kernel) (by decide +kernel), lw_in 81 (by decide +kernel) (by decide +kernel), lw_in 1112 (by decide +kernel) (by decide +kernel), by decide +kernel, by decide +kernel, by decide +kernel⟩
theorem kk_10_185 : Cond.methodLink RX10 185 yX1_runAnew ∈ lw_g := lw_in 1113 (by decide +kernel) (by decide +kernel)
theorem kmX1_runAnew : XMV yX1_runAnew cX1_runAnew 9 (some FieldType.int) 2 := ⟨lw_in 1114 (by decide +kernel) (by decide +kernel), lw_in 1115 (by decide +kernel) (by decide +kernel), lw_in 87 (by decide +kernel) (by decide +kernel), lw_in 1116 (by decide +kernel) (by decide +kernel), by decide +kernel, by decide +kernel, by decide +kernel⟩
theorem kk_1_160 : Cond.methodLink RX1 160 yX6_becomeFirst ∈ lw_g := lw_in 1117 (by decide +kernel) (by decide +kernel)
theorem kk_1_163 : Cond.methodLink RX1 163 yX0_imitate ∈ lw_g := lw_in 1118 (by decide +kernel) (by decide +kernel)
theorem kmX0_imitate : XMV yX0_imitate cX0_imitate 2 none 1 := ⟨lw_in 1119 (by decide +kernel) (by decide +kernel), lw_in 1120 (by decide +kernel) (by decide +kernel), lw_in 84 (by decide +kernel) (by decide +kernel), lw_in 1121 (by decide +kernel) (by decide +kernel), by decide +kernel, by decide +kernel, by decide +kernel⟩
theorem kk_1_170 : Cond.methodLink RX1 170 yX0_transactionIn ∈ lw_g := lw_in 1122 (by decide +kernel) (by decide +kernel)
theorem kmX0_transactionIn : XMV yX0_transactionIn cX0_transactionIn 2 (some FieldType.int) 1 := ⟨lw_in 1123 (by decide +kernel) (by decide +kernel), lw_in 1124 (by decide +kernel) (by decide +kernel), lw_in 84 (by decide +kernel) (by decide +kernel), lw_in 1125 (by decide +kernel) (by decide +kernel), by decide +kernel, by decide +kernel, by decide +kernel⟩
theorem kk_L_178 : Cond.methodLink RL 178 yL_leaf ∈ lw_g := lw_in 1127 (by decide +kernel) (by decide +kernel)
theorem kk_L_78 : Cond.methodLink RL 78 yX10_leaf ∈ lw_g := lw_in 1130 (by decide +kernel) (by decide +kernel)
theorem kmX10_leaf : XMV yX10_leaf cX10_leaf 4 (some FieldType.int) 3 := ⟨lw_in 1131 (by decide +kernel) (by decide +kernel), lw_in 1132 (by decide +kernel) (by decide +kernel), lw_in 81 (by decide +kernel) (by decide +kernel), lw_in 1133 (by decide +kernel) (by decide +kernel), by decide +kernel, by decide +kernel, by decide +kernel⟩
theorem kk_L_181 : Cond.methodLink RL 181 yL_proof ∈ lw_g := lw_in 1134 (by decide +kernel) (by decide +kernel)
theorem kk_L_81 : Cond.methodLink RL 81 yX10_proof ∈ lw_g := lw_in 1137 (by decide +kernel) (by decide +kernel)
theorem kmX10_proof : XMV yX10_proof cX10_proof 5 (some FieldType.int) 4 := ⟨lw_in 1138 (by decide +kernel) (by decide +kernel), lw_in 1139 (by decide +kernel) (by decide +kernel), lw_in 81 (by decide +kernel) (by decide +kernel), lw_in 1140 (by decide +kernel) (by decide +kernel), by decide +kernel, by decide +kernel, by decide +kernel⟩
theorem kk_L_184 : Cond.methodLink RL 184 yL_proves ∈ lw_g := lw_in 1141 (by decide +kernel) (by decide +kernel)
theorem kk_L_84 : Cond.methodLink RL 84 yX10_proves ∈ lw_g := lw_in 1144 (by decide +kernel) (by decide +kernel)
theorem kmX10_proves : XMV yX10_proves cX10_proves 11 (some FieldType.boolean) 8 := ⟨lw_in 1145 (by decide +kernel) (by decide +kernel), lw_in 1146 (by decide +kernel) (by decide +kernel), lw_in 81 (by decide +kernel) (by decide +kernel), lw_in 1147 (by decide +kernel) (by decide +kernel), by decide +kernel, by decide +kernel, by decide +kernel⟩
theorem kc_10_193 : Cond.constant RX10 193 (1000002 : Int32) ∈ lw_g := lw_in 1148 (by decide +kernel) (by decide +kernel)
theorem kk_10_194 : Cond.methodLink RX10 194 yX10_join ∈ lw_g := lw_in 1149 (by decide +kernel) (by decide +kernel)
theorem kmX10_join : XMS yX10_join cX10_join 3 (some FieldType.int) 3 := ⟨lw_in 1150 (by decide +kernel) (by decide +kernel), lw_in 81 (by decide +kernel) (by decide +kernel), lw_in 1151 (by decide +kernel) (by decide +kernel), by decide +kernel, by decide +kernel, by decide +kernel⟩
theorem kk_L_188 : Cond.methodLink RL 188 yL_prune ∈ lw_g := lw_in 1152 (by decide +kernel) (by decide +kernel)
theorem kk_L_88 : Cond.methodLink RL 88 yX10_prune ∈ lw_g := lw_in 1155 (by decide +kernel) (by decide +kernel)
theorem kmX10_prune : XMV yX10_prune cX10_prune 2 (some FieldType.int) 1 := ⟨lw_in 1156 (by decide +kernel) (by decide +kernel), lw_in 1157 (by decide +kernel) (by decide +kernel), lw_in 81 (by decide +kernel) (by decide +kernel), lw_in 1158 (by decide +kernel) (by decide +kernel), by decide +kernel, by decide +kernel, by decide +kernel⟩
theorem kk_10_197 : Cond.methodLink RX10 197 yX1_dropLower ∈ lw_g := lw_in 1159 (by decide +kernel) (by decide +kernel)
theorem kmX1_dropLower : XMV yX1_dropLower cX1_dropLower 7 (some FieldType.int) 0 := ⟨lw_in 1160 (by decide +kernel) (by decide +kernel), lw_in 1161 (by decide +kernel) (by decide +kernel), lw_in 87 (by decide +kernel) (by decide +kernel), lw_in 1162 (by decide +kernel) (by decide +kernel), by decide +kernel, by decide +kernel, by decide +kernel⟩
theorem kk_L_191 : Cond.methodLink RL 191 yL_vote ∈ lw_g := lw_in 1163 (by decide +kernel) (by decide +kernel)
theorem kk_L_91 : Cond.methodLink RL 91 yX10_vote ∈ lw_g := lw_in 1166 (by decide +kernel) (by decide +kernel)
theorem kmX10_vote : XMV yX10_vote cX10_vote 10 (some FieldType.boolean) 4 := ⟨lw_in 1167 (by decide +kernel) (by decide +kernel), lw_in 1168 (by decide +kernel) (by decide +kernel), lw_in 81 (by decide +kernel) (by decide +kernel), lw_in 1169 (by decide +kernel) (by decide +kernel), by decide +kernel, by decide +kernel, by decide +kernel⟩
theorem kk_10_200 : Cond.methodLink RX10 200 yX0_comesFrom ∈ lw_g := lw_in 1170 (by decide +kernel) (by decide +kernel)
theorem kk_10_208 : Cond.methodLink RX10 208 yX2_validator ∈ lw_g := lw_in 1171 (by decide +kernel) (by decide +kernel)
theorem kmX2_validator : XMV yX2_validator cX2_validator 2 (some (FieldType.object "ForkBridge$Validator")) 1 := ⟨lw_in 1172 (by decide +kernel) (by decide +kernel), lw_in 1173 (by decide +kernel) (by decide +kernel), lw_in 88 (by decide +kernel) (by decide +kernel), lw_in 1174 (by decide +kernel) (by decide +kernel), by decide +kernel, by decide +kernel, by decide +kernel⟩
theorem kk_10_222 : Cond.methodLink RX10 222 yX8_give ∈ lw_g := lw_in 1175 (by decide +kernel) (by decide +kernel)
theorem kmX8_give : XMV yX8_give cX8_give 5 (some FieldType.boolean) 2 := ⟨lw_in 1176 (by decide +kernel) (by decide +kernel), lw_in 1177 (by decide +kernel) (by decide +kernel), lw_in 89 (by decide +kernel) (by decide +kernel), lw_in 1178 (by decide +kernel) (by decide +kernel), by decide +kernel, by decide +kernel, by decide +kernel⟩
theorem kk_8_32 : Cond.methodLink RX8 32 yX8_voteAt ∈ lw_g := lw_in 1179 (by decide +kernel) (by decide +kernel)
theorem kmX8_voteAt : XMV yX8_voteAt cX8_voteAt 2 (some (FieldType.object "ForkBridge$Vote")) 1 := ⟨lw_in 1180 (by decide +kernel) (by decide +kernel), lw_in 1181 (by decide +kernel) (by decide +kernel), lw_in 89 (by decide +kernel) (by decide +kernel), lw_in 1182 (by decide +kernel) (by decide +kernel), by decide +kernel, by decide +kernel, by decide +kernel⟩
theorem kk_8_36 : Cond.methodLink RX8 36 yX9_become ∈ lw_g := lw_in 1183 (by decide +kernel) (by decide +kernel)
theorem kmX9_become : XMV yX9_become cX9_become 3 none 2 := ⟨lw_in 1184 (by decide +kernel) (by decide +kernel), lw_in 1185 (by decide +kernel) (by decide +kernel), lw_in 90 (by decide +kernel) (by decide +kernel), lw_in 1186 (by decide +kernel) (by decide +kernel), by decide +kernel, by decide +kernel, by decide +kernel⟩
theorem kk_8_40 : Cond.methodLink RX8 40 yX9_clashesWith ∈ lw_g := lw_in 1187 (by decide +kernel) (by decide +kernel)
theorem kmX9_clashesWith : XMV yX9_clashesWith cX9_clashesWith 2 (some FieldType.boolean) 1 := ⟨lw_in 1188 (by decide +kernel) (by decide +kernel), lw_in 1189 (by decide +kernel) (by decide +kernel), lw_in 90 (by decide +kernel) (by decide +kernel), lw_in 1190 (by decide +kernel) (by decide +kernel), by decide +kernel, by decide +kernel, by decide +kernel⟩
theorem kk_9_30 : Cond.methodLink RX9 30 yX9_surrounds ∈ lw_g := lw_in 1191 (by decide +kernel) (by decide +kernel)
theorem kmX9_surrounds : XMV yX9_surrounds cX9_surrounds 2 (some FieldType.boolean) 1 := ⟨lw_in 1193 (by decide +kernel) (by decide +kernel), lw_in 22 (by decide +kernel) (by decide +kernel), lw_in 90 (by decide +kernel) (by decide +kernel), lw_in 1194 (by decide +kernel) (by decide +kernel), by decide +kernel, by decide +kernel, by decide +kernel⟩
theorem kk_10_230 : Cond.methodLink RX10 230 yX2_settle ∈ lw_g := lw_in 1195 (by decide +kernel) (by decide +kernel)
theorem kmX2_settle : XMV yX2_settle cX2_settle 4 none 1 := ⟨lw_in 1196 (by decide +kernel) (by decide +kernel), lw_in 1197 (by decide +kernel) (by decide +kernel), lw_in 88 (by decide +kernel) (by decide +kernel), lw_in 1198 (by decide +kernel) (by decide +kernel), by decide +kernel, by decide +kernel, by decide +kernel⟩
theorem kk_2_18 : Cond.methodLink RX2 18 yX2_justifyOne ∈ lw_g := lw_in 1199 (by decide +kernel) (by decide +kernel)
theorem kmX2_justifyOne : XMV yX2_justifyOne cX2_justifyOne 7 (some FieldType.boolean) 1 := ⟨lw_in 1201 (by decide +kernel) (by decide +kernel), lw_in 23 (by decide +kernel) (by decide +kernel), lw_in 88 (by decide +kernel) (by decide +kernel), lw_in 1202 (by decide +kernel) (by decide +kernel), by decide +kernel, by decide +kernel, by decide +kernel⟩
theorem kk_2_26 : Cond.methodLink RX2 26 yX8_countingVotes ∈ lw_g := lw_in 1203 (by decide +kernel) (by decide +kernel)
theorem kmX8_countingVotes : XMV yX8_countingVotes cX8_countingVotes 1 (some FieldType.int) 0 := ⟨lw_in 1204 (by decide +kernel) (by decide +kernel), lw_in 1205 (by decide +kernel) (by decide +kernel), lw_in 89 (by decide +kernel) (by decide +kernel), lw_in 1206 (by decide +kernel) (by decide +kernel), by decide +kernel, by decide +kernel, by decide +kernel⟩
theorem kk_8_26 : Cond.methodLink RX8 26 yJ9_min_7cf53 ∈ lw_g := lw_in 1207 (by decide +kernel) (by decide +kernel)
theorem kk_2_30 : Cond.methodLink RX2 30 yX8_voteAt ∈ lw_g := lw_in 1208 (by decide +kernel) (by decide +kernel)
theorem kk_2_34 : Cond.methodLink RX2 34 yX2_justify ∈ lw_g := lw_in 1209 (by decide +kernel) (by decide +kernel)
theorem kmX2_justify : XMV yX2_justify cX2_justify 6 (some FieldType.boolean) 2 := ⟨lw_in 1211 (by decide +kernel) (by decide +kernel), lw_in 24 (by decide +kernel) (by decide +kernel), lw_in 88 (by decide +kernel) (by decide +kernel), lw_in 1212 (by decide +kernel) (by decide +kernel), by decide +kernel, by decide +kernel, by decide +kernel⟩
theorem kk_2_56 : Cond.methodLink RX2 56 yX2_carries ∈ lw_g := lw_in 1213 (by decide +kernel) (by decide +kernel)
theorem kmX2_carries : XMV yX2_carries cX2_carries 8 (some FieldType.boolean) 1 := ⟨lw_in 1215 (by decide +kernel) (by decide +kernel), lw_in 25 (by decide +kernel) (by decide +kernel), lw_in 88 (by decide +kernel) (by decide +kernel), lw_in 1216 (by decide +kernel) (by decide +kernel), by decide +kernel, by decide +kernel, by decide +kernel⟩
theorem kk_2_60 : Cond.methodLink RX2 60 yX8_stakeNow ∈ lw_g := lw_in 1217 (by decide +kernel) (by decide +kernel)
theorem kmX8_stakeNow : XMV yX8_stakeNow cX8_stakeNow 1 (some FieldType.int) 0 := ⟨lw_in 1218 (by decide +kernel) (by decide +kernel), lw_in 1219 (by decide +kernel) (by decide +kernel), lw_in 89 (by decide +kernel) (by decide +kernel), lw_in 1220 (by decide +kernel) (by decide +kernel), by decide +kernel, by decide +kernel, by decide +kernel⟩
theorem kk_2_63 : Cond.methodLink RX2 63 yX8_supports ∈ lw_g := lw_in 1221 (by decide +kernel) (by decide +kernel)
theorem kmX8_supports : XMV yX8_supports cX8_supports 4 (some FieldType.boolean) 1 := ⟨lw_in 1222 (by decide +kernel) (by decide +kernel), lw_in 1223 (by decide +kernel) (by decide +kernel), lw_in 89 (by decide +kernel) (by decide +kernel), lw_in 1224 (by decide +kernel) (by decide +kernel), by decide +kernel, by decide +kernel, by decide +kernel⟩
theorem kk_8_44 : Cond.methodLink RX8 44 yX8_countingVotes ∈ lw_g := lw_in 1225 (by decide +kernel) (by decide +kernel)
theorem kk_2_22 : Cond.methodLink RX2 22 yX2_moveFinal ∈ lw_g := lw_in 1226 (by decide +kernel) (by decide +kernel)
theorem kmX2_moveFinal : XMV yX2_moveFinal cX2_moveFinal 8 none 1 := ⟨lw_in 1228 (by decide +kernel) (by decide +kernel), lw_in 26 (by decide +kernel) (by decide +kernel), lw_in 88 (by decide +kernel) (by decide +kernel), lw_in 1229 (by decide +kernel) (by decide +kernel), by decide +kernel, by decide +kernel, by decide +kernel⟩
theorem kk_2_69 : Cond.methodLink RX2 69 yX0_comesFrom ∈ lw_g := lw_in 1230 (by decide +kernel) (by decide +kernel)
theorem kk_2_76 : Cond.methodLink RX2 76 yX2_justifiesNext ∈ lw_g := lw_in 1231 (by decide +kernel) (by decide +kernel)
theorem kmX2_justifiesNext : XMS yX2_justifiesNext cX2_justifiesNext 6 (some FieldType.boolean) 2 := ⟨lw_in 1232 (by decide +kernel) (by decide +kernel), lw_in 88 (by decide +kernel) (by decide +kernel), lw_in 1233 (by decide +kernel) (by decide +kernel), by decide +kernel, by decide +kernel, by decide +kernel⟩
theorem kk_L_194 : Cond.methodLink RL 194 yL_isJustified ∈ lw_g := lw_in 1234 (by decide +kernel) (by decide +kernel)
theorem kk_L_95 : Cond.methodLink RL 95 yX10_isJustified ∈ lw_g := lw_in 1237 (by decide +kernel) (by decide +kernel)
theorem kmX10_isJustified : XMV yX10_isJustified cX10_isJustified 3 (some FieldType.boolean) 2 := ⟨lw_in 1238 (by decide +kernel) (by decide +kernel), lw_in 1239 (by decide +kernel) (by decide +kernel), lw_in 81 (by decide +kernel) (by decide +kernel), lw_in 1240 (by decide +kernel) (by decide +kernel), by decide +kernel, by decide +kernel, by decide +kernel⟩
theorem kk_L_197 : Cond.methodLink RL 197 yL_lastFinal ∈ lw_g := lw_in 1241 (by decide +kernel) (by decide +kernel)
theorem kk_L_99 : Cond.methodLink RL 99 yX10_lastFinal ∈ lw_g := lw_in 1244 (by decide +kernel) (by decide +kernel)
theorem kmX10_lastFinal : XMV yX10_lastFinal cX10_lastFinal 2 (some FieldType.int) 1 := ⟨lw_in 1245 (by decide +kernel) (by decide +kernel), lw_in 1246 (by decide +kernel) (by decide +kernel), lw_in 81 (by decide +kernel) (by decide +kernel), lw_in 1247 (by decide +kernel) (by decide +kernel), by decide +kernel, by decide +kernel, by decide +kernel⟩
theorem kk_L_200 : Cond.methodLink RL 200 yL_stake ∈ lw_g := lw_in 1248 (by decide +kernel) (by decide +kernel)
theorem kk_L_102 : Cond.methodLink RL 102 yX10_stake ∈ lw_g := lw_in 1251 (by decide +kernel) (by decide +kernel)
theorem kmX10_stake : XMV yX10_stake cX10_stake 4 (some FieldType.int) 2 := ⟨lw_in 1252 (by decide +kernel) (by decide +kernel), lw_in 1253 (by decide +kernel) (by decide +kernel), lw_in 81 (by decide +kernel) (by decide +kernel), lw_in 1254 (by decide +kernel) (by decide +kernel), by decide +kernel, by decide +kernel, by decide +kernel⟩
theorem kk_10_237 : Cond.methodLink RX10 237 yX8_stakeNow ∈ lw_g := lw_in 1255 (by decide +kernel) (by decide +kernel)
theorem kn_L_106 : Cond.classLink RL 106 "ForkBridgeModel" ∈ lw_g := lw_in 1256 (by decide +kernel) (by decide +kernel)
theorem kk_L_108 : Cond.methodLink RL 108 yX11_init ∈ lw_g := lw_in 1258 (by decide +kernel) (by decide +kernel)
theorem kmX11_init : XMI yX11_init cX11_init 3 0 := ⟨lw_in 1259 (by decide +kernel) (by decide +kernel), lw_in 92 (by decide +kernel) (by decide +kernel), lw_in 1260 (by decide +kernel) (by decide +kernel), by decide +kernel, by decide +kernel, by decide +kernel, by decide +kernel⟩
theorem kk_11_1 : Cond.methodLink RX11 1 ⟨"java/lang/Object", "<init>", "()V"⟩ ∈ lw_g := lw_in 1261 (by decide +kernel) (by decide +kernel)
theorem kk_11_170 : Cond.methodLink RX11 170 yX11_rootOf ∈ lw_g := lw_in 1262 (by decide +kernel) (by decide +kernel)
theorem kmX11_rootOf : XMV yX11_rootOf cX11_rootOf 3 (some FieldType.int) 1 := ⟨lw_in 1264 (by decide +kernel) (by decide +kernel), lw_in 27 (by decide +kernel) (by decide +kernel), lw_in 92 (by decide +kernel) (by decide +kernel), lw_in 1265 (by decide +kernel) (by decide +kernel), by decide +kernel, by decide +kernel, by decide +kernel⟩
theorem kk_11_199 : Cond.methodLink RX11 199 yX11_leafOf ∈ lw_g := lw_in 1266 (by decide +kernel) (by decide +kernel)
theorem kmX11_leafOf : XMV yX11_leafOf cX11_leafOf 5 (some FieldType.int) 2 := ⟨lw_in 1268 (by decide +kernel) (by decide +kernel), lw_in 28 (by decide +kernel) (by decide +kernel), lw_in 92 (by decide +kernel) (by decide +kernel), lw_in 1269 (by decide +kernel) (by decide +kernel), by decide +kernel, by decide +kernel, by decide +kernel⟩
theorem kk_11_194 : Cond.methodLink RX11 194 yX11_mix ∈ lw_g := lw_in 1270 (by decide +kernel) (by decide +kernel)
theorem kmX11_mix : XMV yX11_mix cX11_mix 5 (some FieldType.int) 2 := ⟨lw_in 1272 (by decide +kernel) (by decide +kernel), lw_in 29 (by decide +kernel) (by decide +kernel), lw_in 92 (by decide +kernel) (by decide +kernel), lw_in 1273 (by decide +kernel) (by decide +kernel), by decide +kernel, by decide +kernel, by decide +kernel⟩
theorem kc_11_186 : Cond.constantLong RX11 186 (31 : Int64) ∈ lw_g := lw_in 1274 (by decide +kernel) (by decide +kernel)
theorem kc_11_188 : Cond.constantLong RX11 188 (17 : Int64) ∈ lw_g := lw_in 1275 (by decide +kernel) (by decide +kernel)
theorem kc_11_190 : Cond.constantLong RX11 190 (7 : Int64) ∈ lw_g := lw_in 1276 (by decide +kernel) (by decide +kernel)
theorem kc_11_192 : Cond.constantLong RX11 192 (1000003 : Int64) ∈ lw_g := lw_in 1277 (by decide +kernel) (by decide +kernel)
theorem kc_11_198 : Cond.constant RX11 198 (1000003 : Int32) ∈ lw_g := lw_in 1278 (by decide +kernel) (by decide +kernel)
theorem kk_11_203 : Cond.methodLink RX11 203 yX11_fold ∈ lw_g := lw_in 1279 (by decide +kernel) (by decide +kernel)
theorem kmX11_fold : XMV yX11_fold cX11_fold 4 none 1 := ⟨lw_in 1281 (by decide +kernel) (by decide +kernel), lw_in 30 (by decide +kernel) (by decide +kernel), lw_in 92 (by decide +kernel) (by decide +kernel), lw_in 1282 (by decide +kernel) (by decide +kernel), by decide +kernel, by decide +kernel, by decide +kernel⟩
theorem kf_11_7 : XF RX11 7 11 0 := lw_in 1283 (by decide +kernel) (by decide +kernel)
theorem kf_11_13 : XF RX11 13 11 1 := lw_in 1284 (by decide +kernel) (by decide +kernel)
theorem kf_11_16 : XF RX11 16 11 2 := lw_in 1285 (by decide +kernel) (by decide +kernel)
theorem kf_11_19 : XF RX11 19 11 3 := lw_in 1286 (by decide +kernel) (by decide +kernel)
theorem kf_11_22 : XF RX11 22 11 4 := lw_in 1287 (by decide +kernel) (by decide +kernel)
theorem kf_11_25 : XF RX11 25 11 5 := lw_in 1288 (by decide +kernel) (by decide +kernel)
theorem kf_11_210 : XF RX11 210 11 6 := lw_in 1289 (by decide +kernel) (by decide +kernel)
theorem kf_11_28 : XF RX11 28 11 7 := lw_in 1290 (by decide +kernel) (by decide +kernel)
theorem kf_11_31 : XF RX11 31 11 8 := lw_in 1291 (by decide +kernel) (by decide +kernel)
theorem kf_11_34 : XF RX11 34 11 9 := lw_in 1292 (by decide +kernel) (by decide +kernel)
theorem kf_11_37 : XF RX11 37 11 10 := lw_in 1293 (by decide +kernel) (by decide +kernel)
theorem kf_11_40 : XF RX11 40 11 11 := lw_in 1294 (by decide +kernel) (by decide +kernel)
theorem kf_11_43 : XF RX11 43 11 12 := lw_in 1295 (by decide +kernel) (by decide +kernel)
theorem kf_11_46 : XF RX11 46 11 13 := lw_in 1296 (by decide +kernel) (by decide +kernel)
theorem kf_11_49 : XF RX11 49 11 14 := lw_in 1297 (by decide +kernel) (by decide +kernel)
theorem kf_11_52 : XF RX11 52 11 15 := lw_in 1298 (by decide +kernel) (by decide +kernel)
theorem kf_11_55 : XF RX11 55 11 16 := lw_in 1299 (by decide +kernel) (by decide +kernel)
theorem kf_11_58 : XF RX11 58 11 17 := lw_in 1300 (by decide +kernel) (by decide +kernel)
theorem kf_11_61 : XF RX11 61 11 18 := lw_in 1301 (by decide +kernel) (by decide +kernel)
theorem kf_11_64 : XF RX11 64 11 19 := lw_in 1302 (by decide +kernel) (by decide +kernel)
theorem kf_11_67 : XF RX11 67 11 20 := lw_in 1303 (by decide +kernel) (by decide +kernel)
theorem kf_11_70 : XF RX11 70 11 21 := lw_in 1304 (by decide +kernel) (by decide +kernel)
theorem kf_11_73 : XF RX11 73 11 22 := lw_in 1305 (by decide +kernel) (by decide +kernel)
theorem kf_11_76 : XF RX11 76 11 23 := lw_in 1306 (by decide +kernel) (by decide +kernel)
theorem kf_11_80 : XF RX11 80 11 24 := lw_in 1307 (by decide +kernel) (by decide +kernel)
theorem kf_11_83 : XF RX11 83 11 25 := lw_in 1308 (by decide +kernel) (by decide +kernel)
theorem kf_11_86 : XF RX11 86 11 26 := lw_in 1309 (by decide +kernel) (by decide +kernel)
theorem kf_11_89 : XF RX11 89 11 27 := lw_in 1310 (by decide +kernel) (by decide +kernel)
theorem kf_11_92 : XF RX11 92 11 28 := lw_in 1311 (by decide +kernel) (by decide +kernel)
theorem kf_11_95 : XF RX11 95 11 29 := lw_in 1312 (by decide +kernel) (by decide +kernel)
theorem kf_11_98 : XF RX11 98 11 30 := lw_in 1313 (by decide +kernel) (by decide +kernel)
theorem kf_11_101 : XF RX11 101 11 31 := lw_in 1314 (by decide +kernel) (by decide +kernel)
theorem kf_11_104 : XF RX11 104 11 32 := lw_in 1315 (by decide +kernel) (by decide +kernel)
theorem kf_11_107 : XF RX11 107 11 33 := lw_in 1316 (by decide +kernel) (by decide +kernel)
theorem kf_11_110 : XF RX11 110 11 34 := lw_in 1317 (by decide +kernel) (by decide +kernel)
theorem kf_11_113 : XF RX11 113 11 35 := lw_in 1318 (by decide +kernel) (by decide +kernel)
theorem kf_11_116 : XF RX11 116 11 36 := lw_in 1319 (by decide +kernel) (by decide +kernel)
theorem kf_11_119 : XF RX11 119 11 37 := lw_in 1320 (by decide +kernel) (by decide +kernel)
theorem kf_11_122 : XF RX11 122 11 38 := lw_in 1321 (by decide +kernel) (by decide +kernel)
theorem kf_11_125 : XF RX11 125 11 39 := lw_in 1322 (by decide +kernel) (by decide +kernel)
theorem kf_11_128 : XF RX11 128 11 40 := lw_in 1323 (by decide +kernel) (by decide +kernel)
theorem kf_11_131 : XF RX11 131 11 41 := lw_in 1324 (by decide +kernel) (by decide +kernel)
theorem kf_11_134 : XF RX11 134 11 42 := lw_in 1325 (by decide +kernel) (by decide +kernel)
theorem kf_11_137 : XF RX11 137 11 43 := lw_in 1326 (by decide +kernel) (by decide +kernel)
theorem kf_11_140 : XF RX11 140 11 44 := lw_in 1327 (by decide +kernel) (by decide +kernel)
theorem kf_11_143 : XF RX11 143 11 45 := lw_in 1328 (by decide +kernel) (by decide +kernel)
theorem kf_11_146 : XF RX11 146 11 46 := lw_in 1329 (by decide +kernel) (by decide +kernel)
theorem kf_11_149 : XF RX11 149 11 47 := lw_in 1330 (by decide +kernel) (by decide +kernel)
theorem kf_11_152 : XF RX11 152 11 48 := lw_in 1331 (by decide +kernel) (by decide +kernel)
theorem kf_11_155 : XF RX11 155 11 49 := lw_in 1332 (by decide +kernel) (by decide +kernel)
theorem kf_11_158 : XF RX11 158 11 50 := lw_in 1333 (by decide +kernel) (by decide +kernel)
theorem kf_11_161 : XF RX11 161 11 51 := lw_in 1334 (by decide +kernel) (by decide +kernel)
theorem kf_11_164 : XF RX11 164 11 52 := lw_in 1335 (by decide +kernel) (by decide +kernel)
theorem kf_11_237 : XF RX11 237 11 53 := lw_in 1336 (by decide +kernel) (by decide +kernel)
theorem kf_11_243 : XF RX11 243 11 54 := lw_in 1337 (by decide +kernel) (by decide +kernel)
theorem kf_11_264 : XF RX11 264 11 55 := lw_in 1338 (by decide +kernel) (by decide +kernel)
theorem kf_11_261 : XF RX11 261 11 56 := lw_in 1339 (by decide +kernel) (by decide +kernel)
theorem kf_11_255 : XF RX11 255 11 57 := lw_in 1340 (by decide +kernel) (by decide +kernel)
theorem kf_11_246 : XF RX11 246 11 58 := lw_in 1341 (by decide +kernel) (by decide +kernel)
theorem kf_11_167 : XF RX11 167 11 59 := lw_in 1342 (by decide +kernel) (by decide +kernel)
theorem kf_11_174 : XF RX11 174 11 60 := lw_in 1343 (by decide +kernel) (by decide +kernel)
theorem kk_L_115 : Cond.methodLink RL 115 yX11_thrown ∈ lw_g := lw_in 1468 (by decide +kernel) (by decide +kernel)
theorem kmX11_thrown : XMV yX11_thrown cX11_thrown 1 (some FieldType.int) 0 := ⟨lw_in 1469 (by decide +kernel) (by decide +kernel), lw_in 1470 (by decide +kernel) (by decide +kernel), lw_in 92 (by decide +kernel) (by decide +kernel), lw_in 1471 (by decide +kernel) (by decide +kernel), by decide +kernel, by decide +kernel, by decide +kernel⟩
theorem kk_L_114 : Cond.methodLink RL 114 yX11_step ∈ lw_g := lw_in 1472 (by decide +kernel) (by decide +kernel)
theorem kmX11_step : XMV yX11_step cX11_step 6 (some FieldType.int) 3 := ⟨lw_in 1473 (by decide +kernel) (by decide +kernel), lw_in 1474 (by decide +kernel) (by decide +kernel), lw_in 92 (by decide +kernel) (by decide +kernel), lw_in 1475 (by decide +kernel) (by decide +kernel), by decide +kernel, by decide +kernel, by decide +kernel⟩
theorem kk_11_178 : Cond.methodLink RX11 178 yX11_in ∈ lw_g := lw_in 1476 (by decide +kernel) (by decide +kernel)
theorem kmX11_in : XMV yX11_in cX11_in 4 (some FieldType.boolean) 3 := ⟨lw_in 1478 (by decide +kernel) (by decide +kernel), lw_in 31 (by decide +kernel) (by decide +kernel), lw_in 92 (by decide +kernel) (by decide +kernel), lw_in 1479 (by decide +kernel) (by decide +kernel), by decide +kernel, by decide +kernel, by decide +kernel⟩
theorem kk_11_207 : Cond.methodLink RX11 207 yX11_most ∈ lw_g := lw_in 1480 (by decide +kernel) (by decide +kernel)
theorem kmX11_most : XMV yX11_most cX11_most 2 (some FieldType.int) 1 := ⟨lw_in 1482 (by decide +kernel) (by decide +kernel), lw_in 32 (by decide +kernel) (by decide +kernel), lw_in 92 (by decide +kernel) (by decide +kernel), lw_in 1483 (by decide +kernel) (by decide +kernel), by decide +kernel, by decide +kernel, by decide +kernel⟩
theorem kk_11_214 : Cond.methodLink RX11 214 yX11_holds ∈ lw_g := lw_in 1484 (by decide +kernel) (by decide +kernel)
theorem kmX11_holds : XMV yX11_holds cX11_holds 2 (some FieldType.boolean) 1 := ⟨lw_in 1486 (by decide +kernel) (by decide +kernel), lw_in 33 (by decide +kernel) (by decide +kernel), lw_in 92 (by decide +kernel) (by decide +kernel), lw_in 1487 (by decide +kernel) (by decide +kernel), by decide +kernel, by decide +kernel, by decide +kernel⟩
theorem kk_L_122 : Cond.methodLink RL 122 yX11_upgrade ∈ lw_g := lw_in 1488 (by decide +kernel) (by decide +kernel)
theorem kmX11_upgrade : XMV yX11_upgrade cX11_upgrade 4 (some FieldType.int) 2 := ⟨lw_in 1489 (by decide +kernel) (by decide +kernel), lw_in 1490 (by decide +kernel) (by decide +kernel), lw_in 92 (by decide +kernel) (by decide +kernel), lw_in 1491 (by decide +kernel) (by decide +kernel), by decide +kernel, by decide +kernel, by decide +kernel⟩
theorem kk_11_182 : Cond.methodLink RX11 182 yX11_isChain ∈ lw_g := lw_in 1492 (by decide +kernel) (by decide +kernel)
theorem kmX11_isChain : XMV yX11_isChain cX11_isChain 2 (some FieldType.boolean) 1 := ⟨lw_in 1494 (by decide +kernel) (by decide +kernel), lw_in 34 (by decide +kernel) (by decide +kernel), lw_in 92 (by decide +kernel) (by decide +kernel), lw_in 1495 (by decide +kernel) (by decide +kernel), by decide +kernel, by decide +kernel, by decide +kernel⟩
theorem kk_L_126 : Cond.methodLink RL 126 yX11_submit ∈ lw_g := lw_in 1496 (by decide +kernel) (by decide +kernel)
theorem kmX11_submit : XMV yX11_submit cX11_submit 11 (some FieldType.int) 9 := ⟨lw_in 1497 (by decide +kernel) (by decide +kernel), lw_in 1498 (by decide +kernel) (by decide +kernel), lw_in 92 (by decide +kernel) (by decide +kernel), lw_in 1499 (by decide +kernel) (by decide +kernel), by decide +kernel, by decide +kernel, by decide +kernel⟩
theorem kk_11_229 : Cond.methodLink RX11 229 yX11_enter ∈ lw_g := lw_in 1500 (by decide +kernel) (by decide +kernel)
theorem kmX11_enter : XMV yX11_enter cX11_enter 16 (some FieldType.int) 9 := ⟨lw_in 1502 (by decide +kernel) (by decide +kernel), lw_in 35 (by decide +kernel) (by decide +kernel), lw_in 92 (by decide +kernel) (by decide +kernel), lw_in 1503 (by decide +kernel) (by decide +kernel), by decide +kernel, by decide +kernel, by decide +kernel⟩
theorem kk_11_220 : Cond.methodLink RX11 220 yX11_headOf ∈ lw_g := lw_in 1504 (by decide +kernel) (by decide +kernel)
theorem kmX11_headOf : XMV yX11_headOf cX11_headOf 4 (some FieldType.int) 1 := ⟨lw_in 1506 (by decide +kernel) (by decide +kernel), lw_in 36 (by decide +kernel) (by decide +kernel), lw_in 92 (by decide +kernel) (by decide +kernel), lw_in 1507 (by decide +kernel) (by decide +kernel), by decide +kernel, by decide +kernel, by decide +kernel⟩
theorem kk_11_361 : Cond.methodLink RX11 361 yX11_from ∈ lw_g := lw_in 1508 (by decide +kernel) (by decide +kernel)
theorem kmX11_from : XMV yX11_from cX11_from 5 (some FieldType.boolean) 3 := ⟨lw_in 1510 (by decide +kernel) (by decide +kernel), lw_in 37 (by decide +kernel) (by decide +kernel), lw_in 92 (by decide +kernel) (by decide +kernel), lw_in 1511 (by decide +kernel) (by decide +kernel), by decide +kernel, by decide +kernel, by decide +kernel⟩
theorem kk_11_223 : Cond.methodLink RX11 223 yX11_pooled ∈ lw_g := lw_in 1512 (by decide +kernel) (by decide +kernel)
theorem kmX11_pooled : XMV yX11_pooled cX11_pooled 4 (some FieldType.boolean) 3 := ⟨lw_in 1514 (by decide +kernel) (by decide +kernel), lw_in 38 (by decide +kernel) (by decide +kernel), lw_in 92 (by decide +kernel) (by decide +kernel), lw_in 1515 (by decide +kernel) (by decide +kernel), by decide +kernel, by decide +kernel, by decide +kernel⟩
theorem kk_11_217 : Cond.methodLink RX11 217 yX11_isIn ∈ lw_g := lw_in 1516 (by decide +kernel) (by decide +kernel)
theorem kmX11_isIn : XMV yX11_isIn cX11_isIn 7 (some FieldType.boolean) 3 := ⟨lw_in 1518 (by decide +kernel) (by decide +kernel), lw_in 39 (by decide +kernel) (by decide +kernel), lw_in 92 (by decide +kernel) (by decide +kernel), lw_in 1519 (by decide +kernel) (by decide +kernel), by decide +kernel, by decide +kernel, by decide +kernel⟩
theorem kk_11_226 : Cond.methodLink RX11 226 yX11_size ∈ lw_g := lw_in 1520 (by decide +kernel) (by decide +kernel)
theorem kmX11_size : XMV yX11_size cX11_size 5 (some FieldType.int) 1 := ⟨lw_in 1522 (by decide +kernel) (by decide +kernel), lw_in 40 (by decide +kernel) (by decide +kernel), lw_in 92 (by decide +kernel) (by decide +kernel), lw_in 1523 (by decide +kernel) (by decide +kernel), by decide +kernel, by decide +kernel, by decide +kernel⟩
theorem kk_L_130 : Cond.methodLink RL 130 yX11_claim ∈ lw_g := lw_in 1524 (by decide +kernel) (by decide +kernel)
theorem kmX11_claim : XMV yX11_claim cX11_claim 11 (some FieldType.int) 6 := ⟨lw_in 1525 (by decide +kernel) (by decide +kernel), lw_in 1526 (by decide +kernel) (by decide +kernel), lw_in 92 (by decide +kernel) (by decide +kernel), lw_in 1527 (by decide +kernel) (by decide +kernel), by decide +kernel, by decide +kernel, by decide +kernel⟩
theorem kk_11_233 : Cond.methodLink RX11 233 yX11_isTx ∈ lw_g := lw_in 1528 (by decide +kernel) (by decide +kernel)
theorem kmX11_isTx : XMV yX11_isTx cX11_isTx 3 (some FieldType.boolean) 2 := ⟨lw_in 1530 (by decide +kernel) (by decide +kernel), lw_in 41 (by decide +kernel) (by decide +kernel), lw_in 92 (by decide +kernel) (by decide +kernel), lw_in 1531 (by decide +kernel) (by decide +kernel), by decide +kernel, by decide +kernel, by decide +kernel⟩
theorem kk_L_134 : Cond.methodLink RL 134 yX11_pool ∈ lw_g := lw_in 1532 (by decide +kernel) (by decide +kernel)
theorem kmX11_pool : XMV yX11_pool cX11_pool 2 (some FieldType.int) 1 := ⟨lw_in 1533 (by decide +kernel) (by decide +kernel), lw_in 1534 (by decide +kernel) (by decide +kernel), lw_in 92 (by decide +kernel) (by decide +kernel), lw_in 1535 (by decide +kernel) (by decide +kernel), by decide +kernel, by decide +kernel, by decide +kernel⟩
theorem kk_L_138 : Cond.methodLink RL 138 yX11_make ∈ lw_g := lw_in 1536 (by decide +kernel) (by decide +kernel)
theorem kmX11_make : XMV yX11_make cX11_make 12 (some FieldType.int) 4 := ⟨lw_in 1537 (by decide +kernel) (by decide +kernel), lw_in 1538 (by decide +kernel) (by decide +kernel), lw_in 92 (by decide +kernel) (by decide +kernel), lw_in 1539 (by decide +kernel) (by decide +kernel), by decide +kernel, by decide +kernel, by decide +kernel⟩
theorem kk_11_349 : Cond.methodLink RX11 349 yX11_isBlock ∈ lw_g := lw_in 1540 (by decide +kernel) (by decide +kernel)
theorem kmX11_isBlock : XMV yX11_isBlock cX11_isBlock 3 (some FieldType.boolean) 2 := ⟨lw_in 1542 (by decide +kernel) (by decide +kernel), lw_in 42 (by decide +kernel) (by decide +kernel), lw_in 92 (by decide +kernel) (by decide +kernel), lw_in 1543 (by decide +kernel) (by decide +kernel), by decide +kernel, by decide +kernel, by decide +kernel⟩
theorem kk_11_352 : Cond.methodLink RX11 352 yX11_copyIn ∈ lw_g := lw_in 1544 (by decide +kernel) (by decide +kernel)
theorem kmX11_copyIn : XMV yX11_copyIn cX11_copyIn 3 none 1 := ⟨lw_in 1546 (by decide +kernel) (by decide +kernel), lw_in 43 (by decide +kernel) (by decide +kernel), lw_in 92 (by decide +kernel) (by decide +kernel), lw_in 1547 (by decide +kernel) (by decide +kernel), by decide +kernel, by decide +kernel, by decide +kernel⟩
theorem kk_11_355 : Cond.methodLink RX11 355 yX11_pick ∈ lw_g := lw_in 1548 (by decide +kernel) (by decide +kernel)
theorem kmX11_pick : XMV yX11_pick cX11_pick 8 (some FieldType.int) 2 := ⟨lw_in 1550 (by decide +kernel) (by decide +kernel), lw_in 44 (by decide +kernel) (by decide +kernel), lw_in 92 (by decide +kernel) (by decide +kernel), lw_in 1551 (by decide +kernel) (by decide +kernel), by decide +kernel, by decide +kernel, by decide +kernel⟩
theorem kk_11_346 : Cond.methodLink RX11 346 yX11_fit ∈ lw_g := lw_in 1552 (by decide +kernel) (by decide +kernel)
theorem kmX11_fit : XMV yX11_fit cX11_fit 4 (some FieldType.boolean) 2 := ⟨lw_in 1554 (by decide +kernel) (by decide +kernel), lw_in 45 (by decide +kernel) (by decide +kernel), lw_in 92 (by decide +kernel) (by decide +kernel), lw_in 1555 (by decide +kernel) (by decide +kernel), by decide +kernel, by decide +kernel, by decide +kernel⟩
theorem kk_11_339 : Cond.methodLink RX11 339 yX11_price ∈ lw_g := lw_in 1556 (by decide +kernel) (by decide +kernel)
theorem kmX11_price : XMV yX11_price cX11_price 3 (some FieldType.int) 2 := ⟨lw_in 1558 (by decide +kernel) (by decide +kernel), lw_in 46 (by decide +kernel) (by decide +kernel), lw_in 92 (by decide +kernel) (by decide +kernel), lw_in 1559 (by decide +kernel) (by decide +kernel), by decide +kernel, by decide +kernel, by decide +kernel⟩
theorem kk_11_358 : Cond.methodLink RX11 358 yX11_runs ∈ lw_g := lw_in 1560 (by decide +kernel) (by decide +kernel)
theorem kmX11_runs : XMV yX11_runs cX11_runs 8 none 3 := ⟨lw_in 1562 (by decide +kernel) (by decide +kernel), lw_in 47 (by decide +kernel) (by decide +kernel), lw_in 92 (by decide +kernel) (by decide +kernel), lw_in 1563 (by decide +kernel) (by decide +kernel), by decide +kernel, by decide +kernel, by decide +kernel⟩
theorem kk_11_342 : Cond.methodLink RX11 342 yX11_effect ∈ lw_g := lw_in 1564 (by decide +kernel) (by decide +kernel)
theorem kmX11_effect : XMV yX11_effect cX11_effect 4 none 2 := ⟨lw_in 1566 (by decide +kernel) (by decide +kernel), lw_in 48 (by decide +kernel) (by decide +kernel), lw_in 92 (by decide +kernel) (by decide +kernel), lw_in 1567 (by decide +kernel) (by decide +kernel), by decide +kernel, by decide +kernel, by decide +kernel⟩
theorem kk_11_333 : Cond.methodLink RX11 333 yX11_paysLock ∈ lw_g := lw_in 1568 (by decide +kernel) (by decide +kernel)
theorem kmX11_paysLock : XMV yX11_paysLock cX11_paysLock 6 (some FieldType.boolean) 2 := ⟨lw_in 1570 (by decide +kernel) (by decide +kernel), lw_in 49 (by decide +kernel) (by decide +kernel), lw_in 92 (by decide +kernel) (by decide +kernel), lw_in 1571 (by decide +kernel) (by decide +kernel), by decide +kernel, by decide +kernel, by decide +kernel⟩
theorem kk_11_277 : Cond.methodLink RX11 277 yX11_move ∈ lw_g := lw_in 1572 (by decide +kernel) (by decide +kernel)
theorem kmX11_move : XMV yX11_move cX11_move 4 none 3 := ⟨lw_in 1574 (by decide +kernel) (by decide +kernel), lw_in 50 (by decide +kernel) (by decide +kernel), lw_in 92 (by decide +kernel) (by decide +kernel), lw_in 1575 (by decide +kernel) (by decide +kernel), by decide +kernel, by decide +kernel, by decide +kernel⟩
theorem kk_11_295 : Cond.methodLink RX11 295 yX11_made ∈ lw_g := lw_in 1576 (by decide +kernel) (by decide +kernel)
theorem kmX11_made : XMV yX11_made cX11_made 6 (some FieldType.int) 4 := ⟨lw_in 1578 (by decide +kernel) (by decide +kernel), lw_in 51 (by decide +kernel) (by decide +kernel), lw_in 92 (by decide +kernel) (by decide +kernel), lw_in 1579 (by decide +kernel) (by decide +kernel), by decide +kernel, by decide +kernel, by decide +kernel⟩
theorem kk_11_274 : Cond.methodLink RX11 274 yX11_address ∈ lw_g := lw_in 1580 (by decide +kernel) (by decide +kernel)
theorem kmX11_address : XMV yX11_address cX11_address 3 (some FieldType.int) 2 := ⟨lw_in 1582 (by decide +kernel) (by decide +kernel), lw_in 52 (by decide +kernel) (by decide +kernel), lw_in 92 (by decide +kernel) (by decide +kernel), lw_in 1583 (by decide +kernel) (by decide +kernel), by decide +kernel, by decide +kernel, by decide +kernel⟩
theorem kk_11_284 : Cond.methodLink RX11 284 yX11_mark ∈ lw_g := lw_in 1584 (by decide +kernel) (by decide +kernel)
theorem kmX11_mark : XMV yX11_mark cX11_mark 2 none 1 := ⟨lw_in 1586 (by decide +kernel) (by decide +kernel), lw_in 53 (by decide +kernel) (by decide +kernel), lw_in 92 (by decide +kernel) (by decide +kernel), lw_in 1587 (by decide +kernel) (by decide +kernel), by decide +kernel, by decide +kernel, by decide +kernel⟩
theorem kk_11_240 : Cond.methodLink RX11 240 yX11_snap ∈ lw_g := lw_in 1588 (by decide +kernel) (by decide +kernel)
theorem kmX11_snap : XMV yX11_snap cX11_snap 3 none 1 := ⟨lw_in 1590 (by decide +kernel) (by decide +kernel), lw_in 54 (by decide +kernel) (by decide +kernel), lw_in 92 (by decide +kernel) (by decide +kernel), lw_in 1591 (by decide +kernel) (by decide +kernel), by decide +kernel, by decide +kernel, by decide +kernel⟩
theorem kk_11_287 : Cond.methodLink RX11 287 yX11_begin ∈ lw_g := lw_in 1592 (by decide +kernel) (by decide +kernel)
theorem kmX11_begin : XMV yX11_begin cX11_begin 8 none 5 := ⟨lw_in 1594 (by decide +kernel) (by decide +kernel), lw_in 55 (by decide +kernel) (by decide +kernel), lw_in 92 (by decide +kernel) (by decide +kernel), lw_in 1595 (by decide +kernel) (by decide +kernel), by decide +kernel, by decide +kernel, by decide +kernel⟩
theorem kk_11_336 : Cond.methodLink RX11 336 yX11_machine ∈ lw_g := lw_in 1596 (by decide +kernel) (by decide +kernel)
theorem kmX11_machine : XMV yX11_machine cX11_machine 6 none 0 := ⟨lw_in 1598 (by decide +kernel) (by decide +kernel), lw_in 56 (by decide +kernel) (by decide +kernel), lw_in 92 (by decide +kernel) (by decide +kernel), lw_in 1599 (by decide +kernel) (by decide +kernel), by decide +kernel, by decide +kernel, by decide +kernel⟩
theorem kk_11_291 : Cond.methodLink RX11 291 yX11_finish ∈ lw_g := lw_in 1600 (by decide +kernel) (by decide +kernel)
theorem kmX11_finish : XMV yX11_finish cX11_finish 3 none 2 := ⟨lw_in 1602 (by decide +kernel) (by decide +kernel), lw_in 57 (by decide +kernel) (by decide +kernel), lw_in 92 (by decide +kernel) (by decide +kernel), lw_in 1603 (by decide +kernel) (by decide +kernel), by decide +kernel, by decide +kernel, by decide +kernel⟩
theorem kk_11_258 : Cond.methodLink RX11 258 yX11_undone ∈ lw_g := lw_in 1604 (by decide +kernel) (by decide +kernel)
theorem kmX11_undone : XMV yX11_undone cX11_undone 2 none 1 := ⟨lw_in 1606 (by decide +kernel) (by decide +kernel), lw_in 58 (by decide +kernel) (by decide +kernel), lw_in 92 (by decide +kernel) (by decide +kernel), lw_in 1607 (by decide +kernel) (by decide +kernel), by decide +kernel, by decide +kernel, by decide +kernel⟩
theorem kk_11_249 : Cond.methodLink RX11 249 yX11_undo ∈ lw_g := lw_in 1608 (by decide +kernel) (by decide +kernel)
theorem kmX11_undo : XMV yX11_undo cX11_undo 3 none 1 := ⟨lw_in 1610 (by decide +kernel) (by decide +kernel), lw_in 59 (by decide +kernel) (by decide +kernel), lw_in 92 (by decide +kernel) (by decide +kernel), lw_in 1611 (by decide +kernel) (by decide +kernel), by decide +kernel, by decide +kernel, by decide +kernel⟩
theorem kk_11_267 : Cond.methodLink RX11 267 yX11_push ∈ lw_g := lw_in 1612 (by decide +kernel) (by decide +kernel)
theorem kmX11_push : XMV yX11_push cX11_push 3 none 2 := ⟨lw_in 1614 (by decide +kernel) (by decide +kernel), lw_in 60 (by decide +kernel) (by decide +kernel), lw_in 92 (by decide +kernel) (by decide +kernel), lw_in 1615 (by decide +kernel) (by decide +kernel), by decide +kernel, by decide +kernel, by decide +kernel⟩
theorem kk_11_321 : Cond.methodLink RX11 321 yX11_cost ∈ lw_g := lw_in 1616 (by decide +kernel) (by decide +kernel)
theorem kmX11_cost : XMV yX11_cost cX11_cost 7 (some FieldType.int) 3 := ⟨lw_in 1618 (by decide +kernel) (by decide +kernel), lw_in 61 (by decide +kernel) (by decide +kernel), lw_in 92 (by decide +kernel) (by decide +kernel), lw_in 1619 (by decide +kernel) (by decide +kernel), by decide +kernel, by decide +kernel, by decide +kernel⟩
theorem kk_11_252 : Cond.methodLink RX11 252 yX11_square ∈ lw_g := lw_in 1620 (by decide +kernel) (by decide +kernel)
theorem kmX11_square : XMV yX11_square cX11_square 2 (some FieldType.int) 1 := ⟨lw_in 1622 (by decide +kernel) (by decide +kernel), lw_in 62 (by decide +kernel) (by decide +kernel), lw_in 92 (by decide +kernel) (by decide +kernel), lw_in 1623 (by decide +kernel) (by decide +kernel), by decide +kernel, by decide +kernel, by decide +kernel⟩
theorem kk_11_324 : Cond.methodLink RX11 324 yX11_need ∈ lw_g := lw_in 1624 (by decide +kernel) (by decide +kernel)
theorem kmX11_need : XMV yX11_need cX11_need 2 (some FieldType.int) 1 := ⟨lw_in 1626 (by decide +kernel) (by decide +kernel), lw_in 63 (by decide +kernel) (by decide +kernel), lw_in 92 (by decide +kernel) (by decide +kernel), lw_in 1627 (by decide +kernel) (by decide +kernel), by decide +kernel, by decide +kernel, by decide +kernel⟩
theorem kk_11_327 : Cond.methodLink RX11 327 yX11_grows ∈ lw_g := lw_in 1628 (by decide +kernel) (by decide +kernel)
theorem kmX11_grows : XMV yX11_grows cX11_grows 2 (some FieldType.int) 1 := ⟨lw_in 1630 (by decide +kernel) (by decide +kernel), lw_in 64 (by decide +kernel) (by decide +kernel), lw_in 92 (by decide +kernel) (by decide +kernel), lw_in 1631 (by decide +kernel) (by decide +kernel), by decide +kernel, by decide +kernel, by decide +kernel⟩
theorem kk_11_330 : Cond.methodLink RX11 330 yX11_does ∈ lw_g := lw_in 1632 (by decide +kernel) (by decide +kernel)
theorem kmX11_does : XMV yX11_does cX11_does 6 none 3 := ⟨lw_in 1634 (by decide +kernel) (by decide +kernel), lw_in 65 (by decide +kernel) (by decide +kernel), lw_in 92 (by decide +kernel) (by decide +kernel), lw_in 1635 (by decide +kernel) (by decide +kernel), by decide +kernel, by decide +kernel, by decide +kernel⟩
theorem kk_11_281 : Cond.methodLink RX11 281 yX11_pop ∈ lw_g := lw_in 1636 (by decide +kernel) (by decide +kernel)
theorem kmX11_pop : XMV yX11_pop cX11_pop 2 (some FieldType.int) 1 := ⟨lw_in 1638 (by decide +kernel) (by decide +kernel), lw_in 66 (by decide +kernel) (by decide +kernel), lw_in 92 (by decide +kernel) (by decide +kernel), lw_in 1639 (by decide +kernel) (by decide +kernel), by decide +kernel, by decide +kernel, by decide +kernel⟩
theorem kk_11_299 : Cond.methodLink RX11 299 yX11_reckoned ∈ lw_g := lw_in 1640 (by decide +kernel) (by decide +kernel)
theorem kmX11_reckoned : XMV yX11_reckoned cX11_reckoned 4 (some FieldType.int) 3 := ⟨lw_in 1642 (by decide +kernel) (by decide +kernel), lw_in 67 (by decide +kernel) (by decide +kernel), lw_in 92 (by decide +kernel) (by decide +kernel), lw_in 1643 (by decide +kernel) (by decide +kernel), by decide +kernel, by decide +kernel, by decide +kernel⟩
theorem kc_11_271 : Cond.constant RX11 271 (1000000 : Int32) ∈ lw_g := lw_in 1644 (by decide +kernel) (by decide +kernel)
theorem kc_11_272 : Cond.constantLong RX11 272 (1000000 : Int64) ∈ lw_g := lw_in 1645 (by decide +kernel) (by decide +kernel)
theorem kk_11_303 : Cond.methodLink RX11 303 yX11_writes ∈ lw_g := lw_in 1646 (by decide +kernel) (by decide +kernel)
theorem kmX11_writes : XMV yX11_writes cX11_writes 5 none 2 := ⟨lw_in 1648 (by decide +kernel) (by decide +kernel), lw_in 68 (by decide +kernel) (by decide +kernel), lw_in 92 (by decide +kernel) (by decide +kernel), lw_in 1649 (by decide +kernel) (by decide +kernel), by decide +kernel, by decide +kernel, by decide +kernel⟩
theorem kk_11_306 : Cond.methodLink RX11 306 yX11_cells ∈ lw_g := lw_in 1650 (by decide +kernel) (by decide +kernel)
theorem kmX11_cells : XMV yX11_cells cX11_cells 4 none 3 := ⟨lw_in 1652 (by decide +kernel) (by decide +kernel), lw_in 69 (by decide +kernel) (by decide +kernel), lw_in 92 (by decide +kernel) (by decide +kernel), lw_in 1653 (by decide +kernel) (by decide +kernel), by decide +kernel, by decide +kernel, by decide +kernel⟩
theorem kk_11_309 : Cond.methodLink RX11 309 yX11_calls ∈ lw_g := lw_in 1654 (by decide +kernel) (by decide +kernel)
theorem kmX11_calls : XMV yX11_calls cX11_calls 6 none 1 := ⟨lw_in 1656 (by decide +kernel) (by decide +kernel), lw_in 70 (by decide +kernel) (by decide +kernel), lw_in 92 (by decide +kernel) (by decide +kernel), lw_in 1657 (by decide +kernel) (by decide +kernel), by decide +kernel, by decide +kernel, by decide +kernel⟩
theorem kk_11_312 : Cond.methodLink RX11 312 yX11_logs ∈ lw_g := lw_in 1658 (by decide +kernel) (by decide +kernel)
theorem kmX11_logs : XMV yX11_logs cX11_logs 3 none 1 := ⟨lw_in 1660 (by decide +kernel) (by decide +kernel), lw_in 71 (by decide +kernel) (by decide +kernel), lw_in 92 (by decide +kernel) (by decide +kernel), lw_in 1661 (by decide +kernel) (by decide +kernel), by decide +kernel, by decide +kernel, by decide +kernel⟩
theorem kk_11_315 : Cond.methodLink RX11 315 yX11_makes ∈ lw_g := lw_in 1662 (by decide +kernel) (by decide +kernel)
theorem kmX11_makes : XMV yX11_makes cX11_makes 6 none 2 := ⟨lw_in 1664 (by decide +kernel) (by decide +kernel), lw_in 72 (by decide +kernel) (by decide +kernel), lw_in 92 (by decide +kernel) (by decide +kernel), lw_in 1665 (by decide +kernel) (by decide +kernel), by decide +kernel, by decide +kernel, by decide +kernel⟩
theorem kk_11_318 : Cond.methodLink RX11 318 yX11_ends ∈ lw_g := lw_in 1666 (by decide +kernel) (by decide +kernel)
theorem kmX11_ends : XMV yX11_ends cX11_ends 6 none 1 := ⟨lw_in 1668 (by decide +kernel) (by decide +kernel), lw_in 73 (by decide +kernel) (by decide +kernel), lw_in 92 (by decide +kernel) (by decide +kernel), lw_in 1669 (by decide +kernel) (by decide +kernel), by decide +kernel, by decide +kernel, by decide +kernel⟩
theorem kc_11_345 : Cond.constant RX11 345 (100000 : Int32) ∈ lw_g := lw_in 1670 (by decide +kernel) (by decide +kernel)
theorem kk_L_141 : Cond.methodLink RL 141 yX11_head ∈ lw_g := lw_in 1671 (by decide +kernel) (by decide +kernel)
theorem kmX11_head : XMV yX11_head cX11_head 2 (some FieldType.int) 1 := ⟨lw_in 1672 (by decide +kernel) (by decide +kernel), lw_in 1673 (by decide +kernel) (by decide +kernel), lw_in 92 (by decide +kernel) (by decide +kernel), lw_in 1674 (by decide +kernel) (by decide +kernel), by decide +kernel, by decide +kernel, by decide +kernel⟩
theorem kk_L_144 : Cond.methodLink RL 144 yX11_base ∈ lw_g := lw_in 1675 (by decide +kernel) (by decide +kernel)
theorem kmX11_base : XMV yX11_base cX11_base 3 (some FieldType.int) 2 := ⟨lw_in 1676 (by decide +kernel) (by decide +kernel), lw_in 1677 (by decide +kernel) (by decide +kernel), lw_in 92 (by decide +kernel) (by decide +kernel), lw_in 1678 (by decide +kernel) (by decide +kernel), by decide +kernel, by decide +kernel, by decide +kernel⟩
theorem kk_L_147 : Cond.methodLink RL 147 yX11_used ∈ lw_g := lw_in 1679 (by decide +kernel) (by decide +kernel)
theorem kmX11_used : XMV yX11_used cX11_used 3 (some FieldType.int) 2 := ⟨lw_in 1680 (by decide +kernel) (by decide +kernel), lw_in 1681 (by decide +kernel) (by decide +kernel), lw_in 92 (by decide +kernel) (by decide +kernel), lw_in 1682 (by decide +kernel) (by decide +kernel), by decide +kernel, by decide +kernel, by decide +kernel⟩
theorem kk_L_150 : Cond.methodLink RL 150 yX11_transactionAt ∈ lw_g := lw_in 1683 (by decide +kernel) (by decide +kernel)
theorem kmX11_transactionAt : XMV yX11_transactionAt cX11_transactionAt 5 (some FieldType.int) 3 := ⟨lw_in 1684 (by decide +kernel) (by decide +kernel), lw_in 1685 (by decide +kernel) (by decide +kernel), lw_in 92 (by decide +kernel) (by decide +kernel), lw_in 1686 (by decide +kernel) (by decide +kernel), by decide +kernel, by decide +kernel, by decide +kernel⟩
theorem kk_L_153 : Cond.methodLink RL 153 yX11_eventAt ∈ lw_g := lw_in 1687 (by decide +kernel) (by decide +kernel)
theorem kmX11_eventAt : XMV yX11_eventAt cX11_eventAt 5 (some FieldType.int) 3 := ⟨lw_in 1688 (by decide +kernel) (by decide +kernel), lw_in 1689 (by decide +kernel) (by decide +kernel), lw_in 92 (by decide +kernel) (by decide +kernel), lw_in 1690 (by decide +kernel) (by decide +kernel), by decide +kernel, by decide +kernel, by decide +kernel⟩
theorem kk_L_156 : Cond.methodLink RL 156 yX11_bloom ∈ lw_g := lw_in 1691 (by decide +kernel) (by decide +kernel)
theorem kmX11_bloom : XMV yX11_bloom cX11_bloom 3 (some FieldType.int) 2 := ⟨lw_in 1692 (by decide +kernel) (by decide +kernel), lw_in 1693 (by decide +kernel) (by decide +kernel), lw_in 92 (by decide +kernel) (by decide +kernel), lw_in 1694 (by decide +kernel) (by decide +kernel), by decide +kernel, by decide +kernel, by decide +kernel⟩
theorem kk_L_159 : Cond.methodLink RL 159 yX11_find ∈ lw_g := lw_in 1695 (by decide +kernel) (by decide +kernel)
theorem kmX11_find : XMV yX11_find cX11_find 8 (some FieldType.int) 2 := ⟨lw_in 1696 (by decide +kernel) (by decide +kernel), lw_in 1697 (by decide +kernel) (by decide +kernel), lw_in 92 (by decide +kernel) (by decide +kernel), lw_in 1698 (by decide +kernel) (by decide +kernel), by decide +kernel, by decide +kernel, by decide +kernel⟩
theorem kk_L_162 : Cond.methodLink RL 162 yX11_coins ∈ lw_g := lw_in 1699 (by decide +kernel) (by decide +kernel)
theorem kmX11_coins : XMV yX11_coins cX11_coins 4 (some FieldType.int) 3 := ⟨lw_in 1700 (by decide +kernel) (by decide +kernel), lw_in 1701 (by decide +kernel) (by decide +kernel), lw_in 92 (by decide +kernel) (by decide +kernel), lw_in 1702 (by decide +kernel) (by decide +kernel), by decide +kernel, by decide +kernel, by decide +kernel⟩
theorem kk_11_364 : Cond.methodLink RX11 364 yX11_missing ∈ lw_g := lw_in 1703 (by decide +kernel) (by decide +kernel)
theorem kmX11_missing : XMV yX11_missing cX11_missing 4 (some FieldType.int) 3 := ⟨lw_in 1705 (by decide +kernel) (by decide +kernel), lw_in 74 (by decide +kernel) (by decide +kernel), lw_in 92 (by decide +kernel) (by decide +kernel), lw_in 1706 (by decide +kernel) (by decide +kernel), by decide +kernel, by decide +kernel, by decide +kernel⟩
theorem kk_11_368 : Cond.methodLink RX11 368 yX11_at ∈ lw_g := lw_in 1707 (by decide +kernel) (by decide +kernel)
theorem kmX11_at : XMV yX11_at cX11_at 3 (some FieldType.int) 2 := ⟨lw_in 1709 (by decide +kernel) (by decide +kernel), lw_in 75 (by decide +kernel) (by decide +kernel), lw_in 92 (by decide +kernel) (by decide +kernel), lw_in 1710 (by decide +kernel) (by decide +kernel), by decide +kernel, by decide +kernel, by decide +kernel⟩
theorem kk_L_165 : Cond.methodLink RL 165 yX11_codeOf ∈ lw_g := lw_in 1711 (by decide +kernel) (by decide +kernel)
theorem kmX11_codeOf : XMV yX11_codeOf cX11_codeOf 4 (some FieldType.int) 3 := ⟨lw_in 1712 (by decide +kernel) (by decide +kernel), lw_in 1713 (by decide +kernel) (by decide +kernel), lw_in 92 (by decide +kernel) (by decide +kernel), lw_in 1714 (by decide +kernel) (by decide +kernel), by decide +kernel, by decide +kernel, by decide +kernel⟩
theorem kk_L_168 : Cond.methodLink RL 168 yX11_slot ∈ lw_g := lw_in 1715 (by decide +kernel) (by decide +kernel)
theorem kmX11_slot : XMV yX11_slot cX11_slot 5 (some FieldType.int) 4 := ⟨lw_in 1716 (by decide +kernel) (by decide +kernel), lw_in 1717 (by decide +kernel) (by decide +kernel), lw_in 92 (by decide +kernel) (by decide +kernel), lw_in 1718 (by decide +kernel) (by decide +kernel), by decide +kernel, by decide +kernel, by decide +kernel⟩
theorem kk_L_171 : Cond.methodLink RL 171 yX11_burned ∈ lw_g := lw_in 1719 (by decide +kernel) (by decide +kernel)
theorem kmX11_burned : XMV yX11_burned cX11_burned 3 (some FieldType.int) 2 := ⟨lw_in 1720 (by decide +kernel) (by decide +kernel), lw_in 1721 (by decide +kernel) (by decide +kernel), lw_in 92 (by decide +kernel) (by decide +kernel), lw_in 1722 (by decide +kernel) (by decide +kernel), by decide +kernel, by decide +kernel, by decide +kernel⟩
theorem kk_L_174 : Cond.methodLink RL 174 yX11_root ∈ lw_g := lw_in 1723 (by decide +kernel) (by decide +kernel)
theorem kmX11_root : XMV yX11_root cX11_root 3 (some FieldType.int) 2 := ⟨lw_in 1724 (by decide +kernel) (by decide +kernel), lw_in 1725 (by decide +kernel) (by decide +kernel), lw_in 92 (by decide +kernel) (by decide +kernel), lw_in 1726 (by decide +kernel) (by decide +kernel), by decide +kernel, by decide +kernel, by decide +kernel⟩
theorem kk_L_177 : Cond.methodLink RL 177 yX11_rootAnew ∈ lw_g := lw_in 1727 (by decide +kernel) (by decide +kernel)
theorem kmX11_rootAnew : XMV yX11_rootAnew cX11_rootAnew 3 (some FieldType.int) 2 := ⟨lw_in 1728 (by decide +kernel) (by decide +kernel), lw_in 1729 (by decide +kernel) (by decide +kernel), lw_in 92 (by decide +kernel) (by decide +kernel), lw_in 1730 (by decide +kernel) (by decide +kernel), by decide +kernel, by decide +kernel, by decide +kernel⟩
theorem kk_11_371 : Cond.methodLink RX11 371 yX11_root ∈ lw_g := lw_in 1731 (by decide +kernel) (by decide +kernel)
theorem kk_L_180 : Cond.methodLink RL 180 yX11_leaf ∈ lw_g := lw_in 1732 (by decide +kernel) (by decide +kernel)
theorem kmX11_leaf : XMV yX11_leaf cX11_leaf 4 (some FieldType.int) 3 := ⟨lw_in 1733 (by decide +kernel) (by decide +kernel), lw_in 1734 (by decide +kernel) (by decide +kernel), lw_in 92 (by decide +kernel) (by decide +kernel), lw_in 1735 (by decide +kernel) (by decide +kernel), by decide +kernel, by decide +kernel, by decide +kernel⟩
theorem kk_L_183 : Cond.methodLink RL 183 yX11_proof ∈ lw_g := lw_in 1736 (by decide +kernel) (by decide +kernel)
theorem kmX11_proof : XMV yX11_proof cX11_proof 6 (some FieldType.int) 4 := ⟨lw_in 1737 (by decide +kernel) (by decide +kernel), lw_in 1738 (by decide +kernel) (by decide +kernel), lw_in 92 (by decide +kernel) (by decide +kernel), lw_in 1739 (by decide +kernel) (by decide +kernel), by decide +kernel, by decide +kernel, by decide +kernel⟩
theorem kk_L_187 : Cond.methodLink RL 187 yX11_proves ∈ lw_g := lw_in 1740 (by decide +kernel) (by decide +kernel)
theorem kmX11_proves : XMV yX11_proves cX11_proves 12 (some FieldType.boolean) 8 := ⟨lw_in 1741 (by decide +kernel) (by decide +kernel), lw_in 1742 (by decide +kernel) (by decide +kernel), lw_in 92 (by decide +kernel) (by decide +kernel), lw_in 1743 (by decide +kernel) (by decide +kernel), by decide +kernel, by decide +kernel, by decide +kernel⟩
theorem kc_11_374 : Cond.constant RX11 374 (1000002 : Int32) ∈ lw_g := lw_in 1744 (by decide +kernel) (by decide +kernel)
theorem kk_11_375 : Cond.methodLink RX11 375 yX11_up ∈ lw_g := lw_in 1745 (by decide +kernel) (by decide +kernel)
theorem kmX11_up : XMV yX11_up cX11_up 5 (some FieldType.int) 4 := ⟨lw_in 1747 (by decide +kernel) (by decide +kernel), lw_in 76 (by decide +kernel) (by decide +kernel), lw_in 92 (by decide +kernel) (by decide +kernel), lw_in 1748 (by decide +kernel) (by decide +kernel), by decide +kernel, by decide +kernel, by decide +kernel⟩
theorem kk_L_190 : Cond.methodLink RL 190 yX11_prune ∈ lw_g := lw_in 1749 (by decide +kernel) (by decide +kernel)
theorem kmX11_prune : XMV yX11_prune cX11_prune 5 (some FieldType.int) 1 := ⟨lw_in 1750 (by decide +kernel) (by decide +kernel), lw_in 1751 (by decide +kernel) (by decide +kernel), lw_in 92 (by decide +kernel) (by decide +kernel), lw_in 1752 (by decide +kernel) (by decide +kernel), by decide +kernel, by decide +kernel, by decide +kernel⟩
theorem kk_L_193 : Cond.methodLink RL 193 yX11_vote ∈ lw_g := lw_in 1753 (by decide +kernel) (by decide +kernel)
theorem kmX11_vote : XMV yX11_vote cX11_vote 11 (some FieldType.boolean) 4 := ⟨lw_in 1754 (by decide +kernel) (by decide +kernel), lw_in 1755 (by decide +kernel) (by decide +kernel), lw_in 92 (by decide +kernel) (by decide +kernel), lw_in 1756 (by decide +kernel) (by decide +kernel), by decide +kernel, by decide +kernel, by decide +kernel⟩
theorem kk_11_381 : Cond.methodLink RX11 381 yX11_surrounds ∈ lw_g := lw_in 1757 (by decide +kernel) (by decide +kernel)
theorem kmX11_surrounds : XMV yX11_surrounds cX11_surrounds 6 (some FieldType.boolean) 5 := ⟨lw_in 1759 (by decide +kernel) (by decide +kernel), lw_in 77 (by decide +kernel) (by decide +kernel), lw_in 92 (by decide +kernel) (by decide +kernel), lw_in 1760 (by decide +kernel) (by decide +kernel), by decide +kernel, by decide +kernel, by decide +kernel⟩
theorem kk_11_385 : Cond.methodLink RX11 385 yX11_justify ∈ lw_g := lw_in 1761 (by decide +kernel) (by decide +kernel)
theorem kmX11_justify : XMV yX11_justify cX11_justify 8 none 1 := ⟨lw_in 1763 (by decide +kernel) (by decide +kernel), lw_in 78 (by decide +kernel) (by decide +kernel), lw_in 92 (by decide +kernel) (by decide +kernel), lw_in 1764 (by decide +kernel) (by decide +kernel), by decide +kernel, by decide +kernel, by decide +kernel⟩
theorem kk_11_378 : Cond.methodLink RX11 378 yX11_behind ∈ lw_g := lw_in 1765 (by decide +kernel) (by decide +kernel)
theorem kmX11_behind : XMV yX11_behind cX11_behind 9 (some FieldType.int) 3 := ⟨lw_in 1767 (by decide +kernel) (by decide +kernel), lw_in 79 (by decide +kernel) (by decide +kernel), lw_in 92 (by decide +kernel) (by decide +kernel), lw_in 1768 (by decide +kernel) (by decide +kernel), by decide +kernel, by decide +kernel, by decide +kernel⟩
theorem kk_L_196 : Cond.methodLink RL 196 yX11_isJustified ∈ lw_g := lw_in 1769 (by decide +kernel) (by decide +kernel)
theorem kmX11_isJustified : XMV yX11_isJustified cX11_isJustified 3 (some FieldType.boolean) 2 := ⟨lw_in 1770 (by decide +kernel) (by decide +kernel), lw_in 1771 (by decide +kernel) (by decide +kernel), lw_in 92 (by decide +kernel) (by decide +kernel), lw_in 1772 (by decide +kernel) (by decide +kernel), by decide +kernel, by decide +kernel, by decide +kernel⟩
theorem kk_L_199 : Cond.methodLink RL 199 yX11_lastFinal ∈ lw_g := lw_in 1773 (by decide +kernel) (by decide +kernel)
theorem kmX11_lastFinal : XMV yX11_lastFinal cX11_lastFinal 2 (some FieldType.int) 1 := ⟨lw_in 1774 (by decide +kernel) (by decide +kernel), lw_in 1775 (by decide +kernel) (by decide +kernel), lw_in 92 (by decide +kernel) (by decide +kernel), lw_in 1776 (by decide +kernel) (by decide +kernel), by decide +kernel, by decide +kernel, by decide +kernel⟩
theorem kk_L_202 : Cond.methodLink RL 202 yX11_stake ∈ lw_g := lw_in 1777 (by decide +kernel) (by decide +kernel)
theorem kmX11_stake : XMV yX11_stake cX11_stake 3 (some FieldType.int) 2 := ⟨lw_in 1778 (by decide +kernel) (by decide +kernel), lw_in 1779 (by decide +kernel) (by decide +kernel), lw_in 92 (by decide +kernel) (by decide +kernel), lw_in 1780 (by decide +kernel) (by decide +kernel), by decide +kernel, by decide +kernel, by decide +kernel⟩
def xnm : List (String × Nat × MethodName × String) := [(RX10, 9, yX5_init, "ForkBridge"), (RX0, 11, yX6_init, "ForkBridge"), (RX4, 38, yX3_init, "ForkBridge"), (RX3, 20, yX6_init, "ForkBridge"), (RX8, 17, yX9_init, "ForkBridge"), (RX6, 24, yX10_put, "ForkBridge"), (RX0, 82, yX10_at, "ForkBridge"), (RX0, 96, yX10_nodeOver, "ForkBridge"), (RX6, 46, yX10_at, "ForkBridge"), (RX6, 50, yX10_mix, "ForkBridge"), (RX5, 21, yX10_at, "ForkBridge"), (RX5, 29, yX10_put, "ForkBridge"), (RX7, 80, yX10_at, "ForkBridge"), (RX4, 129, yX10_at, "ForkBridge"), (RX4, 153, yX10_put, "ForkBridge"), (RX3, 50, yX10_put, "ForkBridge"), (RX3, 67, yX10_at, "ForkBridge"), (RX0, 78, yX10_put, "ForkBridge"), (RX1, 173, yX10_nodeOver, "ForkBridge")]
def xnf : List (String × Nat × String × String × String × String) := [("ForkBridge$Machine", 207, "ForkBridge", "STEP_GAS", "[I", "ForkBridge"), ("ForkBridge$Frame", 64, "ForkBridge", "TAKEN", "[I", "ForkBridge"), ("ForkBridge$Frame", 71, "ForkBridge", "PUSHED", "[I", "ForkBridge")]
theorem ke_10_9 : (RX10, 9, yX5_init, "ForkBridge") ∈ xnm := List.mem_of_getElem? (i := 0) rfl
theorem ke_0_11 : (RX0, 11, yX6_init, "ForkBridge") ∈ xnm := List.mem_of_getElem? (i := 1) rfl
theorem ke_4_38 : (RX4, 38, yX3_init, "ForkBridge") ∈ xnm := List.mem_of_getElem? (i := 2) rfl
theorem ke_3_20 : (RX3, 20, yX6_init, "ForkBridge") ∈ xnm := List.mem_of_getElem? (i := 3) rfl
theorem ke_8_17 : (RX8, 17, yX9_init, "ForkBridge") ∈ xnm := List.mem_of_getElem? (i := 4) rfl
theorem ke_6_24 : (RX6, 24, yX10_put, "ForkBridge") ∈ xnm := List.mem_of_getElem? (i := 5) rfl
theorem ke_0_82 : (RX0, 82, yX10_at, "ForkBridge") ∈ xnm := List.mem_of_getElem? (i := 6) rfl
theorem ke_0_96 : (RX0, 96, yX10_nodeOver, "ForkBridge") ∈ xnm := List.mem_of_getElem? (i := 7) rfl
theorem ke_6_46 : (RX6, 46, yX10_at, "ForkBridge") ∈ xnm := List.mem_of_getElem? (i := 8) rfl
theorem ke_6_50 : (RX6, 50, yX10_mix, "ForkBridge") ∈ xnm := List.mem_of_getElem? (i := 9) rfl
theorem ke_5_21 : (RX5, 21, yX10_at, "ForkBridge") ∈ xnm := List.mem_of_getElem? (i := 10) rfl
theorem ke_5_29 : (RX5, 29, yX10_put, "ForkBridge") ∈ xnm := List.mem_of_getElem? (i := 11) rfl
theorem ke_7_80 : (RX7, 80, yX10_at, "ForkBridge") ∈ xnm := List.mem_of_getElem? (i := 12) rfl
theorem ke_4_129 : (RX4, 129, yX10_at, "ForkBridge") ∈ xnm := List.mem_of_getElem? (i := 13) rfl
theorem ke_4_153 : (RX4, 153, yX10_put, "ForkBridge") ∈ xnm := List.mem_of_getElem? (i := 14) rfl
theorem ke_3_50 : (RX3, 50, yX10_put, "ForkBridge") ∈ xnm := List.mem_of_getElem? (i := 15) rfl
theorem ke_3_67 : (RX3, 67, yX10_at, "ForkBridge") ∈ xnm := List.mem_of_getElem? (i := 16) rfl
theorem ke_0_78 : (RX0, 78, yX10_put, "ForkBridge") ∈ xnm := List.mem_of_getElem? (i := 17) rfl
theorem ke_1_173 : (RX1, 173, yX10_nodeOver, "ForkBridge") ∈ xnm := List.mem_of_getElem? (i := 18) rfl
theorem kg_4_207 : ("ForkBridge$Machine", 207, "ForkBridge", "STEP_GAS", "[I", "ForkBridge") ∈ xnf := List.mem_of_getElem? (i := 0) rfl
theorem kg_3_64 : ("ForkBridge$Frame", 64, "ForkBridge", "TAKEN", "[I", "ForkBridge") ∈ xnf := List.mem_of_getElem? (i := 1) rfl
theorem kg_3_71 : ("ForkBridge$Frame", 71, "ForkBridge", "PUSHED", "[I", "ForkBridge") ∈ xnf := List.mem_of_getElem? (i := 2) rfl
theorem xnm_tbl : ∀ q ∈ xnm, Cond.methodLinkNest q.1 q.2.1 q.2.2.1 q.2.2.2 ∈ lw_tbl := by
  intro q hq
  simp only [xnm, List.mem_cons, List.not_mem_nil, or_false] at hq
  rcases hq with rfl | rfl | rfl | rfl | rfl | rfl | rfl | rfl | rfl | rfl | rfl | rfl | rfl | rfl | rfl | rfl | rfl | rfl | rfl
  · exact List.mem_of_getElem? (i := 111) (by decide +kernel)
  · exact List.mem_of_getElem? (i := 142) (by decide +kernel)
  · exact List.mem_of_getElem? (i := 265) (by decide +kernel)
  · exact List.mem_of_getElem? (i := 270) (by decide +kernel)
  · exact List.mem_of_getElem? (i := 378) (by decide +kernel)
  · exact List.mem_of_getElem? (i := 485) (by decide +kernel)
  · exact List.mem_of_getElem? (i := 500) (by decide +kernel)
  · exact List.mem_of_getElem? (i := 506) (by decide +kernel)
  · exact List.mem_of_getElem? (i := 513) (by decide +kernel)
  · exact List.mem_of_getElem? (i := 514) (by decide +kernel)
  · exact List.mem_of_getElem? (i := 662) (by decide +kernel)
  · exact List.mem_of_getElem? (i := 686) (by decide +kernel)
  · exact List.mem_of_getElem? (i := 841) (by decide +kernel)
  · exact List.mem_of_getElem? (i := 870) (by decide +kernel)
  · exact List.mem_of_getElem? (i := 879) (by decide +kernel)
  · exact List.mem_of_getElem? (i := 888) (by decide +kernel)
  · exact List.mem_of_getElem? (i := 925) (by decide +kernel)
  · exact List.mem_of_getElem? (i := 1003) (by decide +kernel)
  · exact List.mem_of_getElem? (i := 1126) (by decide +kernel)
theorem xnf_tbl : ∀ q ∈ xnf, Cond.fieldLinkNest q.1 q.2.1 q.2.2.1 q.2.2.2.1 q.2.2.2.2.1 q.2.2.2.2.2 ∈ lw_tbl := by
  intro q hq
  simp only [xnf, List.mem_cons, List.not_mem_nil, or_false] at hq
  rcases hq with rfl | rfl | rfl
  · exact List.mem_of_getElem? (i := 908) (by decide +kernel)
  · exact List.mem_of_getElem? (i := 930) (by decide +kernel)
  · exact List.mem_of_getElem? (i := 932) (by decide +kernel)
