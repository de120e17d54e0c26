/-! ===== what the tables say, by their places ===== -/
theorem mgw {w : Cond} {T : List Cond} (hT : ∀ w ∈ T, w ∈ lw_tbl) (i : Nat) (h : T[i]? = some w) (hg : goodWord w = true) : w ∈ gw := List.mem_filter.mpr ⟨hT w (List.mem_of_getElem? h), hg⟩
theorem mnw {w : Cond} {T : List Cond} (hT : ∀ w ∈ T, w ∈ lw_tbl) (i : Nat) (h : T[i]? = some w) (hg : isNest w = true) : w ∈ nw := List.mem_filter.mpr ⟨hT w (List.mem_of_getElem? h), hg⟩
theorem ti_1 : ∀ w ∈ tables_1_1, w ∈ lw_tbl := fun w h => List.mem_append_right _ (List.mem_append_left _ (h))
theorem ti_2 : ∀ w ∈ tables_1_2, w ∈ lw_tbl := fun w h => List.mem_append_right _ (List.mem_append_right _ (List.mem_append_left _ (h)))
theorem ti_3 : ∀ w ∈ tables_1_3, w ∈ lw_tbl := fun w h => List.mem_append_right _ (List.mem_append_right _ (List.mem_append_right _ (List.mem_append_left _ (h))))
theorem ti_4 : ∀ w ∈ tables_1_4, w ∈ lw_tbl := fun w h => List.mem_append_right _ (List.mem_append_right _ (List.mem_append_right _ (List.mem_append_right _ (List.mem_append_left _ (h)))))
theorem ti_5 : ∀ w ∈ tables_1_5, w ∈ lw_tbl := fun w h => List.mem_append_right _ (List.mem_append_right _ (List.mem_append_right _ (List.mem_append_right _ (List.mem_append_right _ (List.mem_append_left _ (h))))))
theorem ti_6 : ∀ w ∈ tables_1_6, w ∈ lw_tbl := fun w h => List.mem_append_right _ (List.mem_append_right _ (List.mem_append_right _ (List.mem_append_right _ (List.mem_append_right _ (List.mem_append_right _ (List.mem_append_left _ (h)))))))
theorem ti_7 : ∀ w ∈ tables_1_7, w ∈ lw_tbl := fun w h => List.mem_append_right _ (List.mem_append_right _ (List.mem_append_right _ (List.mem_append_right _ (List.mem_append_right _ (List.mem_append_right _ (List.mem_append_right _ (List.mem_append_left _ (h))))))))
theorem ti_8 : ∀ w ∈ tables_1_8, w ∈ lw_tbl := fun w h => List.mem_append_right _ (List.mem_append_right _ (List.mem_append_right _ (List.mem_append_right _ (List.mem_append_right _ (List.mem_append_right _ (List.mem_append_right _ (List.mem_append_right _ (List.mem_append_left _ (h)))))))))
theorem ti_9 : ∀ w ∈ tables_1_9, w ∈ lw_tbl := fun w h => List.mem_append_right _ (List.mem_append_right _ (List.mem_append_right _ (List.mem_append_right _ (List.mem_append_right _ (List.mem_append_right _ (List.mem_append_right _ (List.mem_append_right _ (List.mem_append_right _ (h)))))))))
theorem tp_1 : ∀ w ∈ k2_sels lw_privs_1, w ∈ lw_tbl := fun w h => List.mem_append_left _ (by
  obtain ⟨q, h1, h2⟩ := List.mem_map.mp h
  have h := h1
  exact List.mem_map.mpr ⟨q, List.mem_append_left _ (h), h2⟩)
theorem tp_2 : ∀ w ∈ k2_sels lw_privs_2, w ∈ lw_tbl := fun w h => List.mem_append_left _ (by
  obtain ⟨q, h1, h2⟩ := List.mem_map.mp h
  have h := h1
  exact List.mem_map.mpr ⟨q, List.mem_append_right _ (List.mem_append_left _ (h)), h2⟩)
theorem tp_3 : ∀ w ∈ k2_sels lw_privs_3, w ∈ lw_tbl := fun w h => List.mem_append_left _ (by
  obtain ⟨q, h1, h2⟩ := List.mem_map.mp h
  have h := h1
  exact List.mem_map.mpr ⟨q, List.mem_append_right _ (List.mem_append_right _ (List.mem_append_left _ (h))), h2⟩)
theorem tp_4 : ∀ w ∈ k2_sels lw_privs_4, w ∈ lw_tbl := fun w h => List.mem_append_left _ (by
  obtain ⟨q, h1, h2⟩ := List.mem_map.mp h
  have h := h1
  exact List.mem_map.mpr ⟨q, List.mem_append_right _ (List.mem_append_right _ (List.mem_append_right _ (List.mem_append_left _ (h)))), h2⟩)
theorem tp_5 : ∀ w ∈ k2_sels lw_privs_5, w ∈ lw_tbl := fun w h => List.mem_append_left _ (by
  obtain ⟨q, h1, h2⟩ := List.mem_map.mp h
  have h := h1
  exact List.mem_map.mpr ⟨q, List.mem_append_right _ (List.mem_append_right _ (List.mem_append_right _ (List.mem_append_right _ (List.mem_append_left _ (h))))), h2⟩)
theorem tp_6 : ∀ w ∈ k2_sels lw_privs_6, w ∈ lw_tbl := fun w h => List.mem_append_left _ (by
  obtain ⟨q, h1, h2⟩ := List.mem_map.mp h
  have h := h1
  exact List.mem_map.mpr ⟨q, List.mem_append_right _ (List.mem_append_right _ (List.mem_append_right _ (List.mem_append_right _ (List.mem_append_right _ (List.mem_append_left _ (h)))))), h2⟩)
theorem tp_7 : ∀ w ∈ k2_sels lw_privs_7, w ∈ lw_tbl := fun w h => List.mem_append_left _ (by
  obtain ⟨q, h1, h2⟩ := List.mem_map.mp h
  have h := h1
  exact List.mem_map.mpr ⟨q, List.mem_append_right _ (List.mem_append_right _ (List.mem_append_right _ (List.mem_append_right _ (List.mem_append_right _ (List.mem_append_right _ (List.mem_append_left _ (h))))))), h2⟩)
theorem tp_8 : ∀ w ∈ k2_sels lw_privs_8, w ∈ lw_tbl := fun w h => List.mem_append_left _ (by
  obtain ⟨q, h1, h2⟩ := List.mem_map.mp h
  have h := h1
  exact List.mem_map.mpr ⟨q, List.mem_append_right _ (List.mem_append_right _ (List.mem_append_right _ (List.mem_append_right _ (List.mem_append_right _ (List.mem_append_right _ (List.mem_append_right _ (h))))))), h2⟩)
theorem gw_list (ws : List Cond) (ps : List Nat) (hp : ws = ps.filterMap (fun i => lw_tbl[i]?)) (h : ws.all goodWord = true) : ∀ w ∈ ws, w ∈ gw := by
  intro w hw
  have h1 := List.all_eq_true.mp h w hw
  rw [hp] at hw
  obtain ⟨i, -, hi⟩ := List.mem_filterMap.mp hw
  exact List.mem_filter.mpr ⟨List.mem_of_getElem? hi, h1⟩
set_option maxRecDepth 20000 in
theorem cok0 : COK 0 RX0 TX0 3 := ⟨rfl, gw_list _ [522, 524, 526] (by decide +kernel) (by decide +kernel), tyX0_ok, nmX0⟩
set_option maxRecDepth 20000 in
theorem cok1 : COK 1 RX1 TX1 6 := ⟨rfl, gw_list _ [489, 491, 493, 495, 497, 499] (by decide +kernel) (by decide +kernel), tyX1_ok, nmX1⟩
set_option maxRecDepth 20000 in
theorem cok2 : COK 2 RX2 TX2 10 := ⟨rfl, gw_list _ [253, 255, 257, 259, 261, 263, 265, 267, 269, 271] (by decide +kernel) (by decide +kernel), tyX2_ok, nmX2⟩
set_option maxRecDepth 20000 in
theorem cok3 : COK 3 RX3 TX3 1 := ⟨rfl, gw_list _ [476] (by decide +kernel) (by decide +kernel), tyX3_ok, nmX3⟩
set_option maxRecDepth 20000 in
theorem cok4 : COK 4 RX4 TX4 9 := ⟨rfl, gw_list _ [324, 326, 328, 330, 332, 334, 336, 338, 340] (by decide +kernel) (by decide +kernel), tyX4_ok, nmX4⟩
set_option maxRecDepth 20000 in
theorem cok5 : COK 5 RX5 TX5 4 := ⟨rfl, gw_list _ [454, 456, 458, 460] (by decide +kernel) (by decide +kernel), tyX5_ok, nmX5⟩
set_option maxRecDepth 20000 in
theorem cok6 : COK 6 RX6 TX6 4 := ⟨rfl, gw_list _ [544, 546, 548, 550] (by decide +kernel) (by decide +kernel), tyX6_ok, nmX6⟩
set_option maxRecDepth 20000 in
theorem cok7 : COK 7 RX7 TX7 1 := ⟨rfl, gw_list _ [510] (by decide +kernel) (by decide +kernel), tyX7_ok, nmX7⟩
set_option maxRecDepth 20000 in
theorem cok8 : COK 8 RX8 TX8 7 := ⟨rfl, gw_list _ [288, 290, 292, 294, 296, 298, 300] (by decide +kernel) (by decide +kernel), tyX8_ok, nmX8⟩
set_option maxRecDepth 20000 in
theorem cok9 : COK 9 RX9 TX9 5 := ⟨rfl, gw_list _ [222, 224, 226, 228, 230] (by decide +kernel) (by decide +kernel), tyX9_ok, nmX9⟩
set_option maxRecDepth 20000 in
theorem cok10 : COK 10 RX10 TX10 17 := ⟨rfl, gw_list _ [402, 404, 406, 408, 410, 412, 414, 416, 418, 420, 422, 424, 426, 428, 430, 432, 434] (by decide +kernel) (by decide +kernel), tyX10_ok, nmX10⟩
set_option maxRecDepth 20000 in
theorem cok11 : COK 11 RX11 TX11 15 := ⟨rfl, gw_list _ [568, 570, 572, 574, 576, 578, 580, 582, 584, 586, 588, 590, 592, 594, 596] (by decide +kernel) (by decide +kernel), tyX11_ok, nmX11⟩
set_option maxRecDepth 20000 in
theorem cok12 : COK 12 RX12 TX12 94 := ⟨rfl, gw_list _ [1474, 1476, 1478, 1480, 1482, 1484, 1486, 1488, 1490, 1492, 1494, 1496, 1498, 1500, 1502, 1504, 1506, 1508, 1510, 1512, 1514, 1516, 1518, 1520, 1522, 1524, 1526, 1528, 1530, 1532, 1534, 1536, 1538, 1540, 1542, 1544, 1546, 1548, 1550, 1552, 1554, 1556, 1558, 1560, 1562, 1564, 1566, 1568, 1570, 1572, 1574, 1576, 1578, 1580, 1582, 1584, 1586, 1588, 1590, 1592, 1594, 1596, 1598, 1600, 1602, 1604, 1606, 1608, 1610, 1612, 1614, 1616, 1618, 1620, 1622, 1624, 1626, 1628, 1630, 1632, 1634, 1636, 1638, 1640, 1642, 1644, 1646, 1648, 1650, 1652, 1654, 1656, 1658, 1660] (by decide +kernel) (by decide +kernel), tyX12_ok, nmX12⟩
theorem loX11_1 : Cond.methodLink RX11 1 Lib.objectInit ∈ gw := mgw ti_1 27 rfl rfl
theorem flX11_9 : Cond.fieldLink RX11 9 (TX11 0).1 (TX11 0).2.1 (TX11 0).2.2.1 ∈ gw := mgw ti_2 186 rfl rfl
theorem fkX11_9 : FOK RX11 9 11 0 := ⟨RX11, TX11, 15, cok11, by decide, Or.inl (mgw ti_2 186 rfl rfl)⟩
theorem fkX11_13 : FOK RX11 13 11 1 := ⟨RX11, TX11, 15, cok11, by decide, Or.inl (mgw ti_2 187 rfl rfl)⟩
theorem fkX11_17 : FOK RX11 17 11 2 := ⟨RX11, TX11, 15, cok11, by decide, Or.inl (mgw ti_2 188 rfl rfl)⟩
theorem knX11_20 : Cond.classLink RX11 20 RX9 ∈ gw := mgw ti_1 30 rfl rfl
theorem kiX9 : Cond.instantiable RX9 5 ∈ gw := mgw ti_1 31 rfl rfl
theorem kzX9 : Cond.initialized RX9 ∈ gw := mgw ti_1 2 rfl rfl
theorem lkX11_22 : LinkOK RX11 22 yX9_init := Or.inl (mgw ti_1 32 rfl rfl)
theorem okX9_init : InitOK yX9_init cX9_init 4 0 := ⟨mgw ti_1 33 rfl rfl, mgw ti_1 2 rfl rfl, mgw ti_1 34 rfl rfl, ⟨by decide +kernel, by decide +kernel, by decide +kernel⟩, by decide, rfl⟩
theorem flX11_23 : Cond.fieldLink RX11 23 (TX11 3).1 (TX11 3).2.1 (TX11 3).2.2.1 ∈ gw := mgw ti_2 189 rfl rfl
theorem fkX11_23 : FOK RX11 23 11 3 := ⟨RX11, TX11, 15, cok11, by decide, Or.inl (mgw ti_2 189 rfl rfl)⟩
theorem knX11_27 : Cond.classLink RX11 27 RX2 ∈ gw := mgw ti_1 109 rfl rfl
theorem kiX2 : Cond.instantiable RX2 10 ∈ gw := mgw ti_1 110 rfl rfl
theorem kzX2 : Cond.initialized RX2 ∈ gw := mgw ti_1 7 rfl rfl
theorem lkX11_29 : LinkOK RX11 29 yX2_init := Or.inl (mgw ti_1 111 rfl rfl)
theorem okX2_init : InitOK yX2_init cX2_init 2 1 := ⟨mgw ti_1 112 rfl rfl, mgw ti_1 7 rfl rfl, mgw ti_1 113 rfl rfl, ⟨by decide +kernel, by decide +kernel, by decide +kernel⟩, by decide, rfl⟩
theorem flX11_32 : Cond.fieldLink RX11 32 (TX11 4).1 (TX11 4).2.1 (TX11 4).2.2.1 ∈ gw := mgw ti_2 190 rfl rfl
theorem fkX11_32 : FOK RX11 32 11 4 := ⟨RX11, TX11, 15, cok11, by decide, Or.inl (mgw ti_2 190 rfl rfl)⟩
theorem knX11_36 : Cond.classLink RX11 36 RX8 ∈ gw := mgw ti_1 147 rfl rfl
theorem kiX8 : Cond.instantiable RX8 7 ∈ gw := mgw ti_1 148 rfl rfl
theorem kzX8 : Cond.initialized RX8 ∈ gw := mgw ti_1 8 rfl rfl
theorem lkX11_38 : LinkOK RX11 38 yX8_init := Or.inl (mgw ti_1 149 rfl rfl)
theorem okX8_init : InitOK yX8_init cX8_init 2 1 := ⟨mgw ti_1 150 rfl rfl, mgw ti_1 8 rfl rfl, mgw ti_1 151 rfl rfl, ⟨by decide +kernel, by decide +kernel, by decide +kernel⟩, by decide, rfl⟩
theorem flX11_39 : Cond.fieldLink RX11 39 (TX11 5).1 (TX11 5).2.1 (TX11 5).2.2.1 ∈ gw := mgw ti_2 191 rfl rfl
theorem fkX11_39 : FOK RX11 39 11 5 := ⟨RX11, TX11, 15, cok11, by decide, Or.inl (mgw ti_2 191 rfl rfl)⟩
theorem knX11_43 : Cond.classLink RX11 43 RX10 ∈ gw := mgw ti_1 176 rfl rfl
theorem kiX10 : Cond.instantiable RX10 17 ∈ gw := mgw ti_1 177 rfl rfl
theorem kzX10 : Cond.initialized RX10 ∈ gw := mgw ti_1 9 rfl rfl
theorem lkX11_45 : LinkOK RX11 45 yX10_init := Or.inl (mgw ti_1 178 rfl rfl)
theorem okX10_init : InitOK yX10_init cX10_init 1 0 := ⟨mgw ti_1 179 rfl rfl, mgw ti_1 9 rfl rfl, mgw ti_1 180 rfl rfl, ⟨by decide +kernel, by decide +kernel, by decide +kernel⟩, by decide, rfl⟩
theorem fkX11_46 : FOK RX11 46 11 6 := ⟨RX11, TX11, 15, cok11, by decide, Or.inl (mgw ti_2 192 rfl rfl)⟩
theorem fkX11_50 : FOK RX11 50 11 7 := ⟨RX11, TX11, 15, cok11, by decide, Or.inl (mgw ti_2 193 rfl rfl)⟩
theorem knX11_53 : Cond.classLink RX11 53 RX5 ∈ gw := mgw ti_2 70 rfl rfl
theorem kiX5 : Cond.instantiable RX5 4 ∈ gw := mgw ti_2 71 rfl rfl
theorem kzX5 : Cond.initialized RX5 ∈ gw := mgw ti_1 12 rfl rfl
theorem lkX11_55 : LinkOK RX11 55 yX5_init := Or.inl (mgw ti_2 72 rfl rfl)
theorem okX5_init : InitOK yX5_init cX5_init 1 0 := ⟨mgw ti_2 73 rfl rfl, mgw ti_1 12 rfl rfl, mgw ti_2 74 rfl rfl, ⟨by decide +kernel, by decide +kernel, by decide +kernel⟩, by decide, rfl⟩
theorem flX11_56 : Cond.fieldLink RX11 56 (TX11 8).1 (TX11 8).2.1 (TX11 8).2.2.1 ∈ gw := mgw ti_2 194 rfl rfl
theorem fkX11_56 : FOK RX11 56 11 8 := ⟨RX11, TX11, 15, cok11, by decide, Or.inl (mgw ti_2 194 rfl rfl)⟩
theorem knX11_60 : Cond.classLink RX11 60 RX1 ∈ gw := mgw ti_2 96 rfl rfl
theorem kiX1 : Cond.instantiable RX1 6 ∈ gw := mgw ti_2 97 rfl rfl
theorem kzX1 : Cond.initialized RX1 ∈ gw := mgw ti_1 13 rfl rfl
theorem lkX11_62 : LinkOK RX11 62 yX1_init := Or.inr ⟨"OnlyUpward", mnw ti_2 98 rfl rfl⟩
theorem okX1_init : InitOK yX1_init cX1_init 1 0 := ⟨mgw ti_2 99 rfl rfl, mgw ti_1 13 rfl rfl, mgw ti_2 100 rfl rfl, ⟨by decide +kernel, by decide +kernel, by decide +kernel⟩, by decide, rfl⟩
theorem flX11_63 : Cond.fieldLink RX11 63 (TX11 9).1 (TX11 9).2.1 (TX11 9).2.2.1 ∈ gw := mgw ti_2 195 rfl rfl
theorem fkX11_63 : FOK RX11 63 11 9 := ⟨RX11, TX11, 15, cok11, by decide, Or.inl (mgw ti_2 195 rfl rfl)⟩
theorem fkX11_67 : FOK RX11 67 11 10 := ⟨RX11, TX11, 15, cok11, by decide, Or.inl (mgw ti_2 196 rfl rfl)⟩
theorem flX11_71 : Cond.fieldLink RX11 71 (TX11 11).1 (TX11 11).2.1 (TX11 11).2.2.1 ∈ gw := mgw ti_2 197 rfl rfl
theorem fkX11_71 : FOK RX11 71 11 11 := ⟨RX11, TX11, 15, cok11, by decide, Or.inl (mgw ti_2 197 rfl rfl)⟩
theorem knX11_74 : Cond.classLink RX11 74 RX7 ∈ gw := mgw ti_2 135 rfl rfl
theorem kiX7 : Cond.instantiable RX7 1 ∈ gw := mgw ti_2 136 rfl rfl
theorem kzX7 : Cond.initialized RX7 ∈ gw := mgw ti_1 15 rfl rfl
theorem lkX11_76 : LinkOK RX11 76 yX7_init := Or.inr ⟨"OnlyUpward", mnw ti_2 137 rfl rfl⟩
theorem okX7_init : InitOK yX7_init cX7_init 1 0 := ⟨mgw ti_2 138 rfl rfl, mgw ti_1 15 rfl rfl, mgw ti_2 139 rfl rfl, ⟨by decide +kernel, by decide +kernel, by decide +kernel⟩, by decide, rfl⟩
theorem flX11_77 : Cond.fieldLink RX11 77 (TX11 12).1 (TX11 12).2.1 (TX11 12).2.2.1 ∈ gw := mgw ti_2 198 rfl rfl
theorem fkX11_77 : FOK RX11 77 11 12 := ⟨RX11, TX11, 15, cok11, by decide, Or.inl (mgw ti_2 198 rfl rfl)⟩
theorem knX11_81 : Cond.classLink RX11 81 RX0 ∈ gw := mgw ti_2 146 rfl rfl
theorem kiX0 : Cond.instantiable RX0 3 ∈ gw := mgw ti_2 147 rfl rfl
theorem kzX0 : Cond.initialized RX0 ∈ gw := mgw ti_1 16 rfl rfl
theorem lkX11_83 : LinkOK RX11 83 yX0_init := Or.inr ⟨"OnlyUpward", mnw ti_2 148 rfl rfl⟩
theorem okX0_init : InitOK yX0_init cX0_init 1 0 := ⟨mgw ti_2 149 rfl rfl, mgw ti_1 16 rfl rfl, mgw ti_2 150 rfl rfl, ⟨by decide +kernel, by decide +kernel, by decide +kernel⟩, by decide, rfl⟩
theorem flX11_84 : Cond.fieldLink RX11 84 (TX11 13).1 (TX11 13).2.1 (TX11 13).2.2.1 ∈ gw := mgw ti_2 199 rfl rfl
theorem fkX11_84 : FOK RX11 84 11 13 := ⟨RX11, TX11, 15, cok11, by decide, Or.inl (mgw ti_2 199 rfl rfl)⟩
theorem knX11_88 : Cond.classLink RX11 88 RX6 ∈ gw := mgw ti_2 162 rfl rfl
theorem kiX6 : Cond.instantiable RX6 4 ∈ gw := mgw ti_2 163 rfl rfl
theorem kzX6 : Cond.initialized RX6 ∈ gw := mgw ti_1 17 rfl rfl
theorem lkX11_90 : LinkOK RX11 90 yX6_init := Or.inr ⟨"OnlyUpward", mnw ti_2 164 rfl rfl⟩
theorem okX6_init : InitOK yX6_init cX6_init 1 0 := ⟨mgw ti_2 165 rfl rfl, mgw ti_1 17 rfl rfl, mgw ti_2 166 rfl rfl, ⟨by decide +kernel, by decide +kernel, by decide +kernel⟩, by decide, rfl⟩
theorem flX11_91 : Cond.fieldLink RX11 91 (TX11 14).1 (TX11 14).2.1 (TX11 14).2.2.1 ∈ gw := mgw ti_2 200 rfl rfl
theorem fkX11_91 : FOK RX11 91 11 14 := ⟨RX11, TX11, 15, cok11, by decide, Or.inl (mgw ti_2 200 rfl rfl)⟩
theorem lkX11_95 : LinkOK RX11 95 yX11_putBytes := Or.inl (mgw ti_2 236 rfl rfl)
theorem okX11_putBytes : InstOK yX11_putBytes cX11_putBytes 3 none 1 := ⟨mgw ti_2 238 rfl rfl, mgw tp_1 0 rfl rfl, mgw ti_1 1 rfl rfl, mgw ti_2 239 rfl rfl, ⟨by decide +kernel, by decide +kernel, by decide +kernel⟩, by decide⟩
theorem lkX11_99 : LinkOK RX11 99 yX9_scan := Or.inl (mgw ti_3 8 rfl rfl)
theorem okX9_scan : InstOK yX9_scan cX9_scan 5 none 2 := ⟨mgw ti_3 9 rfl rfl, mgw ti_3 10 rfl rfl, mgw ti_1 2 rfl rfl, mgw ti_3 11 rfl rfl, ⟨by decide +kernel, by decide +kernel, by decide +kernel⟩, by decide⟩
theorem lkX11_103 : LinkOK RX11 103 yX10_clear := Or.inl (mgw ti_3 43 rfl rfl)
theorem okX10_clear : InstOK yX10_clear cX10_clear 1 none 0 := ⟨mgw ti_1 217 rfl rfl, mgw ti_1 218 rfl rfl, mgw ti_1 9 rfl rfl, mgw ti_1 219 rfl rfl, ⟨by decide +kernel, by decide +kernel, by decide +kernel⟩, by decide⟩
theorem fkX11_106 : FOK RX11 106 10 12 := ⟨RX10, TX10, 17, cok10, by decide, Or.inr ⟨"OnlyUpward", mnw ti_2 30 rfl rfl⟩⟩
theorem lkX11_110 : LinkOK RX11 110 yX2_check := Or.inl (mgw ti_3 44 rfl rfl)
theorem okX2_check : InstOK yX2_check cX2_check 3 (some .int) 1 := ⟨mgw ti_3 45 rfl rfl, mgw ti_3 46 rfl rfl, mgw ti_1 7 rfl rfl, mgw ti_3 47 rfl rfl, ⟨by decide +kernel, by decide +kernel, by decide +kernel⟩, by decide⟩
theorem fkX11_114 : FOK RX11 114 2 4 := ⟨RX2, TX2, 10, cok2, by decide, Or.inr ⟨"OnlyUpward", mnw ti_1 120 rfl rfl⟩⟩
theorem lkX11_117 : LinkOK RX11 117 yX8_tellAll := Or.inl (mgw ti_3 117 rfl rfl)
theorem okX8_tellAll : InstOK yX8_tellAll cX8_tellAll 4 (some .int) 1 := ⟨mgw ti_3 118 rfl rfl, mgw ti_3 119 rfl rfl, mgw ti_1 8 rfl rfl, mgw ti_3 120 rfl rfl, ⟨by decide +kernel, by decide +kernel, by decide +kernel⟩, by decide⟩
theorem fkX11_121 : FOK RX11 121 8 6 := ⟨RX8, TX8, 7, cok8, by decide, Or.inr ⟨"OnlyUpward", mnw ti_1 160 rfl rfl⟩⟩
theorem lkX11_124 : LinkOK RX11 124 yX9_placeAt := Or.inl (mgw ti_3 202 rfl rfl)
theorem okX9_placeAt : InstOK yX9_placeAt cX9_placeAt 2 (some .int) 1 := ⟨mgw ti_3 203 rfl rfl, mgw ti_3 204 rfl rfl, mgw ti_1 2 rfl rfl, mgw ti_3 205 rfl rfl, ⟨by decide +kernel, by decide +kernel, by decide +kernel⟩, by decide⟩
theorem lkX11_128 : LinkOK RX11 128 yX11_settle := Or.inl (mgw ti_3 206 rfl rfl)
theorem okX11_settle : InstOK yX11_settle cX11_settle 2 none 0 := ⟨mgw ti_3 208 rfl rfl, mgw tp_2 7 rfl rfl, mgw ti_1 1 rfl rfl, mgw ti_3 209 rfl rfl, ⟨by decide +kernel, by decide +kernel, by decide +kernel⟩, by decide⟩
theorem lkX11_131 : LinkOK RX11 131 yX10_settle := Or.inl (mgw ti_3 210 rfl rfl)
theorem okX10_settle : InstOK yX10_settle cX10_settle 4 none 0 := ⟨mgw ti_3 211 rfl rfl, mgw ti_3 212 rfl rfl, mgw ti_1 9 rfl rfl, mgw ti_3 213 rfl rfl, ⟨by decide +kernel, by decide +kernel, by decide +kernel⟩, by decide⟩
theorem lkX11_132 : LinkOK RX11 132 yX5_clear := Or.inl (mgw ti_4 22 rfl rfl)
theorem okX5_clear : InstOK yX5_clear cX5_clear 1 none 0 := ⟨mgw ti_2 77 rfl rfl, mgw ti_2 78 rfl rfl, mgw ti_1 12 rfl rfl, mgw ti_2 79 rfl rfl, ⟨by decide +kernel, by decide +kernel, by decide +kernel⟩, by decide⟩
theorem lkX11_133 : LinkOK RX11 133 yX0_forget := Or.inl (mgw ti_4 23 rfl rfl)
theorem okX0_forget : InstOK yX0_forget cX0_forget 1 none 0 := ⟨mgw ti_4 24 rfl rfl, mgw ti_4 25 rfl rfl, mgw ti_1 16 rfl rfl, mgw ti_4 26 rfl rfl, ⟨by decide +kernel, by decide +kernel, by decide +kernel⟩, by decide⟩
theorem lkX11_136 : LinkOK RX11 136 yX6_forget := Or.inl (mgw ti_4 27 rfl rfl)
theorem okX6_forget : InstOK yX6_forget cX6_forget 1 none 0 := ⟨mgw ti_4 28 rfl rfl, mgw ti_4 29 rfl rfl, mgw ti_1 17 rfl rfl, mgw ti_4 30 rfl rfl, ⟨by decide +kernel, by decide +kernel, by decide +kernel⟩, by decide⟩
theorem fkX11_137 : FOK RX11 137 10 0 := ⟨RX10, TX10, 17, cok10, by decide, Or.inr ⟨"OnlyUpward", mnw ti_1 235 rfl rfl⟩⟩
theorem lkX11_141 : LinkOK RX11 141 yX11_isOne := Or.inl (mgw ti_4 39 rfl rfl)
theorem okX11_isOne : InstOK yX11_isOne cX11_isOne 3 (some .boolean) 2 := ⟨mgw ti_4 41 rfl rfl, mgw tp_2 11 rfl rfl, mgw ti_1 1 rfl rfl, mgw ti_4 42 rfl rfl, ⟨by decide +kernel, by decide +kernel, by decide +kernel⟩, by decide⟩
theorem lkX11_145 : LinkOK RX11 145 yX11_isHour := Or.inl (mgw ti_4 43 rfl rfl)
theorem okX11_isHour : StatOK yX11_isHour cX11_isHour 1 (some .boolean) 1 := ⟨mgw ti_4 44 rfl rfl, mgw ti_1 1 rfl rfl, mgw ti_4 45 rfl rfl, ⟨by decide +kernel, by decide +kernel, by decide +kernel⟩, by decide⟩
theorem lkX11_149 : LinkOK RX11 149 yX10_ageAt := Or.inl (mgw ti_4 46 rfl rfl)
theorem okX10_ageAt : InstOK yX10_ageAt cX10_ageAt 3 (some .int) 2 := ⟨mgw ti_4 7 rfl rfl, mgw ti_4 8 rfl rfl, mgw ti_1 9 rfl rfl, mgw ti_4 9 rfl rfl, ⟨by decide +kernel, by decide +kernel, by decide +kernel⟩, by decide⟩
theorem lkX11_153 : LinkOK RX11 153 yX10_placeOf := Or.inl (mgw ti_4 51 rfl rfl)
theorem okX10_placeOf : InstOK yX10_placeOf cX10_placeOf 3 (some .int) 2 := ⟨mgw ti_3 233 rfl rfl, mgw ti_3 234 rfl rfl, mgw ti_1 9 rfl rfl, mgw ti_3 235 rfl rfl, ⟨by decide +kernel, by decide +kernel, by decide +kernel⟩, by decide⟩
theorem lkX11_156 : LinkOK RX11 156 yX10_hearers := Or.inl (mgw ti_4 56 rfl rfl)
theorem okX10_hearers : InstOK yX10_hearers cX10_hearers 3 (some .int) 2 := ⟨mgw ti_4 57 rfl rfl, mgw ti_4 58 rfl rfl, mgw ti_1 9 rfl rfl, mgw ti_4 59 rfl rfl, ⟨by decide +kernel, by decide +kernel, by decide +kernel⟩, by decide⟩
theorem lkX11_159 : LinkOK RX11 159 yX11_areTwo := Or.inl (mgw ti_4 64 rfl rfl)
theorem okX11_areTwo : InstOK yX11_areTwo cX11_areTwo 3 (some .boolean) 2 := ⟨mgw ti_4 66 rfl rfl, mgw tp_2 12 rfl rfl, mgw ti_1 1 rfl rfl, mgw ti_4 67 rfl rfl, ⟨by decide +kernel, by decide +kernel, by decide +kernel⟩, by decide⟩
theorem lkX11_162 : LinkOK RX11 162 yX10_everybody := Or.inl (mgw ti_4 68 rfl rfl)
theorem okX10_everybody : InstOK yX10_everybody cX10_everybody 1 (some .int) 0 := ⟨mgw ti_3 225 rfl rfl, mgw ti_3 226 rfl rfl, mgw ti_1 9 rfl rfl, mgw ti_3 227 rfl rfl, ⟨by decide +kernel, by decide +kernel, by decide +kernel⟩, by decide⟩
theorem lkX11_166 : LinkOK RX11 166 yX10_allows := Or.inl (mgw ti_4 69 rfl rfl)
theorem okX10_allows : InstOK yX10_allows cX10_allows 8 (some .boolean) 5 := ⟨mgw ti_3 229 rfl rfl, mgw ti_3 230 rfl rfl, mgw ti_1 9 rfl rfl, mgw ti_3 231 rfl rfl, ⟨by decide +kernel, by decide +kernel, by decide +kernel⟩, by decide⟩
theorem lkX11_170 : LinkOK RX11 170 yX11_intoPlan := Or.inl (mgw ti_4 74 rfl rfl)
theorem okX11_intoPlan : InstOK yX11_intoPlan cX11_intoPlan 6 (some .int) 5 := ⟨mgw ti_4 76 rfl rfl, mgw tp_2 13 rfl rfl, mgw ti_1 1 rfl rfl, mgw ti_4 77 rfl rfl, ⟨by decide +kernel, by decide +kernel, by decide +kernel⟩, by decide⟩
theorem fkX11_174 : FOK RX11 174 10 9 := ⟨RX10, TX10, 17, cok10, by decide, Or.inr ⟨"OnlyUpward", mnw ti_2 21 rfl rfl⟩⟩
theorem lkX11_177 : LinkOK RX11 177 yX5_add := Or.inl (mgw ti_4 78 rfl rfl)
theorem okX5_add : InstOK yX5_add cX5_add 7 (some .int) 5 := ⟨mgw ti_4 79 rfl rfl, mgw ti_4 80 rfl rfl, mgw ti_1 12 rfl rfl, mgw ti_4 81 rfl rfl, ⟨by decide +kernel, by decide +kernel, by decide +kernel⟩, by decide⟩
theorem lkX11_180 : LinkOK RX11 180 yX5_has := Or.inl (mgw ti_4 98 rfl rfl)
theorem okX5_has : InstOK yX5_has cX5_has 2 (some .boolean) 1 := ⟨mgw ti_4 99 rfl rfl, mgw ti_4 100 rfl rfl, mgw ti_1 12 rfl rfl, mgw ti_4 101 rfl rfl, ⟨by decide +kernel, by decide +kernel, by decide +kernel⟩, by decide⟩
theorem lkX11_183 : LinkOK RX11 183 yX5_remove := Or.inl (mgw ti_4 102 rfl rfl)
theorem okX5_remove : InstOK yX5_remove cX5_remove 3 none 1 := ⟨mgw ti_4 103 rfl rfl, mgw ti_4 104 rfl rfl, mgw ti_1 12 rfl rfl, mgw ti_4 105 rfl rfl, ⟨by decide +kernel, by decide +kernel, by decide +kernel⟩, by decide⟩
theorem fkX11_186 : FOK RX11 186 5 1 := ⟨RX5, TX5, 4, cok5, by decide, Or.inr ⟨"OnlyUpward", mnw ti_2 84 rfl rfl⟩⟩
theorem lkX11_189 : LinkOK RX11 189 yX11_planCourse := Or.inl (mgw ti_4 114 rfl rfl)
theorem okX11_planCourse : InstOK yX11_planCourse cX11_planCourse 1 (some (.object "OnlyUpward$Course")) 0 := ⟨mgw ti_4 116 rfl rfl, mgw tp_2 14 rfl rfl, mgw ti_1 1 rfl rfl, mgw ti_4 117 rfl rfl, ⟨by decide +kernel, by decide +kernel, by decide +kernel⟩, by decide⟩
theorem fkX11_193 : FOK RX11 193 1 2 := ⟨RX1, TX1, 6, cok1, by decide, Or.inr ⟨"OnlyUpward", mnw ti_2 116 rfl rfl⟩⟩
theorem lkX11_196 : LinkOK RX11 196 yX5_part := Or.inl (mgw ti_4 199 rfl rfl)
theorem okX5_part : InstOK yX5_part cX5_part 3 (some .int) 2 := ⟨mgw ti_4 141 rfl rfl, mgw ti_4 142 rfl rfl, mgw ti_1 12 rfl rfl, mgw ti_4 143 rfl rfl, ⟨by decide +kernel, by decide +kernel, by decide +kernel⟩, by decide⟩
theorem lkX11_199 : LinkOK RX11 199 yX5_keep := Or.inl (mgw ti_4 204 rfl rfl)
theorem okX5_keep : InstOK yX5_keep cX5_keep 2 (some .boolean) 1 := ⟨mgw ti_4 205 rfl rfl, mgw ti_4 206 rfl rfl, mgw ti_1 12 rfl rfl, mgw ti_4 207 rfl rfl, ⟨by decide +kernel, by decide +kernel, by decide +kernel⟩, by decide⟩
theorem lkX11_202 : LinkOK RX11 202 yX5_bring := Or.inl (mgw ti_4 212 rfl rfl)
theorem okX5_bring : InstOK yX5_bring cX5_bring 2 (some .boolean) 1 := ⟨mgw ti_4 213 rfl rfl, mgw ti_4 214 rfl rfl, mgw ti_1 12 rfl rfl, mgw ti_4 215 rfl rfl, ⟨by decide +kernel, by decide +kernel, by decide +kernel⟩, by decide⟩
theorem lkX11_205 : LinkOK RX11 205 yX1_nobodyDies := Or.inl (mgw ti_4 118 rfl rfl)
theorem okX1_nobodyDies : InstOK yX1_nobodyDies cX1_nobodyDies 1 none 0 := ⟨mgw ti_4 119 rfl rfl, mgw ti_4 120 rfl rfl, mgw ti_1 13 rfl rfl, mgw ti_4 121 rfl rfl, ⟨by decide +kernel, by decide +kernel, by decide +kernel⟩, by decide⟩
theorem lkX11_208 : LinkOK RX11 208 yX1_go := Or.inl (mgw ti_4 123 rfl rfl)
theorem okX1_go : InstOK yX1_go cX1_go 6 none 2 := ⟨mgw ti_4 124 rfl rfl, mgw ti_4 125 rfl rfl, mgw ti_1 13 rfl rfl, mgw ti_4 126 rfl rfl, ⟨by decide +kernel, by decide +kernel, by decide +kernel⟩, by decide⟩
theorem lkX11_212 : LinkOK RX11 212 yX1_firstNotDone := Or.inl (mgw ti_4 220 rfl rfl)
theorem okX1_firstNotDone : InstOK yX1_firstNotDone cX1_firstNotDone 5 (some .int) 1 := ⟨mgw ti_4 221 rfl rfl, mgw ti_4 222 rfl rfl, mgw ti_1 13 rfl rfl, mgw ti_4 223 rfl rfl, ⟨by decide +kernel, by decide +kernel, by decide +kernel⟩, by decide⟩
theorem fkX11_216 : FOK RX11 216 1 4 := ⟨RX1, TX1, 6, cok1, by decide, Or.inr ⟨"OnlyUpward", mnw ti_2 119 rfl rfl⟩⟩
theorem lkX11_219 : LinkOK RX11 219 yX11_isHourOrEnd := Or.inl (mgw ti_4 232 rfl rfl)
theorem okX11_isHourOrEnd : StatOK yX11_isHourOrEnd cX11_isHourOrEnd 1 (some .boolean) 1 := ⟨mgw ti_4 233 rfl rfl, mgw ti_1 1 rfl rfl, mgw ti_4 234 rfl rfl, ⟨by decide +kernel, by decide +kernel, by decide +kernel⟩, by decide⟩
theorem fkX11_222 : FOK RX11 222 1 0 := ⟨RX1, TX1, 6, cok1, by decide, Or.inr ⟨"OnlyUpward", mnw ti_2 113 rfl rfl⟩⟩
theorem lkX11_226 : LinkOK RX11 226 yX3_thingsOf := Or.inl (mgw ti_4 235 rfl rfl)
theorem okX3_thingsOf : InstOK yX3_thingsOf cX3_thingsOf 5 (some .int) 2 := ⟨mgw ti_4 236 rfl rfl, mgw ti_4 237 rfl rfl, mgw ti_1 14 rfl rfl, mgw ti_4 238 rfl rfl, ⟨by decide +kernel, by decide +kernel, by decide +kernel⟩, by decide⟩
theorem lkX11_231 : LinkOK RX11 231 yX3_firstHour := Or.inl (mgw ti_5 4 rfl rfl)
theorem okX3_firstHour : InstOK yX3_firstHour cX3_firstHour 3 (some .int) 2 := ⟨mgw ti_4 178 rfl rfl, mgw ti_4 179 rfl rfl, mgw ti_1 14 rfl rfl, mgw ti_4 180 rfl rfl, ⟨by decide +kernel, by decide +kernel, by decide +kernel⟩, by decide⟩
theorem lkX11_234 : LinkOK RX11 234 yX11_orNever := Or.inl (mgw ti_5 5 rfl rfl)
theorem okX11_orNever : StatOK yX11_orNever cX11_orNever 1 (some .int) 1 := ⟨mgw ti_5 6 rfl rfl, mgw ti_1 1 rfl rfl, mgw ti_5 7 rfl rfl, ⟨by decide +kernel, by decide +kernel, by decide +kernel⟩, by decide⟩
theorem lkX11_237 : LinkOK RX11 237 yX1_seenThings := Or.inl (mgw ti_5 12 rfl rfl)
theorem okX1_seenThings : InstOK yX1_seenThings cX1_seenThings 6 (some .int) 3 := ⟨mgw ti_5 13 rfl rfl, mgw ti_5 14 rfl rfl, mgw ti_1 13 rfl rfl, mgw ti_5 15 rfl rfl, ⟨by decide +kernel, by decide +kernel, by decide +kernel⟩, by decide⟩
theorem lkX11_241 : LinkOK RX11 241 yX11_onlyWith := Or.inl (mgw ti_5 20 rfl rfl)
theorem okX11_onlyWith : InstOK yX11_onlyWith cX11_onlyWith 6 (some .int) 3 := ⟨mgw ti_5 22 rfl rfl, mgw tp_3 3 rfl rfl, mgw ti_1 1 rfl rfl, mgw ti_5 23 rfl rfl, ⟨by decide +kernel, by decide +kernel, by decide +kernel⟩, by decide⟩
theorem fkX11_245 : FOK RX11 245 10 3 := ⟨RX10, TX10, 17, cok10, by decide, Or.inr ⟨"OnlyUpward", mnw ti_2 1 rfl rfl⟩⟩
theorem lkX11_248 : LinkOK RX11 248 yX11_hasBit := Or.inl (mgw ti_5 28 rfl rfl)
theorem okX11_hasBit : StatOK yX11_hasBit cX11_hasBit 2 (some .boolean) 2 := ⟨mgw ti_3 196 rfl rfl, mgw ti_1 1 rfl rfl, mgw ti_3 197 rfl rfl, ⟨by decide +kernel, by decide +kernel, by decide +kernel⟩, by decide⟩
theorem lkX11_251 : LinkOK RX11 251 yX3_misses := Or.inl (mgw ti_5 33 rfl rfl)
theorem okX3_misses : InstOK yX3_misses cX3_misses 3 (some .boolean) 2 := ⟨mgw ti_5 34 rfl rfl, mgw ti_5 35 rfl rfl, mgw ti_1 14 rfl rfl, mgw ti_5 36 rfl rfl, ⟨by decide +kernel, by decide +kernel, by decide +kernel⟩, by decide⟩
theorem lkX11_255 : LinkOK RX11 255 yX3_worthMissed := Or.inl (mgw ti_5 41 rfl rfl)
theorem okX3_worthMissed : InstOK yX3_worthMissed cX3_worthMissed 4 (some .int) 1 := ⟨mgw ti_5 42 rfl rfl, mgw ti_5 43 rfl rfl, mgw ti_1 14 rfl rfl, mgw ti_5 44 rfl rfl, ⟨by decide +kernel, by decide +kernel, by decide +kernel⟩, by decide⟩
theorem lkX11_258 : LinkOK RX11 258 yX11_knowMore := Or.inl (mgw ti_5 50 rfl rfl)
theorem okX11_knowMore : InstOK yX11_knowMore cX11_knowMore 8 (some .int) 3 := ⟨mgw ti_5 52 rfl rfl, mgw tp_3 4 rfl rfl, mgw ti_1 1 rfl rfl, mgw ti_5 53 rfl rfl, ⟨by decide +kernel, by decide +kernel, by decide +kernel⟩, by decide⟩
theorem lkX11_261 : LinkOK RX11 261 yJ6_bitCount_0f7a4 := Or.inl (mgw ti_5 54 rfl rfl)
theorem okJ6_bitCount_0f7a4 : StatOK yJ6_bitCount_0f7a4 cJ6_bitCount_0f7a4 1 (some .int) 1 := ⟨mgw ti_4 1 rfl rfl, mgw ti_1 20 rfl rfl, mgw ti_4 2 rfl rfl, ⟨by decide +kernel, by decide +kernel, by decide +kernel⟩, by decide⟩
theorem lkX11_266 : LinkOK RX11 266 yX10_isElder := Or.inl (mgw ti_5 55 rfl rfl)
theorem okX10_isElder : InstOK yX10_isElder cX10_isElder 6 (some .boolean) 3 := ⟨mgw ti_5 56 rfl rfl, mgw ti_5 57 rfl rfl, mgw ti_1 9 rfl rfl, mgw ti_5 58 rfl rfl, ⟨by decide +kernel, by decide +kernel, by decide +kernel⟩, by decide⟩
theorem lkX11_270 : LinkOK RX11 270 yX10_elder := Or.inl (mgw ti_5 63 rfl rfl)
theorem okX10_elder : InstOK yX10_elder cX10_elder 6 (some .int) 2 := ⟨mgw ti_5 64 rfl rfl, mgw ti_5 65 rfl rfl, mgw ti_1 9 rfl rfl, mgw ti_5 66 rfl rfl, ⟨by decide +kernel, by decide +kernel, by decide +kernel⟩, by decide⟩
theorem lkX11_273 : LinkOK RX11 273 yX11_isSet := Or.inl (mgw ti_5 76 rfl rfl)
theorem okX11_isSet : InstOK yX11_isSet cX11_isSet 2 (some .boolean) 1 := ⟨mgw ti_5 78 rfl rfl, mgw tp_3 6 rfl rfl, mgw ti_1 1 rfl rfl, mgw ti_5 79 rfl rfl, ⟨by decide +kernel, by decide +kernel, by decide +kernel⟩, by decide⟩
theorem lkX11_276 : LinkOK RX11 276 yX11_canSpread := Or.inl (mgw ti_5 72 rfl rfl)
theorem okX11_canSpread : InstOK yX11_canSpread cX11_canSpread 4 (some .boolean) 3 := ⟨mgw ti_5 74 rfl rfl, mgw tp_3 5 rfl rfl, mgw ti_1 1 rfl rfl, mgw ti_5 75 rfl rfl, ⟨by decide +kernel, by decide +kernel, by decide +kernel⟩, by decide⟩
theorem lkX11_279 : LinkOK RX11 279 yX11_isLaw := Or.inl (mgw ti_5 80 rfl rfl)
theorem okX11_isLaw : StatOK yX11_isLaw cX11_isLaw 1 (some .boolean) 1 := ⟨mgw ti_5 81 rfl rfl, mgw ti_1 1 rfl rfl, mgw ti_5 82 rfl rfl, ⟨by decide +kernel, by decide +kernel, by decide +kernel⟩, by decide⟩
theorem lkX11_282 : LinkOK RX11 282 yX7_go := Or.inl (mgw ti_5 83 rfl rfl)
theorem okX7_go : InstOK yX7_go cX7_go 12 none 6 := ⟨mgw ti_5 84 rfl rfl, mgw ti_5 85 rfl rfl, mgw ti_1 15 rfl rfl, mgw ti_5 86 rfl rfl, ⟨by decide +kernel, by decide +kernel, by decide +kernel⟩, by decide⟩
theorem fkX11_285 : FOK RX11 285 7 0 := ⟨RX7, TX7, 1, cok7, by decide, Or.inr ⟨"OnlyUpward", mnw ti_2 142 rfl rfl⟩⟩
theorem lmX11_288 : Cond.methodLink RX11 288 Lib.Math.max.name ∈ gw := mgw ti_5 118 rfl rfl
theorem lkX11_293 : LinkOK RX11 293 yX10_knowersAtFirst := Or.inl (mgw ti_5 127 rfl rfl)
theorem okX10_knowersAtFirst : InstOK yX10_knowersAtFirst cX10_knowersAtFirst 4 (some .int) 1 := ⟨mgw ti_5 128 rfl rfl, mgw ti_5 129 rfl rfl, mgw ti_1 9 rfl rfl, mgw ti_5 130 rfl rfl, ⟨by decide +kernel, by decide +kernel, by decide +kernel⟩, by decide⟩
theorem fkX11_296 : FOK RX11 296 10 7 := ⟨RX10, TX10, 17, cok10, by decide, Or.inr ⟨"OnlyUpward", mnw ti_2 12 rfl rfl⟩⟩
theorem fkX11_299 : FOK RX11 299 10 6 := ⟨RX10, TX10, 17, cok10, by decide, Or.inr ⟨"OnlyUpward", mnw ti_2 8 rfl rfl⟩⟩
theorem lkX11_302 : LinkOK RX11 302 yX11_soonFromFirst := Or.inl (mgw ti_5 123 rfl rfl)
theorem okX11_soonFromFirst : InstOK yX11_soonFromFirst cX11_soonFromFirst 3 (some .int) 2 := ⟨mgw ti_5 125 rfl rfl, mgw tp_3 8 rfl rfl, mgw ti_1 1 rfl rfl, mgw ti_5 126 rfl rfl, ⟨by decide +kernel, by decide +kernel, by decide +kernel⟩, by decide⟩
theorem fkX11_305 : FOK RX11 305 10 8 := ⟨RX10, TX10, 17, cok10, by decide, Or.inr ⟨"OnlyUpward", mnw ti_2 16 rfl rfl⟩⟩
theorem fkX11_308 : FOK RX11 308 10 11 := ⟨RX10, TX10, 17, cok10, by decide, Or.inr ⟨"OnlyUpward", mnw ti_2 28 rfl rfl⟩⟩
theorem lkX11_311 : LinkOK RX11 311 yX0_aim := Or.inl (mgw ti_5 139 rfl rfl)
theorem okX0_aim : InstOK yX0_aim cX0_aim 3 none 2 := ⟨mgw ti_5 140 rfl rfl, mgw ti_5 141 rfl rfl, mgw ti_1 16 rfl rfl, mgw ti_5 142 rfl rfl, ⟨by decide +kernel, by decide +kernel, by decide +kernel⟩, by decide⟩
theorem lkX11_315 : LinkOK RX11 315 yX0_leastWay := Or.inl (mgw ti_5 144 rfl rfl)
theorem okX0_leastWay : InstOK yX0_leastWay cX0_leastWay 4 (some .int) 3 := ⟨mgw ti_5 145 rfl rfl, mgw ti_5 146 rfl rfl, mgw ti_1 16 rfl rfl, mgw ti_5 147 rfl rfl, ⟨by decide +kernel, by decide +kernel, by decide +kernel⟩, by decide⟩
theorem kcX11_319 : Cond.constant RX11 319 (500000) ∈ gw := mgw ti_5 174 rfl rfl
theorem lkX11_320 : LinkOK RX11 320 yX0_step := Or.inl (mgw ti_5 179 rfl rfl)
theorem okX0_step : InstOK yX0_step cX0_step 10 (some .int) 4 := ⟨mgw ti_5 180 rfl rfl, mgw ti_5 181 rfl rfl, mgw ti_1 16 rfl rfl, mgw ti_5 182 rfl rfl, ⟨by decide +kernel, by decide +kernel, by decide +kernel⟩, by decide⟩
theorem lkX11_324 : LinkOK RX11 324 yX10_sayTo := Or.inl (mgw ti_5 187 rfl rfl)
theorem okX10_sayTo : InstOK yX10_sayTo cX10_sayTo 3 (some .int) 2 := ⟨mgw ti_5 105 rfl rfl, mgw ti_5 106 rfl rfl, mgw ti_1 9 rfl rfl, mgw ti_5 107 rfl rfl, ⟨by decide +kernel, by decide +kernel, by decide +kernel⟩, by decide⟩
theorem lkX11_327 : LinkOK RX11 327 yX11_youngerHearers := Or.inl (mgw ti_5 188 rfl rfl)
theorem okX11_youngerHearers : InstOK yX11_youngerHearers cX11_youngerHearers 6 (some .int) 2 := ⟨mgw ti_5 190 rfl rfl, mgw tp_3 12 rfl rfl, mgw ti_1 1 rfl rfl, mgw ti_5 191 rfl rfl, ⟨by decide +kernel, by decide +kernel, by decide +kernel⟩, by decide⟩
theorem lkX11_330 : LinkOK RX11 330 yJ6_numberOfTrailingZeros_0f7a4 := Or.inl (mgw ti_5 192 rfl rfl)
theorem okJ6_numberOfTrailingZeros_0f7a4 : StatOK yJ6_numberOfTrailingZeros_0f7a4 cJ6_numberOfTrailingZeros_0f7a4 2 (some .int) 1 := ⟨mgw ti_5 167 rfl rfl, mgw ti_1 20 rfl rfl, mgw ti_5 168 rfl rfl, ⟨by decide +kernel, by decide +kernel, by decide +kernel⟩, by decide⟩
theorem lkX11_333 : LinkOK RX11 333 yX6_go := Or.inl (mgw ti_5 209 rfl rfl)
theorem okX6_go : InstOK yX6_go cX6_go 4 none 1 := ⟨mgw ti_5 210 rfl rfl, mgw ti_5 211 rfl rfl, mgw ti_1 17 rfl rfl, mgw ti_5 212 rfl rfl, ⟨by decide +kernel, by decide +kernel, by decide +kernel⟩, by decide⟩
theorem fkX11_336 : FOK RX11 336 6 0 := ⟨RX6, TX6, 4, cok6, by decide, Or.inr ⟨"OnlyUpward", mnw ti_2 171 rfl rfl⟩⟩
theorem fkX11_337 : FOK RX11 337 6 1 := ⟨RX6, TX6, 4, cok6, by decide, Or.inr ⟨"OnlyUpward", mnw ti_2 173 rfl rfl⟩⟩
theorem fkX11_338 : FOK RX11 338 6 2 := ⟨RX6, TX6, 4, cok6, by decide, Or.inr ⟨"OnlyUpward", mnw ti_2 175 rfl rfl⟩⟩
theorem lkX11_341 : LinkOK RX11 341 yX1_drawDeaths := Or.inl (mgw ti_6 5 rfl rfl)
theorem okX1_drawDeaths : InstOK yX1_drawDeaths cX1_drawDeaths 6 none 3 := ⟨mgw ti_6 6 rfl rfl, mgw ti_6 7 rfl rfl, mgw ti_1 13 rfl rfl, mgw ti_6 8 rfl rfl, ⟨by decide +kernel, by decide +kernel, by decide +kernel⟩, by decide⟩
theorem lkX11_345 : LinkOK RX11 345 yX11_isFrail := Or.inl (mgw ti_5 238 rfl rfl)
theorem okX11_isFrail : StatOK yX11_isFrail cX11_isFrail 1 (some .boolean) 1 := ⟨mgw ti_5 239 rfl rfl, mgw ti_1 1 rfl rfl, mgw ti_6 0 rfl rfl, ⟨by decide +kernel, by decide +kernel, by decide +kernel⟩, by decide⟩
theorem lkX11_348 : LinkOK RX11 348 yX11_goDay := Or.inl (mgw ti_6 1 rfl rfl)
theorem okX11_goDay : InstOK yX11_goDay cX11_goDay 3 none 2 := ⟨mgw ti_6 3 rfl rfl, mgw tp_3 15 rfl rfl, mgw ti_1 1 rfl rfl, mgw ti_6 4 rfl rfl, ⟨by decide +kernel, by decide +kernel, by decide +kernel⟩, by decide⟩
theorem lkX11_351 : LinkOK RX11 351 yX1_aliveAt := Or.inl (mgw ti_6 17 rfl rfl)
theorem okX1_aliveAt : InstOK yX1_aliveAt cX1_aliveAt 5 (some .int) 2 := ⟨mgw ti_4 133 rfl rfl, mgw ti_4 134 rfl rfl, mgw ti_1 13 rfl rfl, mgw ti_4 135 rfl rfl, ⟨by decide +kernel, by decide +kernel, by decide +kernel⟩, by decide⟩
theorem lkX11_355 : LinkOK RX11 355 yX1_goneThings := Or.inl (mgw ti_6 18 rfl rfl)
theorem okX1_goneThings : InstOK yX1_goneThings cX1_goneThings 7 (some .int) 1 := ⟨mgw ti_6 19 rfl rfl, mgw ti_6 20 rfl rfl, mgw ti_1 13 rfl rfl, mgw ti_6 21 rfl rfl, ⟨by decide +kernel, by decide +kernel, by decide +kernel⟩, by decide⟩
theorem fkX11_358 : FOK RX11 358 1 5 := ⟨RX1, TX1, 6, cok1, by decide, Or.inr ⟨"OnlyUpward", mnw ti_2 121 rfl rfl⟩⟩
theorem gsX11_359 : Cond.fieldLink RX11 359 RX11 (stN 4) "[I" ∈ gw ∨ ∃ host, Cond.fieldLinkNest RX11 359 RX11 (stN 4) "[I" host ∈ nw := Or.inl (mgw ti_6 31 rfl rfl)
theorem lkX11_362 : LinkOK RX11 362 yX5_fullSlots := Or.inl (mgw ti_6 33 rfl rfl)
theorem okX5_fullSlots : InstOK yX5_fullSlots cX5_fullSlots 3 (some .int) 0 := ⟨mgw ti_6 34 rfl rfl, mgw ti_6 35 rfl rfl, mgw ti_1 12 rfl rfl, mgw ti_6 36 rfl rfl, ⟨by decide +kernel, by decide +kernel, by decide +kernel⟩, by decide⟩
theorem lkX11_365 : LinkOK RX11 365 yX11_countOfOne := Or.inl (mgw ti_6 37 rfl rfl)
theorem okX11_countOfOne : InstOK yX11_countOfOne cX11_countOfOne 2 (some .int) 1 := ⟨mgw ti_6 39 rfl rfl, mgw tp_4 0 rfl rfl, mgw ti_1 1 rfl rfl, mgw ti_6 40 rfl rfl, ⟨by decide +kernel, by decide +kernel, by decide +kernel⟩, by decide⟩
theorem fkX11_368 : FOK RX11 368 10 10 := ⟨RX10, TX10, 17, cok10, by decide, Or.inr ⟨"OnlyUpward", mnw ti_2 26 rfl rfl⟩⟩
theorem lkX11_371 : LinkOK RX11 371 yX11_mix := Or.inl (mgw ti_6 13 rfl rfl)
theorem okX11_mix : StatOK yX11_mix cX11_mix 3 (some .int) 2 := ⟨mgw ti_6 14 rfl rfl, mgw ti_1 1 rfl rfl, mgw ti_6 15 rfl rfl, ⟨by decide +kernel, by decide +kernel, by decide +kernel⟩, by decide⟩
theorem kcX11_374 : Cond.constant RX11 374 (1103515245) ∈ gw := mgw ti_6 16 rfl rfl
theorem loX12_7 : Cond.methodLink RX12 7 Lib.objectInit ∈ gw := mgw ti_6 46 rfl rfl
theorem flX12_13 : Cond.fieldLink RX12 13 (TX12 1).1 (TX12 1).2.1 (TX12 1).2.2.1 ∈ gw := mgw ti_6 54 rfl rfl
theorem fkX12_13 : FOK RX12 13 12 1 := ⟨RX12, TX12, 94, cok12, by decide, Or.inl (mgw ti_6 54 rfl rfl)⟩
theorem flX12_17 : Cond.fieldLink RX12 17 (TX12 3).1 (TX12 3).2.1 (TX12 3).2.2.1 ∈ gw := mgw ti_6 56 rfl rfl
theorem fkX12_17 : FOK RX12 17 12 3 := ⟨RX12, TX12, 94, cok12, by decide, Or.inl (mgw ti_6 56 rfl rfl)⟩
theorem flX12_20 : Cond.fieldLink RX12 20 (TX12 5).1 (TX12 5).2.1 (TX12 5).2.2.1 ∈ gw := mgw ti_6 58 rfl rfl
theorem fkX12_20 : FOK RX12 20 12 5 := ⟨RX12, TX12, 94, cok12, by decide, Or.inl (mgw ti_6 58 rfl rfl)⟩
theorem flX12_24 : Cond.fieldLink RX12 24 (TX12 6).1 (TX12 6).2.1 (TX12 6).2.2.1 ∈ gw := mgw ti_6 59 rfl rfl
theorem fkX12_24 : FOK RX12 24 12 6 := ⟨RX12, TX12, 94, cok12, by decide, Or.inl (mgw ti_6 59 rfl rfl)⟩
theorem flX12_27 : Cond.fieldLink RX12 27 (TX12 7).1 (TX12 7).2.1 (TX12 7).2.2.1 ∈ gw := mgw ti_6 60 rfl rfl
theorem fkX12_27 : FOK RX12 27 12 7 := ⟨RX12, TX12, 94, cok12, by decide, Or.inl (mgw ti_6 60 rfl rfl)⟩
theorem flX12_30 : Cond.fieldLink RX12 30 (TX12 8).1 (TX12 8).2.1 (TX12 8).2.2.1 ∈ gw := mgw ti_6 61 rfl rfl
theorem fkX12_30 : FOK RX12 30 12 8 := ⟨RX12, TX12, 94, cok12, by decide, Or.inl (mgw ti_6 61 rfl rfl)⟩
theorem flX12_34 : Cond.fieldLink RX12 34 (TX12 9).1 (TX12 9).2.1 (TX12 9).2.2.1 ∈ gw := mgw ti_6 62 rfl rfl
theorem fkX12_34 : FOK RX12 34 12 9 := ⟨RX12, TX12, 94, cok12, by decide, Or.inl (mgw ti_6 62 rfl rfl)⟩
theorem fkX12_37 : FOK RX12 37 12 17 := ⟨RX12, TX12, 94, cok12, by decide, Or.inl (mgw ti_6 70 rfl rfl)⟩
theorem flX12_40 : Cond.fieldLink RX12 40 (TX12 21).1 (TX12 21).2.1 (TX12 21).2.2.1 ∈ gw := mgw ti_6 74 rfl rfl
theorem fkX12_40 : FOK RX12 40 12 21 := ⟨RX12, TX12, 94, cok12, by decide, Or.inl (mgw ti_6 74 rfl rfl)⟩
theorem flX12_43 : Cond.fieldLink RX12 43 (TX12 22).1 (TX12 22).2.1 (TX12 22).2.2.1 ∈ gw := mgw ti_6 75 rfl rfl
theorem fkX12_43 : FOK RX12 43 12 22 := ⟨RX12, TX12, 94, cok12, by decide, Or.inl (mgw ti_6 75 rfl rfl)⟩
theorem flX12_46 : Cond.fieldLink RX12 46 (TX12 23).1 (TX12 23).2.1 (TX12 23).2.2.1 ∈ gw := mgw ti_6 76 rfl rfl
theorem fkX12_46 : FOK RX12 46 12 23 := ⟨RX12, TX12, 94, cok12, by decide, Or.inl (mgw ti_6 76 rfl rfl)⟩
theorem flX12_49 : Cond.fieldLink RX12 49 (TX12 24).1 (TX12 24).2.1 (TX12 24).2.2.1 ∈ gw := mgw ti_6 77 rfl rfl
theorem fkX12_49 : FOK RX12 49 12 24 := ⟨RX12, TX12, 94, cok12, by decide, Or.inl (mgw ti_6 77 rfl rfl)⟩
theorem flX12_52 : Cond.fieldLink RX12 52 (TX12 25).1 (TX12 25).2.1 (TX12 25).2.2.1 ∈ gw := mgw ti_6 78 rfl rfl
theorem fkX12_52 : FOK RX12 52 12 25 := ⟨RX12, TX12, 94, cok12, by decide, Or.inl (mgw ti_6 78 rfl rfl)⟩
theorem flX12_55 : Cond.fieldLink RX12 55 (TX12 26).1 (TX12 26).2.1 (TX12 26).2.2.1 ∈ gw := mgw ti_6 79 rfl rfl
theorem fkX12_55 : FOK RX12 55 12 26 := ⟨RX12, TX12, 94, cok12, by decide, Or.inl (mgw ti_6 79 rfl rfl)⟩
theorem flX12_58 : Cond.fieldLink RX12 58 (TX12 27).1 (TX12 27).2.1 (TX12 27).2.2.1 ∈ gw := mgw ti_6 80 rfl rfl
theorem fkX12_58 : FOK RX12 58 12 27 := ⟨RX12, TX12, 94, cok12, by decide, Or.inl (mgw ti_6 80 rfl rfl)⟩
theorem flX12_61 : Cond.fieldLink RX12 61 (TX12 28).1 (TX12 28).2.1 (TX12 28).2.2.1 ∈ gw := mgw ti_6 81 rfl rfl
theorem fkX12_61 : FOK RX12 61 12 28 := ⟨RX12, TX12, 94, cok12, by decide, Or.inl (mgw ti_6 81 rfl rfl)⟩
theorem flX12_64 : Cond.fieldLink RX12 64 (TX12 29).1 (TX12 29).2.1 (TX12 29).2.2.1 ∈ gw := mgw ti_6 82 rfl rfl
theorem fkX12_64 : FOK RX12 64 12 29 := ⟨RX12, TX12, 94, cok12, by decide, Or.inl (mgw ti_6 82 rfl rfl)⟩
theorem flX12_67 : Cond.fieldLink RX12 67 (TX12 30).1 (TX12 30).2.1 (TX12 30).2.2.1 ∈ gw := mgw ti_6 83 rfl rfl
theorem fkX12_67 : FOK RX12 67 12 30 := ⟨RX12, TX12, 94, cok12, by decide, Or.inl (mgw ti_6 83 rfl rfl)⟩
theorem flX12_70 : Cond.fieldLink RX12 70 (TX12 31).1 (TX12 31).2.1 (TX12 31).2.2.1 ∈ gw := mgw ti_6 84 rfl rfl
theorem fkX12_70 : FOK RX12 70 12 31 := ⟨RX12, TX12, 94, cok12, by decide, Or.inl (mgw ti_6 84 rfl rfl)⟩
theorem flX12_73 : Cond.fieldLink RX12 73 (TX12 32).1 (TX12 32).2.1 (TX12 32).2.2.1 ∈ gw := mgw ti_6 85 rfl rfl
theorem fkX12_73 : FOK RX12 73 12 32 := ⟨RX12, TX12, 94, cok12, by decide, Or.inl (mgw ti_6 85 rfl rfl)⟩
theorem flX12_76 : Cond.fieldLink RX12 76 (TX12 33).1 (TX12 33).2.1 (TX12 33).2.2.1 ∈ gw := mgw ti_6 86 rfl rfl
theorem fkX12_76 : FOK RX12 76 12 33 := ⟨RX12, TX12, 94, cok12, by decide, Or.inl (mgw ti_6 86 rfl rfl)⟩
theorem flX12_79 : Cond.fieldLink RX12 79 (TX12 34).1 (TX12 34).2.1 (TX12 34).2.2.1 ∈ gw := mgw ti_6 87 rfl rfl
theorem fkX12_79 : FOK RX12 79 12 34 := ⟨RX12, TX12, 94, cok12, by decide, Or.inl (mgw ti_6 87 rfl rfl)⟩
theorem flX12_82 : Cond.fieldLink RX12 82 (TX12 35).1 (TX12 35).2.1 (TX12 35).2.2.1 ∈ gw := mgw ti_6 88 rfl rfl
theorem fkX12_82 : FOK RX12 82 12 35 := ⟨RX12, TX12, 94, cok12, by decide, Or.inl (mgw ti_6 88 rfl rfl)⟩
theorem flX12_85 : Cond.fieldLink RX12 85 (TX12 36).1 (TX12 36).2.1 (TX12 36).2.2.1 ∈ gw := mgw ti_6 89 rfl rfl
theorem fkX12_85 : FOK RX12 85 12 36 := ⟨RX12, TX12, 94, cok12, by decide, Or.inl (mgw ti_6 89 rfl rfl)⟩
theorem flX12_88 : Cond.fieldLink RX12 88 (TX12 37).1 (TX12 37).2.1 (TX12 37).2.2.1 ∈ gw := mgw ti_6 90 rfl rfl
theorem fkX12_88 : FOK RX12 88 12 37 := ⟨RX12, TX12, 94, cok12, by decide, Or.inl (mgw ti_6 90 rfl rfl)⟩
theorem flX12_91 : Cond.fieldLink RX12 91 (TX12 38).1 (TX12 38).2.1 (TX12 38).2.2.1 ∈ gw := mgw ti_6 91 rfl rfl
theorem fkX12_91 : FOK RX12 91 12 38 := ⟨RX12, TX12, 94, cok12, by decide, Or.inl (mgw ti_6 91 rfl rfl)⟩
theorem flX12_94 : Cond.fieldLink RX12 94 (TX12 39).1 (TX12 39).2.1 (TX12 39).2.2.1 ∈ gw := mgw ti_6 92 rfl rfl
theorem fkX12_94 : FOK RX12 94 12 39 := ⟨RX12, TX12, 94, cok12, by decide, Or.inl (mgw ti_6 92 rfl rfl)⟩
theorem flX12_97 : Cond.fieldLink RX12 97 (TX12 40).1 (TX12 40).2.1 (TX12 40).2.2.1 ∈ gw := mgw ti_6 93 rfl rfl
theorem fkX12_97 : FOK RX12 97 12 40 := ⟨RX12, TX12, 94, cok12, by decide, Or.inl (mgw ti_6 93 rfl rfl)⟩
theorem flX12_100 : Cond.fieldLink RX12 100 (TX12 41).1 (TX12 41).2.1 (TX12 41).2.2.1 ∈ gw := mgw ti_6 94 rfl rfl
theorem fkX12_100 : FOK RX12 100 12 41 := ⟨RX12, TX12, 94, cok12, by decide, Or.inl (mgw ti_6 94 rfl rfl)⟩
theorem flX12_103 : Cond.fieldLink RX12 103 (TX12 42).1 (TX12 42).2.1 (TX12 42).2.2.1 ∈ gw := mgw ti_6 95 rfl rfl
theorem fkX12_103 : FOK RX12 103 12 42 := ⟨RX12, TX12, 94, cok12, by decide, Or.inl (mgw ti_6 95 rfl rfl)⟩
theorem flX12_106 : Cond.fieldLink RX12 106 (TX12 43).1 (TX12 43).2.1 (TX12 43).2.2.1 ∈ gw := mgw ti_6 96 rfl rfl
theorem fkX12_106 : FOK RX12 106 12 43 := ⟨RX12, TX12, 94, cok12, by decide, Or.inl (mgw ti_6 96 rfl rfl)⟩
theorem flX12_109 : Cond.fieldLink RX12 109 (TX12 44).1 (TX12 44).2.1 (TX12 44).2.2.1 ∈ gw := mgw ti_6 97 rfl rfl
theorem fkX12_109 : FOK RX12 109 12 44 := ⟨RX12, TX12, 94, cok12, by decide, Or.inl (mgw ti_6 97 rfl rfl)⟩
theorem flX12_112 : Cond.fieldLink RX12 112 (TX12 45).1 (TX12 45).2.1 (TX12 45).2.2.1 ∈ gw := mgw ti_6 98 rfl rfl
theorem fkX12_112 : FOK RX12 112 12 45 := ⟨RX12, TX12, 94, cok12, by decide, Or.inl (mgw ti_6 98 rfl rfl)⟩
theorem flX12_115 : Cond.fieldLink RX12 115 (TX12 47).1 (TX12 47).2.1 (TX12 47).2.2.1 ∈ gw := mgw ti_6 100 rfl rfl
theorem fkX12_115 : FOK RX12 115 12 47 := ⟨RX12, TX12, 94, cok12, by decide, Or.inl (mgw ti_6 100 rfl rfl)⟩
theorem flX12_118 : Cond.fieldLink RX12 118 (TX12 48).1 (TX12 48).2.1 (TX12 48).2.2.1 ∈ gw := mgw ti_6 101 rfl rfl
theorem fkX12_118 : FOK RX12 118 12 48 := ⟨RX12, TX12, 94, cok12, by decide, Or.inl (mgw ti_6 101 rfl rfl)⟩
theorem flX12_122 : Cond.fieldLink RX12 122 (TX12 49).1 (TX12 49).2.1 (TX12 49).2.2.1 ∈ gw := mgw ti_6 102 rfl rfl
theorem fkX12_122 : FOK RX12 122 12 49 := ⟨RX12, TX12, 94, cok12, by decide, Or.inl (mgw ti_6 102 rfl rfl)⟩
theorem flX12_125 : Cond.fieldLink RX12 125 (TX12 50).1 (TX12 50).2.1 (TX12 50).2.2.1 ∈ gw := mgw ti_6 103 rfl rfl
theorem fkX12_125 : FOK RX12 125 12 50 := ⟨RX12, TX12, 94, cok12, by decide, Or.inl (mgw ti_6 103 rfl rfl)⟩
theorem flX12_128 : Cond.fieldLink RX12 128 (TX12 51).1 (TX12 51).2.1 (TX12 51).2.2.1 ∈ gw := mgw ti_6 104 rfl rfl
theorem fkX12_128 : FOK RX12 128 12 51 := ⟨RX12, TX12, 94, cok12, by decide, Or.inl (mgw ti_6 104 rfl rfl)⟩
theorem flX12_131 : Cond.fieldLink RX12 131 (TX12 52).1 (TX12 52).2.1 (TX12 52).2.2.1 ∈ gw := mgw ti_6 105 rfl rfl
theorem fkX12_131 : FOK RX12 131 12 52 := ⟨RX12, TX12, 94, cok12, by decide, Or.inl (mgw ti_6 105 rfl rfl)⟩
theorem flX12_134 : Cond.fieldLink RX12 134 (TX12 54).1 (TX12 54).2.1 (TX12 54).2.2.1 ∈ gw := mgw ti_6 107 rfl rfl
theorem fkX12_134 : FOK RX12 134 12 54 := ⟨RX12, TX12, 94, cok12, by decide, Or.inl (mgw ti_6 107 rfl rfl)⟩
theorem flX12_137 : Cond.fieldLink RX12 137 (TX12 55).1 (TX12 55).2.1 (TX12 55).2.2.1 ∈ gw := mgw ti_6 108 rfl rfl
theorem fkX12_137 : FOK RX12 137 12 55 := ⟨RX12, TX12, 94, cok12, by decide, Or.inl (mgw ti_6 108 rfl rfl)⟩
theorem flX12_140 : Cond.fieldLink RX12 140 (TX12 56).1 (TX12 56).2.1 (TX12 56).2.2.1 ∈ gw := mgw ti_6 109 rfl rfl
theorem fkX12_140 : FOK RX12 140 12 56 := ⟨RX12, TX12, 94, cok12, by decide, Or.inl (mgw ti_6 109 rfl rfl)⟩
theorem flX12_143 : Cond.fieldLink RX12 143 (TX12 58).1 (TX12 58).2.1 (TX12 58).2.2.1 ∈ gw := mgw ti_6 111 rfl rfl
theorem fkX12_143 : FOK RX12 143 12 58 := ⟨RX12, TX12, 94, cok12, by decide, Or.inl (mgw ti_6 111 rfl rfl)⟩
theorem flX12_146 : Cond.fieldLink RX12 146 (TX12 59).1 (TX12 59).2.1 (TX12 59).2.2.1 ∈ gw := mgw ti_6 112 rfl rfl
theorem fkX12_146 : FOK RX12 146 12 59 := ⟨RX12, TX12, 94, cok12, by decide, Or.inl (mgw ti_6 112 rfl rfl)⟩
theorem flX12_149 : Cond.fieldLink RX12 149 (TX12 63).1 (TX12 63).2.1 (TX12 63).2.2.1 ∈ gw := mgw ti_6 116 rfl rfl
theorem fkX12_149 : FOK RX12 149 12 63 := ⟨RX12, TX12, 94, cok12, by decide, Or.inl (mgw ti_6 116 rfl rfl)⟩
theorem flX12_152 : Cond.fieldLink RX12 152 (TX12 64).1 (TX12 64).2.1 (TX12 64).2.2.1 ∈ gw := mgw ti_6 117 rfl rfl
theorem fkX12_152 : FOK RX12 152 12 64 := ⟨RX12, TX12, 94, cok12, by decide, Or.inl (mgw ti_6 117 rfl rfl)⟩
theorem flX12_155 : Cond.fieldLink RX12 155 (TX12 65).1 (TX12 65).2.1 (TX12 65).2.2.1 ∈ gw := mgw ti_6 118 rfl rfl
theorem fkX12_155 : FOK RX12 155 12 65 := ⟨RX12, TX12, 94, cok12, by decide, Or.inl (mgw ti_6 118 rfl rfl)⟩
theorem flX12_158 : Cond.fieldLink RX12 158 (TX12 66).1 (TX12 66).2.1 (TX12 66).2.2.1 ∈ gw := mgw ti_6 119 rfl rfl
theorem fkX12_158 : FOK RX12 158 12 66 := ⟨RX12, TX12, 94, cok12, by decide, Or.inl (mgw ti_6 119 rfl rfl)⟩
theorem flX12_161 : Cond.fieldLink RX12 161 (TX12 67).1 (TX12 67).2.1 (TX12 67).2.2.1 ∈ gw := mgw ti_6 120 rfl rfl
theorem fkX12_161 : FOK RX12 161 12 67 := ⟨RX12, TX12, 94, cok12, by decide, Or.inl (mgw ti_6 120 rfl rfl)⟩
theorem flX12_164 : Cond.fieldLink RX12 164 (TX12 68).1 (TX12 68).2.1 (TX12 68).2.2.1 ∈ gw := mgw ti_6 121 rfl rfl
theorem fkX12_164 : FOK RX12 164 12 68 := ⟨RX12, TX12, 94, cok12, by decide, Or.inl (mgw ti_6 121 rfl rfl)⟩
theorem flX12_167 : Cond.fieldLink RX12 167 (TX12 69).1 (TX12 69).2.1 (TX12 69).2.2.1 ∈ gw := mgw ti_6 122 rfl rfl
theorem fkX12_167 : FOK RX12 167 12 69 := ⟨RX12, TX12, 94, cok12, by decide, Or.inl (mgw ti_6 122 rfl rfl)⟩
theorem flX12_170 : Cond.fieldLink RX12 170 (TX12 70).1 (TX12 70).2.1 (TX12 70).2.2.1 ∈ gw := mgw ti_6 123 rfl rfl
theorem fkX12_170 : FOK RX12 170 12 70 := ⟨RX12, TX12, 94, cok12, by decide, Or.inl (mgw ti_6 123 rfl rfl)⟩
theorem flX12_173 : Cond.fieldLink RX12 173 (TX12 71).1 (TX12 71).2.1 (TX12 71).2.2.1 ∈ gw := mgw ti_6 124 rfl rfl
theorem fkX12_173 : FOK RX12 173 12 71 := ⟨RX12, TX12, 94, cok12, by decide, Or.inl (mgw ti_6 124 rfl rfl)⟩
theorem fkX12_176 : FOK RX12 176 12 73 := ⟨RX12, TX12, 94, cok12, by decide, Or.inl (mgw ti_6 126 rfl rfl)⟩
theorem flX12_179 : Cond.fieldLink RX12 179 (TX12 74).1 (TX12 74).2.1 (TX12 74).2.2.1 ∈ gw := mgw ti_6 127 rfl rfl
theorem fkX12_179 : FOK RX12 179 12 74 := ⟨RX12, TX12, 94, cok12, by decide, Or.inl (mgw ti_6 127 rfl rfl)⟩
theorem flX12_182 : Cond.fieldLink RX12 182 (TX12 75).1 (TX12 75).2.1 (TX12 75).2.2.1 ∈ gw := mgw ti_6 128 rfl rfl
theorem fkX12_182 : FOK RX12 182 12 75 := ⟨RX12, TX12, 94, cok12, by decide, Or.inl (mgw ti_6 128 rfl rfl)⟩
theorem flX12_185 : Cond.fieldLink RX12 185 (TX12 77).1 (TX12 77).2.1 (TX12 77).2.2.1 ∈ gw := mgw ti_6 130 rfl rfl
theorem fkX12_185 : FOK RX12 185 12 77 := ⟨RX12, TX12, 94, cok12, by decide, Or.inl (mgw ti_6 130 rfl rfl)⟩
theorem flX12_188 : Cond.fieldLink RX12 188 (TX12 78).1 (TX12 78).2.1 (TX12 78).2.2.1 ∈ gw := mgw ti_6 131 rfl rfl
theorem fkX12_188 : FOK RX12 188 12 78 := ⟨RX12, TX12, 94, cok12, by decide, Or.inl (mgw ti_6 131 rfl rfl)⟩
theorem flX12_191 : Cond.fieldLink RX12 191 (TX12 79).1 (TX12 79).2.1 (TX12 79).2.2.1 ∈ gw := mgw ti_6 132 rfl rfl
theorem fkX12_191 : FOK RX12 191 12 79 := ⟨RX12, TX12, 94, cok12, by decide, Or.inl (mgw ti_6 132 rfl rfl)⟩
theorem flX12_194 : Cond.fieldLink RX12 194 (TX12 80).1 (TX12 80).2.1 (TX12 80).2.2.1 ∈ gw := mgw ti_6 133 rfl rfl
theorem fkX12_194 : FOK RX12 194 12 80 := ⟨RX12, TX12, 94, cok12, by decide, Or.inl (mgw ti_6 133 rfl rfl)⟩
theorem flX12_197 : Cond.fieldLink RX12 197 (TX12 81).1 (TX12 81).2.1 (TX12 81).2.2.1 ∈ gw := mgw ti_6 134 rfl rfl
theorem fkX12_197 : FOK RX12 197 12 81 := ⟨RX12, TX12, 94, cok12, by decide, Or.inl (mgw ti_6 134 rfl rfl)⟩
theorem flX12_200 : Cond.fieldLink RX12 200 (TX12 88).1 (TX12 88).2.1 (TX12 88).2.2.1 ∈ gw := mgw ti_6 141 rfl rfl
theorem fkX12_200 : FOK RX12 200 12 88 := ⟨RX12, TX12, 94, cok12, by decide, Or.inl (mgw ti_6 141 rfl rfl)⟩
theorem flX12_203 : Cond.fieldLink RX12 203 (TX12 89).1 (TX12 89).2.1 (TX12 89).2.2.1 ∈ gw := mgw ti_6 142 rfl rfl
theorem fkX12_203 : FOK RX12 203 12 89 := ⟨RX12, TX12, 94, cok12, by decide, Or.inl (mgw ti_6 142 rfl rfl)⟩
theorem flX12_206 : Cond.fieldLink RX12 206 (TX12 90).1 (TX12 90).2.1 (TX12 90).2.2.1 ∈ gw := mgw ti_6 143 rfl rfl
theorem fkX12_206 : FOK RX12 206 12 90 := ⟨RX12, TX12, 94, cok12, by decide, Or.inl (mgw ti_6 143 rfl rfl)⟩
theorem flX12_209 : Cond.fieldLink RX12 209 (TX12 91).1 (TX12 91).2.1 (TX12 91).2.2.1 ∈ gw := mgw ti_6 144 rfl rfl
theorem fkX12_209 : FOK RX12 209 12 91 := ⟨RX12, TX12, 94, cok12, by decide, Or.inl (mgw ti_6 144 rfl rfl)⟩
theorem flX12_212 : Cond.fieldLink RX12 212 (TX12 92).1 (TX12 92).2.1 (TX12 92).2.2.1 ∈ gw := mgw ti_6 145 rfl rfl
theorem fkX12_212 : FOK RX12 212 12 92 := ⟨RX12, TX12, 94, cok12, by decide, Or.inl (mgw ti_6 145 rfl rfl)⟩
theorem flX12_215 : Cond.fieldLink RX12 215 (TX12 93).1 (TX12 93).2.1 (TX12 93).2.2.1 ∈ gw := mgw ti_6 146 rfl rfl
theorem fkX12_215 : FOK RX12 215 12 93 := ⟨RX12, TX12, 94, cok12, by decide, Or.inl (mgw ti_6 146 rfl rfl)⟩
theorem lkX12_218 : LinkOK RX12 218 yX12_word := Or.inl (mgw ti_6 47 rfl rfl)
theorem okX12_word : StatOK yX12_word cX12_word 7 (some .long) 7 := ⟨mgw ti_6 48 rfl rfl, mgw ti_1 18 rfl rfl, mgw ti_6 49 rfl rfl, ⟨by decide +kernel, by decide +kernel, by decide +kernel⟩, by decide⟩
theorem fkX12_222 : FOK RX12 222 12 2 := ⟨RX12, TX12, 94, cok12, by decide, Or.inl (mgw ti_6 55 rfl rfl)⟩
theorem lkX12_225 : LinkOK RX12 225 yX12_put := Or.inl (mgw ti_7 101 rfl rfl)
theorem okX12_put : InstOK yX12_put cX12_put 3 none 1 := ⟨mgw ti_7 103 rfl rfl, mgw tp_4 1 rfl rfl, mgw ti_1 18 rfl rfl, mgw ti_7 104 rfl rfl, ⟨by decide +kernel, by decide +kernel, by decide +kernel⟩, by decide⟩
theorem fkX12_229 : FOK RX12 229 12 4 := ⟨RX12, TX12, 94, cok12, by decide, Or.inl (mgw ti_6 57 rfl rfl)⟩
theorem kcX12_232 : Cond.constantLong RX12 232 (27) ∈ gw := mgw ti_6 53 rfl rfl
theorem lkX12_234 : LinkOK RX12 234 yX12_appends := Or.inl (mgw ti_6 50 rfl rfl)
theorem okX12_appends : StatOK yX12_appends cX12_appends 3 (some .long) 2 := ⟨mgw ti_6 51 rfl rfl, mgw ti_1 18 rfl rfl, mgw ti_6 52 rfl rfl, ⟨by decide +kernel, by decide +kernel, by decide +kernel⟩, by decide⟩
theorem fkX12_238 : FOK RX12 238 12 10 := ⟨RX12, TX12, 94, cok12, by decide, Or.inl (mgw ti_6 63 rfl rfl)⟩
theorem lkX12_241 : LinkOK RX12 241 yX12_byteAt := Or.inl (mgw ti_7 117 rfl rfl)
