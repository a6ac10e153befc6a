/-! op 23, worked out by the kernel -/
theorem ti_k23_0 : ti_all qm_F false 302 12 (ti_E 23 (-2147483648, -1) (-2147483648, 2147483647) (-2147483648, 2147483647) []) cd_law qm_c0 [] = true := by decide +kernel
theorem ti_k23_1 : ti_all qm_F false 307 12 (ti_E 23 (9261, 2147483647) (-2147483648, 2147483647) (1, 2147483647) []) cd_law qm_c0 [] = true := by decide +kernel
theorem ti_k23_2 : ti_all qm_F true 325 12 (ti_E 23 (0, 9260) (-2147483648, -1) (0, 0) []) cd_law qm_c0 [] = true := by decide +kernel
theorem ti_k23_3 : ti_all qm_F true 334 12 (ti_E 23 (0, 9260) (4, 2147483647) (0, 0) []) cd_law qm_c0 [] = true := by decide +kernel
theorem ti_k23_4 : ti_all qm_F true 560 12 (ti_E 23 (0, 9260) (0, 0) (0, 0) [(400, 318, true), (400, 314, true), (400, 310, true)]) cd_law qm_c0 [] = true := by decide +kernel
theorem ti_k23_5 : ti_all qm_F true 554 12 (ti_E 23 (0, 9260) (0, 0) (0, 0) [(400, 318, false), (400, 314, true), (400, 310, true)]) cd_law qm_c0 [] = true := by decide +kernel
theorem ti_k23_6 : ti_all qm_F true 554 12 (ti_E 23 (0, 9260) (0, 0) (0, 0) [(400, 318, true), (400, 314, false), (400, 310, true)]) cd_law qm_c0 [] = true := by decide +kernel
theorem ti_k23_7 : ti_all qm_F true 548 12 (ti_E 23 (0, 9260) (0, 0) (0, 0) [(400, 318, false), (400, 314, false), (400, 310, true)]) cd_law qm_c0 [] = true := by decide +kernel
theorem ti_k23_8 : ti_all qm_F true 554 12 (ti_E 23 (0, 9260) (0, 0) (0, 0) [(400, 318, true), (400, 314, true), (400, 310, false)]) cd_law qm_c0 [] = true := by decide +kernel
theorem ti_k23_9 : ti_all qm_F true 548 12 (ti_E 23 (0, 9260) (0, 0) (0, 0) [(400, 318, false), (400, 314, true), (400, 310, false)]) cd_law qm_c0 [] = true := by decide +kernel
theorem ti_k23_10 : ti_all qm_F true 548 12 (ti_E 23 (0, 9260) (0, 0) (0, 0) [(400, 318, true), (400, 314, false), (400, 310, false)]) cd_law qm_c0 [] = true := by decide +kernel
theorem ti_k23_11 : ti_all qm_F true 541 12 (ti_E 23 (0, 9260) (0, 0) (0, 0) [(400, 318, false), (400, 314, false), (400, 310, false)]) cd_law qm_c0 [] = true := by decide +kernel
theorem ti_k23_12 : ti_all qm_F true 560 12 (ti_E 23 (0, 9260) (1, 1) (0, 0) [(400, 318, true), (400, 314, true), (400, 310, true)]) cd_law qm_c0 [] = true := by decide +kernel
theorem ti_k23_13 : ti_all qm_F true 554 12 (ti_E 23 (0, 9260) (1, 1) (0, 0) [(400, 318, false), (400, 314, true), (400, 310, true)]) cd_law qm_c0 [] = true := by decide +kernel
theorem ti_k23_14 : ti_all qm_F true 554 12 (ti_E 23 (0, 9260) (1, 1) (0, 0) [(400, 318, true), (400, 314, false), (400, 310, true)]) cd_law qm_c0 [] = true := by decide +kernel
theorem ti_k23_15 : ti_all qm_F true 546 12 (ti_E 23 (0, 9260) (1, 1) (0, 0) [(400, 318, false), (400, 314, false), (400, 310, true)]) cd_law qm_c0 [] = true := by decide +kernel
theorem ti_k23_16 : ti_all qm_F true 555 12 (ti_E 23 (0, 9260) (1, 1) (0, 0) [(400, 318, true), (400, 314, true), (400, 310, false)]) cd_law qm_c0 [] = true := by decide +kernel
theorem ti_k23_17 : ti_all qm_F true 549 12 (ti_E 23 (0, 9260) (1, 1) (0, 0) [(400, 318, false), (400, 314, true), (400, 310, false)]) cd_law qm_c0 [] = true := by decide +kernel
theorem ti_k23_18 : ti_all qm_F true 549 12 (ti_E 23 (0, 9260) (1, 1) (0, 0) [(400, 318, true), (400, 314, false), (400, 310, false)]) cd_law qm_c0 [] = true := by decide +kernel
theorem ti_k23_19 : ti_all qm_F true 542 12 (ti_E 23 (0, 9260) (1, 1) (0, 0) [(400, 318, false), (400, 314, false), (400, 310, false)]) cd_law qm_c0 [] = true := by decide +kernel
theorem ti_k23_20 : ti_all qm_F true 558 12 (ti_E 23 (0, 9260) (2, 2) (0, 0) [(400, 318, true), (400, 314, true), (400, 310, true)]) cd_law qm_c0 [] = true := by decide +kernel
theorem ti_k23_21 : ti_all qm_F true 550 12 (ti_E 23 (0, 9260) (2, 2) (0, 0) [(400, 318, false), (400, 314, true), (400, 310, true)]) cd_law qm_c0 [] = true := by decide +kernel
theorem ti_k23_22 : ti_all qm_F true 555 12 (ti_E 23 (0, 9260) (2, 2) (0, 0) [(400, 318, true), (400, 314, false), (400, 310, true)]) cd_law qm_c0 [] = true := by decide +kernel
theorem ti_k23_23 : ti_all qm_F true 547 12 (ti_E 23 (0, 9260) (2, 2) (0, 0) [(400, 318, false), (400, 314, false), (400, 310, true)]) cd_law qm_c0 [] = true := by decide +kernel
theorem ti_k23_24 : ti_all qm_F true 555 12 (ti_E 23 (0, 9260) (2, 2) (0, 0) [(400, 318, true), (400, 314, true), (400, 310, false)]) cd_law qm_c0 [] = true := by decide +kernel
theorem ti_k23_25 : ti_all qm_F true 547 12 (ti_E 23 (0, 9260) (2, 2) (0, 0) [(400, 318, false), (400, 314, true), (400, 310, false)]) cd_law qm_c0 [] = true := by decide +kernel
theorem ti_k23_26 : ti_all qm_F true 550 12 (ti_E 23 (0, 9260) (2, 2) (0, 0) [(400, 318, true), (400, 314, false), (400, 310, false)]) cd_law qm_c0 [] = true := by decide +kernel
theorem ti_k23_27 : ti_all qm_F true 543 12 (ti_E 23 (0, 9260) (2, 2) (0, 0) [(400, 318, false), (400, 314, false), (400, 310, false)]) cd_law qm_c0 [] = true := by decide +kernel
theorem ti_k23_28 : ti_all qm_F true 554 12 (ti_E 23 (0, 9260) (3, 3) (0, 0) [(400, 318, true), (400, 314, true), (400, 310, true)]) cd_law qm_c0 [] = true := by decide +kernel
theorem ti_k23_29 : ti_all qm_F true 551 12 (ti_E 23 (0, 9260) (3, 3) (0, 0) [(400, 318, false), (400, 314, true), (400, 310, true)]) cd_law qm_c0 [] = true := by decide +kernel
theorem ti_k23_30 : ti_all qm_F true 551 12 (ti_E 23 (0, 9260) (3, 3) (0, 0) [(400, 318, true), (400, 314, false), (400, 310, true)]) cd_law qm_c0 [] = true := by decide +kernel
theorem ti_k23_31 : ti_all qm_F true 548 12 (ti_E 23 (0, 9260) (3, 3) (0, 0) [(400, 318, false), (400, 314, false), (400, 310, true)]) cd_law qm_c0 [] = true := by decide +kernel
theorem ti_k23_32 : ti_all qm_F true 551 12 (ti_E 23 (0, 9260) (3, 3) (0, 0) [(400, 318, true), (400, 314, true), (400, 310, false)]) cd_law qm_c0 [] = true := by decide +kernel
theorem ti_k23_33 : ti_all qm_F true 548 12 (ti_E 23 (0, 9260) (3, 3) (0, 0) [(400, 318, false), (400, 314, true), (400, 310, false)]) cd_law qm_c0 [] = true := by decide +kernel
theorem ti_k23_34 : ti_all qm_F true 548 12 (ti_E 23 (0, 9260) (3, 3) (0, 0) [(400, 318, true), (400, 314, false), (400, 310, false)]) cd_law qm_c0 [] = true := by decide +kernel
theorem ti_k23_35 : ti_all qm_F true 544 12 (ti_E 23 (0, 9260) (3, 3) (0, 0) [(400, 318, false), (400, 314, false), (400, 310, false)]) cd_law qm_c0 [] = true := by decide +kernel
