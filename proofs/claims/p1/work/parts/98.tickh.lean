/-! ops 23 and 24 out of their cases -/
theorem ti_23n {xs : Nat → Int32} (S0 : qm_sat (qm_rho xs (ti_y xs)) (ti_E 23 (-2147483648, -1) (-2147483648, 2147483647) (-2147483648, 2147483647) [])) : qm_Ru (some (6, xs)) 12 cd_law (18, qm_l18, [], qm_fn qm_d2) qm_Qf := by
  exact ti_fin (ti_all_ok ti_no S0 ti_k23_0)
theorem ti_23b {xs : Nat → Int32} (S0 : qm_sat (qm_rho xs (ti_y xs)) (ti_E 23 (9261, 2147483647) (-2147483648, 2147483647) (1, 2147483647) [])) : qm_Ru (some (6, xs)) 12 cd_law (18, qm_l18, [], qm_fn qm_d2) qm_Qf := by
  exact ti_fin (ti_all_ok ti_no S0 ti_k23_1)
theorem ti_23l {xs : Nat → Int32} (hG : ti_G (xs 1)) (S0 : qm_sat (qm_rho xs (ti_y xs)) (ti_E 23 (0, 9260) (-2147483648, -1) (0, 0) [])) : qm_Ru (some (6, xs)) 12 cd_law (18, qm_l18, [], qm_fn qm_d2) qm_Qf := by
  exact ti_fin (ti_all_ok (fun _ => hG) S0 ti_k23_2)
theorem ti_23u {xs : Nat → Int32} (hG : ti_G (xs 1)) (S0 : qm_sat (qm_rho xs (ti_y xs)) (ti_E 23 (0, 9260) (4, 2147483647) (0, 0) [])) : qm_Ru (some (6, xs)) 12 cd_law (18, qm_l18, [], qm_fn qm_d2) qm_Qf := by
  exact ti_fin (ti_all_ok (fun _ => hG) S0 ti_k23_3)
theorem ti_23s0 {xs : Nat → Int32} (hG : ti_G (xs 1)) (S0 : qm_sat (qm_rho xs (ti_y xs)) (ti_E 23 (0, 9260) (0, 0) (0, 0) [])) : qm_Ru (some (6, xs)) 12 cd_law (18, qm_l18, [], qm_fn qm_d2) qm_Qf := by
  cases b0 : decide (qm_rho xs (ti_y xs) 400 < qm_rho xs (ti_y xs) 310) with
  | true =>
    have S1 : qm_sat (qm_rho xs (ti_y xs)) (ti_E 23 (0, 9260) (0, 0) (0, 0) [(400, 310, true)]) := ti_add_f S0 b0
    cases b1 : decide (qm_rho xs (ti_y xs) 400 < qm_rho xs (ti_y xs) 314) with
    | true =>
      have S2 : qm_sat (qm_rho xs (ti_y xs)) (ti_E 23 (0, 9260) (0, 0) (0, 0) [(400, 314, true), (400, 310, true)]) := ti_add_f S1 b1
      cases b2 : decide (qm_rho xs (ti_y xs) 400 < qm_rho xs (ti_y xs) 318) with
      | true =>
        have S3 : qm_sat (qm_rho xs (ti_y xs)) (ti_E 23 (0, 9260) (0, 0) (0, 0) [(400, 318, true), (400, 314, true), (400, 310, true)]) := ti_add_f S2 b2
        exact ti_fin (ti_all_ok (fun _ => hG) S3 ti_k23_4)
      | false =>
        have S3 : qm_sat (qm_rho xs (ti_y xs)) (ti_E 23 (0, 9260) (0, 0) (0, 0) [(400, 318, false), (400, 314, true), (400, 310, true)]) := ti_add_f S2 b2
        exact ti_fin (ti_all_ok (fun _ => hG) S3 ti_k23_5)
    | false =>
      have S2 : qm_sat (qm_rho xs (ti_y xs)) (ti_E 23 (0, 9260) (0, 0) (0, 0) [(400, 314, false), (400, 310, true)]) := ti_add_f S1 b1
      cases b2 : decide (qm_rho xs (ti_y xs) 400 < qm_rho xs (ti_y xs) 318) with
      | true =>
        have S3 : qm_sat (qm_rho xs (ti_y xs)) (ti_E 23 (0, 9260) (0, 0) (0, 0) [(400, 318, true), (400, 314, false), (400, 310, true)]) := ti_add_f S2 b2
        exact ti_fin (ti_all_ok (fun _ => hG) S3 ti_k23_6)
      | false =>
        have S3 : qm_sat (qm_rho xs (ti_y xs)) (ti_E 23 (0, 9260) (0, 0) (0, 0) [(400, 318, false), (400, 314, false), (400, 310, true)]) := ti_add_f S2 b2
        exact ti_fin (ti_all_ok (fun _ => hG) S3 ti_k23_7)
  | false =>
    have S1 : qm_sat (qm_rho xs (ti_y xs)) (ti_E 23 (0, 9260) (0, 0) (0, 0) [(400, 310, false)]) := ti_add_f S0 b0
    cases b1 : decide (qm_rho xs (ti_y xs) 400 < qm_rho xs (ti_y xs) 314) with
    | true =>
      have S2 : qm_sat (qm_rho xs (ti_y xs)) (ti_E 23 (0, 9260) (0, 0) (0, 0) [(400, 314, true), (400, 310, false)]) := ti_add_f S1 b1
      cases b2 : decide (qm_rho xs (ti_y xs) 400 < qm_rho xs (ti_y xs) 318) with
      | true =>
        have S3 : qm_sat (qm_rho xs (ti_y xs)) (ti_E 23 (0, 9260) (0, 0) (0, 0) [(400, 318, true), (400, 314, true), (400, 310, false)]) := ti_add_f S2 b2
        exact ti_fin (ti_all_ok (fun _ => hG) S3 ti_k23_8)
      | false =>
        have S3 : qm_sat (qm_rho xs (ti_y xs)) (ti_E 23 (0, 9260) (0, 0) (0, 0) [(400, 318, false), (400, 314, true), (400, 310, false)]) := ti_add_f S2 b2
        exact ti_fin (ti_all_ok (fun _ => hG) S3 ti_k23_9)
    | false =>
      have S2 : qm_sat (qm_rho xs (ti_y xs)) (ti_E 23 (0, 9260) (0, 0) (0, 0) [(400, 314, false), (400, 310, false)]) := ti_add_f S1 b1
      cases b2 : decide (qm_rho xs (ti_y xs) 400 < qm_rho xs (ti_y xs) 318) with
      | true =>
        have S3 : qm_sat (qm_rho xs (ti_y xs)) (ti_E 23 (0, 9260) (0, 0) (0, 0) [(400, 318, true), (400, 314, false), (400, 310, false)]) := ti_add_f S2 b2
        exact ti_fin (ti_all_ok (fun _ => hG) S3 ti_k23_10)
      | false =>
        have S3 : qm_sat (qm_rho xs (ti_y xs)) (ti_E 23 (0, 9260) (0, 0) (0, 0) [(400, 318, false), (400, 314, false), (400, 310, false)]) := ti_add_f S2 b2
        exact ti_fin (ti_all_ok (fun _ => hG) S3 ti_k23_11)
theorem ti_23s1 {xs : Nat → Int32} (hG : ti_G (xs 1)) (S0 : qm_sat (qm_rho xs (ti_y xs)) (ti_E 23 (0, 9260) (1, 1) (0, 0) [])) : qm_Ru (some (6, xs)) 12 cd_law (18, qm_l18, [], qm_fn qm_d2) qm_Qf := by
  cases b0 : decide (qm_rho xs (ti_y xs) 400 < qm_rho xs (ti_y xs) 310) with
  | true =>
    have S1 : qm_sat (qm_rho xs (ti_y xs)) (ti_E 23 (0, 9260) (1, 1) (0, 0) [(400, 310, true)]) := ti_add_f S0 b0
    cases b1 : decide (qm_rho xs (ti_y xs) 400 < qm_rho xs (ti_y xs) 314) with
    | true =>
      have S2 : qm_sat (qm_rho xs (ti_y xs)) (ti_E 23 (0, 9260) (1, 1) (0, 0) [(400, 314, true), (400, 310, true)]) := ti_add_f S1 b1
      cases b2 : decide (qm_rho xs (ti_y xs) 400 < qm_rho xs (ti_y xs) 318) with
      | true =>
        have S3 : qm_sat (qm_rho xs (ti_y xs)) (ti_E 23 (0, 9260) (1, 1) (0, 0) [(400, 318, true), (400, 314, true), (400, 310, true)]) := ti_add_f S2 b2
        exact ti_fin (ti_all_ok (fun _ => hG) S3 ti_k23_12)
      | false =>
        have S3 : qm_sat (qm_rho xs (ti_y xs)) (ti_E 23 (0, 9260) (1, 1) (0, 0) [(400, 318, false), (400, 314, true), (400, 310, true)]) := ti_add_f S2 b2
        exact ti_fin (ti_all_ok (fun _ => hG) S3 ti_k23_13)
    | false =>
      have S2 : qm_sat (qm_rho xs (ti_y xs)) (ti_E 23 (0, 9260) (1, 1) (0, 0) [(400, 314, false), (400, 310, true)]) := ti_add_f S1 b1
      cases b2 : decide (qm_rho xs (ti_y xs) 400 < qm_rho xs (ti_y xs) 318) with
      | true =>
        have S3 : qm_sat (qm_rho xs (ti_y xs)) (ti_E 23 (0, 9260) (1, 1) (0, 0) [(400, 318, true), (400, 314, false), (400, 310, true)]) := ti_add_f S2 b2
        exact ti_fin (ti_all_ok (fun _ => hG) S3 ti_k23_14)
      | false =>
        have S3 : qm_sat (qm_rho xs (ti_y xs)) (ti_E 23 (0, 9260) (1, 1) (0, 0) [(400, 318, false), (400, 314, false), (400, 310, true)]) := ti_add_f S2 b2
        exact ti_fin (ti_all_ok (fun _ => hG) S3 ti_k23_15)
  | false =>
    have S1 : qm_sat (qm_rho xs (ti_y xs)) (ti_E 23 (0, 9260) (1, 1) (0, 0) [(400, 310, false)]) := ti_add_f S0 b0
    cases b1 : decide (qm_rho xs (ti_y xs) 400 < qm_rho xs (ti_y xs) 314) with
    | true =>
      have S2 : qm_sat (qm_rho xs (ti_y xs)) (ti_E 23 (0, 9260) (1, 1) (0, 0) [(400, 314, true), (400, 310, false)]) := ti_add_f S1 b1
      cases b2 : decide (qm_rho xs (ti_y xs) 400 < qm_rho xs (ti_y xs) 318) with
      | true =>
        have S3 : qm_sat (qm_rho xs (ti_y xs)) (ti_E 23 (0, 9260) (1, 1) (0, 0) [(400, 318, true), (400, 314, true), (400, 310, false)]) := ti_add_f S2 b2
        exact ti_fin (ti_all_ok (fun _ => hG) S3 ti_k23_16)
      | false =>
        have S3 : qm_sat (qm_rho xs (ti_y xs)) (ti_E 23 (0, 9260) (1, 1) (0, 0) [(400, 318, false), (400, 314, true), (400, 310, false)]) := ti_add_f S2 b2
        exact ti_fin (ti_all_ok (fun _ => hG) S3 ti_k23_17)
    | false =>
      have S2 : qm_sat (qm_rho xs (ti_y xs)) (ti_E 23 (0, 9260) (1, 1) (0, 0) [(400, 314, false), (400, 310, false)]) := ti_add_f S1 b1
      cases b2 : decide (qm_rho xs (ti_y xs) 400 < qm_rho xs (ti_y xs) 318) with
      | true =>
        have S3 : qm_sat (qm_rho xs (ti_y xs)) (ti_E 23 (0, 9260) (1, 1) (0, 0) [(400, 318, true), (400, 314, false), (400, 310, false)]) := ti_add_f S2 b2
        exact ti_fin (ti_all_ok (fun _ => hG) S3 ti_k23_18)
      | false =>
        have S3 : qm_sat (qm_rho xs (ti_y xs)) (ti_E 23 (0, 9260) (1, 1) (0, 0) [(400, 318, false), (400, 314, false), (400, 310, false)]) := ti_add_f S2 b2
        exact ti_fin (ti_all_ok (fun _ => hG) S3 ti_k23_19)
theorem ti_23s2 {xs : Nat → Int32} (hG : ti_G (xs 1)) (S0 : qm_sat (qm_rho xs (ti_y xs)) (ti_E 23 (0, 9260) (2, 2) (0, 0) [])) : qm_Ru (some (6, xs)) 12 cd_law (18, qm_l18, [], qm_fn qm_d2) qm_Qf := by
  cases b0 : decide (qm_rho xs (ti_y xs) 400 < qm_rho xs (ti_y xs) 310) with
  | true =>
    have S1 : qm_sat (qm_rho xs (ti_y xs)) (ti_E 23 (0, 9260) (2, 2) (0, 0) [(400, 310, true)]) := ti_add_f S0 b0
    cases b1 : decide (qm_rho xs (ti_y xs) 400 < qm_rho xs (ti_y xs) 314) with
    | true =>
      have S2 : qm_sat (qm_rho xs (ti_y xs)) (ti_E 23 (0, 9260) (2, 2) (0, 0) [(400, 314, true), (400, 310, true)]) := ti_add_f S1 b1
      cases b2 : decide (qm_rho xs (ti_y xs) 400 < qm_rho xs (ti_y xs) 318) with
      | true =>
        have S3 : qm_sat (qm_rho xs (ti_y xs)) (ti_E 23 (0, 9260) (2, 2) (0, 0) [(400, 318, true), (400, 314, true), (400, 310, true)]) := ti_add_f S2 b2
        exact ti_fin (ti_all_ok (fun _ => hG) S3 ti_k23_20)
      | false =>
        have S3 : qm_sat (qm_rho xs (ti_y xs)) (ti_E 23 (0, 9260) (2, 2) (0, 0) [(400, 318, false), (400, 314, true), (400, 310, true)]) := ti_add_f S2 b2
        exact ti_fin (ti_all_ok (fun _ => hG) S3 ti_k23_21)
    | false =>
      have S2 : qm_sat (qm_rho xs (ti_y xs)) (ti_E 23 (0, 9260) (2, 2) (0, 0) [(400, 314, false), (400, 310, true)]) := ti_add_f S1 b1
      cases b2 : decide (qm_rho xs (ti_y xs) 400 < qm_rho xs (ti_y xs) 318) with
      | true =>
        have S3 : qm_sat (qm_rho xs (ti_y xs)) (ti_E 23 (0, 9260) (2, 2) (0, 0) [(400, 318, true), (400, 314, false), (400, 310, true)]) := ti_add_f S2 b2
        exact ti_fin (ti_all_ok (fun _ => hG) S3 ti_k23_22)
      | false =>
        have S3 : qm_sat (qm_rho xs (ti_y xs)) (ti_E 23 (0, 9260) (2, 2) (0, 0) [(400, 318, false), (400, 314, false), (400, 310, true)]) := ti_add_f S2 b2
        exact ti_fin (ti_all_ok (fun _ => hG) S3 ti_k23_23)
  | false =>
    have S1 : qm_sat (qm_rho xs (ti_y xs)) (ti_E 23 (0, 9260) (2, 2) (0, 0) [(400, 310, false)]) := ti_add_f S0 b0
    cases b1 : decide (qm_rho xs (ti_y xs) 400 < qm_rho xs (ti_y xs) 314) with
    | true =>
      have S2 : qm_sat (qm_rho xs (ti_y xs)) (ti_E 23 (0, 9260) (2, 2) (0, 0) [(400, 314, true), (400, 310, false)]) := ti_add_f S1 b1
      cases b2 : decide (qm_rho xs (ti_y xs) 400 < qm_rho xs (ti_y xs) 318) with
      | true =>
        have S3 : qm_sat (qm_rho xs (ti_y xs)) (ti_E 23 (0, 9260) (2, 2) (0, 0) [(400, 318, true), (400, 314, true), (400, 310, false)]) := ti_add_f S2 b2
        exact ti_fin (ti_all_ok (fun _ => hG) S3 ti_k23_24)
      | false =>
        have S3 : qm_sat (qm_rho xs (ti_y xs)) (ti_E 23 (0, 9260) (2, 2) (0, 0) [(400, 318, false), (400, 314, true), (400, 310, false)]) := ti_add_f S2 b2
        exact ti_fin (ti_all_ok (fun _ => hG) S3 ti_k23_25)
    | false =>
      have S2 : qm_sat (qm_rho xs (ti_y xs)) (ti_E 23 (0, 9260) (2, 2) (0, 0) [(400, 314, false), (400, 310, false)]) := ti_add_f S1 b1
      cases b2 : decide (qm_rho xs (ti_y xs) 400 < qm_rho xs (ti_y xs) 318) with
      | true =>
        have S3 : qm_sat (qm_rho xs (ti_y xs)) (ti_E 23 (0, 9260) (2, 2) (0, 0) [(400, 318, true), (400, 314, false), (400, 310, false)]) := ti_add_f S2 b2
        exact ti_fin (ti_all_ok (fun _ => hG) S3 ti_k23_26)
      | false =>
        have S3 : qm_sat (qm_rho xs (ti_y xs)) (ti_E 23 (0, 9260) (2, 2) (0, 0) [(400, 318, false), (400, 314, false), (400, 310, false)]) := ti_add_f S2 b2
        exact ti_fin (ti_all_ok (fun _ => hG) S3 ti_k23_27)
theorem ti_23s3 {xs : Nat → Int32} (hG : ti_G (xs 1)) (S0 : qm_sat (qm_rho xs (ti_y xs)) (ti_E 23 (0, 9260) (3, 3) (0, 0) [])) : qm_Ru (some (6, xs)) 12 cd_law (18, qm_l18, [], qm_fn qm_d2) qm_Qf := by
  cases b0 : decide (qm_rho xs (ti_y xs) 400 < qm_rho xs (ti_y xs) 310) with
  | true =>
    have S1 : qm_sat (qm_rho xs (ti_y xs)) (ti_E 23 (0, 9260) (3, 3) (0, 0) [(400, 310, true)]) := ti_add_f S0 b0
    cases b1 : decide (qm_rho xs (ti_y xs) 400 < qm_rho xs (ti_y xs) 314) with
    | true =>
      have S2 : qm_sat (qm_rho xs (ti_y xs)) (ti_E 23 (0, 9260) (3, 3) (0, 0) [(400, 314, true), (400, 310, true)]) := ti_add_f S1 b1
      cases b2 : decide (qm_rho xs (ti_y xs) 400 < qm_rho xs (ti_y xs) 318) with
      | true =>
        have S3 : qm_sat (qm_rho xs (ti_y xs)) (ti_E 23 (0, 9260) (3, 3) (0, 0) [(400, 318, true), (400, 314, true), (400, 310, true)]) := ti_add_f S2 b2
        exact ti_fin (ti_all_ok (fun _ => hG) S3 ti_k23_28)
      | false =>
        have S3 : qm_sat (qm_rho xs (ti_y xs)) (ti_E 23 (0, 9260) (3, 3) (0, 0) [(400, 318, false), (400, 314, true), (400, 310, true)]) := ti_add_f S2 b2
        exact ti_fin (ti_all_ok (fun _ => hG) S3 ti_k23_29)
    | false =>
      have S2 : qm_sat (qm_rho xs (ti_y xs)) (ti_E 23 (0, 9260) (3, 3) (0, 0) [(400, 314, false), (400, 310, true)]) := ti_add_f S1 b1
      cases b2 : decide (qm_rho xs (ti_y xs) 400 < qm_rho xs (ti_y xs) 318) with
      | true =>
        have S3 : qm_sat (qm_rho xs (ti_y xs)) (ti_E 23 (0, 9260) (3, 3) (0, 0) [(400, 318, true), (400, 314, false), (400, 310, true)]) := ti_add_f S2 b2
        exact ti_fin (ti_all_ok (fun _ => hG) S3 ti_k23_30)
      | false =>
        have S3 : qm_sat (qm_rho xs (ti_y xs)) (ti_E 23 (0, 9260) (3, 3) (0, 0) [(400, 318, false), (400, 314, false), (400, 310, true)]) := ti_add_f S2 b2
        exact ti_fin (ti_all_ok (fun _ => hG) S3 ti_k23_31)
  | false =>
    have S1 : qm_sat (qm_rho xs (ti_y xs)) (ti_E 23 (0, 9260) (3, 3) (0, 0) [(400, 310, false)]) := ti_add_f S0 b0
    cases b1 : decide (qm_rho xs (ti_y xs) 400 < qm_rho xs (ti_y xs) 314) with
    | true =>
      have S2 : qm_sat (qm_rho xs (ti_y xs)) (ti_E 23 (0, 9260) (3, 3) (0, 0) [(400, 314, true), (400, 310, false)]) := ti_add_f S1 b1
      cases b2 : decide (qm_rho xs (ti_y xs) 400 < qm_rho xs (ti_y xs) 318) with
      | true =>
        have S3 : qm_sat (qm_rho xs (ti_y xs)) (ti_E 23 (0, 9260) (3, 3) (0, 0) [(400, 318, true), (400, 314, true), (400, 310, false)]) := ti_add_f S2 b2
        exact ti_fin (ti_all_ok (fun _ => hG) S3 ti_k23_32)
      | false =>
        have S3 : qm_sat (qm_rho xs (ti_y xs)) (ti_E 23 (0, 9260) (3, 3) (0, 0) [(400, 318, false), (400, 314, true), (400, 310, false)]) := ti_add_f S2 b2
        exact ti_fin (ti_all_ok (fun _ => hG) S3 ti_k23_33)
    | false =>
      have S2 : qm_sat (qm_rho xs (ti_y xs)) (ti_E 23 (0, 9260) (3, 3) (0, 0) [(400, 314, false), (400, 310, false)]) := ti_add_f S1 b1
      cases b2 : decide (qm_rho xs (ti_y xs) 400 < qm_rho xs (ti_y xs) 318) with
      | true =>
        have S3 : qm_sat (qm_rho xs (ti_y xs)) (ti_E 23 (0, 9260) (3, 3) (0, 0) [(400, 318, true), (400, 314, false), (400, 310, false)]) := ti_add_f S2 b2
        exact ti_fin (ti_all_ok (fun _ => hG) S3 ti_k23_34)
      | false =>
        have S3 : qm_sat (qm_rho xs (ti_y xs)) (ti_E 23 (0, 9260) (3, 3) (0, 0) [(400, 318, false), (400, 314, false), (400, 310, false)]) := ti_add_f S2 b2
        exact ti_fin (ti_all_ok (fun _ => hG) S3 ti_k23_35)
theorem ti_24n {xs : Nat → Int32} (S0 : qm_sat (qm_rho xs (ti_y xs)) (ti_E 24 (-2147483648, -1) (-2147483648, 2147483647) (-2147483648, 2147483647) [])) : qm_Ru (some (6, xs)) 12 cd_law (18, qm_l18, [], qm_fn qm_d2) qm_Qf := by
  exact ti_fin (ti_all_ok ti_no S0 ti_k24_36)
theorem ti_24b {xs : Nat → Int32} (S0 : qm_sat (qm_rho xs (ti_y xs)) (ti_E 24 (9261, 2147483647) (-2147483648, 2147483647) (1, 2147483647) [])) : qm_Ru (some (6, xs)) 12 cd_law (18, qm_l18, [], qm_fn qm_d2) qm_Qf := by
  exact ti_fin (ti_all_ok ti_no S0 ti_k24_37)
theorem ti_24m {xs : Nat → Int32} (hG : ti_G (xs 1)) (S0 : qm_sat (qm_rho xs (ti_y xs)) (ti_E 24 (0, 9260) (-2147483648, 2147483647) (0, 0) [])) : qm_Ru (some (6, xs)) 12 cd_law (18, qm_l18, [], qm_fn qm_d2) qm_Qf := by
  cases b0 : decide (qm_rho xs (ti_y xs) 400 < qm_rho xs (ti_y xs) 310) with
  | true =>
    have S1 : qm_sat (qm_rho xs (ti_y xs)) (ti_E 24 (0, 9260) (-2147483648, 2147483647) (0, 0) [(400, 310, true)]) := ti_add_f S0 b0
    cases b1 : decide (qm_rho xs (ti_y xs) 400 < qm_rho xs (ti_y xs) 314) with
    | true =>
      have S2 : qm_sat (qm_rho xs (ti_y xs)) (ti_E 24 (0, 9260) (-2147483648, 2147483647) (0, 0) [(400, 314, true), (400, 310, true)]) := ti_add_f S1 b1
      cases b2 : decide (qm_rho xs (ti_y xs) 400 < qm_rho xs (ti_y xs) 318) with
      | true =>
        have S3 : qm_sat (qm_rho xs (ti_y xs)) (ti_E 24 (0, 9260) (-2147483648, 2147483647) (0, 0) [(400, 318, true), (400, 314, true), (400, 310, true)]) := ti_add_f S2 b2
        cases b3 : decide (qm_rho xs (ti_y xs) 18834 < qm_rho xs (ti_y xs) 656) with
        | true =>
          have S4 : qm_sat (qm_rho xs (ti_y xs)) (ti_E 24 (0, 9260) (-2147483648, 2147483647) (0, 0) [(18834, 656, true), (400, 318, true), (400, 314, true), (400, 310, true)]) := ti_add_f S3 b3
          cases b4 : decide (qm_rho xs (ti_y xs) 656 < qm_rho xs (ti_y xs) 19092) with
          | true =>
            have S5 : qm_sat (qm_rho xs (ti_y xs)) (ti_E 24 (0, 9260) (-2147483648, 2147483647) (0, 0) [(656, 19092, true), (18834, 656, true), (400, 318, true), (400, 314, true), (400, 310, true)]) := ti_add_f S4 b4
            cases b5 : decide (qm_rho xs (ti_y xs) 16784 < qm_rho xs (ti_y xs) 2706) with
            | true =>
              have S6 : qm_sat (qm_rho xs (ti_y xs)) (ti_E 24 (0, 9260) (-2147483648, 2147483647) (0, 0) [(16784, 2706, true), (656, 19092, true), (18834, 656, true), (400, 318, true), (400, 314, true), (400, 310, true)]) := ti_add_f S5 b5
              cases b6 : decide (qm_rho xs (ti_y xs) 2706 < qm_rho xs (ti_y xs) 656) with
              | true =>
                have S7 : qm_sat (qm_rho xs (ti_y xs)) (ti_E 24 (0, 9260) (-2147483648, 2147483647) (0, 0) [(2706, 656, true), (16784, 2706, true), (656, 19092, true), (18834, 656, true), (400, 318, true), (400, 314, true), (400, 310, true)]) := ti_add_f S6 b6
                exact ti_fin (ti_all_ok (fun _ => hG) S7 ti_k24_38)
              | false =>
                have S7 : qm_sat (qm_rho xs (ti_y xs)) (ti_E 24 (0, 9260) (-2147483648, 2147483647) (0, 0) [(2706, 656, false), (16784, 2706, true), (656, 19092, true), (18834, 656, true), (400, 318, true), (400, 314, true), (400, 310, true)]) := ti_add_f S6 b6
                exact ti_fin (ti_all_ok (fun _ => hG) S7 ti_k24_39)
            | false =>
              have S6 : qm_sat (qm_rho xs (ti_y xs)) (ti_E 24 (0, 9260) (-2147483648, 2147483647) (0, 0) [(16784, 2706, false), (656, 19092, true), (18834, 656, true), (400, 318, true), (400, 314, true), (400, 310, true)]) := ti_add_f S5 b5
              cases b6 : decide (qm_rho xs (ti_y xs) 16784 < qm_rho xs (ti_y xs) 656) with
              | true =>
                have S7 : qm_sat (qm_rho xs (ti_y xs)) (ti_E 24 (0, 9260) (-2147483648, 2147483647) (0, 0) [(16784, 656, true), (16784, 2706, false), (656, 19092, true), (18834, 656, true), (400, 318, true), (400, 314, true), (400, 310, true)]) := ti_add_f S6 b6
                exact ti_fin (ti_all_ok (fun _ => hG) S7 ti_k24_40)
              | false =>
                have S7 : qm_sat (qm_rho xs (ti_y xs)) (ti_E 24 (0, 9260) (-2147483648, 2147483647) (0, 0) [(16784, 656, false), (16784, 2706, false), (656, 19092, true), (18834, 656, true), (400, 318, true), (400, 314, true), (400, 310, true)]) := ti_add_f S6 b6
                exact ti_fin (ti_all_ok (fun _ => hG) S7 ti_k24_41)
          | false =>
            have S5 : qm_sat (qm_rho xs (ti_y xs)) (ti_E 24 (0, 9260) (-2147483648, 2147483647) (0, 0) [(656, 19092, false), (18834, 656, true), (400, 318, true), (400, 314, true), (400, 310, true)]) := ti_add_f S4 b4
            cases b5 : decide (qm_rho xs (ti_y xs) 16784 < qm_rho xs (ti_y xs) 2706) with
            | true =>
              have S6 : qm_sat (qm_rho xs (ti_y xs)) (ti_E 24 (0, 9260) (-2147483648, 2147483647) (0, 0) [(16784, 2706, true), (656, 19092, false), (18834, 656, true), (400, 318, true), (400, 314, true), (400, 310, true)]) := ti_add_f S5 b5
              exact ti_fin (ti_all_ok (fun _ => hG) S6 ti_k24_42)
            | false =>
              have S6 : qm_sat (qm_rho xs (ti_y xs)) (ti_E 24 (0, 9260) (-2147483648, 2147483647) (0, 0) [(16784, 2706, false), (656, 19092, false), (18834, 656, true), (400, 318, true), (400, 314, true), (400, 310, true)]) := ti_add_f S5 b5
              exact ti_fin (ti_all_ok (fun _ => hG) S6 ti_k24_43)
        | false =>
          have S4 : qm_sat (qm_rho xs (ti_y xs)) (ti_E 24 (0, 9260) (-2147483648, 2147483647) (0, 0) [(18834, 656, false), (400, 318, true), (400, 314, true), (400, 310, true)]) := ti_add_f S3 b3
          cases b4 : decide (qm_rho xs (ti_y xs) 18834 < qm_rho xs (ti_y xs) 19092) with
          | true =>
            have S5 : qm_sat (qm_rho xs (ti_y xs)) (ti_E 24 (0, 9260) (-2147483648, 2147483647) (0, 0) [(18834, 19092, true), (18834, 656, false), (400, 318, true), (400, 314, true), (400, 310, true)]) := ti_add_f S4 b4
            cases b5 : decide (qm_rho xs (ti_y xs) 16784 < qm_rho xs (ti_y xs) 2706) with
            | true =>
              have S6 : qm_sat (qm_rho xs (ti_y xs)) (ti_E 24 (0, 9260) (-2147483648, 2147483647) (0, 0) [(16784, 2706, true), (18834, 19092, true), (18834, 656, false), (400, 318, true), (400, 314, true), (400, 310, true)]) := ti_add_f S5 b5
              cases b6 : decide (qm_rho xs (ti_y xs) 2706 < qm_rho xs (ti_y xs) 18834) with
              | true =>
                have S7 : qm_sat (qm_rho xs (ti_y xs)) (ti_E 24 (0, 9260) (-2147483648, 2147483647) (0, 0) [(2706, 18834, true), (16784, 2706, true), (18834, 19092, true), (18834, 656, false), (400, 318, true), (400, 314, true), (400, 310, true)]) := ti_add_f S6 b6
                exact ti_fin (ti_all_ok (fun _ => hG) S7 ti_k24_44)
              | false =>
                have S7 : qm_sat (qm_rho xs (ti_y xs)) (ti_E 24 (0, 9260) (-2147483648, 2147483647) (0, 0) [(2706, 18834, false), (16784, 2706, true), (18834, 19092, true), (18834, 656, false), (400, 318, true), (400, 314, true), (400, 310, true)]) := ti_add_f S6 b6
                exact ti_fin (ti_all_ok (fun _ => hG) S7 ti_k24_45)
            | false =>
              have S6 : qm_sat (qm_rho xs (ti_y xs)) (ti_E 24 (0, 9260) (-2147483648, 2147483647) (0, 0) [(16784, 2706, false), (18834, 19092, true), (18834, 656, false), (400, 318, true), (400, 314, true), (400, 310, true)]) := ti_add_f S5 b5
              cases b6 : decide (qm_rho xs (ti_y xs) 16784 < qm_rho xs (ti_y xs) 18834) with
              | true =>
                have S7 : qm_sat (qm_rho xs (ti_y xs)) (ti_E 24 (0, 9260) (-2147483648, 2147483647) (0, 0) [(16784, 18834, true), (16784, 2706, false), (18834, 19092, true), (18834, 656, false), (400, 318, true), (400, 314, true), (400, 310, true)]) := ti_add_f S6 b6
                exact ti_fin (ti_all_ok (fun _ => hG) S7 ti_k24_46)
              | false =>
                have S7 : qm_sat (qm_rho xs (ti_y xs)) (ti_E 24 (0, 9260) (-2147483648, 2147483647) (0, 0) [(16784, 18834, false), (16784, 2706, false), (18834, 19092, true), (18834, 656, false), (400, 318, true), (400, 314, true), (400, 310, true)]) := ti_add_f S6 b6
                exact ti_fin (ti_all_ok (fun _ => hG) S7 ti_k24_47)
          | false =>
            have S5 : qm_sat (qm_rho xs (ti_y xs)) (ti_E 24 (0, 9260) (-2147483648, 2147483647) (0, 0) [(18834, 19092, false), (18834, 656, false), (400, 318, true), (400, 314, true), (400, 310, true)]) := ti_add_f S4 b4
            cases b5 : decide (qm_rho xs (ti_y xs) 16784 < qm_rho xs (ti_y xs) 2706) with
            | true =>
              have S6 : qm_sat (qm_rho xs (ti_y xs)) (ti_E 24 (0, 9260) (-2147483648, 2147483647) (0, 0) [(16784, 2706, true), (18834, 19092, false), (18834, 656, false), (400, 318, true), (400, 314, true), (400, 310, true)]) := ti_add_f S5 b5
              exact ti_fin (ti_all_ok (fun _ => hG) S6 ti_k24_48)
            | false =>
              have S6 : qm_sat (qm_rho xs (ti_y xs)) (ti_E 24 (0, 9260) (-2147483648, 2147483647) (0, 0) [(16784, 2706, false), (18834, 19092, false), (18834, 656, false), (400, 318, true), (400, 314, true), (400, 310, true)]) := ti_add_f S5 b5
              exact ti_fin (ti_all_ok (fun _ => hG) S6 ti_k24_49)
      | false =>
        have S3 : qm_sat (qm_rho xs (ti_y xs)) (ti_E 24 (0, 9260) (-2147483648, 2147483647) (0, 0) [(400, 318, false), (400, 314, true), (400, 310, true)]) := ti_add_f S2 b2
        cases b3 : decide (qm_rho xs (ti_y xs) 2450 < qm_rho xs (ti_y xs) 656) with
        | true =>
          have S4 : qm_sat (qm_rho xs (ti_y xs)) (ti_E 24 (0, 9260) (-2147483648, 2147483647) (0, 0) [(2450, 656, true), (400, 318, false), (400, 314, true), (400, 310, true)]) := ti_add_f S3 b3
          cases b4 : decide (qm_rho xs (ti_y xs) 656 < qm_rho xs (ti_y xs) 2708) with
          | true =>
            have S5 : qm_sat (qm_rho xs (ti_y xs)) (ti_E 24 (0, 9260) (-2147483648, 2147483647) (0, 0) [(656, 2708, true), (2450, 656, true), (400, 318, false), (400, 314, true), (400, 310, true)]) := ti_add_f S4 b4
            exact ti_fin (ti_all_ok (fun _ => hG) S5 ti_k24_50)
          | false =>
            have S5 : qm_sat (qm_rho xs (ti_y xs)) (ti_E 24 (0, 9260) (-2147483648, 2147483647) (0, 0) [(656, 2708, false), (2450, 656, true), (400, 318, false), (400, 314, true), (400, 310, true)]) := ti_add_f S4 b4
            exact ti_fin (ti_all_ok (fun _ => hG) S5 ti_k24_51)
        | false =>
          have S4 : qm_sat (qm_rho xs (ti_y xs)) (ti_E 24 (0, 9260) (-2147483648, 2147483647) (0, 0) [(2450, 656, false), (400, 318, false), (400, 314, true), (400, 310, true)]) := ti_add_f S3 b3
          cases b4 : decide (qm_rho xs (ti_y xs) 2450 < qm_rho xs (ti_y xs) 2708) with
          | true =>
            have S5 : qm_sat (qm_rho xs (ti_y xs)) (ti_E 24 (0, 9260) (-2147483648, 2147483647) (0, 0) [(2450, 2708, true), (2450, 656, false), (400, 318, false), (400, 314, true), (400, 310, true)]) := ti_add_f S4 b4
            exact ti_fin (ti_all_ok (fun _ => hG) S5 ti_k24_52)
          | false =>
            have S5 : qm_sat (qm_rho xs (ti_y xs)) (ti_E 24 (0, 9260) (-2147483648, 2147483647) (0, 0) [(2450, 2708, false), (2450, 656, false), (400, 318, false), (400, 314, true), (400, 310, true)]) := ti_add_f S4 b4
            exact ti_fin (ti_all_ok (fun _ => hG) S5 ti_k24_53)
    | false =>
      have S2 : qm_sat (qm_rho xs (ti_y xs)) (ti_E 24 (0, 9260) (-2147483648, 2147483647) (0, 0) [(400, 314, false), (400, 310, true)]) := ti_add_f S1 b1
      cases b2 : decide (qm_rho xs (ti_y xs) 400 < qm_rho xs (ti_y xs) 318) with
      | true =>
        have S3 : qm_sat (qm_rho xs (ti_y xs)) (ti_E 24 (0, 9260) (-2147483648, 2147483647) (0, 0) [(400, 318, true), (400, 314, false), (400, 310, true)]) := ti_add_f S2 b2
        cases b3 : decide (qm_rho xs (ti_y xs) 16784 < qm_rho xs (ti_y xs) 656) with
        | true =>
          have S4 : qm_sat (qm_rho xs (ti_y xs)) (ti_E 24 (0, 9260) (-2147483648, 2147483647) (0, 0) [(16784, 656, true), (400, 318, true), (400, 314, false), (400, 310, true)]) := ti_add_f S3 b3
          exact ti_fin (ti_all_ok (fun _ => hG) S4 ti_k24_54)
        | false =>
          have S4 : qm_sat (qm_rho xs (ti_y xs)) (ti_E 24 (0, 9260) (-2147483648, 2147483647) (0, 0) [(16784, 656, false), (400, 318, true), (400, 314, false), (400, 310, true)]) := ti_add_f S3 b3
          exact ti_fin (ti_all_ok (fun _ => hG) S4 ti_k24_55)
      | false =>
        have S3 : qm_sat (qm_rho xs (ti_y xs)) (ti_E 24 (0, 9260) (-2147483648, 2147483647) (0, 0) [(400, 318, false), (400, 314, false), (400, 310, true)]) := ti_add_f S2 b2
        exact ti_fin (ti_all_ok (fun _ => hG) S3 ti_k24_56)
  | false =>
    have S1 : qm_sat (qm_rho xs (ti_y xs)) (ti_E 24 (0, 9260) (-2147483648, 2147483647) (0, 0) [(400, 310, false)]) := ti_add_f S0 b0
    cases b1 : decide (qm_rho xs (ti_y xs) 400 < qm_rho xs (ti_y xs) 314) with
    | true =>
      have S2 : qm_sat (qm_rho xs (ti_y xs)) (ti_E 24 (0, 9260) (-2147483648, 2147483647) (0, 0) [(400, 314, true), (400, 310, false)]) := ti_add_f S1 b1
      cases b2 : decide (qm_rho xs (ti_y xs) 400 < qm_rho xs (ti_y xs) 318) with
      | true =>
        have S3 : qm_sat (qm_rho xs (ti_y xs)) (ti_E 24 (0, 9260) (-2147483648, 2147483647) (0, 0) [(400, 318, true), (400, 314, true), (400, 310, false)]) := ti_add_f S2 b2
        cases b3 : decide (qm_rho xs (ti_y xs) 16784 < qm_rho xs (ti_y xs) 2450) with
        | true =>
          have S4 : qm_sat (qm_rho xs (ti_y xs)) (ti_E 24 (0, 9260) (-2147483648, 2147483647) (0, 0) [(16784, 2450, true), (400, 318, true), (400, 314, true), (400, 310, false)]) := ti_add_f S3 b3
          cases b4 : decide (qm_rho xs (ti_y xs) 2450 < qm_rho xs (ti_y xs) 18834) with
          | true =>
            have S5 : qm_sat (qm_rho xs (ti_y xs)) (ti_E 24 (0, 9260) (-2147483648, 2147483647) (0, 0) [(2450, 18834, true), (16784, 2450, true), (400, 318, true), (400, 314, true), (400, 310, false)]) := ti_add_f S4 b4
            exact ti_fin (ti_all_ok (fun _ => hG) S5 ti_k24_57)
          | false =>
            have S5 : qm_sat (qm_rho xs (ti_y xs)) (ti_E 24 (0, 9260) (-2147483648, 2147483647) (0, 0) [(2450, 18834, false), (16784, 2450, true), (400, 318, true), (400, 314, true), (400, 310, false)]) := ti_add_f S4 b4
            exact ti_fin (ti_all_ok (fun _ => hG) S5 ti_k24_58)
        | false =>
          have S4 : qm_sat (qm_rho xs (ti_y xs)) (ti_E 24 (0, 9260) (-2147483648, 2147483647) (0, 0) [(16784, 2450, false), (400, 318, true), (400, 314, true), (400, 310, false)]) := ti_add_f S3 b3
          cases b4 : decide (qm_rho xs (ti_y xs) 16784 < qm_rho xs (ti_y xs) 18834) with
          | true =>
            have S5 : qm_sat (qm_rho xs (ti_y xs)) (ti_E 24 (0, 9260) (-2147483648, 2147483647) (0, 0) [(16784, 18834, true), (16784, 2450, false), (400, 318, true), (400, 314, true), (400, 310, false)]) := ti_add_f S4 b4
            exact ti_fin (ti_all_ok (fun _ => hG) S5 ti_k24_59)
          | false =>
            have S5 : qm_sat (qm_rho xs (ti_y xs)) (ti_E 24 (0, 9260) (-2147483648, 2147483647) (0, 0) [(16784, 18834, false), (16784, 2450, false), (400, 318, true), (400, 314, true), (400, 310, false)]) := ti_add_f S4 b4
            exact ti_fin (ti_all_ok (fun _ => hG) S5 ti_k24_60)
      | false =>
        have S3 : qm_sat (qm_rho xs (ti_y xs)) (ti_E 24 (0, 9260) (-2147483648, 2147483647) (0, 0) [(400, 318, false), (400, 314, true), (400, 310, false)]) := ti_add_f S2 b2
        exact ti_fin (ti_all_ok (fun _ => hG) S3 ti_k24_61)
    | false =>
      have S2 : qm_sat (qm_rho xs (ti_y xs)) (ti_E 24 (0, 9260) (-2147483648, 2147483647) (0, 0) [(400, 314, false), (400, 310, false)]) := ti_add_f S1 b1
      cases b2 : decide (qm_rho xs (ti_y xs) 400 < qm_rho xs (ti_y xs) 318) with
      | true =>
        have S3 : qm_sat (qm_rho xs (ti_y xs)) (ti_E 24 (0, 9260) (-2147483648, 2147483647) (0, 0) [(400, 318, true), (400, 314, false), (400, 310, false)]) := ti_add_f S2 b2
        exact ti_fin (ti_all_ok (fun _ => hG) S3 ti_k24_62)
      | false =>
        have S3 : qm_sat (qm_rho xs (ti_y xs)) (ti_E 24 (0, 9260) (-2147483648, 2147483647) (0, 0) [(400, 318, false), (400, 314, false), (400, 310, false)]) := ti_add_f S2 b2
        exact ti_fin (ti_all_ok (fun _ => hG) S3 ti_k24_63)
section TIF
variable {xs : Nat → Int32}
theorem ti_23 (h0 : (xs 0 &&& 63).toInt = 23) : qm_Ru (some (6, xs)) 12 cd_law (18, qm_l18, [], qm_fn qm_d2) qm_Qf := by
  have w1 := ti_w (xs 1)
  have w2 := ti_w (xs 2)
  by_cases hn : (xs 1).toInt < 0
  · exact ti_23n (ti_sat0 h0 (a := (-2147483648, -1)) ⟨w1.1, by dsimp only; omega⟩ w2 (ti_w _))
  · by_cases hb : 9260 < (xs 1).toInt
    · exact ti_23b (ti_sat0 h0 (a := (9261, 2147483647)) ⟨by dsimp only; omega, w1.2⟩ w2 (ti_big (by omega)))
    · have hG := ti_isG (x := xs 1) (by omega) (by omega)
      have hl := ti_low (xs := xs) (by omega) (by omega)
      have ha : ((0, 9260) : Int × Int).1 ≤ (xs 1).toInt ∧ (xs 1).toInt ≤ ((0, 9260) : Int × Int).2 := ⟨by dsimp only; omega, by dsimp only; omega⟩
      by_cases g0 : (xs 2).toInt < 0
      · exact ti_23l hG (ti_sat0 h0 ha (b := (-2147483648, -1)) ⟨w2.1, by dsimp only; omega⟩ hl)
      · by_cases g4 : 3 < (xs 2).toInt
        · exact ti_23u hG (ti_sat0 h0 ha (b := (4, 2147483647)) ⟨by dsimp only; omega, w2.2⟩ hl)
        · have hc : (xs 2).toInt = 0 ∨ (xs 2).toInt = 1 ∨ (xs 2).toInt = 2 ∨ (xs 2).toInt = 3 := by omega
          rcases hc with z | z | z | z
          · exact ti_23s0 hG (ti_sat0 h0 ha (b := (0, 0)) ⟨by dsimp only; omega, by dsimp only; omega⟩ hl)
          · exact ti_23s1 hG (ti_sat0 h0 ha (b := (1, 1)) ⟨by dsimp only; omega, by dsimp only; omega⟩ hl)
          · exact ti_23s2 hG (ti_sat0 h0 ha (b := (2, 2)) ⟨by dsimp only; omega, by dsimp only; omega⟩ hl)
          · exact ti_23s3 hG (ti_sat0 h0 ha (b := (3, 3)) ⟨by dsimp only; omega, by dsimp only; omega⟩ hl)
theorem ti_24 (h0 : (xs 0 &&& 63).toInt = 24) : qm_Ru (some (6, xs)) 12 cd_law (18, qm_l18, [], qm_fn qm_d2) qm_Qf := by
  have w1 := ti_w (xs 1)
  have w2 := ti_w (xs 2)
  by_cases hn : (xs 1).toInt < 0
  · exact ti_24n (ti_sat0 h0 (a := (-2147483648, -1)) ⟨w1.1, by dsimp only; omega⟩ w2 (ti_w _))
  · by_cases hb : 9260 < (xs 1).toInt
    · exact ti_24b (ti_sat0 h0 (a := (9261, 2147483647)) ⟨by dsimp only; omega, w1.2⟩ w2 (ti_big (by omega)))
    · have hG := ti_isG (x := xs 1) (by omega) (by omega)
      have hl := ti_low (xs := xs) (by omega) (by omega)
      have ha : ((0, 9260) : Int × Int).1 ≤ (xs 1).toInt ∧ (xs 1).toInt ≤ ((0, 9260) : Int × Int).2 := ⟨by dsimp only; omega, by dsimp only; omega⟩
      exact ti_24m hG (ti_sat0 h0 ha w2 hl)
end TIF
