theorem qm_op53 : qm_all qm_F 24293 12 (qm_E0 53) cd_law qm_c0 [] = true := by decide +kernel
