theorem qm_op54 : qm_all qm_F 24227 12 (qm_E0 54) cd_law qm_c0 [] = true := by decide +kernel
