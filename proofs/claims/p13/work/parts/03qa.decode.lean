def am_oke (q : Nat × (Instr × Nat × Nat) × Nat × Option FieldType) : Bool := am_okp (q.1 / 2048) (q.1 % 2048) q.2.1 && (decide (am_mc (q.1 / 2048) = q.2.2.1) && (decide (am_mr (q.1 / 2048) = q.2.2.2) && Nat.blt (q.1 / 2048) 263))
set_option maxRecDepth 1000000 in
theorem fc_fq_0 : tr_all am_oke 5 fq_0 = true := by decide +kernel
set_option maxRecDepth 1000000 in
theorem fc_fq_1 : tr_all am_oke 5 fq_1 = true := by decide +kernel
set_option maxRecDepth 1000000 in
theorem fc_fq_2 : tr_all am_oke 5 fq_2 = true := by decide +kernel
set_option maxRecDepth 1000000 in
theorem fc_fq_3 : tr_all am_oke 5 fq_3 = true := by decide +kernel
set_option maxRecDepth 1000000 in
theorem fc_fq_4 : tr_all am_oke 5 fq_4 = true := by decide +kernel
set_option maxRecDepth 1000000 in
theorem fc_fq_5 : tr_all am_oke 5 fq_5 = true := by decide +kernel
set_option maxRecDepth 1000000 in
theorem fc_fq_6 : tr_all am_oke 5 fq_6 = true := by decide +kernel
set_option maxRecDepth 1000000 in
theorem fc_fq_7 : tr_all am_oke 5 fq_7 = true := by decide +kernel
set_option maxRecDepth 1000000 in
theorem fc_fq_8 : tr_all am_oke 5 fq_8 = true := by decide +kernel
set_option maxRecDepth 1000000 in
theorem fc_fq_9 : tr_all am_oke 5 fq_9 = true := by decide +kernel
set_option maxRecDepth 1000000 in
theorem fc_fq_10 : tr_all am_oke 5 fq_10 = true := by decide +kernel
set_option maxRecDepth 1000000 in
theorem fc_fq_11 : tr_all am_oke 5 fq_11 = true := by decide +kernel
set_option maxRecDepth 1000000 in
theorem fc_fq_12 : tr_all am_oke 5 fq_12 = true := by decide +kernel
set_option maxRecDepth 1000000 in
theorem fc_fq_13 : tr_all am_oke 5 fq_13 = true := by decide +kernel
set_option maxRecDepth 1000000 in
theorem fc_fq_14 : tr_all am_oke 5 fq_14 = true := by decide +kernel
set_option maxRecDepth 1000000 in
theorem fc_fq_15 : tr_all am_oke 5 fq_15 = true := by decide +kernel
set_option maxRecDepth 1000000 in
theorem fc_fq_16 : tr_all am_oke 5 fq_16 = true := by decide +kernel
set_option maxRecDepth 1000000 in
theorem fc_fq_17 : tr_all am_oke 5 fq_17 = true := by decide +kernel
set_option maxRecDepth 1000000 in
theorem fc_fq_18 : tr_all am_oke 5 fq_18 = true := by decide +kernel
set_option maxRecDepth 1000000 in
theorem fc_fq_19 : tr_all am_oke 5 fq_19 = true := by decide +kernel
set_option maxRecDepth 1000000 in
theorem fc_fq_20 : tr_all am_oke 5 fq_20 = true := by decide +kernel
set_option maxRecDepth 1000000 in
theorem fc_fq_21 : tr_all am_oke 5 fq_21 = true := by decide +kernel
set_option maxRecDepth 1000000 in
theorem fc_fq_22 : tr_all am_oke 5 fq_22 = true := by decide +kernel
set_option maxRecDepth 1000000 in
theorem fc_fq_23 : tr_all am_oke 5 fq_23 = true := by decide +kernel
set_option maxRecDepth 1000000 in
theorem fc_fq_24 : tr_all am_oke 5 fq_24 = true := by decide +kernel
set_option maxRecDepth 1000000 in
theorem fc_fq_25 : tr_all am_oke 5 fq_25 = true := by decide +kernel
set_option maxRecDepth 1000000 in
theorem fc_fq_26 : tr_all am_oke 5 fq_26 = true := by decide +kernel
set_option maxRecDepth 1000000 in
theorem fc_fq_27 : tr_all am_oke 5 fq_27 = true := by decide +kernel
set_option maxRecDepth 1000000 in
theorem fc_fq_28 : tr_all am_oke 5 fq_28 = true := by decide +kernel
set_option maxRecDepth 1000000 in
theorem fc_fq_29 : tr_all am_oke 5 fq_29 = true := by decide +kernel
set_option maxRecDepth 1000000 in
theorem fc_fq_30 : tr_all am_oke 5 fq_30 = true := by decide +kernel
set_option maxRecDepth 1000000 in
theorem fc_fq_31 : tr_all am_oke 5 fq_31 = true := by decide +kernel
set_option maxRecDepth 1000000 in
theorem fc_fq_32 : tr_all am_oke 5 fq_32 = true := by decide +kernel
set_option maxRecDepth 1000000 in
theorem fc_fq_33 : tr_all am_oke 5 fq_33 = true := by decide +kernel
set_option maxRecDepth 1000000 in
theorem fc_fq_34 : tr_all am_oke 5 fq_34 = true := by decide +kernel
set_option maxRecDepth 1000000 in
theorem fc_fq_35 : tr_all am_oke 5 fq_35 = true := by decide +kernel
set_option maxRecDepth 1000000 in
theorem fc_fq_36 : tr_all am_oke 5 fq_36 = true := by decide +kernel
set_option maxRecDepth 1000000 in
theorem fc_fq_37 : tr_all am_oke 5 fq_37 = true := by decide +kernel
set_option maxRecDepth 1000000 in
theorem fc_fq_38 : tr_all am_oke 5 fq_38 = true := by decide +kernel
set_option maxRecDepth 1000000 in
theorem fc_fq_39 : tr_all am_oke 5 fq_39 = true := by decide +kernel
set_option maxRecDepth 1000000 in
theorem fc_fq_40 : tr_all am_oke 5 fq_40 = true := by decide +kernel
set_option maxRecDepth 1000000 in
theorem fc_fq_41 : tr_all am_oke 5 fq_41 = true := by decide +kernel
set_option maxRecDepth 1000000 in
theorem fc_fq_42 : tr_all am_oke 5 fq_42 = true := by decide +kernel
set_option maxRecDepth 1000000 in
theorem fc_fq_43 : tr_all am_oke 5 fq_43 = true := by decide +kernel
set_option maxRecDepth 1000000 in
theorem fc_fq_44 : tr_all am_oke 5 fq_44 = true := by decide +kernel
set_option maxRecDepth 1000000 in
theorem fc_fq_45 : tr_all am_oke 5 fq_45 = true := by decide +kernel
set_option maxRecDepth 1000000 in
theorem fc_fq_46 : tr_all am_oke 5 fq_46 = true := by decide +kernel
set_option maxRecDepth 1000000 in
theorem fc_fq_47 : tr_all am_oke 5 fq_47 = true := by decide +kernel
set_option maxRecDepth 1000000 in
theorem fc_fq_48 : tr_all am_oke 5 fq_48 = true := by decide +kernel
set_option maxRecDepth 1000000 in
theorem fc_fq_49 : tr_all am_oke 5 fq_49 = true := by decide +kernel
set_option maxRecDepth 1000000 in
theorem fc_fq_50 : tr_all am_oke 5 fq_50 = true := by decide +kernel
set_option maxRecDepth 1000000 in
theorem fc_fq_51 : tr_all am_oke 5 fq_51 = true := by decide +kernel
set_option maxRecDepth 1000000 in
theorem fc_fq_52 : tr_all am_oke 5 fq_52 = true := by decide +kernel
set_option maxRecDepth 1000000 in
theorem fc_fq_53 : tr_all am_oke 5 fq_53 = true := by decide +kernel
set_option maxRecDepth 1000000 in
theorem fc_fq_54 : tr_all am_oke 5 fq_54 = true := by decide +kernel
set_option maxRecDepth 1000000 in
theorem fc_fq_55 : tr_all am_oke 5 fq_55 = true := by decide +kernel
set_option maxRecDepth 1000000 in
theorem fc_fq_56 : tr_all am_oke 5 fq_56 = true := by decide +kernel
set_option maxRecDepth 1000000 in
theorem fc_fq_57 : tr_all am_oke 5 fq_57 = true := by decide +kernel
set_option maxRecDepth 1000000 in
theorem fc_fq_58 : tr_all am_oke 5 fq_58 = true := by decide +kernel
set_option maxRecDepth 1000000 in
theorem fc_fq_59 : tr_all am_oke 5 fq_59 = true := by decide +kernel
set_option maxRecDepth 1000000 in
theorem fc_fq_60 : tr_all am_oke 5 fq_60 = true := by decide +kernel
set_option maxRecDepth 1000000 in
theorem fc_fq_61 : tr_all am_oke 5 fq_61 = true := by decide +kernel
set_option maxRecDepth 1000000 in
theorem fc_fq_62 : tr_all am_oke 5 fq_62 = true := by decide +kernel
set_option maxRecDepth 1000000 in
theorem fc_fq_63 : tr_all am_oke 5 fq_63 = true := by decide +kernel
set_option maxRecDepth 1000000 in
theorem fc_fq_64 : tr_all am_oke 5 fq_64 = true := by decide +kernel
set_option maxRecDepth 1000000 in
theorem fc_fq_65 : tr_all am_oke 5 fq_65 = true := by decide +kernel
set_option maxRecDepth 1000000 in
theorem fc_fq_66 : tr_all am_oke 5 fq_66 = true := by decide +kernel
set_option maxRecDepth 1000000 in
theorem fc_fq_67 : tr_all am_oke 5 fq_67 = true := by decide +kernel
set_option maxRecDepth 1000000 in
theorem fc_fq_68 : tr_all am_oke 5 fq_68 = true := by decide +kernel
set_option maxRecDepth 1000000 in
theorem fc_fq_69 : tr_all am_oke 5 fq_69 = true := by decide +kernel
set_option maxRecDepth 1000000 in
theorem fc_fq_70 : tr_all am_oke 5 fq_70 = true := by decide +kernel
set_option maxRecDepth 1000000 in
theorem fc_fq_71 : tr_all am_oke 5 fq_71 = true := by decide +kernel
set_option maxRecDepth 1000000 in
theorem fc_fq_72 : tr_all am_oke 5 fq_72 = true := by decide +kernel
set_option maxRecDepth 1000000 in
theorem fc_fq_73 : tr_all am_oke 5 fq_73 = true := by decide +kernel
set_option maxRecDepth 1000000 in
theorem fc_fq_74 : tr_all am_oke 5 fq_74 = true := by decide +kernel
set_option maxRecDepth 1000000 in
theorem fc_fq_75 : tr_all am_oke 5 fq_75 = true := by decide +kernel
set_option maxRecDepth 1000000 in
theorem fc_fq_76 : tr_all am_oke 5 fq_76 = true := by decide +kernel
set_option maxRecDepth 1000000 in
theorem fc_fq_77 : tr_all am_oke 5 fq_77 = true := by decide +kernel
set_option maxRecDepth 1000000 in
theorem fc_fq_78 : tr_all am_oke 5 fq_78 = true := by decide +kernel
set_option maxRecDepth 1000000 in
theorem fc_fq_79 : tr_all am_oke 5 fq_79 = true := by decide +kernel
set_option maxRecDepth 1000000 in
theorem fc_fq_80 : tr_all am_oke 5 fq_80 = true := by decide +kernel
set_option maxRecDepth 1000000 in
theorem fc_fq_81 : tr_all am_oke 5 fq_81 = true := by decide +kernel
set_option maxRecDepth 1000000 in
theorem fc_fq_82 : tr_all am_oke 5 fq_82 = true := by decide +kernel
set_option maxRecDepth 1000000 in
theorem fc_fq_83 : tr_all am_oke 5 fq_83 = true := by decide +kernel
set_option maxRecDepth 1000000 in
theorem fc_fq_84 : tr_all am_oke 5 fq_84 = true := by decide +kernel
set_option maxRecDepth 1000000 in
theorem fc_fq_85 : tr_all am_oke 5 fq_85 = true := by decide +kernel
set_option maxRecDepth 1000000 in
theorem fc_fq_86 : tr_all am_oke 5 fq_86 = true := by decide +kernel
set_option maxRecDepth 1000000 in
theorem fc_fq_87 : tr_all am_oke 5 fq_87 = true := by decide +kernel
set_option maxRecDepth 1000000 in
theorem fc_fq_88 : tr_all am_oke 5 fq_88 = true := by decide +kernel
set_option maxRecDepth 1000000 in
theorem fc_fq_89 : tr_all am_oke 5 fq_89 = true := by decide +kernel
