theorem am_colB_cons {m : AmM} {pc : Nat} {r : List (Option AmI)} {rs : List (List (Option AmI))} (h1 : am_rowB m pc r = true) (h2 : am_colB m (pc + 8) rs = true) : am_colB m pc (r :: rs) = true := by
  show (am_rowB m pc r && am_colB m (pc + 8) rs) = true
  rw [h1, h2]
  rfl
theorem lr_0 : am_rowB m_L_law 0 [some (.new 8, 3, .null), none, none, some (.dup, 1, .null), some (.invokespecial 15, 3, .null), none, none, some (.astore_n 1, 1, .null)] = true := by decide +kernel
theorem lr_1 : am_rowB m_L_law 8 [some (.new 16, 3, .null), none, none, some (.dup, 1, .null), some (.invokespecial 18, 3, .null), none, none, some (.astore_n 2, 1, .null)] = true := by decide +kernel
theorem lr_2 : am_rowB m_L_law 16 [some (.iconst 1, 1, .int 1), some (.newarray .long, 2, .null), none, some (.astore_n 3, 1, .null), some (.iconst 0, 1, .int 0), some (.istore 4, 2, .null), none, some (.iload 4, 2, .null)] = true := by decide +kernel
theorem lr_3 : am_rowB m_L_law 24 [none, some (.aload_n 0, 1, .null), some (.arraylength, 1, .null), some (.bipush 6, 2, .int 6), none, some (.isub, 1, .null), some (.if_icmp .gt 1490, 3, .null), none] = true := by decide +kernel
theorem lr_4 : am_rowB m_L_law 32 [none, some (.aload_n 0, 1, .null), some (.iload 4, 2, .null), none, some (.iaload, 1, .null), some (.bipush 63, 2, .int 63), none, some (.iand, 1, .null)] = true := by decide +kernel
theorem lr_5 : am_rowB m_L_law 40 [some (.tableswitch 1474 0 38 #[172, 245, 270, 295, 320, 376, 413, 450, 475, 512, 537, 551, 589, 626, 651, 689, 714, 739, 752, 790, 815, 852, 889, 926, 963, 1044, 1125, 1150, 1175, 1212, 1225, 1250, 1275, 1312, 1349, 1362, 1423, 1436, 1449], 172, .null), none, none, none, none, none, none, none] = true := by decide +kernel
theorem lr_6 : am_rowB m_L_law 48 [none, none, none, none, none, none, none, none] = true := by decide +kernel
theorem lr_7 : am_rowB m_L_law 56 [none, none, none, none, none, none, none, none] = true := by decide +kernel
theorem lr_8 : am_rowB m_L_law 64 [none, none, none, none, none, none, none, none] = true := by decide +kernel
theorem lr_9 : am_rowB m_L_law 72 [none, none, none, none, none, none, none, none] = true := by decide +kernel
theorem lr_10 : am_rowB m_L_law 80 [none, none, none, none, none, none, none, none] = true := by decide +kernel
theorem lr_11 : am_rowB m_L_law 88 [none, none, none, none, none, none, none, none] = true := by decide +kernel
theorem lr_12 : am_rowB m_L_law 96 [none, none, none, none, none, none, none, none] = true := by decide +kernel
theorem lr_13 : am_rowB m_L_law 104 [none, none, none, none, none, none, none, none] = true := by decide +kernel
theorem lr_14 : am_rowB m_L_law 112 [none, none, none, none, none, none, none, none] = true := by decide +kernel
theorem lr_15 : am_rowB m_L_law 120 [none, none, none, none, none, none, none, none] = true := by decide +kernel
theorem lr_16 : am_rowB m_L_law 128 [none, none, none, none, none, none, none, none] = true := by decide +kernel
theorem lr_17 : am_rowB m_L_law 136 [none, none, none, none, none, none, none, none] = true := by decide +kernel
theorem lr_18 : am_rowB m_L_law 144 [none, none, none, none, none, none, none, none] = true := by decide +kernel
theorem lr_19 : am_rowB m_L_law 152 [none, none, none, none, none, none, none, none] = true := by decide +kernel
theorem lr_20 : am_rowB m_L_law 160 [none, none, none, none, none, none, none, none] = true := by decide +kernel
theorem lr_21 : am_rowB m_L_law 168 [none, none, none, none, none, none, none, none] = true := by decide +kernel
theorem lr_22 : am_rowB m_L_law 176 [none, none, none, none, none, none, none, none] = true := by decide +kernel
theorem lr_23 : am_rowB m_L_law 184 [none, none, none, none, none, none, none, none] = true := by decide +kernel
theorem lr_24 : am_rowB m_L_law 192 [none, none, none, none, none, none, none, none] = true := by decide +kernel
theorem lr_25 : am_rowB m_L_law 200 [none, none, none, none, none, none, none, none] = true := by decide +kernel
theorem lr_26 : am_rowB m_L_law 208 [none, none, none, none, some (.aload_n 1, 1, .null), some (.aload_n 0, 1, .null), some (.iload 4, 2, .null), none] = true := by decide +kernel
theorem lr_27 : am_rowB m_L_law 216 [some (.iconst 1, 1, .int 1), some (.iadd, 1, .null), some (.iaload, 1, .null), some (.aload_n 0, 1, .null), some (.iload 4, 2, .null), none, some (.iconst 2, 1, .int 2), some (.iadd, 1, .null)] = true := by decide +kernel
theorem lr_28 : am_rowB m_L_law 224 [some (.iaload, 1, .null), some (.aload_n 0, 1, .null), some (.iload 4, 2, .null), none, some (.iconst 3, 1, .int 3), some (.iadd, 1, .null), some (.iaload, 1, .null), some (.aload_n 0, 1, .null)] = true := by decide +kernel
theorem lr_29 : am_rowB m_L_law 232 [some (.iload 4, 2, .null), none, some (.iconst 4, 1, .int 4), some (.iadd, 1, .null), some (.iaload, 1, .null), some (.aload_n 0, 1, .null), some (.iload 4, 2, .null), none] = true := by decide +kernel
theorem lr_30 : am_rowB m_L_law 240 [some (.iconst 5, 1, .int 5), some (.iadd, 1, .null), some (.iaload, 1, .null), some (.invokevirtual 19, 3, .null), none, none, some (.aload_n 2, 1, .null), some (.aload_n 0, 1, .null)] = true := by decide +kernel
theorem lr_31 : am_rowB m_L_law 248 [some (.iload 4, 2, .null), none, some (.iconst 1, 1, .int 1), some (.iadd, 1, .null), some (.iaload, 1, .null), some (.aload_n 0, 1, .null), some (.iload 4, 2, .null), none] = true := by decide +kernel
theorem lr_32 : am_rowB m_L_law 256 [some (.iconst 2, 1, .int 2), some (.iadd, 1, .null), some (.iaload, 1, .null), some (.aload_n 0, 1, .null), some (.iload 4, 2, .null), none, some (.iconst 3, 1, .int 3), some (.iadd, 1, .null)] = true := by decide +kernel
theorem lr_33 : am_rowB m_L_law 264 [some (.iaload, 1, .null), some (.aload_n 0, 1, .null), some (.iload 4, 2, .null), none, some (.iconst 4, 1, .int 4), some (.iadd, 1, .null), some (.iaload, 1, .null), some (.aload_n 0, 1, .null)] = true := by decide +kernel
theorem lr_34 : am_rowB m_L_law 272 [some (.iload 4, 2, .null), none, some (.iconst 5, 1, .int 5), some (.iadd, 1, .null), some (.iaload, 1, .null), some (.invokevirtual 23, 3, .null), none, none] = true := by decide +kernel
theorem lr_35 : am_rowB m_L_law 280 [some (.if_icmp .eq 1234, 3, .null), none, none, some (.iconst 0, 1, .int 0), some (.ireturn, 1, .null), some (.aload_n 1, 1, .null), some (.aload_n 0, 1, .null), some (.iload 4, 2, .null)] = true := by decide +kernel
theorem lr_36 : am_rowB m_L_law 288 [none, some (.iconst 1, 1, .int 1), some (.iadd, 1, .null), some (.iaload, 1, .null), some (.invokevirtual 24, 3, .null), none, none, some (.aload_n 2, 1, .null)] = true := by decide +kernel
theorem lr_37 : am_rowB m_L_law 296 [some (.aload_n 0, 1, .null), some (.iload 4, 2, .null), none, some (.iconst 1, 1, .int 1), some (.iadd, 1, .null), some (.iaload, 1, .null), some (.invokevirtual 28, 3, .null), none] = true := by decide +kernel
theorem lr_38 : am_rowB m_L_law 304 [none, some (.if_icmp .eq 1209, 3, .null), none, none, some (.iconst 0, 1, .int 0), some (.ireturn, 1, .null), some (.aload_n 1, 1, .null), some (.aload_n 0, 1, .null)] = true := by decide +kernel
theorem lr_39 : am_rowB m_L_law 312 [some (.iload 4, 2, .null), none, some (.iconst 1, 1, .int 1), some (.iadd, 1, .null), some (.iaload, 1, .null), some (.invokevirtual 29, 3, .null), none, none] = true := by decide +kernel
theorem lr_40 : am_rowB m_L_law 320 [some (.aload_n 2, 1, .null), some (.aload_n 0, 1, .null), some (.iload 4, 2, .null), none, some (.iconst 1, 1, .int 1), some (.iadd, 1, .null), some (.iaload, 1, .null), some (.invokevirtual 32, 3, .null)] = true := by decide +kernel
theorem lr_41 : am_rowB m_L_law 328 [none, none, some (.if_icmp .eq 1184, 3, .null), none, none, some (.iconst 0, 1, .int 0), some (.ireturn, 1, .null), some (.aload_n 1, 1, .null)] = true := by decide +kernel
theorem lr_42 : am_rowB m_L_law 336 [some (.aload_n 0, 1, .null), some (.iload 4, 2, .null), none, some (.iconst 1, 1, .int 1), some (.iadd, 1, .null), some (.iaload, 1, .null), some (.invokevirtual 33, 3, .null), none] = true := by decide +kernel
theorem lr_43 : am_rowB m_L_law 344 [none, some (.aload_n 2, 1, .null), some (.aload_n 0, 1, .null), some (.iload 4, 2, .null), none, some (.iconst 1, 1, .int 1), some (.iadd, 1, .null), some (.iaload, 1, .null)] = true := by decide +kernel
theorem lr_44 : am_rowB m_L_law 352 [some (.invokevirtual 36, 3, .null), none, none, some (.if_icmp .eq 1159, 3, .null), none, none, some (.iconst 0, 1, .int 0), some (.ireturn, 1, .null)] = true := by decide +kernel
theorem lr_45 : am_rowB m_L_law 360 [some (.aload_n 1, 1, .null), some (.aload_n 0, 1, .null), some (.iload 4, 2, .null), none, some (.iconst 1, 1, .int 1), some (.iadd, 1, .null), some (.iaload, 1, .null), some (.aload_n 3, 1, .null)] = true := by decide +kernel
theorem lr_46 : am_rowB m_L_law 368 [some (.invokestatic 37, 3, .null), none, none, some (.istore 5, 2, .null), none, some (.aload_n 2, 1, .null), some (.aload_n 0, 1, .null), some (.iload 4, 2, .null)] = true := by decide +kernel
theorem lr_47 : am_rowB m_L_law 376 [none, some (.iconst 1, 1, .int 1), some (.iadd, 1, .null), some (.iaload, 1, .null), some (.invokevirtual 42, 3, .null), none, none, some (.istore 6, 2, .null)] = true := by decide +kernel
theorem lr_48 : am_rowB m_L_law 384 [none, some (.aload_n 2, 1, .null), some (.invokevirtual 43, 3, .null), none, none, some (.iload 5, 2, .null), none, some (.if_icmp .eq 5, 3, .null)] = true := by decide +kernel
theorem lr_49 : am_rowB m_L_law 392 [none, none, some (.iconst 0, 1, .int 0), some (.ireturn, 1, .null), some (.iload 5, 2, .null), none, some (.ifCond .ne 15, 3, .null), none] = true := by decide +kernel
