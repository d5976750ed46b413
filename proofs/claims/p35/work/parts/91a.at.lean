set_option maxRecDepth 20000 in
theorem ja_JS_length_0 : jv_at jm_JS_length.2.2.2.2.2.2 0 = some (.aload_n 0, 1, 0, 0, 0, 0, 0) := rfl
set_option maxRecDepth 20000 in
theorem ja_JS_length_1 : jv_at jm_JS_length.2.2.2.2.2.2 1 = some (.getfield 9, 3, 20, 0, 1466, 0, 0) := rfl
set_option maxRecDepth 20000 in
theorem ja_JS_length_4 : jv_at jm_JS_length.2.2.2.2.2.2 4 = some (.arraylength, 1, 0, 0, 0, 0, 0) := rfl
set_option maxRecDepth 20000 in
theorem ja_JS_length_5 : jv_at jm_JS_length.2.2.2.2.2.2 5 = some (.aload_n 0, 1, 0, 0, 0, 0, 0) := rfl
set_option maxRecDepth 20000 in
theorem ja_JS_length_6 : jv_at jm_JS_length.2.2.2.2.2.2 6 = some (.invokevirtual 335, 3, 13, 0, 370, 20, 0) := rfl
set_option maxRecDepth 20000 in
theorem ja_JS_length_9 : jv_at jm_JS_length.2.2.2.2.2.2 9 = some (.ishr, 1, 0, 0, 0, 0, 0) := rfl
set_option maxRecDepth 20000 in
theorem ja_JS_length_10 : jv_at jm_JS_length.2.2.2.2.2.2 10 = some (.ireturn, 1, 0, 0, 0, 0, 0) := rfl
set_option maxRecDepth 20000 in
theorem ja_JS_coder_0 : jv_at jm_JS_coder.2.2.2.2.2.2 0 = some (.getstatic 38, 3, 0, 0, 374, 0, 0) := rfl
set_option maxRecDepth 20000 in
theorem ja_JS_coder_3 : jv_at jm_JS_coder.2.2.2.2.2.2 3 = some (.ifCond .eq 10, 3, 13, 0, 0, 0, 0) := rfl
set_option maxRecDepth 20000 in
theorem ja_JS_coder_6 : jv_at jm_JS_coder.2.2.2.2.2.2 6 = some (.aload_n 0, 1, 0, 0, 0, 0, 0) := rfl
set_option maxRecDepth 20000 in
theorem ja_JS_coder_7 : jv_at jm_JS_coder.2.2.2.2.2.2 7 = some (.getfield 15, 3, 20, 1, 1467, 0, 0) := rfl
set_option maxRecDepth 20000 in
theorem ja_JS_coder_10 : jv_at jm_JS_coder.2.2.2.2.2.2 10 = some (.goto 4, 3, 14, 0, 0, 0, 0) := rfl
set_option maxRecDepth 20000 in
theorem ja_JS_coder_13 : jv_at jm_JS_coder.2.2.2.2.2.2 13 = some (.iconst 1, 1, 0, 0, 0, 0, 1) := rfl
set_option maxRecDepth 20000 in
theorem ja_JS_coder_14 : jv_at jm_JS_coder.2.2.2.2.2.2 14 = some (.ireturn, 1, 0, 0, 0, 0, 0) := rfl
set_option maxRecDepth 20000 in
theorem ja_JS_charAt_0 : jv_at jm_JS_charAt.2.2.2.2.2.2 0 = some (.aload_n 0, 1, 0, 0, 0, 0, 0) := rfl
set_option maxRecDepth 20000 in
theorem ja_JS_charAt_1 : jv_at jm_JS_charAt.2.2.2.2.2.2 1 = some (.invokevirtual 492, 3, 15, 0, 380, 20, 0) := rfl
set_option maxRecDepth 20000 in
theorem ja_JS_charAt_4 : jv_at jm_JS_charAt.2.2.2.2.2.2 4 = some (.ifCond .eq 12, 3, 16, 0, 0, 0, 0) := rfl
set_option maxRecDepth 20000 in
theorem ja_JS_charAt_7 : jv_at jm_JS_charAt.2.2.2.2.2.2 7 = some (.aload_n 0, 1, 0, 0, 0, 0, 0) := rfl
set_option maxRecDepth 20000 in
theorem ja_JS_charAt_8 : jv_at jm_JS_charAt.2.2.2.2.2.2 8 = some (.getfield 9, 3, 20, 0, 1466, 0, 0) := rfl
set_option maxRecDepth 20000 in
theorem ja_JS_charAt_11 : jv_at jm_JS_charAt.2.2.2.2.2.2 11 = some (.iload_n 1, 1, 0, 0, 0, 0, 0) := rfl
set_option maxRecDepth 20000 in
theorem ja_JS_charAt_12 : jv_at jm_JS_charAt.2.2.2.2.2.2 12 = some (.invokestatic 495, 3, 16, 1, 384, 20, 2) := rfl
set_option maxRecDepth 20000 in
theorem ja_JS_charAt_15 : jv_at jm_JS_charAt.2.2.2.2.2.2 15 = some (.ireturn, 1, 0, 0, 0, 0, 0) := rfl
set_option maxRecDepth 20000 in
theorem ja_JS_charAt_16 : jv_at jm_JS_charAt.2.2.2.2.2.2 16 = some (.aload_n 0, 1, 0, 0, 0, 0, 0) := rfl
set_option maxRecDepth 20000 in
theorem ja_JS_charAt_17 : jv_at jm_JS_charAt.2.2.2.2.2.2 17 = some (.getfield 9, 3, 20, 0, 1466, 0, 0) := rfl
set_option maxRecDepth 20000 in
theorem ja_JS_charAt_20 : jv_at jm_JS_charAt.2.2.2.2.2.2 20 = some (.iload_n 1, 1, 0, 0, 0, 0, 0) := rfl
set_option maxRecDepth 20000 in
theorem ja_JS_charAt_21 : jv_at jm_JS_charAt.2.2.2.2.2.2 21 = some (.invokestatic 498, 3, 9999, 9, 395, 20, 2) := rfl
set_option maxRecDepth 20000 in
theorem ja_JS_charAt_24 : jv_at jm_JS_charAt.2.2.2.2.2.2 24 = some (.ireturn, 1, 0, 0, 0, 0, 0) := rfl
set_option maxRecDepth 20000 in
theorem ja_JS_isLatin1_0 : jv_at jm_JS_isLatin1.2.2.2.2.2.2 0 = some (.getstatic 38, 3, 0, 0, 374, 0, 0) := rfl
set_option maxRecDepth 20000 in
theorem ja_JS_isLatin1_3 : jv_at jm_JS_isLatin1.2.2.2.2.2.2 3 = some (.ifCond .eq 14, 3, 17, 0, 0, 0, 0) := rfl
set_option maxRecDepth 20000 in
theorem ja_JS_isLatin1_6 : jv_at jm_JS_isLatin1.2.2.2.2.2.2 6 = some (.aload_n 0, 1, 0, 0, 0, 0, 0) := rfl
set_option maxRecDepth 20000 in
theorem ja_JS_isLatin1_7 : jv_at jm_JS_isLatin1.2.2.2.2.2.2 7 = some (.getfield 15, 3, 20, 1, 1467, 0, 0) := rfl
set_option maxRecDepth 20000 in
theorem ja_JS_isLatin1_10 : jv_at jm_JS_isLatin1.2.2.2.2.2.2 10 = some (.ifCond .ne 7, 3, 17, 0, 0, 0, 0) := rfl
set_option maxRecDepth 20000 in
theorem ja_JS_isLatin1_13 : jv_at jm_JS_isLatin1.2.2.2.2.2.2 13 = some (.iconst 1, 1, 0, 0, 0, 0, 1) := rfl
set_option maxRecDepth 20000 in
theorem ja_JS_isLatin1_14 : jv_at jm_JS_isLatin1.2.2.2.2.2.2 14 = some (.goto 4, 3, 18, 0, 0, 0, 0) := rfl
set_option maxRecDepth 20000 in
theorem ja_JS_isLatin1_17 : jv_at jm_JS_isLatin1.2.2.2.2.2.2 17 = some (.iconst 0, 1, 0, 0, 0, 0, 0) := rfl
set_option maxRecDepth 20000 in
theorem ja_JS_isLatin1_18 : jv_at jm_JS_isLatin1.2.2.2.2.2.2 18 = some (.ireturn, 1, 0, 0, 0, 0, 0) := rfl
set_option maxRecDepth 20000 in
theorem ja_JL_charAt_0 : jv_at jm_JL_charAt.2.2.2.2.2.2 0 = some (.iload_n 1, 1, 0, 0, 0, 0, 0) := rfl
set_option maxRecDepth 20000 in
theorem ja_JL_charAt_1 : jv_at jm_JL_charAt.2.2.2.2.2.2 1 = some (.aload_n 0, 1, 0, 0, 0, 0, 0) := rfl
set_option maxRecDepth 20000 in
theorem ja_JL_charAt_2 : jv_at jm_JL_charAt.2.2.2.2.2.2 2 = some (.arraylength, 1, 0, 0, 0, 0, 0) := rfl
set_option maxRecDepth 20000 in
theorem ja_JL_charAt_3 : jv_at jm_JL_charAt.2.2.2.2.2.2 3 = some (.invokestatic 9, 3, 17, 1, 387, 20, 2) := rfl
set_option maxRecDepth 20000 in
theorem ja_JL_charAt_6 : jv_at jm_JL_charAt.2.2.2.2.2.2 6 = some (.aload_n 0, 1, 0, 0, 0, 0, 0) := rfl
set_option maxRecDepth 20000 in
theorem ja_JL_charAt_7 : jv_at jm_JL_charAt.2.2.2.2.2.2 7 = some (.iload_n 1, 1, 0, 0, 0, 0, 0) := rfl
set_option maxRecDepth 20000 in
theorem ja_JL_charAt_8 : jv_at jm_JL_charAt.2.2.2.2.2.2 8 = some (.baload, 1, 0, 0, 0, 0, 0) := rfl
set_option maxRecDepth 20000 in
theorem ja_JL_charAt_9 : jv_at jm_JL_charAt.2.2.2.2.2.2 9 = some (.sipush 255, 3, 0, 0, 0, 0, 255) := rfl
set_option maxRecDepth 20000 in
theorem ja_JL_charAt_12 : jv_at jm_JL_charAt.2.2.2.2.2.2 12 = some (.iand, 1, 0, 0, 0, 0, 0) := rfl
set_option maxRecDepth 20000 in
theorem ja_JL_charAt_13 : jv_at jm_JL_charAt.2.2.2.2.2.2 13 = some (.i2c, 1, 0, 0, 0, 0, 0) := rfl
set_option maxRecDepth 20000 in
theorem ja_JL_charAt_14 : jv_at jm_JL_charAt.2.2.2.2.2.2 14 = some (.ireturn, 1, 0, 0, 0, 0, 0) := rfl
set_option maxRecDepth 20000 in
theorem ja_JS_checkIndex_0 : jv_at jm_JS_checkIndex.2.2.2.2.2.2 0 = some (.iload_n 0, 1, 0, 0, 0, 0, 0) := rfl
set_option maxRecDepth 20000 in
theorem ja_JS_checkIndex_1 : jv_at jm_JS_checkIndex.2.2.2.2.2.2 1 = some (.iload_n 1, 1, 0, 0, 0, 0, 0) := rfl
set_option maxRecDepth 20000 in
theorem ja_JS_checkIndex_2 : jv_at jm_JS_checkIndex.2.2.2.2.2.2 2 = some (.getstatic 1053, 3, 1, 0, 390, 0, 0) := rfl
set_option maxRecDepth 20000 in
theorem ja_JS_checkIndex_5 : jv_at jm_JS_checkIndex.2.2.2.2.2.2 5 = some (.invokestatic 1059, 3, 18, 1, 392, 20, 3) := rfl
set_option maxRecDepth 20000 in
theorem ja_JS_checkIndex_8 : jv_at jm_JS_checkIndex.2.2.2.2.2.2 8 = some (.pop, 1, 0, 0, 0, 0, 0) := rfl
set_option maxRecDepth 20000 in
theorem ja_JS_checkIndex_9 : jv_at jm_JS_checkIndex.2.2.2.2.2.2 9 = some (.return_, 1, 0, 0, 0, 0, 0) := rfl
set_option maxRecDepth 20000 in
theorem ja_JP_checkIndex_0 : jv_at jm_JP_checkIndex.2.2.2.2.2.2 0 = some (.iload_n 0, 1, 0, 0, 0, 0, 0) := rfl
set_option maxRecDepth 20000 in
theorem ja_JP_checkIndex_1 : jv_at jm_JP_checkIndex.2.2.2.2.2.2 1 = some (.ifCond .lt 8, 3, 9, 0, 0, 0, 0) := rfl
set_option maxRecDepth 20000 in
theorem ja_JP_checkIndex_4 : jv_at jm_JP_checkIndex.2.2.2.2.2.2 4 = some (.iload_n 0, 1, 0, 0, 0, 0, 0) := rfl
set_option maxRecDepth 20000 in
theorem ja_JP_checkIndex_5 : jv_at jm_JP_checkIndex.2.2.2.2.2.2 5 = some (.iload_n 1, 1, 0, 0, 0, 0, 0) := rfl
set_option maxRecDepth 20000 in
theorem ja_JP_checkIndex_6 : jv_at jm_JP_checkIndex.2.2.2.2.2.2 6 = some (.if_icmp .lt 10, 3, 16, 0, 0, 0, 0) := rfl
set_option maxRecDepth 20000 in
theorem ja_JP_checkIndex_9 : jv_at jm_JP_checkIndex.2.2.2.2.2.2 9 = some (.aload_n 2, 1, 0, 0, 0, 0, 0) := rfl
set_option maxRecDepth 20000 in
theorem ja_JP_checkIndex_10 : jv_at jm_JP_checkIndex.2.2.2.2.2.2 10 = some (.iload_n 0, 1, 0, 0, 0, 0, 0) := rfl
set_option maxRecDepth 20000 in
theorem ja_JP_checkIndex_11 : jv_at jm_JP_checkIndex.2.2.2.2.2.2 11 = some (.iload_n 1, 1, 0, 0, 0, 0, 0) := rfl
set_option maxRecDepth 20000 in
theorem ja_JP_checkIndex_12 : jv_at jm_JP_checkIndex.2.2.2.2.2.2 12 = some (.invokestatic 95, 3, 9999, 9, 0, 20, 0) := rfl
set_option maxRecDepth 20000 in
theorem ja_JP_checkIndex_15 : jv_at jm_JP_checkIndex.2.2.2.2.2.2 15 = some (.athrow, 1, 0, 0, 0, 0, 0) := rfl
set_option maxRecDepth 20000 in
theorem ja_JP_checkIndex_16 : jv_at jm_JP_checkIndex.2.2.2.2.2.2 16 = some (.iload_n 0, 1, 0, 0, 0, 0, 0) := rfl
set_option maxRecDepth 20000 in
theorem ja_JP_checkIndex_17 : jv_at jm_JP_checkIndex.2.2.2.2.2.2 17 = some (.ireturn, 1, 0, 0, 0, 0, 0) := rfl
set_option maxRecDepth 20000 in
theorem ja_Reader_add_0 : jv_at jm_Reader_add.2.2.2.2.2.2 0 = some (.aload_n 0, 1, 0, 0, 0, 0, 0) := rfl
set_option maxRecDepth 20000 in
theorem ja_Reader_add_1 : jv_at jm_Reader_add.2.2.2.2.2.2 1 = some (.getfield 15, 3, 7, 1, 291, 0, 0) := rfl
set_option maxRecDepth 20000 in
theorem ja_Reader_add_4 : jv_at jm_Reader_add.2.2.2.2.2.2 4 = some (.ifCond .lt 15, 3, 19, 0, 0, 0, 0) := rfl
set_option maxRecDepth 20000 in
theorem ja_Reader_add_7 : jv_at jm_Reader_add.2.2.2.2.2.2 7 = some (.aload_n 0, 1, 0, 0, 0, 0, 0) := rfl
set_option maxRecDepth 20000 in
theorem ja_Reader_add_8 : jv_at jm_Reader_add.2.2.2.2.2.2 8 = some (.getfield 15, 3, 7, 1, 291, 0, 0) := rfl
set_option maxRecDepth 20000 in
theorem ja_Reader_add_11 : jv_at jm_Reader_add.2.2.2.2.2.2 11 = some (.aload_n 0, 1, 0, 0, 0, 0, 0) := rfl
set_option maxRecDepth 20000 in
theorem ja_Reader_add_12 : jv_at jm_Reader_add.2.2.2.2.2.2 12 = some (.getfield 9, 3, 7, 0, 290, 0, 0) := rfl
set_option maxRecDepth 20000 in
theorem ja_Reader_add_15 : jv_at jm_Reader_add.2.2.2.2.2.2 15 = some (.arraylength, 1, 0, 0, 0, 0, 0) := rfl
set_option maxRecDepth 20000 in
theorem ja_Reader_add_16 : jv_at jm_Reader_add.2.2.2.2.2.2 16 = some (.if_icmp .lt 4, 3, 20, 0, 0, 0, 0) := rfl
set_option maxRecDepth 20000 in
theorem ja_Reader_add_19 : jv_at jm_Reader_add.2.2.2.2.2.2 19 = some (.return_, 1, 0, 0, 0, 0, 0) := rfl
set_option maxRecDepth 20000 in
theorem ja_Reader_add_20 : jv_at jm_Reader_add.2.2.2.2.2.2 20 = some (.aload_n 0, 1, 0, 0, 0, 0, 0) := rfl
set_option maxRecDepth 20000 in
theorem ja_Reader_add_21 : jv_at jm_Reader_add.2.2.2.2.2.2 21 = some (.getfield 9, 3, 7, 0, 290, 0, 0) := rfl
set_option maxRecDepth 20000 in
theorem ja_Reader_add_24 : jv_at jm_Reader_add.2.2.2.2.2.2 24 = some (.aload_n 0, 1, 0, 0, 0, 0, 0) := rfl
set_option maxRecDepth 20000 in
theorem ja_Reader_add_25 : jv_at jm_Reader_add.2.2.2.2.2.2 25 = some (.getfield 15, 3, 7, 1, 291, 0, 0) := rfl
set_option maxRecDepth 20000 in
theorem ja_Reader_add_28 : jv_at jm_Reader_add.2.2.2.2.2.2 28 = some (.iload_n 1, 1, 0, 0, 0, 0, 0) := rfl
set_option maxRecDepth 20000 in
theorem ja_Reader_add_29 : jv_at jm_Reader_add.2.2.2.2.2.2 29 = some (.iastore, 1, 0, 0, 0, 0, 0) := rfl
set_option maxRecDepth 20000 in
theorem ja_Reader_add_30 : jv_at jm_Reader_add.2.2.2.2.2.2 30 = some (.aload_n 0, 1, 0, 0, 0, 0, 0) := rfl
set_option maxRecDepth 20000 in
theorem ja_Reader_add_31 : jv_at jm_Reader_add.2.2.2.2.2.2 31 = some (.dup, 1, 0, 0, 0, 0, 0) := rfl
set_option maxRecDepth 20000 in
theorem ja_Reader_add_32 : jv_at jm_Reader_add.2.2.2.2.2.2 32 = some (.getfield 15, 3, 7, 1, 291, 0, 0) := rfl
set_option maxRecDepth 20000 in
theorem ja_Reader_add_35 : jv_at jm_Reader_add.2.2.2.2.2.2 35 = some (.iconst 1, 1, 0, 0, 0, 0, 1) := rfl
set_option maxRecDepth 20000 in
theorem ja_Reader_add_36 : jv_at jm_Reader_add.2.2.2.2.2.2 36 = some (.iadd, 1, 0, 0, 0, 0, 0) := rfl
set_option maxRecDepth 20000 in
theorem ja_Reader_add_37 : jv_at jm_Reader_add.2.2.2.2.2.2 37 = some (.putfield 15, 3, 7, 1, 291, 0, 0) := rfl
set_option maxRecDepth 20000 in
theorem ja_Reader_add_40 : jv_at jm_Reader_add.2.2.2.2.2.2 40 = some (.return_, 1, 0, 0, 0, 0, 0) := rfl
set_option maxRecDepth 20000 in
theorem ja_Reader_read_0 : jv_at jm_Reader_read.2.2.2.2.2.2 0 = some (.aload_n 0, 1, 0, 0, 0, 0, 0) := rfl
set_option maxRecDepth 20000 in
theorem ja_Reader_read_1 : jv_at jm_Reader_read.2.2.2.2.2.2 1 = some (.aload_n 1, 1, 0, 0, 0, 0, 0) := rfl
set_option maxRecDepth 20000 in
theorem ja_Reader_read_2 : jv_at jm_Reader_read.2.2.2.2.2.2 2 = some (.putfield 19, 3, 7, 8, 299, 0, 0) := rfl
set_option maxRecDepth 20000 in
theorem ja_Reader_read_5 : jv_at jm_Reader_read.2.2.2.2.2.2 5 = some (.aload_n 0, 1, 0, 0, 0, 0, 0) := rfl
set_option maxRecDepth 20000 in
theorem ja_Reader_read_6 : jv_at jm_Reader_read.2.2.2.2.2.2 6 = some (.getfield 19, 3, 7, 8, 299, 0, 0) := rfl
set_option maxRecDepth 20000 in
theorem ja_Reader_read_9 : jv_at jm_Reader_read.2.2.2.2.2.2 9 = some (.iconst 0, 1, 0, 0, 0, 0, 0) := rfl
set_option maxRecDepth 20000 in
theorem ja_Reader_read_10 : jv_at jm_Reader_read.2.2.2.2.2.2 10 = some (.putfield 23, 3, 9, 1, 273, 0, 0) := rfl
set_option maxRecDepth 20000 in
theorem ja_Reader_read_13 : jv_at jm_Reader_read.2.2.2.2.2.2 13 = some (.aload_n 0, 1, 0, 0, 0, 0, 0) := rfl
set_option maxRecDepth 20000 in
theorem ja_Reader_read_14 : jv_at jm_Reader_read.2.2.2.2.2.2 14 = some (.iconst 0, 1, 0, 0, 0, 0, 0) := rfl
set_option maxRecDepth 20000 in
theorem ja_Reader_read_15 : jv_at jm_Reader_read.2.2.2.2.2.2 15 = some (.putfield 26, 3, 7, 3, 294, 0, 0) := rfl
set_option maxRecDepth 20000 in
theorem ja_Reader_read_18 : jv_at jm_Reader_read.2.2.2.2.2.2 18 = some (.aload_n 0, 1, 0, 0, 0, 0, 0) := rfl
set_option maxRecDepth 20000 in
theorem ja_Reader_read_19 : jv_at jm_Reader_read.2.2.2.2.2.2 19 = some (.iconst 0, 1, 0, 0, 0, 0, 0) := rfl
set_option maxRecDepth 20000 in
theorem ja_Reader_read_20 : jv_at jm_Reader_read.2.2.2.2.2.2 20 = some (.putfield 29, 3, 7, 6, 297, 0, 0) := rfl
set_option maxRecDepth 20000 in
theorem ja_Reader_read_23 : jv_at jm_Reader_read.2.2.2.2.2.2 23 = some (.aload_n 0, 1, 0, 0, 0, 0, 0) := rfl
set_option maxRecDepth 20000 in
theorem ja_Reader_read_24 : jv_at jm_Reader_read.2.2.2.2.2.2 24 = some (.iconst (-1), 1, 0, 0, 0, 0, -1) := rfl
set_option maxRecDepth 20000 in
theorem ja_Reader_read_25 : jv_at jm_Reader_read.2.2.2.2.2.2 25 = some (.putfield 32, 3, 7, 7, 298, 0, 0) := rfl
set_option maxRecDepth 20000 in
theorem ja_Reader_read_28 : jv_at jm_Reader_read.2.2.2.2.2.2 28 = some (.aload_n 0, 1, 0, 0, 0, 0, 0) := rfl
set_option maxRecDepth 20000 in
theorem ja_Reader_read_29 : jv_at jm_Reader_read.2.2.2.2.2.2 29 = some (.invokevirtual 35, 3, 21, 0, 422, 7, 0) := rfl
set_option maxRecDepth 20000 in
theorem ja_Reader_read_32 : jv_at jm_Reader_read.2.2.2.2.2.2 32 = some (.iconst 0, 1, 0, 0, 0, 0, 0) := rfl
set_option maxRecDepth 20000 in
theorem ja_Reader_read_33 : jv_at jm_Reader_read.2.2.2.2.2.2 33 = some (.istore_n 2, 1, 0, 0, 0, 0, 0) := rfl
set_option maxRecDepth 20000 in
theorem ja_Reader_read_34 : jv_at jm_Reader_read.2.2.2.2.2.2 34 = some (.iload_n 2, 1, 0, 0, 0, 0, 0) := rfl
set_option maxRecDepth 20000 in
theorem ja_Reader_read_35 : jv_at jm_Reader_read.2.2.2.2.2.2 35 = some (.iconst 4, 1, 0, 0, 0, 0, 4) := rfl
set_option maxRecDepth 20000 in
theorem ja_Reader_read_36 : jv_at jm_Reader_read.2.2.2.2.2.2 36 = some (.if_icmp .ge 43, 3, 79, 0, 0, 0, 0) := rfl
set_option maxRecDepth 20000 in
theorem ja_Reader_read_39 : jv_at jm_Reader_read.2.2.2.2.2.2 39 = some (.aload_n 0, 1, 0, 0, 0, 0, 0) := rfl
set_option maxRecDepth 20000 in
theorem ja_Reader_read_40 : jv_at jm_Reader_read.2.2.2.2.2.2 40 = some (.bipush 8, 2, 0, 0, 0, 0, 8) := rfl
set_option maxRecDepth 20000 in
theorem ja_Reader_read_42 : jv_at jm_Reader_read.2.2.2.2.2.2 42 = some (.iload_n 2, 1, 0, 0, 0, 0, 0) := rfl
set_option maxRecDepth 20000 in
theorem ja_Reader_read_43 : jv_at jm_Reader_read.2.2.2.2.2.2 43 = some (.iadd, 1, 0, 0, 0, 0, 0) := rfl
set_option maxRecDepth 20000 in
theorem ja_Reader_read_44 : jv_at jm_Reader_read.2.2.2.2.2.2 44 = some (.invokevirtual 38, 3, 30, 0, 461, 7, 1) := rfl
set_option maxRecDepth 20000 in
theorem ja_Reader_read_47 : jv_at jm_Reader_read.2.2.2.2.2.2 47 = some (.aload_n 0, 1, 0, 0, 0, 0, 0) := rfl
set_option maxRecDepth 20000 in
theorem ja_Reader_read_48 : jv_at jm_Reader_read.2.2.2.2.2.2 48 = some (.getfield 19, 3, 7, 8, 299, 0, 0) := rfl
set_option maxRecDepth 20000 in
theorem ja_Reader_read_51 : jv_at jm_Reader_read.2.2.2.2.2.2 51 = some (.getfield 42, 3, 9, 2, 275, 0, 0) := rfl
set_option maxRecDepth 20000 in
theorem ja_Reader_read_54 : jv_at jm_Reader_read.2.2.2.2.2.2 54 = some (.iload_n 2, 1, 0, 0, 0, 0, 0) := rfl
set_option maxRecDepth 20000 in
theorem ja_Reader_read_55 : jv_at jm_Reader_read.2.2.2.2.2.2 55 = some (.aload_n 0, 1, 0, 0, 0, 0, 0) := rfl
set_option maxRecDepth 20000 in
theorem ja_Reader_read_56 : jv_at jm_Reader_read.2.2.2.2.2.2 56 = some (.getfield 19, 3, 7, 8, 299, 0, 0) := rfl
set_option maxRecDepth 20000 in
theorem ja_Reader_read_59 : jv_at jm_Reader_read.2.2.2.2.2.2 59 = some (.getfield 23, 3, 9, 1, 273, 0, 0) := rfl
set_option maxRecDepth 20000 in
theorem ja_Reader_read_62 : jv_at jm_Reader_read.2.2.2.2.2.2 62 = some (.iastore, 1, 0, 0, 0, 0, 0) := rfl
set_option maxRecDepth 20000 in
theorem ja_Reader_read_63 : jv_at jm_Reader_read.2.2.2.2.2.2 63 = some (.aload_n 0, 1, 0, 0, 0, 0, 0) := rfl
set_option maxRecDepth 20000 in
theorem ja_Reader_read_64 : jv_at jm_Reader_read.2.2.2.2.2.2 64 = some (.invokevirtual 45, 3, 31, 0, 465, 7, 0) := rfl
set_option maxRecDepth 20000 in
theorem ja_Reader_read_67 : jv_at jm_Reader_read.2.2.2.2.2.2 67 = some (.aload_n 0, 1, 0, 0, 0, 0, 0) := rfl
set_option maxRecDepth 20000 in
theorem ja_Reader_read_68 : jv_at jm_Reader_read.2.2.2.2.2.2 68 = some (.bipush 59, 2, 0, 0, 0, 0, 59) := rfl
set_option maxRecDepth 20000 in
theorem ja_Reader_read_70 : jv_at jm_Reader_read.2.2.2.2.2.2 70 = some (.invokevirtual 38, 3, 30, 0, 461, 7, 1) := rfl
set_option maxRecDepth 20000 in
theorem ja_Reader_read_73 : jv_at jm_Reader_read.2.2.2.2.2.2 73 = some (.iinc 2 1, 3, 0, 0, 0, 0, 0) := rfl
set_option maxRecDepth 20000 in
theorem ja_Reader_read_76 : jv_at jm_Reader_read.2.2.2.2.2.2 76 = some (.goto (-42), 3, 34, 0, 0, 0, 0) := rfl
set_option maxRecDepth 20000 in
theorem ja_Reader_read_79 : jv_at jm_Reader_read.2.2.2.2.2.2 79 = some (.aload_n 0, 1, 0, 0, 0, 0, 0) := rfl
set_option maxRecDepth 20000 in
theorem ja_Reader_read_80 : jv_at jm_Reader_read.2.2.2.2.2.2 80 = some (.getfield 19, 3, 7, 8, 299, 0, 0) := rfl
set_option maxRecDepth 20000 in
theorem ja_Reader_read_83 : jv_at jm_Reader_read.2.2.2.2.2.2 83 = some (.getfield 42, 3, 9, 2, 275, 0, 0) := rfl
set_option maxRecDepth 20000 in
theorem ja_Reader_read_86 : jv_at jm_Reader_read.2.2.2.2.2.2 86 = some (.iconst 4, 1, 0, 0, 0, 0, 4) := rfl
set_option maxRecDepth 20000 in
theorem ja_Reader_read_87 : jv_at jm_Reader_read.2.2.2.2.2.2 87 = some (.aload_n 0, 1, 0, 0, 0, 0, 0) := rfl
set_option maxRecDepth 20000 in
theorem ja_Reader_read_88 : jv_at jm_Reader_read.2.2.2.2.2.2 88 = some (.getfield 19, 3, 7, 8, 299, 0, 0) := rfl
set_option maxRecDepth 20000 in
theorem ja_Reader_read_91 : jv_at jm_Reader_read.2.2.2.2.2.2 91 = some (.getfield 23, 3, 9, 1, 273, 0, 0) := rfl
set_option maxRecDepth 20000 in
theorem ja_Reader_read_94 : jv_at jm_Reader_read.2.2.2.2.2.2 94 = some (.iastore, 1, 0, 0, 0, 0, 0) := rfl
set_option maxRecDepth 20000 in
theorem ja_Reader_read_95 : jv_at jm_Reader_read.2.2.2.2.2.2 95 = some (.aload_n 0, 1, 0, 0, 0, 0, 0) := rfl
set_option maxRecDepth 20000 in
theorem ja_Reader_read_96 : jv_at jm_Reader_read.2.2.2.2.2.2 96 = some (.getfield 48, 3, 7, 4, 295, 0, 0) := rfl
set_option maxRecDepth 20000 in
theorem ja_Reader_read_99 : jv_at jm_Reader_read.2.2.2.2.2.2 99 = some (.bipush 16, 2, 0, 0, 0, 0, 16) := rfl
set_option maxRecDepth 20000 in
theorem ja_Reader_read_101 : jv_at jm_Reader_read.2.2.2.2.2.2 101 = some (.if_icmp .eq 7, 3, 108, 0, 0, 0, 0) := rfl
set_option maxRecDepth 20000 in
theorem ja_Reader_read_104 : jv_at jm_Reader_read.2.2.2.2.2.2 104 = some (.aload_n 0, 1, 0, 0, 0, 0, 0) := rfl
set_option maxRecDepth 20000 in
theorem ja_Reader_read_105 : jv_at jm_Reader_read.2.2.2.2.2.2 105 = some (.invokevirtual 51, 3, 26, 0, 445, 7, 0) := rfl
set_option maxRecDepth 20000 in
theorem ja_Reader_read_108 : jv_at jm_Reader_read.2.2.2.2.2.2 108 = some (.aload_n 0, 1, 0, 0, 0, 0, 0) := rfl
set_option maxRecDepth 20000 in
theorem ja_Reader_read_109 : jv_at jm_Reader_read.2.2.2.2.2.2 109 = some (.iconst 0, 1, 0, 0, 0, 0, 0) := rfl
set_option maxRecDepth 20000 in
theorem ja_Reader_read_110 : jv_at jm_Reader_read.2.2.2.2.2.2 110 = some (.putfield 15, 3, 7, 1, 291, 0, 0) := rfl
set_option maxRecDepth 20000 in
theorem ja_Reader_read_113 : jv_at jm_Reader_read.2.2.2.2.2.2 113 = some (.aload_n 0, 1, 0, 0, 0, 0, 0) := rfl
set_option maxRecDepth 20000 in
theorem ja_Reader_read_114 : jv_at jm_Reader_read.2.2.2.2.2.2 114 = some (.getfield 32, 3, 7, 7, 298, 0, 0) := rfl
set_option maxRecDepth 20000 in
theorem ja_Reader_read_117 : jv_at jm_Reader_read.2.2.2.2.2.2 117 = some (.ireturn, 1, 0, 0, 0, 0, 0) := rfl
set_option maxRecDepth 20000 in
theorem ja_Reader_goOn_0 : jv_at jm_Reader_goOn.2.2.2.2.2.2 0 = some (.aload_n 0, 1, 0, 0, 0, 0, 0) := rfl
set_option maxRecDepth 20000 in
theorem ja_Reader_goOn_1 : jv_at jm_Reader_goOn.2.2.2.2.2.2 1 = some (.getfield 32, 3, 7, 7, 298, 0, 0) := rfl
set_option maxRecDepth 20000 in
theorem ja_Reader_goOn_4 : jv_at jm_Reader_goOn.2.2.2.2.2.2 4 = some (.iconst (-1), 1, 0, 0, 0, 0, -1) := rfl
set_option maxRecDepth 20000 in
theorem ja_Reader_goOn_5 : jv_at jm_Reader_goOn.2.2.2.2.2.2 5 = some (.if_icmp .eq 4, 3, 9, 0, 0, 0, 0) := rfl
set_option maxRecDepth 20000 in
theorem ja_Reader_goOn_8 : jv_at jm_Reader_goOn.2.2.2.2.2.2 8 = some (.return_, 1, 0, 0, 0, 0, 0) := rfl
set_option maxRecDepth 20000 in
theorem ja_Reader_goOn_9 : jv_at jm_Reader_goOn.2.2.2.2.2.2 9 = some (.aload_n 0, 1, 0, 0, 0, 0, 0) := rfl
set_option maxRecDepth 20000 in
theorem ja_Reader_goOn_10 : jv_at jm_Reader_goOn.2.2.2.2.2.2 10 = some (.getfield 26, 3, 7, 3, 294, 0, 0) := rfl
set_option maxRecDepth 20000 in
theorem ja_Reader_goOn_13 : jv_at jm_Reader_goOn.2.2.2.2.2.2 13 = some (.aload_n 0, 1, 0, 0, 0, 0, 0) := rfl
set_option maxRecDepth 20000 in
theorem ja_Reader_goOn_14 : jv_at jm_Reader_goOn.2.2.2.2.2.2 14 = some (.getfield 15, 3, 7, 1, 291, 0, 0) := rfl
set_option maxRecDepth 20000 in
theorem ja_Reader_goOn_17 : jv_at jm_Reader_goOn.2.2.2.2.2.2 17 = some (.if_icmp .ge 42, 3, 59, 0, 0, 0, 0) := rfl
set_option maxRecDepth 20000 in
theorem ja_Reader_goOn_20 : jv_at jm_Reader_goOn.2.2.2.2.2.2 20 = some (.aload_n 0, 1, 0, 0, 0, 0, 0) := rfl
set_option maxRecDepth 20000 in
theorem ja_Reader_goOn_21 : jv_at jm_Reader_goOn.2.2.2.2.2.2 21 = some (.aload_n 0, 1, 0, 0, 0, 0, 0) := rfl
set_option maxRecDepth 20000 in
theorem ja_Reader_goOn_22 : jv_at jm_Reader_goOn.2.2.2.2.2.2 22 = some (.getfield 26, 3, 7, 3, 294, 0, 0) := rfl
set_option maxRecDepth 20000 in
theorem ja_Reader_goOn_25 : jv_at jm_Reader_goOn.2.2.2.2.2.2 25 = some (.invokevirtual 81, 3, 22, 0, 426, 7, 1) := rfl
set_option maxRecDepth 20000 in
theorem ja_Reader_goOn_28 : jv_at jm_Reader_goOn.2.2.2.2.2.2 28 = some (.bipush 32, 2, 0, 0, 0, 0, 32) := rfl
set_option maxRecDepth 20000 in
theorem ja_Reader_goOn_30 : jv_at jm_Reader_goOn.2.2.2.2.2.2 30 = some (.if_icmp .eq 16, 3, 46, 0, 0, 0, 0) := rfl
set_option maxRecDepth 20000 in
theorem ja_Reader_goOn_33 : jv_at jm_Reader_goOn.2.2.2.2.2.2 33 = some (.aload_n 0, 1, 0, 0, 0, 0, 0) := rfl
set_option maxRecDepth 20000 in
theorem ja_Reader_goOn_34 : jv_at jm_Reader_goOn.2.2.2.2.2.2 34 = some (.aload_n 0, 1, 0, 0, 0, 0, 0) := rfl
set_option maxRecDepth 20000 in
theorem ja_Reader_goOn_35 : jv_at jm_Reader_goOn.2.2.2.2.2.2 35 = some (.getfield 26, 3, 7, 3, 294, 0, 0) := rfl
set_option maxRecDepth 20000 in
theorem ja_Reader_goOn_38 : jv_at jm_Reader_goOn.2.2.2.2.2.2 38 = some (.invokevirtual 81, 3, 22, 0, 426, 7, 1) := rfl
set_option maxRecDepth 20000 in
theorem ja_Reader_goOn_41 : jv_at jm_Reader_goOn.2.2.2.2.2.2 41 = some (.bipush 10, 2, 0, 0, 0, 0, 10) := rfl
set_option maxRecDepth 20000 in
theorem ja_Reader_goOn_43 : jv_at jm_Reader_goOn.2.2.2.2.2.2 43 = some (.if_icmp .ne 16, 3, 59, 0, 0, 0, 0) := rfl
set_option maxRecDepth 20000 in
theorem ja_Reader_goOn_46 : jv_at jm_Reader_goOn.2.2.2.2.2.2 46 = some (.aload_n 0, 1, 0, 0, 0, 0, 0) := rfl
set_option maxRecDepth 20000 in
theorem ja_Reader_goOn_47 : jv_at jm_Reader_goOn.2.2.2.2.2.2 47 = some (.dup, 1, 0, 0, 0, 0, 0) := rfl
set_option maxRecDepth 20000 in
theorem ja_Reader_goOn_48 : jv_at jm_Reader_goOn.2.2.2.2.2.2 48 = some (.getfield 26, 3, 7, 3, 294, 0, 0) := rfl
set_option maxRecDepth 20000 in
theorem ja_Reader_goOn_51 : jv_at jm_Reader_goOn.2.2.2.2.2.2 51 = some (.iconst 1, 1, 0, 0, 0, 0, 1) := rfl
set_option maxRecDepth 20000 in
theorem ja_Reader_goOn_52 : jv_at jm_Reader_goOn.2.2.2.2.2.2 52 = some (.iadd, 1, 0, 0, 0, 0, 0) := rfl
set_option maxRecDepth 20000 in
theorem ja_Reader_goOn_53 : jv_at jm_Reader_goOn.2.2.2.2.2.2 53 = some (.putfield 26, 3, 7, 3, 294, 0, 0) := rfl
set_option maxRecDepth 20000 in
theorem ja_Reader_goOn_56 : jv_at jm_Reader_goOn.2.2.2.2.2.2 56 = some (.goto (-47), 3, 9, 0, 0, 0, 0) := rfl
set_option maxRecDepth 20000 in
theorem ja_Reader_goOn_59 : jv_at jm_Reader_goOn.2.2.2.2.2.2 59 = some (.aload_n 0, 1, 0, 0, 0, 0, 0) := rfl
set_option maxRecDepth 20000 in
theorem ja_Reader_goOn_60 : jv_at jm_Reader_goOn.2.2.2.2.2.2 60 = some (.aload_n 0, 1, 0, 0, 0, 0, 0) := rfl
set_option maxRecDepth 20000 in
theorem ja_Reader_goOn_61 : jv_at jm_Reader_goOn.2.2.2.2.2.2 61 = some (.getfield 26, 3, 7, 3, 294, 0, 0) := rfl
set_option maxRecDepth 20000 in
theorem ja_Reader_goOn_64 : jv_at jm_Reader_goOn.2.2.2.2.2.2 64 = some (.putfield 54, 3, 7, 2, 293, 0, 0) := rfl
set_option maxRecDepth 20000 in
theorem ja_Reader_goOn_67 : jv_at jm_Reader_goOn.2.2.2.2.2.2 67 = some (.aload_n 0, 1, 0, 0, 0, 0, 0) := rfl
set_option maxRecDepth 20000 in
theorem ja_Reader_goOn_68 : jv_at jm_Reader_goOn.2.2.2.2.2.2 68 = some (.getfield 54, 3, 7, 2, 293, 0, 0) := rfl
set_option maxRecDepth 20000 in
theorem ja_Reader_goOn_71 : jv_at jm_Reader_goOn.2.2.2.2.2.2 71 = some (.aload_n 0, 1, 0, 0, 0, 0, 0) := rfl
set_option maxRecDepth 20000 in
theorem ja_Reader_goOn_72 : jv_at jm_Reader_goOn.2.2.2.2.2.2 72 = some (.getfield 15, 3, 7, 1, 291, 0, 0) := rfl
set_option maxRecDepth 20000 in
theorem ja_Reader_goOn_75 : jv_at jm_Reader_goOn.2.2.2.2.2.2 75 = some (.if_icmp .lt 12, 3, 87, 0, 0, 0, 0) := rfl
set_option maxRecDepth 20000 in
theorem ja_Reader_goOn_78 : jv_at jm_Reader_goOn.2.2.2.2.2.2 78 = some (.aload_n 0, 1, 0, 0, 0, 0, 0) := rfl
set_option maxRecDepth 20000 in
theorem ja_Reader_goOn_79 : jv_at jm_Reader_goOn.2.2.2.2.2.2 79 = some (.bipush 16, 2, 0, 0, 0, 0, 16) := rfl
set_option maxRecDepth 20000 in
theorem ja_Reader_goOn_81 : jv_at jm_Reader_goOn.2.2.2.2.2.2 81 = some (.putfield 48, 3, 7, 4, 295, 0, 0) := rfl
set_option maxRecDepth 20000 in
theorem ja_Reader_goOn_84 : jv_at jm_Reader_goOn.2.2.2.2.2.2 84 = some (.goto 43, 3, 127, 0, 0, 0, 0) := rfl
set_option maxRecDepth 20000 in
theorem ja_Reader_goOn_87 : jv_at jm_Reader_goOn.2.2.2.2.2.2 87 = some (.aload_n 0, 1, 0, 0, 0, 0, 0) := rfl
set_option maxRecDepth 20000 in
theorem ja_Reader_goOn_88 : jv_at jm_Reader_goOn.2.2.2.2.2.2 88 = some (.aload_n 0, 1, 0, 0, 0, 0, 0) := rfl
set_option maxRecDepth 20000 in
theorem ja_Reader_goOn_89 : jv_at jm_Reader_goOn.2.2.2.2.2.2 89 = some (.getfield 54, 3, 7, 2, 293, 0, 0) := rfl
set_option maxRecDepth 20000 in
theorem ja_Reader_goOn_92 : jv_at jm_Reader_goOn.2.2.2.2.2.2 92 = some (.invokevirtual 85, 3, 23, 0, 430, 7, 1) := rfl
set_option maxRecDepth 20000 in
theorem ja_Reader_goOn_95 : jv_at jm_Reader_goOn.2.2.2.2.2.2 95 = some (.ifCond .eq 10, 3, 105, 0, 0, 0, 0) := rfl
set_option maxRecDepth 20000 in
theorem ja_Reader_goOn_98 : jv_at jm_Reader_goOn.2.2.2.2.2.2 98 = some (.aload_n 0, 1, 0, 0, 0, 0, 0) := rfl
set_option maxRecDepth 20000 in
theorem ja_Reader_goOn_99 : jv_at jm_Reader_goOn.2.2.2.2.2.2 99 = some (.invokevirtual 89, 3, 24, 0, 434, 7, 0) := rfl
set_option maxRecDepth 20000 in
theorem ja_Reader_goOn_102 : jv_at jm_Reader_goOn.2.2.2.2.2.2 102 = some (.goto 25, 3, 127, 0, 0, 0, 0) := rfl
set_option maxRecDepth 20000 in
theorem ja_Reader_goOn_105 : jv_at jm_Reader_goOn.2.2.2.2.2.2 105 = some (.aload_n 0, 1, 0, 0, 0, 0, 0) := rfl
set_option maxRecDepth 20000 in
theorem ja_Reader_goOn_106 : jv_at jm_Reader_goOn.2.2.2.2.2.2 106 = some (.aload_n 0, 1, 0, 0, 0, 0, 0) := rfl
set_option maxRecDepth 20000 in
theorem ja_Reader_goOn_107 : jv_at jm_Reader_goOn.2.2.2.2.2.2 107 = some (.getfield 54, 3, 7, 2, 293, 0, 0) := rfl
set_option maxRecDepth 20000 in
theorem ja_Reader_goOn_110 : jv_at jm_Reader_goOn.2.2.2.2.2.2 110 = some (.invokevirtual 92, 3, 27, 0, 449, 7, 1) := rfl
set_option maxRecDepth 20000 in
theorem ja_Reader_goOn_113 : jv_at jm_Reader_goOn.2.2.2.2.2.2 113 = some (.ifCond .eq 10, 3, 123, 0, 0, 0, 0) := rfl
set_option maxRecDepth 20000 in
theorem ja_Reader_goOn_116 : jv_at jm_Reader_goOn.2.2.2.2.2.2 116 = some (.aload_n 0, 1, 0, 0, 0, 0, 0) := rfl
set_option maxRecDepth 20000 in
theorem ja_Reader_goOn_117 : jv_at jm_Reader_goOn.2.2.2.2.2.2 117 = some (.invokevirtual 95, 3, 28, 0, 453, 7, 0) := rfl
set_option maxRecDepth 20000 in
theorem ja_Reader_goOn_120 : jv_at jm_Reader_goOn.2.2.2.2.2.2 120 = some (.goto 7, 3, 127, 0, 0, 0, 0) := rfl
set_option maxRecDepth 20000 in
theorem ja_Reader_goOn_123 : jv_at jm_Reader_goOn.2.2.2.2.2.2 123 = some (.aload_n 0, 1, 0, 0, 0, 0, 0) := rfl
set_option maxRecDepth 20000 in
theorem ja_Reader_goOn_124 : jv_at jm_Reader_goOn.2.2.2.2.2.2 124 = some (.invokevirtual 98, 3, 29, 0, 457, 7, 0) := rfl
set_option maxRecDepth 20000 in
theorem ja_Reader_goOn_127 : jv_at jm_Reader_goOn.2.2.2.2.2.2 127 = some (.return_, 1, 0, 0, 0, 0, 0) := rfl
set_option maxRecDepth 20000 in
theorem ja_Reader_byteAt_0 : jv_at jm_Reader_byteAt.2.2.2.2.2.2 0 = some (.iload_n 1, 1, 0, 0, 0, 0, 0) := rfl
set_option maxRecDepth 20000 in
theorem ja_Reader_byteAt_1 : jv_at jm_Reader_byteAt.2.2.2.2.2.2 1 = some (.ifCond .lt 29, 3, 30, 0, 0, 0, 0) := rfl
set_option maxRecDepth 20000 in
theorem ja_Reader_byteAt_4 : jv_at jm_Reader_byteAt.2.2.2.2.2.2 4 = some (.iload_n 1, 1, 0, 0, 0, 0, 0) := rfl
set_option maxRecDepth 20000 in
theorem ja_Reader_byteAt_5 : jv_at jm_Reader_byteAt.2.2.2.2.2.2 5 = some (.aload_n 0, 1, 0, 0, 0, 0, 0) := rfl
set_option maxRecDepth 20000 in
theorem ja_Reader_byteAt_6 : jv_at jm_Reader_byteAt.2.2.2.2.2.2 6 = some (.getfield 15, 3, 7, 1, 291, 0, 0) := rfl
set_option maxRecDepth 20000 in
theorem ja_Reader_byteAt_9 : jv_at jm_Reader_byteAt.2.2.2.2.2.2 9 = some (.if_icmp .ge 21, 3, 30, 0, 0, 0, 0) := rfl
set_option maxRecDepth 20000 in
theorem ja_Reader_byteAt_12 : jv_at jm_Reader_byteAt.2.2.2.2.2.2 12 = some (.iload_n 1, 1, 0, 0, 0, 0, 0) := rfl
set_option maxRecDepth 20000 in
theorem ja_Reader_byteAt_13 : jv_at jm_Reader_byteAt.2.2.2.2.2.2 13 = some (.aload_n 0, 1, 0, 0, 0, 0, 0) := rfl
set_option maxRecDepth 20000 in
theorem ja_Reader_byteAt_14 : jv_at jm_Reader_byteAt.2.2.2.2.2.2 14 = some (.getfield 9, 3, 7, 0, 290, 0, 0) := rfl
set_option maxRecDepth 20000 in
theorem ja_Reader_byteAt_17 : jv_at jm_Reader_byteAt.2.2.2.2.2.2 17 = some (.arraylength, 1, 0, 0, 0, 0, 0) := rfl
set_option maxRecDepth 20000 in
theorem ja_Reader_byteAt_18 : jv_at jm_Reader_byteAt.2.2.2.2.2.2 18 = some (.if_icmp .ge 12, 3, 30, 0, 0, 0, 0) := rfl
set_option maxRecDepth 20000 in
theorem ja_Reader_byteAt_21 : jv_at jm_Reader_byteAt.2.2.2.2.2.2 21 = some (.aload_n 0, 1, 0, 0, 0, 0, 0) := rfl
set_option maxRecDepth 20000 in
theorem ja_Reader_byteAt_22 : jv_at jm_Reader_byteAt.2.2.2.2.2.2 22 = some (.getfield 9, 3, 7, 0, 290, 0, 0) := rfl
set_option maxRecDepth 20000 in
theorem ja_Reader_byteAt_25 : jv_at jm_Reader_byteAt.2.2.2.2.2.2 25 = some (.iload_n 1, 1, 0, 0, 0, 0, 0) := rfl
set_option maxRecDepth 20000 in
theorem ja_Reader_byteAt_26 : jv_at jm_Reader_byteAt.2.2.2.2.2.2 26 = some (.iaload, 1, 0, 0, 0, 0, 0) := rfl
set_option maxRecDepth 20000 in
theorem ja_Reader_byteAt_27 : jv_at jm_Reader_byteAt.2.2.2.2.2.2 27 = some (.goto 4, 3, 31, 0, 0, 0, 0) := rfl
set_option maxRecDepth 20000 in
theorem ja_Reader_byteAt_30 : jv_at jm_Reader_byteAt.2.2.2.2.2.2 30 = some (.iconst 0, 1, 0, 0, 0, 0, 0) := rfl
set_option maxRecDepth 20000 in
theorem ja_Reader_byteAt_31 : jv_at jm_Reader_byteAt.2.2.2.2.2.2 31 = some (.ireturn, 1, 0, 0, 0, 0, 0) := rfl
set_option maxRecDepth 20000 in
theorem ja_Reader_isLetter_0 : jv_at jm_Reader_isLetter.2.2.2.2.2.2 0 = some (.aload_n 0, 1, 0, 0, 0, 0, 0) := rfl
set_option maxRecDepth 20000 in
theorem ja_Reader_isLetter_1 : jv_at jm_Reader_isLetter.2.2.2.2.2.2 1 = some (.iload_n 1, 1, 0, 0, 0, 0, 0) := rfl
set_option maxRecDepth 20000 in
theorem ja_Reader_isLetter_2 : jv_at jm_Reader_isLetter.2.2.2.2.2.2 2 = some (.invokevirtual 81, 3, 22, 0, 426, 7, 1) := rfl
set_option maxRecDepth 20000 in
theorem ja_Reader_isLetter_5 : jv_at jm_Reader_isLetter.2.2.2.2.2.2 5 = some (.bipush 97, 2, 0, 0, 0, 0, 97) := rfl
set_option maxRecDepth 20000 in
theorem ja_Reader_isLetter_7 : jv_at jm_Reader_isLetter.2.2.2.2.2.2 7 = some (.if_icmp .lt 17, 3, 24, 0, 0, 0, 0) := rfl
set_option maxRecDepth 20000 in
theorem ja_Reader_isLetter_10 : jv_at jm_Reader_isLetter.2.2.2.2.2.2 10 = some (.aload_n 0, 1, 0, 0, 0, 0, 0) := rfl
set_option maxRecDepth 20000 in
theorem ja_Reader_isLetter_11 : jv_at jm_Reader_isLetter.2.2.2.2.2.2 11 = some (.iload_n 1, 1, 0, 0, 0, 0, 0) := rfl
set_option maxRecDepth 20000 in
theorem ja_Reader_isLetter_12 : jv_at jm_Reader_isLetter.2.2.2.2.2.2 12 = some (.invokevirtual 81, 3, 22, 0, 426, 7, 1) := rfl
set_option maxRecDepth 20000 in
theorem ja_Reader_isLetter_15 : jv_at jm_Reader_isLetter.2.2.2.2.2.2 15 = some (.bipush 122, 2, 0, 0, 0, 0, 122) := rfl
set_option maxRecDepth 20000 in
theorem ja_Reader_isLetter_17 : jv_at jm_Reader_isLetter.2.2.2.2.2.2 17 = some (.if_icmp .gt 7, 3, 24, 0, 0, 0, 0) := rfl
set_option maxRecDepth 20000 in
theorem ja_Reader_isLetter_20 : jv_at jm_Reader_isLetter.2.2.2.2.2.2 20 = some (.iconst 1, 1, 0, 0, 0, 0, 1) := rfl
set_option maxRecDepth 20000 in
theorem ja_Reader_isLetter_21 : jv_at jm_Reader_isLetter.2.2.2.2.2.2 21 = some (.goto 4, 3, 25, 0, 0, 0, 0) := rfl
set_option maxRecDepth 20000 in
theorem ja_Reader_isLetter_24 : jv_at jm_Reader_isLetter.2.2.2.2.2.2 24 = some (.iconst 0, 1, 0, 0, 0, 0, 0) := rfl
set_option maxRecDepth 20000 in
theorem ja_Reader_isLetter_25 : jv_at jm_Reader_isLetter.2.2.2.2.2.2 25 = some (.ireturn, 1, 0, 0, 0, 0, 0) := rfl
set_option maxRecDepth 20000 in
theorem ja_Reader_readWord_0 : jv_at jm_Reader_readWord.2.2.2.2.2.2 0 = some (.aload_n 0, 1, 0, 0, 0, 0, 0) := rfl
set_option maxRecDepth 20000 in
theorem ja_Reader_readWord_1 : jv_at jm_Reader_readWord.2.2.2.2.2.2 1 = some (.getfield 26, 3, 7, 3, 294, 0, 0) := rfl
set_option maxRecDepth 20000 in
theorem ja_Reader_readWord_4 : jv_at jm_Reader_readWord.2.2.2.2.2.2 4 = some (.aload_n 0, 1, 0, 0, 0, 0, 0) := rfl
set_option maxRecDepth 20000 in
theorem ja_Reader_readWord_5 : jv_at jm_Reader_readWord.2.2.2.2.2.2 5 = some (.getfield 15, 3, 7, 1, 291, 0, 0) := rfl
set_option maxRecDepth 20000 in
theorem ja_Reader_readWord_8 : jv_at jm_Reader_readWord.2.2.2.2.2.2 8 = some (.if_icmp .ge 41, 3, 49, 0, 0, 0, 0) := rfl
set_option maxRecDepth 20000 in
theorem ja_Reader_readWord_11 : jv_at jm_Reader_readWord.2.2.2.2.2.2 11 = some (.aload_n 0, 1, 0, 0, 0, 0, 0) := rfl
set_option maxRecDepth 20000 in
theorem ja_Reader_readWord_12 : jv_at jm_Reader_readWord.2.2.2.2.2.2 12 = some (.getfield 26, 3, 7, 3, 294, 0, 0) := rfl
set_option maxRecDepth 20000 in
theorem ja_Reader_readWord_15 : jv_at jm_Reader_readWord.2.2.2.2.2.2 15 = some (.aload_n 0, 1, 0, 0, 0, 0, 0) := rfl
set_option maxRecDepth 20000 in
theorem ja_Reader_readWord_16 : jv_at jm_Reader_readWord.2.2.2.2.2.2 16 = some (.getfield 54, 3, 7, 2, 293, 0, 0) := rfl
set_option maxRecDepth 20000 in
theorem ja_Reader_readWord_19 : jv_at jm_Reader_readWord.2.2.2.2.2.2 19 = some (.isub, 1, 0, 0, 0, 0, 0) := rfl
set_option maxRecDepth 20000 in
theorem ja_Reader_readWord_20 : jv_at jm_Reader_readWord.2.2.2.2.2.2 20 = some (.bipush 7, 2, 0, 0, 0, 0, 7) := rfl
set_option maxRecDepth 20000 in
theorem ja_Reader_readWord_22 : jv_at jm_Reader_readWord.2.2.2.2.2.2 22 = some (.if_icmp .ge 27, 3, 49, 0, 0, 0, 0) := rfl
set_option maxRecDepth 20000 in
theorem ja_Reader_readWord_25 : jv_at jm_Reader_readWord.2.2.2.2.2.2 25 = some (.aload_n 0, 1, 0, 0, 0, 0, 0) := rfl
set_option maxRecDepth 20000 in
theorem ja_Reader_readWord_26 : jv_at jm_Reader_readWord.2.2.2.2.2.2 26 = some (.aload_n 0, 1, 0, 0, 0, 0, 0) := rfl
set_option maxRecDepth 20000 in
theorem ja_Reader_readWord_27 : jv_at jm_Reader_readWord.2.2.2.2.2.2 27 = some (.getfield 26, 3, 7, 3, 294, 0, 0) := rfl
set_option maxRecDepth 20000 in
theorem ja_Reader_readWord_30 : jv_at jm_Reader_readWord.2.2.2.2.2.2 30 = some (.invokevirtual 85, 3, 23, 0, 430, 7, 1) := rfl
set_option maxRecDepth 20000 in
theorem ja_Reader_readWord_33 : jv_at jm_Reader_readWord.2.2.2.2.2.2 33 = some (.ifCond .eq 16, 3, 49, 0, 0, 0, 0) := rfl
set_option maxRecDepth 20000 in
theorem ja_Reader_readWord_36 : jv_at jm_Reader_readWord.2.2.2.2.2.2 36 = some (.aload_n 0, 1, 0, 0, 0, 0, 0) := rfl
set_option maxRecDepth 20000 in
theorem ja_Reader_readWord_37 : jv_at jm_Reader_readWord.2.2.2.2.2.2 37 = some (.dup, 1, 0, 0, 0, 0, 0) := rfl
set_option maxRecDepth 20000 in
theorem ja_Reader_readWord_38 : jv_at jm_Reader_readWord.2.2.2.2.2.2 38 = some (.getfield 26, 3, 7, 3, 294, 0, 0) := rfl
set_option maxRecDepth 20000 in
theorem ja_Reader_readWord_41 : jv_at jm_Reader_readWord.2.2.2.2.2.2 41 = some (.iconst 1, 1, 0, 0, 0, 0, 1) := rfl
set_option maxRecDepth 20000 in
theorem ja_Reader_readWord_42 : jv_at jm_Reader_readWord.2.2.2.2.2.2 42 = some (.iadd, 1, 0, 0, 0, 0, 0) := rfl
set_option maxRecDepth 20000 in
theorem ja_Reader_readWord_43 : jv_at jm_Reader_readWord.2.2.2.2.2.2 43 = some (.putfield 26, 3, 7, 3, 294, 0, 0) := rfl
set_option maxRecDepth 20000 in
theorem ja_Reader_readWord_46 : jv_at jm_Reader_readWord.2.2.2.2.2.2 46 = some (.goto (-46), 3, 0, 0, 0, 0, 0) := rfl
set_option maxRecDepth 20000 in
theorem ja_Reader_readWord_49 : jv_at jm_Reader_readWord.2.2.2.2.2.2 49 = some (.iconst 0, 1, 0, 0, 0, 0, 0) := rfl
set_option maxRecDepth 20000 in
theorem ja_Reader_readWord_50 : jv_at jm_Reader_readWord.2.2.2.2.2.2 50 = some (.istore_n 1, 1, 0, 0, 0, 0, 0) := rfl
set_option maxRecDepth 20000 in
theorem ja_Reader_readWord_51 : jv_at jm_Reader_readWord.2.2.2.2.2.2 51 = some (.iload_n 1, 1, 0, 0, 0, 0, 0) := rfl
set_option maxRecDepth 20000 in
theorem ja_Reader_readWord_52 : jv_at jm_Reader_readWord.2.2.2.2.2.2 52 = some (.bipush 15, 2, 0, 0, 0, 0, 15) := rfl
set_option maxRecDepth 20000 in
theorem ja_Reader_readWord_54 : jv_at jm_Reader_readWord.2.2.2.2.2.2 54 = some (.if_icmp .ge 23, 3, 77, 0, 0, 0, 0) := rfl
set_option maxRecDepth 20000 in
theorem ja_Reader_readWord_57 : jv_at jm_Reader_readWord.2.2.2.2.2.2 57 = some (.aload_n 0, 1, 0, 0, 0, 0, 0) := rfl
set_option maxRecDepth 20000 in
theorem ja_Reader_readWord_58 : jv_at jm_Reader_readWord.2.2.2.2.2.2 58 = some (.iload_n 1, 1, 0, 0, 0, 0, 0) := rfl
set_option maxRecDepth 20000 in
theorem ja_Reader_readWord_59 : jv_at jm_Reader_readWord.2.2.2.2.2.2 59 = some (.invokevirtual 101, 3, 25, 0, 438, 7, 1) := rfl
set_option maxRecDepth 20000 in
theorem ja_Reader_readWord_62 : jv_at jm_Reader_readWord.2.2.2.2.2.2 62 = some (.ifCond .eq 9, 3, 71, 0, 0, 0, 0) := rfl
set_option maxRecDepth 20000 in
theorem ja_Reader_readWord_65 : jv_at jm_Reader_readWord.2.2.2.2.2.2 65 = some (.aload_n 0, 1, 0, 0, 0, 0, 0) := rfl
set_option maxRecDepth 20000 in
theorem ja_Reader_readWord_66 : jv_at jm_Reader_readWord.2.2.2.2.2.2 66 = some (.iload_n 1, 1, 0, 0, 0, 0, 0) := rfl
set_option maxRecDepth 20000 in
theorem ja_Reader_readWord_67 : jv_at jm_Reader_readWord.2.2.2.2.2.2 67 = some (.putfield 48, 3, 7, 4, 295, 0, 0) := rfl
set_option maxRecDepth 20000 in
theorem ja_Reader_readWord_70 : jv_at jm_Reader_readWord.2.2.2.2.2.2 70 = some (.return_, 1, 0, 0, 0, 0, 0) := rfl
set_option maxRecDepth 20000 in
theorem ja_Reader_readWord_71 : jv_at jm_Reader_readWord.2.2.2.2.2.2 71 = some (.iinc 1 1, 3, 0, 0, 0, 0, 0) := rfl
set_option maxRecDepth 20000 in
theorem ja_Reader_readWord_74 : jv_at jm_Reader_readWord.2.2.2.2.2.2 74 = some (.goto (-23), 3, 51, 0, 0, 0, 0) := rfl
set_option maxRecDepth 20000 in
theorem ja_Reader_readWord_77 : jv_at jm_Reader_readWord.2.2.2.2.2.2 77 = some (.aload_n 0, 1, 0, 0, 0, 0, 0) := rfl
set_option maxRecDepth 20000 in
theorem ja_Reader_readWord_78 : jv_at jm_Reader_readWord.2.2.2.2.2.2 78 = some (.invokevirtual 51, 3, 26, 0, 445, 7, 0) := rfl
set_option maxRecDepth 20000 in
theorem ja_Reader_readWord_81 : jv_at jm_Reader_readWord.2.2.2.2.2.2 81 = some (.return_, 1, 0, 0, 0, 0, 0) := rfl
set_option maxRecDepth 20000 in
theorem ja_Reader_isKnown_0 : jv_at jm_Reader_isKnown.2.2.2.2.2.2 0 = some (.iconst 0, 1, 0, 0, 0, 0, 0) := rfl
set_option maxRecDepth 20000 in
theorem ja_Reader_isKnown_1 : jv_at jm_Reader_isKnown.2.2.2.2.2.2 1 = some (.istore_n 2, 1, 0, 0, 0, 0, 0) := rfl
set_option maxRecDepth 20000 in
theorem ja_Reader_isKnown_2 : jv_at jm_Reader_isKnown.2.2.2.2.2.2 2 = some (.iload_n 2, 1, 0, 0, 0, 0, 0) := rfl
set_option maxRecDepth 20000 in
theorem ja_Reader_isKnown_3 : jv_at jm_Reader_isKnown.2.2.2.2.2.2 3 = some (.bipush 8, 2, 0, 0, 0, 0, 8) := rfl
set_option maxRecDepth 20000 in
theorem ja_Reader_isKnown_5 : jv_at jm_Reader_isKnown.2.2.2.2.2.2 5 = some (.if_icmp .ge 74, 3, 79, 0, 0, 0, 0) := rfl
set_option maxRecDepth 20000 in
theorem ja_Reader_isKnown_8 : jv_at jm_Reader_isKnown.2.2.2.2.2.2 8 = some (.aload_n 0, 1, 0, 0, 0, 0, 0) := rfl
set_option maxRecDepth 20000 in
theorem ja_Reader_isKnown_9 : jv_at jm_Reader_isKnown.2.2.2.2.2.2 9 = some (.getfield 54, 3, 7, 2, 293, 0, 0) := rfl
set_option maxRecDepth 20000 in
theorem ja_Reader_isKnown_12 : jv_at jm_Reader_isKnown.2.2.2.2.2.2 12 = some (.iload_n 2, 1, 0, 0, 0, 0, 0) := rfl
set_option maxRecDepth 20000 in
theorem ja_Reader_isKnown_13 : jv_at jm_Reader_isKnown.2.2.2.2.2.2 13 = some (.iadd, 1, 0, 0, 0, 0, 0) := rfl
set_option maxRecDepth 20000 in
theorem ja_Reader_isKnown_14 : jv_at jm_Reader_isKnown.2.2.2.2.2.2 14 = some (.aload_n 0, 1, 0, 0, 0, 0, 0) := rfl
set_option maxRecDepth 20000 in
theorem ja_Reader_isKnown_15 : jv_at jm_Reader_isKnown.2.2.2.2.2.2 15 = some (.getfield 26, 3, 7, 3, 294, 0, 0) := rfl
set_option maxRecDepth 20000 in
theorem ja_Reader_isKnown_18 : jv_at jm_Reader_isKnown.2.2.2.2.2.2 18 = some (.if_icmp .ge 16, 3, 34, 0, 0, 0, 0) := rfl
set_option maxRecDepth 20000 in
theorem ja_Reader_isKnown_21 : jv_at jm_Reader_isKnown.2.2.2.2.2.2 21 = some (.aload_n 0, 1, 0, 0, 0, 0, 0) := rfl
set_option maxRecDepth 20000 in
theorem ja_Reader_isKnown_22 : jv_at jm_Reader_isKnown.2.2.2.2.2.2 22 = some (.aload_n 0, 1, 0, 0, 0, 0, 0) := rfl
set_option maxRecDepth 20000 in
theorem ja_Reader_isKnown_23 : jv_at jm_Reader_isKnown.2.2.2.2.2.2 23 = some (.getfield 54, 3, 7, 2, 293, 0, 0) := rfl
set_option maxRecDepth 20000 in
theorem ja_Reader_isKnown_26 : jv_at jm_Reader_isKnown.2.2.2.2.2.2 26 = some (.iload_n 2, 1, 0, 0, 0, 0, 0) := rfl
set_option maxRecDepth 20000 in
theorem ja_Reader_isKnown_27 : jv_at jm_Reader_isKnown.2.2.2.2.2.2 27 = some (.iadd, 1, 0, 0, 0, 0, 0) := rfl
set_option maxRecDepth 20000 in
theorem ja_Reader_isKnown_28 : jv_at jm_Reader_isKnown.2.2.2.2.2.2 28 = some (.invokevirtual 81, 3, 22, 0, 426, 7, 1) := rfl
set_option maxRecDepth 20000 in
theorem ja_Reader_isKnown_31 : jv_at jm_Reader_isKnown.2.2.2.2.2.2 31 = some (.goto 5, 3, 36, 0, 0, 0, 0) := rfl
set_option maxRecDepth 20000 in
theorem ja_Reader_isKnown_34 : jv_at jm_Reader_isKnown.2.2.2.2.2.2 34 = some (.bipush 32, 2, 0, 0, 0, 0, 32) := rfl
set_option maxRecDepth 20000 in
theorem ja_Reader_isKnown_36 : jv_at jm_Reader_isKnown.2.2.2.2.2.2 36 = some (.istore_n 3, 1, 0, 0, 0, 0, 0) := rfl
set_option maxRecDepth 20000 in
theorem ja_Reader_isKnown_37 : jv_at jm_Reader_isKnown.2.2.2.2.2.2 37 = some (.bipush 8, 2, 0, 0, 0, 0, 8) := rfl
set_option maxRecDepth 20000 in
theorem ja_Reader_isKnown_39 : jv_at jm_Reader_isKnown.2.2.2.2.2.2 39 = some (.iload_n 1, 1, 0, 0, 0, 0, 0) := rfl
set_option maxRecDepth 20000 in
theorem ja_Reader_isKnown_40 : jv_at jm_Reader_isKnown.2.2.2.2.2.2 40 = some (.imul, 1, 0, 0, 0, 0, 0) := rfl
set_option maxRecDepth 20000 in
theorem ja_Reader_isKnown_41 : jv_at jm_Reader_isKnown.2.2.2.2.2.2 41 = some (.iload_n 2, 1, 0, 0, 0, 0, 0) := rfl
set_option maxRecDepth 20000 in
theorem ja_Reader_isKnown_42 : jv_at jm_Reader_isKnown.2.2.2.2.2.2 42 = some (.iadd, 1, 0, 0, 0, 0, 0) := rfl
set_option maxRecDepth 20000 in
theorem ja_Reader_isKnown_43 : jv_at jm_Reader_isKnown.2.2.2.2.2.2 43 = some (.istore 4, 2, 0, 0, 0, 0, 0) := rfl
set_option maxRecDepth 20000 in
theorem ja_Reader_isKnown_45 : jv_at jm_Reader_isKnown.2.2.2.2.2.2 45 = some (.iload 4, 2, 0, 0, 0, 0, 0) := rfl
set_option maxRecDepth 20000 in
theorem ja_Reader_isKnown_47 : jv_at jm_Reader_isKnown.2.2.2.2.2.2 47 = some (.ifCond .lt 24, 3, 71, 0, 0, 0, 0) := rfl
set_option maxRecDepth 20000 in
theorem ja_Reader_isKnown_50 : jv_at jm_Reader_isKnown.2.2.2.2.2.2 50 = some (.iload 4, 2, 0, 0, 0, 0, 0) := rfl
set_option maxRecDepth 20000 in
theorem ja_Reader_isKnown_52 : jv_at jm_Reader_isKnown.2.2.2.2.2.2 52 = some (.ldc 104, 2, 1, 0, 0, 2, 0) := rfl
set_option maxRecDepth 20000 in
theorem ja_Reader_isKnown_54 : jv_at jm_Reader_isKnown.2.2.2.2.2.2 54 = some (.invokevirtual 106, 3, 12, 0, 443, 20, 0) := rfl
set_option maxRecDepth 20000 in
theorem ja_Reader_isKnown_57 : jv_at jm_Reader_isKnown.2.2.2.2.2.2 57 = some (.if_icmp .ge 14, 3, 71, 0, 0, 0, 0) := rfl
set_option maxRecDepth 20000 in
theorem ja_Reader_isKnown_60 : jv_at jm_Reader_isKnown.2.2.2.2.2.2 60 = some (.ldc 104, 2, 1, 0, 0, 2, 0) := rfl
set_option maxRecDepth 20000 in
theorem ja_Reader_isKnown_62 : jv_at jm_Reader_isKnown.2.2.2.2.2.2 62 = some (.iload 4, 2, 0, 0, 0, 0, 0) := rfl
set_option maxRecDepth 20000 in
theorem ja_Reader_isKnown_64 : jv_at jm_Reader_isKnown.2.2.2.2.2.2 64 = some (.invokevirtual 112, 3, 14, 0, 444, 20, 1) := rfl
set_option maxRecDepth 20000 in
theorem ja_Reader_isKnown_67 : jv_at jm_Reader_isKnown.2.2.2.2.2.2 67 = some (.iload_n 3, 1, 0, 0, 0, 0, 0) := rfl
set_option maxRecDepth 20000 in
theorem ja_Reader_isKnown_68 : jv_at jm_Reader_isKnown.2.2.2.2.2.2 68 = some (.if_icmp .eq 5, 3, 73, 0, 0, 0, 0) := rfl
set_option maxRecDepth 20000 in
theorem ja_Reader_isKnown_71 : jv_at jm_Reader_isKnown.2.2.2.2.2.2 71 = some (.iconst 0, 1, 0, 0, 0, 0, 0) := rfl
set_option maxRecDepth 20000 in
theorem ja_Reader_isKnown_72 : jv_at jm_Reader_isKnown.2.2.2.2.2.2 72 = some (.ireturn, 1, 0, 0, 0, 0, 0) := rfl
set_option maxRecDepth 20000 in
theorem ja_Reader_isKnown_73 : jv_at jm_Reader_isKnown.2.2.2.2.2.2 73 = some (.iinc 2 1, 3, 0, 0, 0, 0, 0) := rfl
set_option maxRecDepth 20000 in
theorem ja_Reader_isKnown_76 : jv_at jm_Reader_isKnown.2.2.2.2.2.2 76 = some (.goto (-74), 3, 2, 0, 0, 0, 0) := rfl
set_option maxRecDepth 20000 in
theorem ja_Reader_isKnown_79 : jv_at jm_Reader_isKnown.2.2.2.2.2.2 79 = some (.iconst 1, 1, 0, 0, 0, 0, 1) := rfl
set_option maxRecDepth 20000 in
theorem ja_Reader_isKnown_80 : jv_at jm_Reader_isKnown.2.2.2.2.2.2 80 = some (.ireturn, 1, 0, 0, 0, 0, 0) := rfl
set_option maxRecDepth 20000 in
theorem ja_Reader_fail_0 : jv_at jm_Reader_fail.2.2.2.2.2.2 0 = some (.aload_n 0, 1, 0, 0, 0, 0, 0) := rfl
set_option maxRecDepth 20000 in
theorem ja_Reader_fail_1 : jv_at jm_Reader_fail.2.2.2.2.2.2 1 = some (.getfield 32, 3, 7, 7, 298, 0, 0) := rfl
set_option maxRecDepth 20000 in
theorem ja_Reader_fail_4 : jv_at jm_Reader_fail.2.2.2.2.2.2 4 = some (.iconst (-1), 1, 0, 0, 0, 0, -1) := rfl
set_option maxRecDepth 20000 in
theorem ja_Reader_fail_5 : jv_at jm_Reader_fail.2.2.2.2.2.2 5 = some (.if_icmp .ne 11, 3, 16, 0, 0, 0, 0) := rfl
set_option maxRecDepth 20000 in
theorem ja_Reader_fail_8 : jv_at jm_Reader_fail.2.2.2.2.2.2 8 = some (.aload_n 0, 1, 0, 0, 0, 0, 0) := rfl
set_option maxRecDepth 20000 in
theorem ja_Reader_fail_9 : jv_at jm_Reader_fail.2.2.2.2.2.2 9 = some (.aload_n 0, 1, 0, 0, 0, 0, 0) := rfl
set_option maxRecDepth 20000 in
theorem ja_Reader_fail_10 : jv_at jm_Reader_fail.2.2.2.2.2.2 10 = some (.getfield 54, 3, 7, 2, 293, 0, 0) := rfl
set_option maxRecDepth 20000 in
theorem ja_Reader_fail_13 : jv_at jm_Reader_fail.2.2.2.2.2.2 13 = some (.putfield 32, 3, 7, 7, 298, 0, 0) := rfl
set_option maxRecDepth 20000 in
theorem ja_Reader_fail_16 : jv_at jm_Reader_fail.2.2.2.2.2.2 16 = some (.aload_n 0, 1, 0, 0, 0, 0, 0) := rfl
set_option maxRecDepth 20000 in
theorem ja_Reader_fail_17 : jv_at jm_Reader_fail.2.2.2.2.2.2 17 = some (.bipush 17, 2, 0, 0, 0, 0, 17) := rfl
set_option maxRecDepth 20000 in
theorem ja_Reader_fail_19 : jv_at jm_Reader_fail.2.2.2.2.2.2 19 = some (.putfield 48, 3, 7, 4, 295, 0, 0) := rfl
set_option maxRecDepth 20000 in
theorem ja_Reader_fail_22 : jv_at jm_Reader_fail.2.2.2.2.2.2 22 = some (.return_, 1, 0, 0, 0, 0, 0) := rfl
set_option maxRecDepth 20000 in
theorem ja_Reader_isDigit_0 : jv_at jm_Reader_isDigit.2.2.2.2.2.2 0 = some (.aload_n 0, 1, 0, 0, 0, 0, 0) := rfl
set_option maxRecDepth 20000 in
theorem ja_Reader_isDigit_1 : jv_at jm_Reader_isDigit.2.2.2.2.2.2 1 = some (.iload_n 1, 1, 0, 0, 0, 0, 0) := rfl
set_option maxRecDepth 20000 in
theorem ja_Reader_isDigit_2 : jv_at jm_Reader_isDigit.2.2.2.2.2.2 2 = some (.invokevirtual 81, 3, 22, 0, 426, 7, 1) := rfl
set_option maxRecDepth 20000 in
theorem ja_Reader_isDigit_5 : jv_at jm_Reader_isDigit.2.2.2.2.2.2 5 = some (.bipush 48, 2, 0, 0, 0, 0, 48) := rfl
set_option maxRecDepth 20000 in
theorem ja_Reader_isDigit_7 : jv_at jm_Reader_isDigit.2.2.2.2.2.2 7 = some (.if_icmp .lt 17, 3, 24, 0, 0, 0, 0) := rfl
set_option maxRecDepth 20000 in
theorem ja_Reader_isDigit_10 : jv_at jm_Reader_isDigit.2.2.2.2.2.2 10 = some (.aload_n 0, 1, 0, 0, 0, 0, 0) := rfl
set_option maxRecDepth 20000 in
theorem ja_Reader_isDigit_11 : jv_at jm_Reader_isDigit.2.2.2.2.2.2 11 = some (.iload_n 1, 1, 0, 0, 0, 0, 0) := rfl
set_option maxRecDepth 20000 in
theorem ja_Reader_isDigit_12 : jv_at jm_Reader_isDigit.2.2.2.2.2.2 12 = some (.invokevirtual 81, 3, 22, 0, 426, 7, 1) := rfl
set_option maxRecDepth 20000 in
theorem ja_Reader_isDigit_15 : jv_at jm_Reader_isDigit.2.2.2.2.2.2 15 = some (.bipush 57, 2, 0, 0, 0, 0, 57) := rfl
set_option maxRecDepth 20000 in
theorem ja_Reader_isDigit_17 : jv_at jm_Reader_isDigit.2.2.2.2.2.2 17 = some (.if_icmp .gt 7, 3, 24, 0, 0, 0, 0) := rfl
set_option maxRecDepth 20000 in
theorem ja_Reader_isDigit_20 : jv_at jm_Reader_isDigit.2.2.2.2.2.2 20 = some (.iconst 1, 1, 0, 0, 0, 0, 1) := rfl
set_option maxRecDepth 20000 in
theorem ja_Reader_isDigit_21 : jv_at jm_Reader_isDigit.2.2.2.2.2.2 21 = some (.goto 4, 3, 25, 0, 0, 0, 0) := rfl
set_option maxRecDepth 20000 in
theorem ja_Reader_isDigit_24 : jv_at jm_Reader_isDigit.2.2.2.2.2.2 24 = some (.iconst 0, 1, 0, 0, 0, 0, 0) := rfl
set_option maxRecDepth 20000 in
theorem ja_Reader_isDigit_25 : jv_at jm_Reader_isDigit.2.2.2.2.2.2 25 = some (.ireturn, 1, 0, 0, 0, 0, 0) := rfl
set_option maxRecDepth 20000 in
theorem ja_Reader_readNumber_0 : jv_at jm_Reader_readNumber.2.2.2.2.2.2 0 = some (.aload_n 0, 1, 0, 0, 0, 0, 0) := rfl
set_option maxRecDepth 20000 in
theorem ja_Reader_readNumber_1 : jv_at jm_Reader_readNumber.2.2.2.2.2.2 1 = some (.iconst 0, 1, 0, 0, 0, 0, 0) := rfl
set_option maxRecDepth 20000 in
theorem ja_Reader_readNumber_2 : jv_at jm_Reader_readNumber.2.2.2.2.2.2 2 = some (.putfield 78, 3, 7, 5, 296, 0, 0) := rfl
set_option maxRecDepth 20000 in
theorem ja_Reader_readNumber_5 : jv_at jm_Reader_readNumber.2.2.2.2.2.2 5 = some (.aload_n 0, 1, 0, 0, 0, 0, 0) := rfl
set_option maxRecDepth 20000 in
theorem ja_Reader_readNumber_6 : jv_at jm_Reader_readNumber.2.2.2.2.2.2 6 = some (.getfield 26, 3, 7, 3, 294, 0, 0) := rfl
set_option maxRecDepth 20000 in
theorem ja_Reader_readNumber_9 : jv_at jm_Reader_readNumber.2.2.2.2.2.2 9 = some (.aload_n 0, 1, 0, 0, 0, 0, 0) := rfl
set_option maxRecDepth 20000 in
theorem ja_Reader_readNumber_10 : jv_at jm_Reader_readNumber.2.2.2.2.2.2 10 = some (.getfield 15, 3, 7, 1, 291, 0, 0) := rfl
set_option maxRecDepth 20000 in
theorem ja_Reader_readNumber_13 : jv_at jm_Reader_readNumber.2.2.2.2.2.2 13 = some (.if_icmp .ge 50, 3, 63, 0, 0, 0, 0) := rfl
set_option maxRecDepth 20000 in
theorem ja_Reader_readNumber_16 : jv_at jm_Reader_readNumber.2.2.2.2.2.2 16 = some (.aload_n 0, 1, 0, 0, 0, 0, 0) := rfl
set_option maxRecDepth 20000 in
theorem ja_Reader_readNumber_17 : jv_at jm_Reader_readNumber.2.2.2.2.2.2 17 = some (.aload_n 0, 1, 0, 0, 0, 0, 0) := rfl
set_option maxRecDepth 20000 in
theorem ja_Reader_readNumber_18 : jv_at jm_Reader_readNumber.2.2.2.2.2.2 18 = some (.getfield 26, 3, 7, 3, 294, 0, 0) := rfl
set_option maxRecDepth 20000 in
theorem ja_Reader_readNumber_21 : jv_at jm_Reader_readNumber.2.2.2.2.2.2 21 = some (.invokevirtual 92, 3, 27, 0, 449, 7, 1) := rfl
set_option maxRecDepth 20000 in
theorem ja_Reader_readNumber_24 : jv_at jm_Reader_readNumber.2.2.2.2.2.2 24 = some (.ifCond .eq 39, 3, 63, 0, 0, 0, 0) := rfl
set_option maxRecDepth 20000 in
theorem ja_Reader_readNumber_27 : jv_at jm_Reader_readNumber.2.2.2.2.2.2 27 = some (.aload_n 0, 1, 0, 0, 0, 0, 0) := rfl
set_option maxRecDepth 20000 in
theorem ja_Reader_readNumber_28 : jv_at jm_Reader_readNumber.2.2.2.2.2.2 28 = some (.aload_n 0, 1, 0, 0, 0, 0, 0) := rfl
set_option maxRecDepth 20000 in
theorem ja_Reader_readNumber_29 : jv_at jm_Reader_readNumber.2.2.2.2.2.2 29 = some (.getfield 78, 3, 7, 5, 296, 0, 0) := rfl
set_option maxRecDepth 20000 in
theorem ja_Reader_readNumber_32 : jv_at jm_Reader_readNumber.2.2.2.2.2.2 32 = some (.bipush 10, 2, 0, 0, 0, 0, 10) := rfl
set_option maxRecDepth 20000 in
theorem ja_Reader_readNumber_34 : jv_at jm_Reader_readNumber.2.2.2.2.2.2 34 = some (.imul, 1, 0, 0, 0, 0, 0) := rfl
set_option maxRecDepth 20000 in
theorem ja_Reader_readNumber_35 : jv_at jm_Reader_readNumber.2.2.2.2.2.2 35 = some (.aload_n 0, 1, 0, 0, 0, 0, 0) := rfl
set_option maxRecDepth 20000 in
theorem ja_Reader_readNumber_36 : jv_at jm_Reader_readNumber.2.2.2.2.2.2 36 = some (.aload_n 0, 1, 0, 0, 0, 0, 0) := rfl
set_option maxRecDepth 20000 in
theorem ja_Reader_readNumber_37 : jv_at jm_Reader_readNumber.2.2.2.2.2.2 37 = some (.getfield 26, 3, 7, 3, 294, 0, 0) := rfl
set_option maxRecDepth 20000 in
theorem ja_Reader_readNumber_40 : jv_at jm_Reader_readNumber.2.2.2.2.2.2 40 = some (.invokevirtual 81, 3, 22, 0, 426, 7, 1) := rfl
set_option maxRecDepth 20000 in
theorem ja_Reader_readNumber_43 : jv_at jm_Reader_readNumber.2.2.2.2.2.2 43 = some (.iadd, 1, 0, 0, 0, 0, 0) := rfl
set_option maxRecDepth 20000 in
theorem ja_Reader_readNumber_44 : jv_at jm_Reader_readNumber.2.2.2.2.2.2 44 = some (.bipush 48, 2, 0, 0, 0, 0, 48) := rfl
set_option maxRecDepth 20000 in
theorem ja_Reader_readNumber_46 : jv_at jm_Reader_readNumber.2.2.2.2.2.2 46 = some (.isub, 1, 0, 0, 0, 0, 0) := rfl
set_option maxRecDepth 20000 in
theorem ja_Reader_readNumber_47 : jv_at jm_Reader_readNumber.2.2.2.2.2.2 47 = some (.putfield 78, 3, 7, 5, 296, 0, 0) := rfl
set_option maxRecDepth 20000 in
theorem ja_Reader_readNumber_50 : jv_at jm_Reader_readNumber.2.2.2.2.2.2 50 = some (.aload_n 0, 1, 0, 0, 0, 0, 0) := rfl
set_option maxRecDepth 20000 in
theorem ja_Reader_readNumber_51 : jv_at jm_Reader_readNumber.2.2.2.2.2.2 51 = some (.dup, 1, 0, 0, 0, 0, 0) := rfl
set_option maxRecDepth 20000 in
theorem ja_Reader_readNumber_52 : jv_at jm_Reader_readNumber.2.2.2.2.2.2 52 = some (.getfield 26, 3, 7, 3, 294, 0, 0) := rfl
set_option maxRecDepth 20000 in
theorem ja_Reader_readNumber_55 : jv_at jm_Reader_readNumber.2.2.2.2.2.2 55 = some (.iconst 1, 1, 0, 0, 0, 0, 1) := rfl
set_option maxRecDepth 20000 in
theorem ja_Reader_readNumber_56 : jv_at jm_Reader_readNumber.2.2.2.2.2.2 56 = some (.iadd, 1, 0, 0, 0, 0, 0) := rfl
set_option maxRecDepth 20000 in
theorem ja_Reader_readNumber_57 : jv_at jm_Reader_readNumber.2.2.2.2.2.2 57 = some (.putfield 26, 3, 7, 3, 294, 0, 0) := rfl
set_option maxRecDepth 20000 in
theorem ja_Reader_readNumber_60 : jv_at jm_Reader_readNumber.2.2.2.2.2.2 60 = some (.goto (-55), 3, 5, 0, 0, 0, 0) := rfl
set_option maxRecDepth 20000 in
theorem ja_Reader_readNumber_63 : jv_at jm_Reader_readNumber.2.2.2.2.2.2 63 = some (.aload_n 0, 1, 0, 0, 0, 0, 0) := rfl
set_option maxRecDepth 20000 in
theorem ja_Reader_readNumber_64 : jv_at jm_Reader_readNumber.2.2.2.2.2.2 64 = some (.getfield 26, 3, 7, 3, 294, 0, 0) := rfl
set_option maxRecDepth 20000 in
theorem ja_Reader_readNumber_67 : jv_at jm_Reader_readNumber.2.2.2.2.2.2 67 = some (.aload_n 0, 1, 0, 0, 0, 0, 0) := rfl
set_option maxRecDepth 20000 in
theorem ja_Reader_readNumber_68 : jv_at jm_Reader_readNumber.2.2.2.2.2.2 68 = some (.getfield 54, 3, 7, 2, 293, 0, 0) := rfl
set_option maxRecDepth 20000 in
theorem ja_Reader_readNumber_71 : jv_at jm_Reader_readNumber.2.2.2.2.2.2 71 = some (.isub, 1, 0, 0, 0, 0, 0) := rfl
set_option maxRecDepth 20000 in
theorem ja_Reader_readNumber_72 : jv_at jm_Reader_readNumber.2.2.2.2.2.2 72 = some (.iconst 4, 1, 0, 0, 0, 0, 4) := rfl
set_option maxRecDepth 20000 in
theorem ja_Reader_readNumber_73 : jv_at jm_Reader_readNumber.2.2.2.2.2.2 73 = some (.if_icmp .le 10, 3, 83, 0, 0, 0, 0) := rfl
set_option maxRecDepth 20000 in
theorem ja_Reader_readNumber_76 : jv_at jm_Reader_readNumber.2.2.2.2.2.2 76 = some (.aload_n 0, 1, 0, 0, 0, 0, 0) := rfl
set_option maxRecDepth 20000 in
theorem ja_Reader_readNumber_77 : jv_at jm_Reader_readNumber.2.2.2.2.2.2 77 = some (.invokevirtual 51, 3, 26, 0, 445, 7, 0) := rfl
set_option maxRecDepth 20000 in
theorem ja_Reader_readNumber_80 : jv_at jm_Reader_readNumber.2.2.2.2.2.2 80 = some (.goto 9, 3, 89, 0, 0, 0, 0) := rfl
set_option maxRecDepth 20000 in
theorem ja_Reader_readNumber_83 : jv_at jm_Reader_readNumber.2.2.2.2.2.2 83 = some (.aload_n 0, 1, 0, 0, 0, 0, 0) := rfl
set_option maxRecDepth 20000 in
theorem ja_Reader_readNumber_84 : jv_at jm_Reader_readNumber.2.2.2.2.2.2 84 = some (.bipush 15, 2, 0, 0, 0, 0, 15) := rfl
set_option maxRecDepth 20000 in
theorem ja_Reader_readNumber_86 : jv_at jm_Reader_readNumber.2.2.2.2.2.2 86 = some (.putfield 48, 3, 7, 4, 295, 0, 0) := rfl
set_option maxRecDepth 20000 in
theorem ja_Reader_readNumber_89 : jv_at jm_Reader_readNumber.2.2.2.2.2.2 89 = some (.return_, 1, 0, 0, 0, 0, 0) := rfl
set_option maxRecDepth 20000 in
theorem ja_Reader_readSign_0 : jv_at jm_Reader_readSign.2.2.2.2.2.2 0 = some (.aload_n 0, 1, 0, 0, 0, 0, 0) := rfl
set_option maxRecDepth 20000 in
theorem ja_Reader_readSign_1 : jv_at jm_Reader_readSign.2.2.2.2.2.2 1 = some (.aload_n 0, 1, 0, 0, 0, 0, 0) := rfl
set_option maxRecDepth 20000 in
theorem ja_Reader_readSign_2 : jv_at jm_Reader_readSign.2.2.2.2.2.2 2 = some (.getfield 54, 3, 7, 2, 293, 0, 0) := rfl
set_option maxRecDepth 20000 in
theorem ja_Reader_readSign_5 : jv_at jm_Reader_readSign.2.2.2.2.2.2 5 = some (.invokevirtual 81, 3, 22, 0, 426, 7, 1) := rfl
set_option maxRecDepth 20000 in
theorem ja_Reader_readSign_8 : jv_at jm_Reader_readSign.2.2.2.2.2.2 8 = some (.istore_n 1, 1, 0, 0, 0, 0, 0) := rfl
set_option maxRecDepth 20000 in
theorem ja_Reader_readSign_9 : jv_at jm_Reader_readSign.2.2.2.2.2.2 9 = some (.aload_n 0, 1, 0, 0, 0, 0, 0) := rfl
set_option maxRecDepth 20000 in
theorem ja_Reader_readSign_10 : jv_at jm_Reader_readSign.2.2.2.2.2.2 10 = some (.dup, 1, 0, 0, 0, 0, 0) := rfl
set_option maxRecDepth 20000 in
theorem ja_Reader_readSign_11 : jv_at jm_Reader_readSign.2.2.2.2.2.2 11 = some (.getfield 26, 3, 7, 3, 294, 0, 0) := rfl
set_option maxRecDepth 20000 in
theorem ja_Reader_readSign_14 : jv_at jm_Reader_readSign.2.2.2.2.2.2 14 = some (.iconst 1, 1, 0, 0, 0, 0, 1) := rfl
set_option maxRecDepth 20000 in
theorem ja_Reader_readSign_15 : jv_at jm_Reader_readSign.2.2.2.2.2.2 15 = some (.iadd, 1, 0, 0, 0, 0, 0) := rfl
set_option maxRecDepth 20000 in
theorem ja_Reader_readSign_16 : jv_at jm_Reader_readSign.2.2.2.2.2.2 16 = some (.putfield 26, 3, 7, 3, 294, 0, 0) := rfl
set_option maxRecDepth 20000 in
theorem ja_Reader_readSign_19 : jv_at jm_Reader_readSign.2.2.2.2.2.2 19 = some (.iload_n 1, 1, 0, 0, 0, 0, 0) := rfl
set_option maxRecDepth 20000 in
theorem ja_Reader_readSign_20 : jv_at jm_Reader_readSign.2.2.2.2.2.2 20 = some (.tableswitch 112 40 61 #[104, 104, 104, 104, 112, 104, 112, 112, 112, 112, 112, 112, 112, 112, 112, 112, 112, 112, 112, 104, 104, 104], 104, 0, 0, 0, 0, 0) := rfl
set_option maxRecDepth 20000 in
theorem ja_Reader_readSign_124 : jv_at jm_Reader_readSign.2.2.2.2.2.2 124 = some (.aload_n 0, 1, 0, 0, 0, 0, 0) := rfl
set_option maxRecDepth 20000 in
theorem ja_Reader_readSign_125 : jv_at jm_Reader_readSign.2.2.2.2.2.2 125 = some (.iload_n 1, 1, 0, 0, 0, 0, 0) := rfl
set_option maxRecDepth 20000 in
theorem ja_Reader_readSign_126 : jv_at jm_Reader_readSign.2.2.2.2.2.2 126 = some (.putfield 48, 3, 7, 4, 295, 0, 0) := rfl
set_option maxRecDepth 20000 in
theorem ja_Reader_readSign_129 : jv_at jm_Reader_readSign.2.2.2.2.2.2 129 = some (.goto 7, 3, 136, 0, 0, 0, 0) := rfl
set_option maxRecDepth 20000 in
theorem ja_Reader_readSign_132 : jv_at jm_Reader_readSign.2.2.2.2.2.2 132 = some (.aload_n 0, 1, 0, 0, 0, 0, 0) := rfl
set_option maxRecDepth 20000 in
theorem ja_Reader_readSign_133 : jv_at jm_Reader_readSign.2.2.2.2.2.2 133 = some (.invokevirtual 51, 3, 26, 0, 445, 7, 0) := rfl
set_option maxRecDepth 20000 in
theorem ja_Reader_readSign_136 : jv_at jm_Reader_readSign.2.2.2.2.2.2 136 = some (.return_, 1, 0, 0, 0, 0, 0) := rfl
set_option maxRecDepth 20000 in
theorem ja_Reader_expect_0 : jv_at jm_Reader_expect.2.2.2.2.2.2 0 = some (.aload_n 0, 1, 0, 0, 0, 0, 0) := rfl
set_option maxRecDepth 20000 in
theorem ja_Reader_expect_1 : jv_at jm_Reader_expect.2.2.2.2.2.2 1 = some (.getfield 48, 3, 7, 4, 295, 0, 0) := rfl
set_option maxRecDepth 20000 in
theorem ja_Reader_expect_4 : jv_at jm_Reader_expect.2.2.2.2.2.2 4 = some (.iload_n 1, 1, 0, 0, 0, 0, 0) := rfl
set_option maxRecDepth 20000 in
theorem ja_Reader_expect_5 : jv_at jm_Reader_expect.2.2.2.2.2.2 5 = some (.if_icmp .ne 10, 3, 15, 0, 0, 0, 0) := rfl
set_option maxRecDepth 20000 in
theorem ja_Reader_expect_8 : jv_at jm_Reader_expect.2.2.2.2.2.2 8 = some (.aload_n 0, 1, 0, 0, 0, 0, 0) := rfl
set_option maxRecDepth 20000 in
theorem ja_Reader_expect_9 : jv_at jm_Reader_expect.2.2.2.2.2.2 9 = some (.invokevirtual 35, 3, 21, 0, 422, 7, 0) := rfl
set_option maxRecDepth 20000 in
theorem ja_Reader_expect_12 : jv_at jm_Reader_expect.2.2.2.2.2.2 12 = some (.goto 7, 3, 19, 0, 0, 0, 0) := rfl
set_option maxRecDepth 20000 in
theorem ja_Reader_expect_15 : jv_at jm_Reader_expect.2.2.2.2.2.2 15 = some (.aload_n 0, 1, 0, 0, 0, 0, 0) := rfl
set_option maxRecDepth 20000 in
theorem ja_Reader_expect_16 : jv_at jm_Reader_expect.2.2.2.2.2.2 16 = some (.invokevirtual 51, 3, 26, 0, 445, 7, 0) := rfl
set_option maxRecDepth 20000 in
theorem ja_Reader_expect_19 : jv_at jm_Reader_expect.2.2.2.2.2.2 19 = some (.return_, 1, 0, 0, 0, 0, 0) := rfl
set_option maxRecDepth 20000 in
theorem ja_Reader_readSome_0 : jv_at jm_Reader_readSome.2.2.2.2.2.2 0 = some (.aload_n 0, 1, 0, 0, 0, 0, 0) := rfl
set_option maxRecDepth 20000 in
theorem ja_Reader_readSome_1 : jv_at jm_Reader_readSome.2.2.2.2.2.2 1 = some (.invokevirtual 57, 3, 32, 0, 469, 7, 0) := rfl
set_option maxRecDepth 20000 in
theorem ja_Reader_readSome_4 : jv_at jm_Reader_readSome.2.2.2.2.2.2 4 = some (.iconst 0, 1, 0, 0, 0, 0, 0) := rfl
set_option maxRecDepth 20000 in
theorem ja_Reader_readSome_5 : jv_at jm_Reader_readSome.2.2.2.2.2.2 5 = some (.istore_n 1, 1, 0, 0, 0, 0, 0) := rfl
set_option maxRecDepth 20000 in
theorem ja_Reader_readSome_6 : jv_at jm_Reader_readSome.2.2.2.2.2.2 6 = some (.iload_n 1, 1, 0, 0, 0, 0, 0) := rfl
set_option maxRecDepth 20000 in
theorem ja_Reader_readSome_7 : jv_at jm_Reader_readSome.2.2.2.2.2.2 7 = some (.sipush 200, 3, 0, 0, 0, 0, 200) := rfl
set_option maxRecDepth 20000 in
theorem ja_Reader_readSome_10 : jv_at jm_Reader_readSome.2.2.2.2.2.2 10 = some (.if_icmp .ge 35, 3, 45, 0, 0, 0, 0) := rfl
set_option maxRecDepth 20000 in
theorem ja_Reader_readSome_13 : jv_at jm_Reader_readSome.2.2.2.2.2.2 13 = some (.aload_n 0, 1, 0, 0, 0, 0, 0) := rfl
set_option maxRecDepth 20000 in
theorem ja_Reader_readSome_14 : jv_at jm_Reader_readSome.2.2.2.2.2.2 14 = some (.getfield 48, 3, 7, 4, 295, 0, 0) := rfl
set_option maxRecDepth 20000 in
theorem ja_Reader_readSome_17 : jv_at jm_Reader_readSome.2.2.2.2.2.2 17 = some (.bipush 12, 2, 0, 0, 0, 0, 12) := rfl
set_option maxRecDepth 20000 in
theorem ja_Reader_readSome_19 : jv_at jm_Reader_readSome.2.2.2.2.2.2 19 = some (.if_icmp .ne 26, 3, 45, 0, 0, 0, 0) := rfl
set_option maxRecDepth 20000 in
theorem ja_Reader_readSome_22 : jv_at jm_Reader_readSome.2.2.2.2.2.2 22 = some (.aload_n 0, 1, 0, 0, 0, 0, 0) := rfl
set_option maxRecDepth 20000 in
theorem ja_Reader_readSome_23 : jv_at jm_Reader_readSome.2.2.2.2.2.2 23 = some (.invokevirtual 35, 3, 21, 0, 422, 7, 0) := rfl
set_option maxRecDepth 20000 in
theorem ja_Reader_readSome_26 : jv_at jm_Reader_readSome.2.2.2.2.2.2 26 = some (.aload_n 0, 1, 0, 0, 0, 0, 0) := rfl
set_option maxRecDepth 20000 in
theorem ja_Reader_readSome_27 : jv_at jm_Reader_readSome.2.2.2.2.2.2 27 = some (.invokevirtual 57, 3, 32, 0, 469, 7, 0) := rfl
set_option maxRecDepth 20000 in
theorem ja_Reader_readSome_30 : jv_at jm_Reader_readSome.2.2.2.2.2.2 30 = some (.aload_n 0, 1, 0, 0, 0, 0, 0) := rfl
set_option maxRecDepth 20000 in
theorem ja_Reader_readSome_31 : jv_at jm_Reader_readSome.2.2.2.2.2.2 31 = some (.getfield 19, 3, 7, 8, 299, 0, 0) := rfl
set_option maxRecDepth 20000 in
theorem ja_Reader_readSome_34 : jv_at jm_Reader_readSome.2.2.2.2.2.2 34 = some (.bipush (-9), 2, 0, 0, 0, 0, -9) := rfl
set_option maxRecDepth 20000 in
theorem ja_Reader_readSome_36 : jv_at jm_Reader_readSome.2.2.2.2.2.2 36 = some (.invokevirtual 60, 3, 35, 0, 481, 9, 1) := rfl
set_option maxRecDepth 20000 in
theorem ja_Reader_readSome_39 : jv_at jm_Reader_readSome.2.2.2.2.2.2 39 = some (.iinc 1 1, 3, 0, 0, 0, 0, 0) := rfl
set_option maxRecDepth 20000 in
theorem ja_Reader_readSome_42 : jv_at jm_Reader_readSome.2.2.2.2.2.2 42 = some (.goto (-36), 3, 6, 0, 0, 0, 0) := rfl
set_option maxRecDepth 20000 in
theorem ja_Reader_readSome_45 : jv_at jm_Reader_readSome.2.2.2.2.2.2 45 = some (.return_, 1, 0, 0, 0, 0, 0) := rfl
set_option maxRecDepth 20000 in
theorem ja_Reader_readAll_0 : jv_at jm_Reader_readAll.2.2.2.2.2.2 0 = some (.aload_n 0, 1, 0, 0, 0, 0, 0) := rfl
set_option maxRecDepth 20000 in
theorem ja_Reader_readAll_1 : jv_at jm_Reader_readAll.2.2.2.2.2.2 1 = some (.invokevirtual 63, 3, 33, 0, 473, 7, 0) := rfl
set_option maxRecDepth 20000 in
theorem ja_Reader_readAll_4 : jv_at jm_Reader_readAll.2.2.2.2.2.2 4 = some (.iconst 0, 1, 0, 0, 0, 0, 0) := rfl
set_option maxRecDepth 20000 in
theorem ja_Reader_readAll_5 : jv_at jm_Reader_readAll.2.2.2.2.2.2 5 = some (.istore_n 1, 1, 0, 0, 0, 0, 0) := rfl
set_option maxRecDepth 20000 in
theorem ja_Reader_readAll_6 : jv_at jm_Reader_readAll.2.2.2.2.2.2 6 = some (.iload_n 1, 1, 0, 0, 0, 0, 0) := rfl
set_option maxRecDepth 20000 in
theorem ja_Reader_readAll_7 : jv_at jm_Reader_readAll.2.2.2.2.2.2 7 = some (.sipush 200, 3, 0, 0, 0, 0, 200) := rfl
set_option maxRecDepth 20000 in
theorem ja_Reader_readAll_10 : jv_at jm_Reader_readAll.2.2.2.2.2.2 10 = some (.if_icmp .ge 35, 3, 45, 0, 0, 0, 0) := rfl
set_option maxRecDepth 20000 in
theorem ja_Reader_readAll_13 : jv_at jm_Reader_readAll.2.2.2.2.2.2 13 = some (.aload_n 0, 1, 0, 0, 0, 0, 0) := rfl
set_option maxRecDepth 20000 in
theorem ja_Reader_readAll_14 : jv_at jm_Reader_readAll.2.2.2.2.2.2 14 = some (.getfield 48, 3, 7, 4, 295, 0, 0) := rfl
set_option maxRecDepth 20000 in
theorem ja_Reader_readAll_17 : jv_at jm_Reader_readAll.2.2.2.2.2.2 17 = some (.bipush 13, 2, 0, 0, 0, 0, 13) := rfl
set_option maxRecDepth 20000 in
theorem ja_Reader_readAll_19 : jv_at jm_Reader_readAll.2.2.2.2.2.2 19 = some (.if_icmp .ne 26, 3, 45, 0, 0, 0, 0) := rfl
set_option maxRecDepth 20000 in
theorem ja_Reader_readAll_22 : jv_at jm_Reader_readAll.2.2.2.2.2.2 22 = some (.aload_n 0, 1, 0, 0, 0, 0, 0) := rfl
set_option maxRecDepth 20000 in
theorem ja_Reader_readAll_23 : jv_at jm_Reader_readAll.2.2.2.2.2.2 23 = some (.invokevirtual 35, 3, 21, 0, 422, 7, 0) := rfl
set_option maxRecDepth 20000 in
theorem ja_Reader_readAll_26 : jv_at jm_Reader_readAll.2.2.2.2.2.2 26 = some (.aload_n 0, 1, 0, 0, 0, 0, 0) := rfl
set_option maxRecDepth 20000 in
theorem ja_Reader_readAll_27 : jv_at jm_Reader_readAll.2.2.2.2.2.2 27 = some (.invokevirtual 63, 3, 33, 0, 473, 7, 0) := rfl
set_option maxRecDepth 20000 in
theorem ja_Reader_readAll_30 : jv_at jm_Reader_readAll.2.2.2.2.2.2 30 = some (.aload_n 0, 1, 0, 0, 0, 0, 0) := rfl
set_option maxRecDepth 20000 in
theorem ja_Reader_readAll_31 : jv_at jm_Reader_readAll.2.2.2.2.2.2 31 = some (.getfield 19, 3, 7, 8, 299, 0, 0) := rfl
set_option maxRecDepth 20000 in
theorem ja_Reader_readAll_34 : jv_at jm_Reader_readAll.2.2.2.2.2.2 34 = some (.bipush (-10), 2, 0, 0, 0, 0, -10) := rfl
set_option maxRecDepth 20000 in
theorem ja_Reader_readAll_36 : jv_at jm_Reader_readAll.2.2.2.2.2.2 36 = some (.invokevirtual 60, 3, 35, 0, 481, 9, 1) := rfl
set_option maxRecDepth 20000 in
theorem ja_Reader_readAll_39 : jv_at jm_Reader_readAll.2.2.2.2.2.2 39 = some (.iinc 1 1, 3, 0, 0, 0, 0, 0) := rfl
set_option maxRecDepth 20000 in
theorem ja_Reader_readAll_42 : jv_at jm_Reader_readAll.2.2.2.2.2.2 42 = some (.goto (-36), 3, 6, 0, 0, 0, 0) := rfl
set_option maxRecDepth 20000 in
theorem ja_Reader_readAll_45 : jv_at jm_Reader_readAll.2.2.2.2.2.2 45 = some (.return_, 1, 0, 0, 0, 0, 0) := rfl
set_option maxRecDepth 20000 in
theorem ja_Reader_readClaim_0 : jv_at jm_Reader_readClaim.2.2.2.2.2.2 0 = some (.aload_n 0, 1, 0, 0, 0, 0, 0) := rfl
set_option maxRecDepth 20000 in
theorem ja_Reader_readClaim_1 : jv_at jm_Reader_readClaim.2.2.2.2.2.2 1 = some (.getfield 48, 3, 7, 4, 295, 0, 0) := rfl
set_option maxRecDepth 20000 in
theorem ja_Reader_readClaim_4 : jv_at jm_Reader_readClaim.2.2.2.2.2.2 4 = some (.bipush 14, 2, 0, 0, 0, 0, 14) := rfl
set_option maxRecDepth 20000 in
theorem ja_Reader_readClaim_6 : jv_at jm_Reader_readClaim.2.2.2.2.2.2 6 = some (.if_icmp .ne 8, 3, 14, 0, 0, 0, 0) := rfl
set_option maxRecDepth 20000 in
theorem ja_Reader_readClaim_9 : jv_at jm_Reader_readClaim.2.2.2.2.2.2 9 = some (.aload_n 0, 1, 0, 0, 0, 0, 0) := rfl
set_option maxRecDepth 20000 in
theorem ja_Reader_readClaim_10 : jv_at jm_Reader_readClaim.2.2.2.2.2.2 10 = some (.invokevirtual 66, 3, 34, 0, 477, 7, 0) := rfl
set_option maxRecDepth 20000 in
theorem ja_Reader_readClaim_13 : jv_at jm_Reader_readClaim.2.2.2.2.2.2 13 = some (.return_, 1, 0, 0, 0, 0, 0) := rfl
set_option maxRecDepth 20000 in
theorem ja_Reader_readClaim_14 : jv_at jm_Reader_readClaim.2.2.2.2.2.2 14 = some (.aload_n 0, 1, 0, 0, 0, 0, 0) := rfl
set_option maxRecDepth 20000 in
theorem ja_Reader_readClaim_15 : jv_at jm_Reader_readClaim.2.2.2.2.2.2 15 = some (.invokevirtual 69, 3, 37, 0, 489, 7, 0) := rfl
set_option maxRecDepth 20000 in
theorem ja_Reader_readClaim_18 : jv_at jm_Reader_readClaim.2.2.2.2.2.2 18 = some (.aload_n 0, 1, 0, 0, 0, 0, 0) := rfl
set_option maxRecDepth 20000 in
theorem ja_Reader_readClaim_19 : jv_at jm_Reader_readClaim.2.2.2.2.2.2 19 = some (.getfield 48, 3, 7, 4, 295, 0, 0) := rfl
set_option maxRecDepth 20000 in
theorem ja_Reader_readClaim_22 : jv_at jm_Reader_readClaim.2.2.2.2.2.2 22 = some (.bipush 60, 2, 0, 0, 0, 0, 60) := rfl
set_option maxRecDepth 20000 in
theorem ja_Reader_readClaim_24 : jv_at jm_Reader_readClaim.2.2.2.2.2.2 24 = some (.if_icmp .eq 12, 3, 36, 0, 0, 0, 0) := rfl
set_option maxRecDepth 20000 in
theorem ja_Reader_readClaim_27 : jv_at jm_Reader_readClaim.2.2.2.2.2.2 27 = some (.aload_n 0, 1, 0, 0, 0, 0, 0) := rfl
set_option maxRecDepth 20000 in
theorem ja_Reader_readClaim_28 : jv_at jm_Reader_readClaim.2.2.2.2.2.2 28 = some (.getfield 48, 3, 7, 4, 295, 0, 0) := rfl
set_option maxRecDepth 20000 in
theorem ja_Reader_readClaim_31 : jv_at jm_Reader_readClaim.2.2.2.2.2.2 31 = some (.bipush 61, 2, 0, 0, 0, 0, 61) := rfl
set_option maxRecDepth 20000 in
theorem ja_Reader_readClaim_33 : jv_at jm_Reader_readClaim.2.2.2.2.2.2 33 = some (.if_icmp .ne 36, 3, 69, 0, 0, 0, 0) := rfl
set_option maxRecDepth 20000 in
theorem ja_Reader_readClaim_36 : jv_at jm_Reader_readClaim.2.2.2.2.2.2 36 = some (.aload_n 0, 1, 0, 0, 0, 0, 0) := rfl
set_option maxRecDepth 20000 in
theorem ja_Reader_readClaim_37 : jv_at jm_Reader_readClaim.2.2.2.2.2.2 37 = some (.getfield 48, 3, 7, 4, 295, 0, 0) := rfl
set_option maxRecDepth 20000 in
theorem ja_Reader_readClaim_40 : jv_at jm_Reader_readClaim.2.2.2.2.2.2 40 = some (.bipush 60, 2, 0, 0, 0, 0, 60) := rfl
set_option maxRecDepth 20000 in
theorem ja_Reader_readClaim_42 : jv_at jm_Reader_readClaim.2.2.2.2.2.2 42 = some (.if_icmp .ne 8, 3, 50, 0, 0, 0, 0) := rfl
set_option maxRecDepth 20000 in
theorem ja_Reader_readClaim_45 : jv_at jm_Reader_readClaim.2.2.2.2.2.2 45 = some (.bipush (-12), 2, 0, 0, 0, 0, -12) := rfl
set_option maxRecDepth 20000 in
theorem ja_Reader_readClaim_47 : jv_at jm_Reader_readClaim.2.2.2.2.2.2 47 = some (.goto 5, 3, 52, 0, 0, 0, 0) := rfl
set_option maxRecDepth 20000 in
theorem ja_Reader_readClaim_50 : jv_at jm_Reader_readClaim.2.2.2.2.2.2 50 = some (.bipush (-13), 2, 0, 0, 0, 0, -13) := rfl
set_option maxRecDepth 20000 in
theorem ja_Reader_readClaim_52 : jv_at jm_Reader_readClaim.2.2.2.2.2.2 52 = some (.istore_n 1, 1, 0, 0, 0, 0, 0) := rfl
set_option maxRecDepth 20000 in
theorem ja_Reader_readClaim_53 : jv_at jm_Reader_readClaim.2.2.2.2.2.2 53 = some (.aload_n 0, 1, 0, 0, 0, 0, 0) := rfl
set_option maxRecDepth 20000 in
theorem ja_Reader_readClaim_54 : jv_at jm_Reader_readClaim.2.2.2.2.2.2 54 = some (.invokevirtual 35, 3, 21, 0, 422, 7, 0) := rfl
set_option maxRecDepth 20000 in
theorem ja_Reader_readClaim_57 : jv_at jm_Reader_readClaim.2.2.2.2.2.2 57 = some (.aload_n 0, 1, 0, 0, 0, 0, 0) := rfl
set_option maxRecDepth 20000 in
theorem ja_Reader_readClaim_58 : jv_at jm_Reader_readClaim.2.2.2.2.2.2 58 = some (.invokevirtual 69, 3, 37, 0, 489, 7, 0) := rfl
set_option maxRecDepth 20000 in
theorem ja_Reader_readClaim_61 : jv_at jm_Reader_readClaim.2.2.2.2.2.2 61 = some (.aload_n 0, 1, 0, 0, 0, 0, 0) := rfl
set_option maxRecDepth 20000 in
theorem ja_Reader_readClaim_62 : jv_at jm_Reader_readClaim.2.2.2.2.2.2 62 = some (.getfield 19, 3, 7, 8, 299, 0, 0) := rfl
set_option maxRecDepth 20000 in
theorem ja_Reader_readClaim_65 : jv_at jm_Reader_readClaim.2.2.2.2.2.2 65 = some (.iload_n 1, 1, 0, 0, 0, 0, 0) := rfl
set_option maxRecDepth 20000 in
theorem ja_Reader_readClaim_66 : jv_at jm_Reader_readClaim.2.2.2.2.2.2 66 = some (.invokevirtual 60, 3, 35, 0, 481, 9, 1) := rfl
set_option maxRecDepth 20000 in
theorem ja_Reader_readClaim_69 : jv_at jm_Reader_readClaim.2.2.2.2.2.2 69 = some (.return_, 1, 0, 0, 0, 0, 0) := rfl
set_option maxRecDepth 20000 in
theorem ja_Reader_readOpened_0 : jv_at jm_Reader_readOpened.2.2.2.2.2.2 0 = some (.aload_n 0, 1, 0, 0, 0, 0, 0) := rfl
set_option maxRecDepth 20000 in
theorem ja_Reader_readOpened_1 : jv_at jm_Reader_readOpened.2.2.2.2.2.2 1 = some (.getfield 29, 3, 7, 6, 297, 0, 0) := rfl
set_option maxRecDepth 20000 in
theorem ja_Reader_readOpened_4 : jv_at jm_Reader_readOpened.2.2.2.2.2.2 4 = some (.iconst 5, 1, 0, 0, 0, 0, 5) := rfl
set_option maxRecDepth 20000 in
theorem ja_Reader_readOpened_5 : jv_at jm_Reader_readOpened.2.2.2.2.2.2 5 = some (.if_icmp .lt 8, 3, 13, 0, 0, 0, 0) := rfl
set_option maxRecDepth 20000 in
theorem ja_Reader_readOpened_8 : jv_at jm_Reader_readOpened.2.2.2.2.2.2 8 = some (.aload_n 0, 1, 0, 0, 0, 0, 0) := rfl
set_option maxRecDepth 20000 in
theorem ja_Reader_readOpened_9 : jv_at jm_Reader_readOpened.2.2.2.2.2.2 9 = some (.invokevirtual 51, 3, 26, 0, 445, 7, 0) := rfl
set_option maxRecDepth 20000 in
theorem ja_Reader_readOpened_12 : jv_at jm_Reader_readOpened.2.2.2.2.2.2 12 = some (.return_, 1, 0, 0, 0, 0, 0) := rfl
set_option maxRecDepth 20000 in
theorem ja_Reader_readOpened_13 : jv_at jm_Reader_readOpened.2.2.2.2.2.2 13 = some (.aload_n 0, 1, 0, 0, 0, 0, 0) := rfl
set_option maxRecDepth 20000 in
theorem ja_Reader_readOpened_14 : jv_at jm_Reader_readOpened.2.2.2.2.2.2 14 = some (.getfield 48, 3, 7, 4, 295, 0, 0) := rfl
set_option maxRecDepth 20000 in
theorem ja_Reader_readOpened_17 : jv_at jm_Reader_readOpened.2.2.2.2.2.2 17 = some (.istore_n 1, 1, 0, 0, 0, 0, 0) := rfl
set_option maxRecDepth 20000 in
theorem ja_Reader_readOpened_18 : jv_at jm_Reader_readOpened.2.2.2.2.2.2 18 = some (.aload_n 0, 1, 0, 0, 0, 0, 0) := rfl
set_option maxRecDepth 20000 in
theorem ja_Reader_readOpened_19 : jv_at jm_Reader_readOpened.2.2.2.2.2.2 19 = some (.dup, 1, 0, 0, 0, 0, 0) := rfl
set_option maxRecDepth 20000 in
theorem ja_Reader_readOpened_20 : jv_at jm_Reader_readOpened.2.2.2.2.2.2 20 = some (.getfield 29, 3, 7, 6, 297, 0, 0) := rfl
set_option maxRecDepth 20000 in
theorem ja_Reader_readOpened_23 : jv_at jm_Reader_readOpened.2.2.2.2.2.2 23 = some (.iconst 1, 1, 0, 0, 0, 0, 1) := rfl
set_option maxRecDepth 20000 in
theorem ja_Reader_readOpened_24 : jv_at jm_Reader_readOpened.2.2.2.2.2.2 24 = some (.iadd, 1, 0, 0, 0, 0, 0) := rfl
set_option maxRecDepth 20000 in
theorem ja_Reader_readOpened_25 : jv_at jm_Reader_readOpened.2.2.2.2.2.2 25 = some (.putfield 29, 3, 7, 6, 297, 0, 0) := rfl
set_option maxRecDepth 20000 in
theorem ja_Reader_readOpened_28 : jv_at jm_Reader_readOpened.2.2.2.2.2.2 28 = some (.aload_n 0, 1, 0, 0, 0, 0, 0) := rfl
set_option maxRecDepth 20000 in
theorem ja_Reader_readOpened_29 : jv_at jm_Reader_readOpened.2.2.2.2.2.2 29 = some (.invokevirtual 35, 3, 21, 0, 422, 7, 0) := rfl
set_option maxRecDepth 20000 in
theorem ja_Reader_readOpened_32 : jv_at jm_Reader_readOpened.2.2.2.2.2.2 32 = some (.iload_n 1, 1, 0, 0, 0, 0, 0) := rfl
set_option maxRecDepth 20000 in
theorem ja_Reader_readOpened_33 : jv_at jm_Reader_readOpened.2.2.2.2.2.2 33 = some (.bipush 40, 2, 0, 0, 0, 0, 40) := rfl
set_option maxRecDepth 20000 in
theorem ja_Reader_readOpened_35 : jv_at jm_Reader_readOpened.2.2.2.2.2.2 35 = some (.if_icmp .ne 16, 3, 51, 0, 0, 0, 0) := rfl
set_option maxRecDepth 20000 in
theorem ja_Reader_readOpened_38 : jv_at jm_Reader_readOpened.2.2.2.2.2.2 38 = some (.aload_n 0, 1, 0, 0, 0, 0, 0) := rfl
set_option maxRecDepth 20000 in
theorem ja_Reader_readOpened_39 : jv_at jm_Reader_readOpened.2.2.2.2.2.2 39 = some (.invokevirtual 45, 3, 31, 0, 465, 7, 0) := rfl
set_option maxRecDepth 20000 in
theorem ja_Reader_readOpened_42 : jv_at jm_Reader_readOpened.2.2.2.2.2.2 42 = some (.aload_n 0, 1, 0, 0, 0, 0, 0) := rfl
set_option maxRecDepth 20000 in
theorem ja_Reader_readOpened_43 : jv_at jm_Reader_readOpened.2.2.2.2.2.2 43 = some (.bipush 41, 2, 0, 0, 0, 0, 41) := rfl
set_option maxRecDepth 20000 in
theorem ja_Reader_readOpened_45 : jv_at jm_Reader_readOpened.2.2.2.2.2.2 45 = some (.invokevirtual 38, 3, 30, 0, 461, 7, 1) := rfl
set_option maxRecDepth 20000 in
theorem ja_Reader_readOpened_48 : jv_at jm_Reader_readOpened.2.2.2.2.2.2 48 = some (.goto 38, 3, 86, 0, 0, 0, 0) := rfl
set_option maxRecDepth 20000 in
theorem ja_Reader_readOpened_51 : jv_at jm_Reader_readOpened.2.2.2.2.2.2 51 = some (.iload_n 1, 1, 0, 0, 0, 0, 0) := rfl
set_option maxRecDepth 20000 in
theorem ja_Reader_readOpened_52 : jv_at jm_Reader_readOpened.2.2.2.2.2.2 52 = some (.bipush 14, 2, 0, 0, 0, 0, 14) := rfl
set_option maxRecDepth 20000 in
theorem ja_Reader_readOpened_54 : jv_at jm_Reader_readOpened.2.2.2.2.2.2 54 = some (.if_icmp .ne 19, 3, 73, 0, 0, 0, 0) := rfl
set_option maxRecDepth 20000 in
theorem ja_Reader_readOpened_57 : jv_at jm_Reader_readOpened.2.2.2.2.2.2 57 = some (.aload_n 0, 1, 0, 0, 0, 0, 0) := rfl
set_option maxRecDepth 20000 in
theorem ja_Reader_readOpened_58 : jv_at jm_Reader_readOpened.2.2.2.2.2.2 58 = some (.invokevirtual 63, 3, 33, 0, 473, 7, 0) := rfl
set_option maxRecDepth 20000 in
theorem ja_Reader_readOpened_61 : jv_at jm_Reader_readOpened.2.2.2.2.2.2 61 = some (.aload_n 0, 1, 0, 0, 0, 0, 0) := rfl
set_option maxRecDepth 20000 in
theorem ja_Reader_readOpened_62 : jv_at jm_Reader_readOpened.2.2.2.2.2.2 62 = some (.getfield 19, 3, 7, 8, 299, 0, 0) := rfl
set_option maxRecDepth 20000 in
theorem ja_Reader_readOpened_65 : jv_at jm_Reader_readOpened.2.2.2.2.2.2 65 = some (.bipush (-11), 2, 0, 0, 0, 0, -11) := rfl
set_option maxRecDepth 20000 in
theorem ja_Reader_readOpened_67 : jv_at jm_Reader_readOpened.2.2.2.2.2.2 67 = some (.invokevirtual 60, 3, 35, 0, 481, 9, 1) := rfl
set_option maxRecDepth 20000 in
theorem ja_Reader_readOpened_70 : jv_at jm_Reader_readOpened.2.2.2.2.2.2 70 = some (.goto 16, 3, 86, 0, 0, 0, 0) := rfl
set_option maxRecDepth 20000 in
theorem ja_Reader_readOpened_73 : jv_at jm_Reader_readOpened.2.2.2.2.2.2 73 = some (.aload_n 0, 1, 0, 0, 0, 0, 0) := rfl
set_option maxRecDepth 20000 in
theorem ja_Reader_readOpened_74 : jv_at jm_Reader_readOpened.2.2.2.2.2.2 74 = some (.invokevirtual 75, 3, 36, 0, 485, 7, 0) := rfl
set_option maxRecDepth 20000 in
theorem ja_Reader_readOpened_77 : jv_at jm_Reader_readOpened.2.2.2.2.2.2 77 = some (.aload_n 0, 1, 0, 0, 0, 0, 0) := rfl
set_option maxRecDepth 20000 in
theorem ja_Reader_readOpened_78 : jv_at jm_Reader_readOpened.2.2.2.2.2.2 78 = some (.getfield 19, 3, 7, 8, 299, 0, 0) := rfl
set_option maxRecDepth 20000 in
theorem ja_Reader_readOpened_81 : jv_at jm_Reader_readOpened.2.2.2.2.2.2 81 = some (.bipush (-17), 2, 0, 0, 0, 0, -17) := rfl
set_option maxRecDepth 20000 in
theorem ja_Reader_readOpened_83 : jv_at jm_Reader_readOpened.2.2.2.2.2.2 83 = some (.invokevirtual 60, 3, 35, 0, 481, 9, 1) := rfl
set_option maxRecDepth 20000 in
theorem ja_Reader_readOpened_86 : jv_at jm_Reader_readOpened.2.2.2.2.2.2 86 = some (.aload_n 0, 1, 0, 0, 0, 0, 0) := rfl
set_option maxRecDepth 20000 in
theorem ja_Reader_readOpened_87 : jv_at jm_Reader_readOpened.2.2.2.2.2.2 87 = some (.dup, 1, 0, 0, 0, 0, 0) := rfl
set_option maxRecDepth 20000 in
theorem ja_Reader_readOpened_88 : jv_at jm_Reader_readOpened.2.2.2.2.2.2 88 = some (.getfield 29, 3, 7, 6, 297, 0, 0) := rfl
set_option maxRecDepth 20000 in
theorem ja_Reader_readOpened_91 : jv_at jm_Reader_readOpened.2.2.2.2.2.2 91 = some (.iconst 1, 1, 0, 0, 0, 0, 1) := rfl
set_option maxRecDepth 20000 in
theorem ja_Reader_readOpened_92 : jv_at jm_Reader_readOpened.2.2.2.2.2.2 92 = some (.isub, 1, 0, 0, 0, 0, 0) := rfl
set_option maxRecDepth 20000 in
theorem ja_Reader_readOpened_93 : jv_at jm_Reader_readOpened.2.2.2.2.2.2 93 = some (.putfield 29, 3, 7, 6, 297, 0, 0) := rfl
set_option maxRecDepth 20000 in
theorem ja_Reader_readOpened_96 : jv_at jm_Reader_readOpened.2.2.2.2.2.2 96 = some (.return_, 1, 0, 0, 0, 0, 0) := rfl
set_option maxRecDepth 20000 in
theorem ja_Text_add_0 : jv_at jm_Text_add.2.2.2.2.2.2 0 = some (.aload_n 0, 1, 0, 0, 0, 0, 0) := rfl
set_option maxRecDepth 20000 in
theorem ja_Text_add_1 : jv_at jm_Text_add.2.2.2.2.2.2 1 = some (.getfield 18, 3, 9, 1, 272, 0, 0) := rfl
set_option maxRecDepth 20000 in
theorem ja_Text_add_4 : jv_at jm_Text_add.2.2.2.2.2.2 4 = some (.ifCond .lt 15, 3, 19, 0, 0, 0, 0) := rfl
set_option maxRecDepth 20000 in
theorem ja_Text_add_7 : jv_at jm_Text_add.2.2.2.2.2.2 7 = some (.aload_n 0, 1, 0, 0, 0, 0, 0) := rfl
set_option maxRecDepth 20000 in
theorem ja_Text_add_8 : jv_at jm_Text_add.2.2.2.2.2.2 8 = some (.getfield 18, 3, 9, 1, 272, 0, 0) := rfl
set_option maxRecDepth 20000 in
theorem ja_Text_add_11 : jv_at jm_Text_add.2.2.2.2.2.2 11 = some (.aload_n 0, 1, 0, 0, 0, 0, 0) := rfl
set_option maxRecDepth 20000 in
theorem ja_Text_add_12 : jv_at jm_Text_add.2.2.2.2.2.2 12 = some (.getfield 9, 3, 9, 0, 270, 0, 0) := rfl
set_option maxRecDepth 20000 in
theorem ja_Text_add_15 : jv_at jm_Text_add.2.2.2.2.2.2 15 = some (.arraylength, 1, 0, 0, 0, 0, 0) := rfl
set_option maxRecDepth 20000 in
theorem ja_Text_add_16 : jv_at jm_Text_add.2.2.2.2.2.2 16 = some (.if_icmp .lt 4, 3, 20, 0, 0, 0, 0) := rfl
set_option maxRecDepth 20000 in
theorem ja_Text_add_19 : jv_at jm_Text_add.2.2.2.2.2.2 19 = some (.return_, 1, 0, 0, 0, 0, 0) := rfl
set_option maxRecDepth 20000 in
theorem ja_Text_add_20 : jv_at jm_Text_add.2.2.2.2.2.2 20 = some (.aload_n 0, 1, 0, 0, 0, 0, 0) := rfl
set_option maxRecDepth 20000 in
theorem ja_Text_add_21 : jv_at jm_Text_add.2.2.2.2.2.2 21 = some (.getfield 9, 3, 9, 0, 270, 0, 0) := rfl
set_option maxRecDepth 20000 in
theorem ja_Text_add_24 : jv_at jm_Text_add.2.2.2.2.2.2 24 = some (.aload_n 0, 1, 0, 0, 0, 0, 0) := rfl
set_option maxRecDepth 20000 in
theorem ja_Text_add_25 : jv_at jm_Text_add.2.2.2.2.2.2 25 = some (.getfield 18, 3, 9, 1, 272, 0, 0) := rfl
set_option maxRecDepth 20000 in
theorem ja_Text_add_28 : jv_at jm_Text_add.2.2.2.2.2.2 28 = some (.iload_n 1, 1, 0, 0, 0, 0, 0) := rfl
set_option maxRecDepth 20000 in
theorem ja_Text_add_29 : jv_at jm_Text_add.2.2.2.2.2.2 29 = some (.iastore, 1, 0, 0, 0, 0, 0) := rfl
set_option maxRecDepth 20000 in
theorem ja_Text_add_30 : jv_at jm_Text_add.2.2.2.2.2.2 30 = some (.aload_n 0, 1, 0, 0, 0, 0, 0) := rfl
set_option maxRecDepth 20000 in
theorem ja_Text_add_31 : jv_at jm_Text_add.2.2.2.2.2.2 31 = some (.dup, 1, 0, 0, 0, 0, 0) := rfl
set_option maxRecDepth 20000 in
theorem ja_Text_add_32 : jv_at jm_Text_add.2.2.2.2.2.2 32 = some (.getfield 18, 3, 9, 1, 272, 0, 0) := rfl
set_option maxRecDepth 20000 in
theorem ja_Text_add_35 : jv_at jm_Text_add.2.2.2.2.2.2 35 = some (.iconst 1, 1, 0, 0, 0, 0, 1) := rfl
set_option maxRecDepth 20000 in
theorem ja_Text_add_36 : jv_at jm_Text_add.2.2.2.2.2.2 36 = some (.iadd, 1, 0, 0, 0, 0, 0) := rfl
set_option maxRecDepth 20000 in
theorem ja_Text_add_37 : jv_at jm_Text_add.2.2.2.2.2.2 37 = some (.putfield 18, 3, 9, 1, 272, 0, 0) := rfl
set_option maxRecDepth 20000 in
theorem ja_Text_add_40 : jv_at jm_Text_add.2.2.2.2.2.2 40 = some (.return_, 1, 0, 0, 0, 0, 0) := rfl
set_option maxRecDepth 20000 in
theorem ja_Reader_readOne_0 : jv_at jm_Reader_readOne.2.2.2.2.2.2 0 = some (.aload_n 0, 1, 0, 0, 0, 0, 0) := rfl
set_option maxRecDepth 20000 in
theorem ja_Reader_readOne_1 : jv_at jm_Reader_readOne.2.2.2.2.2.2 1 = some (.getfield 48, 3, 7, 4, 295, 0, 0) := rfl
set_option maxRecDepth 20000 in
theorem ja_Reader_readOne_4 : jv_at jm_Reader_readOne.2.2.2.2.2.2 4 = some (.bipush 40, 2, 0, 0, 0, 0, 40) := rfl
set_option maxRecDepth 20000 in
theorem ja_Reader_readOne_6 : jv_at jm_Reader_readOne.2.2.2.2.2.2 6 = some (.if_icmp .eq 12, 3, 18, 0, 0, 0, 0) := rfl
set_option maxRecDepth 20000 in
theorem ja_Reader_readOne_9 : jv_at jm_Reader_readOne.2.2.2.2.2.2 9 = some (.aload_n 0, 1, 0, 0, 0, 0, 0) := rfl
set_option maxRecDepth 20000 in
theorem ja_Reader_readOne_10 : jv_at jm_Reader_readOne.2.2.2.2.2.2 10 = some (.getfield 48, 3, 7, 4, 295, 0, 0) := rfl
set_option maxRecDepth 20000 in
theorem ja_Reader_readOne_13 : jv_at jm_Reader_readOne.2.2.2.2.2.2 13 = some (.bipush 45, 2, 0, 0, 0, 0, 45) := rfl
set_option maxRecDepth 20000 in
theorem ja_Reader_readOne_15 : jv_at jm_Reader_readOne.2.2.2.2.2.2 15 = some (.if_icmp .ne 10, 3, 25, 0, 0, 0, 0) := rfl
set_option maxRecDepth 20000 in
theorem ja_Reader_readOne_18 : jv_at jm_Reader_readOne.2.2.2.2.2.2 18 = some (.aload_n 0, 1, 0, 0, 0, 0, 0) := rfl
set_option maxRecDepth 20000 in
theorem ja_Reader_readOne_19 : jv_at jm_Reader_readOne.2.2.2.2.2.2 19 = some (.invokevirtual 66, 3, 34, 0, 477, 7, 0) := rfl
set_option maxRecDepth 20000 in
theorem ja_Reader_readOne_22 : jv_at jm_Reader_readOne.2.2.2.2.2.2 22 = some (.goto 70, 3, 92, 0, 0, 0, 0) := rfl
set_option maxRecDepth 20000 in
theorem ja_Reader_readOne_25 : jv_at jm_Reader_readOne.2.2.2.2.2.2 25 = some (.aload_n 0, 1, 0, 0, 0, 0, 0) := rfl
set_option maxRecDepth 20000 in
theorem ja_Reader_readOne_26 : jv_at jm_Reader_readOne.2.2.2.2.2.2 26 = some (.getfield 48, 3, 7, 4, 295, 0, 0) := rfl
set_option maxRecDepth 20000 in
theorem ja_Reader_readOne_29 : jv_at jm_Reader_readOne.2.2.2.2.2.2 29 = some (.bipush 15, 2, 0, 0, 0, 0, 15) := rfl
set_option maxRecDepth 20000 in
theorem ja_Reader_readOne_31 : jv_at jm_Reader_readOne.2.2.2.2.2.2 31 = some (.if_icmp .ne 21, 3, 52, 0, 0, 0, 0) := rfl
set_option maxRecDepth 20000 in
theorem ja_Reader_readOne_34 : jv_at jm_Reader_readOne.2.2.2.2.2.2 34 = some (.aload_n 0, 1, 0, 0, 0, 0, 0) := rfl
set_option maxRecDepth 20000 in
theorem ja_Reader_readOne_35 : jv_at jm_Reader_readOne.2.2.2.2.2.2 35 = some (.getfield 19, 3, 7, 8, 299, 0, 0) := rfl
set_option maxRecDepth 20000 in
theorem ja_Reader_readOne_38 : jv_at jm_Reader_readOne.2.2.2.2.2.2 38 = some (.aload_n 0, 1, 0, 0, 0, 0, 0) := rfl
set_option maxRecDepth 20000 in
theorem ja_Reader_readOne_39 : jv_at jm_Reader_readOne.2.2.2.2.2.2 39 = some (.getfield 78, 3, 7, 5, 296, 0, 0) := rfl
set_option maxRecDepth 20000 in
theorem ja_Reader_readOne_42 : jv_at jm_Reader_readOne.2.2.2.2.2.2 42 = some (.invokevirtual 60, 3, 35, 0, 481, 9, 1) := rfl
set_option maxRecDepth 20000 in
theorem ja_Reader_readOne_45 : jv_at jm_Reader_readOne.2.2.2.2.2.2 45 = some (.aload_n 0, 1, 0, 0, 0, 0, 0) := rfl
set_option maxRecDepth 20000 in
theorem ja_Reader_readOne_46 : jv_at jm_Reader_readOne.2.2.2.2.2.2 46 = some (.invokevirtual 35, 3, 21, 0, 422, 7, 0) := rfl
set_option maxRecDepth 20000 in
theorem ja_Reader_readOne_49 : jv_at jm_Reader_readOne.2.2.2.2.2.2 49 = some (.goto 43, 3, 92, 0, 0, 0, 0) := rfl
set_option maxRecDepth 20000 in
theorem ja_Reader_readOne_52 : jv_at jm_Reader_readOne.2.2.2.2.2.2 52 = some (.aload_n 0, 1, 0, 0, 0, 0, 0) := rfl
set_option maxRecDepth 20000 in
theorem ja_Reader_readOne_53 : jv_at jm_Reader_readOne.2.2.2.2.2.2 53 = some (.getfield 48, 3, 7, 4, 295, 0, 0) := rfl
set_option maxRecDepth 20000 in
theorem ja_Reader_readOne_56 : jv_at jm_Reader_readOne.2.2.2.2.2.2 56 = some (.ifCond .lt 32, 3, 88, 0, 0, 0, 0) := rfl
set_option maxRecDepth 20000 in
theorem ja_Reader_readOne_59 : jv_at jm_Reader_readOne.2.2.2.2.2.2 59 = some (.aload_n 0, 1, 0, 0, 0, 0, 0) := rfl
set_option maxRecDepth 20000 in
theorem ja_Reader_readOne_60 : jv_at jm_Reader_readOne.2.2.2.2.2.2 60 = some (.getfield 48, 3, 7, 4, 295, 0, 0) := rfl
set_option maxRecDepth 20000 in
theorem ja_Reader_readOne_63 : jv_at jm_Reader_readOne.2.2.2.2.2.2 63 = some (.bipush 8, 2, 0, 0, 0, 0, 8) := rfl
set_option maxRecDepth 20000 in
theorem ja_Reader_readOne_65 : jv_at jm_Reader_readOne.2.2.2.2.2.2 65 = some (.if_icmp .ge 23, 3, 88, 0, 0, 0, 0) := rfl
set_option maxRecDepth 20000 in
theorem ja_Reader_readOne_68 : jv_at jm_Reader_readOne.2.2.2.2.2.2 68 = some (.aload_n 0, 1, 0, 0, 0, 0, 0) := rfl
set_option maxRecDepth 20000 in
theorem ja_Reader_readOne_69 : jv_at jm_Reader_readOne.2.2.2.2.2.2 69 = some (.getfield 19, 3, 7, 8, 299, 0, 0) := rfl
set_option maxRecDepth 20000 in
theorem ja_Reader_readOne_72 : jv_at jm_Reader_readOne.2.2.2.2.2.2 72 = some (.iconst (-1), 1, 0, 0, 0, 0, -1) := rfl
set_option maxRecDepth 20000 in
theorem ja_Reader_readOne_73 : jv_at jm_Reader_readOne.2.2.2.2.2.2 73 = some (.aload_n 0, 1, 0, 0, 0, 0, 0) := rfl
set_option maxRecDepth 20000 in
theorem ja_Reader_readOne_74 : jv_at jm_Reader_readOne.2.2.2.2.2.2 74 = some (.getfield 48, 3, 7, 4, 295, 0, 0) := rfl
set_option maxRecDepth 20000 in
theorem ja_Reader_readOne_77 : jv_at jm_Reader_readOne.2.2.2.2.2.2 77 = some (.isub, 1, 0, 0, 0, 0, 0) := rfl
set_option maxRecDepth 20000 in
theorem ja_Reader_readOne_78 : jv_at jm_Reader_readOne.2.2.2.2.2.2 78 = some (.invokevirtual 60, 3, 35, 0, 481, 9, 1) := rfl
set_option maxRecDepth 20000 in
theorem ja_Reader_readOne_81 : jv_at jm_Reader_readOne.2.2.2.2.2.2 81 = some (.aload_n 0, 1, 0, 0, 0, 0, 0) := rfl
set_option maxRecDepth 20000 in
theorem ja_Reader_readOne_82 : jv_at jm_Reader_readOne.2.2.2.2.2.2 82 = some (.invokevirtual 35, 3, 21, 0, 422, 7, 0) := rfl
set_option maxRecDepth 20000 in
theorem ja_Reader_readOne_85 : jv_at jm_Reader_readOne.2.2.2.2.2.2 85 = some (.goto 7, 3, 92, 0, 0, 0, 0) := rfl
set_option maxRecDepth 20000 in
theorem ja_Reader_readOne_88 : jv_at jm_Reader_readOne.2.2.2.2.2.2 88 = some (.aload_n 0, 1, 0, 0, 0, 0, 0) := rfl
set_option maxRecDepth 20000 in
theorem ja_Reader_readOne_89 : jv_at jm_Reader_readOne.2.2.2.2.2.2 89 = some (.invokevirtual 51, 3, 26, 0, 445, 7, 0) := rfl
set_option maxRecDepth 20000 in
theorem ja_Reader_readOne_92 : jv_at jm_Reader_readOne.2.2.2.2.2.2 92 = some (.return_, 1, 0, 0, 0, 0, 0) := rfl
set_option maxRecDepth 20000 in
theorem ja_Reader_readSum_0 : jv_at jm_Reader_readSum.2.2.2.2.2.2 0 = some (.aload_n 0, 1, 0, 0, 0, 0, 0) := rfl
set_option maxRecDepth 20000 in
theorem ja_Reader_readSum_1 : jv_at jm_Reader_readSum.2.2.2.2.2.2 1 = some (.invokevirtual 72, 3, 38, 0, 493, 7, 0) := rfl
set_option maxRecDepth 20000 in
theorem ja_Reader_readSum_4 : jv_at jm_Reader_readSum.2.2.2.2.2.2 4 = some (.iconst 0, 1, 0, 0, 0, 0, 0) := rfl
set_option maxRecDepth 20000 in
theorem ja_Reader_readSum_5 : jv_at jm_Reader_readSum.2.2.2.2.2.2 5 = some (.istore_n 1, 1, 0, 0, 0, 0, 0) := rfl
set_option maxRecDepth 20000 in
theorem ja_Reader_readSum_6 : jv_at jm_Reader_readSum.2.2.2.2.2.2 6 = some (.iload_n 1, 1, 0, 0, 0, 0, 0) := rfl
set_option maxRecDepth 20000 in
theorem ja_Reader_readSum_7 : jv_at jm_Reader_readSum.2.2.2.2.2.2 7 = some (.sipush 200, 3, 0, 0, 0, 0, 200) := rfl
set_option maxRecDepth 20000 in
theorem ja_Reader_readSum_10 : jv_at jm_Reader_readSum.2.2.2.2.2.2 10 = some (.if_icmp .ge 60, 3, 70, 0, 0, 0, 0) := rfl
set_option maxRecDepth 20000 in
theorem ja_Reader_readSum_13 : jv_at jm_Reader_readSum.2.2.2.2.2.2 13 = some (.aload_n 0, 1, 0, 0, 0, 0, 0) := rfl
set_option maxRecDepth 20000 in
theorem ja_Reader_readSum_14 : jv_at jm_Reader_readSum.2.2.2.2.2.2 14 = some (.getfield 48, 3, 7, 4, 295, 0, 0) := rfl
set_option maxRecDepth 20000 in
theorem ja_Reader_readSum_17 : jv_at jm_Reader_readSum.2.2.2.2.2.2 17 = some (.bipush 43, 2, 0, 0, 0, 0, 43) := rfl
set_option maxRecDepth 20000 in
theorem ja_Reader_readSum_19 : jv_at jm_Reader_readSum.2.2.2.2.2.2 19 = some (.if_icmp .eq 12, 3, 31, 0, 0, 0, 0) := rfl
set_option maxRecDepth 20000 in
theorem ja_Reader_readSum_22 : jv_at jm_Reader_readSum.2.2.2.2.2.2 22 = some (.aload_n 0, 1, 0, 0, 0, 0, 0) := rfl
set_option maxRecDepth 20000 in
theorem ja_Reader_readSum_23 : jv_at jm_Reader_readSum.2.2.2.2.2.2 23 = some (.getfield 48, 3, 7, 4, 295, 0, 0) := rfl
set_option maxRecDepth 20000 in
theorem ja_Reader_readSum_26 : jv_at jm_Reader_readSum.2.2.2.2.2.2 26 = some (.bipush 45, 2, 0, 0, 0, 0, 45) := rfl
set_option maxRecDepth 20000 in
theorem ja_Reader_readSum_28 : jv_at jm_Reader_readSum.2.2.2.2.2.2 28 = some (.if_icmp .ne 42, 3, 70, 0, 0, 0, 0) := rfl
set_option maxRecDepth 20000 in
theorem ja_Reader_readSum_31 : jv_at jm_Reader_readSum.2.2.2.2.2.2 31 = some (.aload_n 0, 1, 0, 0, 0, 0, 0) := rfl
set_option maxRecDepth 20000 in
theorem ja_Reader_readSum_32 : jv_at jm_Reader_readSum.2.2.2.2.2.2 32 = some (.getfield 48, 3, 7, 4, 295, 0, 0) := rfl
set_option maxRecDepth 20000 in
theorem ja_Reader_readSum_35 : jv_at jm_Reader_readSum.2.2.2.2.2.2 35 = some (.bipush 43, 2, 0, 0, 0, 0, 43) := rfl
set_option maxRecDepth 20000 in
theorem ja_Reader_readSum_37 : jv_at jm_Reader_readSum.2.2.2.2.2.2 37 = some (.if_icmp .ne 8, 3, 45, 0, 0, 0, 0) := rfl
set_option maxRecDepth 20000 in
theorem ja_Reader_readSum_40 : jv_at jm_Reader_readSum.2.2.2.2.2.2 40 = some (.bipush (-14), 2, 0, 0, 0, 0, -14) := rfl
set_option maxRecDepth 20000 in
theorem ja_Reader_readSum_42 : jv_at jm_Reader_readSum.2.2.2.2.2.2 42 = some (.goto 5, 3, 47, 0, 0, 0, 0) := rfl
set_option maxRecDepth 20000 in
theorem ja_Reader_readSum_45 : jv_at jm_Reader_readSum.2.2.2.2.2.2 45 = some (.bipush (-15), 2, 0, 0, 0, 0, -15) := rfl
set_option maxRecDepth 20000 in
theorem ja_Reader_readSum_47 : jv_at jm_Reader_readSum.2.2.2.2.2.2 47 = some (.istore_n 2, 1, 0, 0, 0, 0, 0) := rfl
set_option maxRecDepth 20000 in
theorem ja_Reader_readSum_48 : jv_at jm_Reader_readSum.2.2.2.2.2.2 48 = some (.aload_n 0, 1, 0, 0, 0, 0, 0) := rfl
set_option maxRecDepth 20000 in
theorem ja_Reader_readSum_49 : jv_at jm_Reader_readSum.2.2.2.2.2.2 49 = some (.invokevirtual 35, 3, 21, 0, 422, 7, 0) := rfl
set_option maxRecDepth 20000 in
theorem ja_Reader_readSum_52 : jv_at jm_Reader_readSum.2.2.2.2.2.2 52 = some (.aload_n 0, 1, 0, 0, 0, 0, 0) := rfl
set_option maxRecDepth 20000 in
theorem ja_Reader_readSum_53 : jv_at jm_Reader_readSum.2.2.2.2.2.2 53 = some (.invokevirtual 72, 3, 38, 0, 493, 7, 0) := rfl
set_option maxRecDepth 20000 in
theorem ja_Reader_readSum_56 : jv_at jm_Reader_readSum.2.2.2.2.2.2 56 = some (.aload_n 0, 1, 0, 0, 0, 0, 0) := rfl
set_option maxRecDepth 20000 in
theorem ja_Reader_readSum_57 : jv_at jm_Reader_readSum.2.2.2.2.2.2 57 = some (.getfield 19, 3, 7, 8, 299, 0, 0) := rfl
set_option maxRecDepth 20000 in
theorem ja_Reader_readSum_60 : jv_at jm_Reader_readSum.2.2.2.2.2.2 60 = some (.iload_n 2, 1, 0, 0, 0, 0, 0) := rfl
set_option maxRecDepth 20000 in
theorem ja_Reader_readSum_61 : jv_at jm_Reader_readSum.2.2.2.2.2.2 61 = some (.invokevirtual 60, 3, 35, 0, 481, 9, 1) := rfl
set_option maxRecDepth 20000 in
theorem ja_Reader_readSum_64 : jv_at jm_Reader_readSum.2.2.2.2.2.2 64 = some (.iinc 1 1, 3, 0, 0, 0, 0, 0) := rfl
set_option maxRecDepth 20000 in
theorem ja_Reader_readSum_67 : jv_at jm_Reader_readSum.2.2.2.2.2.2 67 = some (.goto (-61), 3, 6, 0, 0, 0, 0) := rfl
set_option maxRecDepth 20000 in
theorem ja_Reader_readSum_70 : jv_at jm_Reader_readSum.2.2.2.2.2.2 70 = some (.return_, 1, 0, 0, 0, 0, 0) := rfl
set_option maxRecDepth 20000 in
theorem ja_Reader_readTerm_0 : jv_at jm_Reader_readTerm.2.2.2.2.2.2 0 = some (.aload_n 0, 1, 0, 0, 0, 0, 0) := rfl
set_option maxRecDepth 20000 in
theorem ja_Reader_readTerm_1 : jv_at jm_Reader_readTerm.2.2.2.2.2.2 1 = some (.invokevirtual 75, 3, 36, 0, 485, 7, 0) := rfl
set_option maxRecDepth 20000 in
theorem ja_Reader_readTerm_4 : jv_at jm_Reader_readTerm.2.2.2.2.2.2 4 = some (.iconst 0, 1, 0, 0, 0, 0, 0) := rfl
set_option maxRecDepth 20000 in
theorem ja_Reader_readTerm_5 : jv_at jm_Reader_readTerm.2.2.2.2.2.2 5 = some (.istore_n 1, 1, 0, 0, 0, 0, 0) := rfl
set_option maxRecDepth 20000 in
theorem ja_Reader_readTerm_6 : jv_at jm_Reader_readTerm.2.2.2.2.2.2 6 = some (.iload_n 1, 1, 0, 0, 0, 0, 0) := rfl
set_option maxRecDepth 20000 in
theorem ja_Reader_readTerm_7 : jv_at jm_Reader_readTerm.2.2.2.2.2.2 7 = some (.sipush 200, 3, 0, 0, 0, 0, 200) := rfl
set_option maxRecDepth 20000 in
theorem ja_Reader_readTerm_10 : jv_at jm_Reader_readTerm.2.2.2.2.2.2 10 = some (.if_icmp .ge 35, 3, 45, 0, 0, 0, 0) := rfl
set_option maxRecDepth 20000 in
theorem ja_Reader_readTerm_13 : jv_at jm_Reader_readTerm.2.2.2.2.2.2 13 = some (.aload_n 0, 1, 0, 0, 0, 0, 0) := rfl
set_option maxRecDepth 20000 in
theorem ja_Reader_readTerm_14 : jv_at jm_Reader_readTerm.2.2.2.2.2.2 14 = some (.getfield 48, 3, 7, 4, 295, 0, 0) := rfl
set_option maxRecDepth 20000 in
theorem ja_Reader_readTerm_17 : jv_at jm_Reader_readTerm.2.2.2.2.2.2 17 = some (.bipush 42, 2, 0, 0, 0, 0, 42) := rfl
set_option maxRecDepth 20000 in
theorem ja_Reader_readTerm_19 : jv_at jm_Reader_readTerm.2.2.2.2.2.2 19 = some (.if_icmp .ne 26, 3, 45, 0, 0, 0, 0) := rfl
set_option maxRecDepth 20000 in
theorem ja_Reader_readTerm_22 : jv_at jm_Reader_readTerm.2.2.2.2.2.2 22 = some (.aload_n 0, 1, 0, 0, 0, 0, 0) := rfl
set_option maxRecDepth 20000 in
theorem ja_Reader_readTerm_23 : jv_at jm_Reader_readTerm.2.2.2.2.2.2 23 = some (.invokevirtual 35, 3, 21, 0, 422, 7, 0) := rfl
set_option maxRecDepth 20000 in
theorem ja_Reader_readTerm_26 : jv_at jm_Reader_readTerm.2.2.2.2.2.2 26 = some (.aload_n 0, 1, 0, 0, 0, 0, 0) := rfl
set_option maxRecDepth 20000 in
theorem ja_Reader_readTerm_27 : jv_at jm_Reader_readTerm.2.2.2.2.2.2 27 = some (.invokevirtual 75, 3, 36, 0, 485, 7, 0) := rfl
set_option maxRecDepth 20000 in
theorem ja_Reader_readTerm_30 : jv_at jm_Reader_readTerm.2.2.2.2.2.2 30 = some (.aload_n 0, 1, 0, 0, 0, 0, 0) := rfl
set_option maxRecDepth 20000 in
theorem ja_Reader_readTerm_31 : jv_at jm_Reader_readTerm.2.2.2.2.2.2 31 = some (.getfield 19, 3, 7, 8, 299, 0, 0) := rfl
set_option maxRecDepth 20000 in
theorem ja_Reader_readTerm_34 : jv_at jm_Reader_readTerm.2.2.2.2.2.2 34 = some (.bipush (-16), 2, 0, 0, 0, 0, -16) := rfl
set_option maxRecDepth 20000 in
theorem ja_Reader_readTerm_36 : jv_at jm_Reader_readTerm.2.2.2.2.2.2 36 = some (.invokevirtual 60, 3, 35, 0, 481, 9, 1) := rfl
set_option maxRecDepth 20000 in
theorem ja_Reader_readTerm_39 : jv_at jm_Reader_readTerm.2.2.2.2.2.2 39 = some (.iinc 1 1, 3, 0, 0, 0, 0, 0) := rfl
set_option maxRecDepth 20000 in
theorem ja_Reader_readTerm_42 : jv_at jm_Reader_readTerm.2.2.2.2.2.2 42 = some (.goto (-36), 3, 6, 0, 0, 0, 0) := rfl
set_option maxRecDepth 20000 in
theorem ja_Reader_readTerm_45 : jv_at jm_Reader_readTerm.2.2.2.2.2.2 45 = some (.return_, 1, 0, 0, 0, 0, 0) := rfl
set_option maxRecDepth 20000 in
theorem ja_Member_setLiking_0 : jv_at jm_Member_setLiking.2.2.2.2.2.2 0 = some (.aload_n 0, 1, 0, 0, 0, 0, 0) := rfl
set_option maxRecDepth 20000 in
theorem ja_Member_setLiking_1 : jv_at jm_Member_setLiking.2.2.2.2.2.2 1 = some (.iload_n 1, 1, 0, 0, 0, 0, 0) := rfl
set_option maxRecDepth 20000 in
theorem ja_Member_setLiking_2 : jv_at jm_Member_setLiking.2.2.2.2.2.2 2 = some (.invokevirtual 26, 3, 44, 0, 578, 5, 1) := rfl
set_option maxRecDepth 20000 in
theorem ja_Member_setLiking_5 : jv_at jm_Member_setLiking.2.2.2.2.2.2 5 = some (.istore_n 3, 1, 0, 0, 0, 0, 0) := rfl
set_option maxRecDepth 20000 in
theorem ja_Member_setLiking_6 : jv_at jm_Member_setLiking.2.2.2.2.2.2 6 = some (.iload_n 1, 1, 0, 0, 0, 0, 0) := rfl
set_option maxRecDepth 20000 in
theorem ja_Member_setLiking_7 : jv_at jm_Member_setLiking.2.2.2.2.2.2 7 = some (.ifCond .lt 19, 3, 26, 0, 0, 0, 0) := rfl
set_option maxRecDepth 20000 in
theorem ja_Member_setLiking_10 : jv_at jm_Member_setLiking.2.2.2.2.2.2 10 = some (.iload_n 1, 1, 0, 0, 0, 0, 0) := rfl
set_option maxRecDepth 20000 in
theorem ja_Member_setLiking_11 : jv_at jm_Member_setLiking.2.2.2.2.2.2 11 = some (.aload_n 0, 1, 0, 0, 0, 0, 0) := rfl
set_option maxRecDepth 20000 in
theorem ja_Member_setLiking_12 : jv_at jm_Member_setLiking.2.2.2.2.2.2 12 = some (.getfield 22, 3, 5, 4, 124, 0, 0) := rfl
set_option maxRecDepth 20000 in
theorem ja_Member_setLiking_15 : jv_at jm_Member_setLiking.2.2.2.2.2.2 15 = some (.arraylength, 1, 0, 0, 0, 0, 0) := rfl
set_option maxRecDepth 20000 in
theorem ja_Member_setLiking_16 : jv_at jm_Member_setLiking.2.2.2.2.2.2 16 = some (.if_icmp .ge 10, 3, 26, 0, 0, 0, 0) := rfl
set_option maxRecDepth 20000 in
theorem ja_Member_setLiking_19 : jv_at jm_Member_setLiking.2.2.2.2.2.2 19 = some (.aload_n 0, 1, 0, 0, 0, 0, 0) := rfl
set_option maxRecDepth 20000 in
theorem ja_Member_setLiking_20 : jv_at jm_Member_setLiking.2.2.2.2.2.2 20 = some (.getfield 22, 3, 5, 4, 124, 0, 0) := rfl
set_option maxRecDepth 20000 in
theorem ja_Member_setLiking_23 : jv_at jm_Member_setLiking.2.2.2.2.2.2 23 = some (.iload_n 1, 1, 0, 0, 0, 0, 0) := rfl
set_option maxRecDepth 20000 in
theorem ja_Member_setLiking_24 : jv_at jm_Member_setLiking.2.2.2.2.2.2 24 = some (.iload_n 2, 1, 0, 0, 0, 0, 0) := rfl
set_option maxRecDepth 20000 in
theorem ja_Member_setLiking_25 : jv_at jm_Member_setLiking.2.2.2.2.2.2 25 = some (.iastore, 1, 0, 0, 0, 0, 0) := rfl
set_option maxRecDepth 20000 in
theorem ja_Member_setLiking_26 : jv_at jm_Member_setLiking.2.2.2.2.2.2 26 = some (.iload_n 3, 1, 0, 0, 0, 0, 0) := rfl
set_option maxRecDepth 20000 in
theorem ja_Member_setLiking_27 : jv_at jm_Member_setLiking.2.2.2.2.2.2 27 = some (.ireturn, 1, 0, 0, 0, 0, 0) := rfl
set_option maxRecDepth 20000 in
theorem ja_Member_liking_0 : jv_at jm_Member_liking.2.2.2.2.2.2 0 = some (.iload_n 1, 1, 0, 0, 0, 0, 0) := rfl
set_option maxRecDepth 20000 in
theorem ja_Member_liking_1 : jv_at jm_Member_liking.2.2.2.2.2.2 1 = some (.ifCond .lt 21, 3, 22, 0, 0, 0, 0) := rfl
set_option maxRecDepth 20000 in
theorem ja_Member_liking_4 : jv_at jm_Member_liking.2.2.2.2.2.2 4 = some (.iload_n 1, 1, 0, 0, 0, 0, 0) := rfl
set_option maxRecDepth 20000 in
theorem ja_Member_liking_5 : jv_at jm_Member_liking.2.2.2.2.2.2 5 = some (.aload_n 0, 1, 0, 0, 0, 0, 0) := rfl
set_option maxRecDepth 20000 in
theorem ja_Member_liking_6 : jv_at jm_Member_liking.2.2.2.2.2.2 6 = some (.getfield 22, 3, 5, 4, 124, 0, 0) := rfl
set_option maxRecDepth 20000 in
theorem ja_Member_liking_9 : jv_at jm_Member_liking.2.2.2.2.2.2 9 = some (.arraylength, 1, 0, 0, 0, 0, 0) := rfl
set_option maxRecDepth 20000 in
theorem ja_Member_liking_10 : jv_at jm_Member_liking.2.2.2.2.2.2 10 = some (.if_icmp .ge 12, 3, 22, 0, 0, 0, 0) := rfl
set_option maxRecDepth 20000 in
theorem ja_Member_liking_13 : jv_at jm_Member_liking.2.2.2.2.2.2 13 = some (.aload_n 0, 1, 0, 0, 0, 0, 0) := rfl
set_option maxRecDepth 20000 in
theorem ja_Member_liking_14 : jv_at jm_Member_liking.2.2.2.2.2.2 14 = some (.getfield 22, 3, 5, 4, 124, 0, 0) := rfl
set_option maxRecDepth 20000 in
theorem ja_Member_liking_17 : jv_at jm_Member_liking.2.2.2.2.2.2 17 = some (.iload_n 1, 1, 0, 0, 0, 0, 0) := rfl
set_option maxRecDepth 20000 in
theorem ja_Member_liking_18 : jv_at jm_Member_liking.2.2.2.2.2.2 18 = some (.iaload, 1, 0, 0, 0, 0, 0) := rfl
set_option maxRecDepth 20000 in
theorem ja_Member_liking_19 : jv_at jm_Member_liking.2.2.2.2.2.2 19 = some (.goto 4, 3, 23, 0, 0, 0, 0) := rfl
set_option maxRecDepth 20000 in
theorem ja_Member_liking_22 : jv_at jm_Member_liking.2.2.2.2.2.2 22 = some (.iconst 0, 1, 0, 0, 0, 0, 0) := rfl
set_option maxRecDepth 20000 in
theorem ja_Member_liking_23 : jv_at jm_Member_liking.2.2.2.2.2.2 23 = some (.ireturn, 1, 0, 0, 0, 0, 0) := rfl
set_option maxRecDepth 20000 in
theorem ja_Sections_isFull_0 : jv_at jm_Sections_isFull.2.2.2.2.2.2 0 = some (.aload_n 0, 1, 0, 0, 0, 0, 0) := rfl
set_option maxRecDepth 20000 in
theorem ja_Sections_isFull_1 : jv_at jm_Sections_isFull.2.2.2.2.2.2 1 = some (.getfield 15, 3, 8, 0, 150, 0, 0) := rfl
set_option maxRecDepth 20000 in
theorem ja_Sections_isFull_4 : jv_at jm_Sections_isFull.2.2.2.2.2.2 4 = some (.aload_n 0, 1, 0, 0, 0, 0, 0) := rfl
set_option maxRecDepth 20000 in
theorem ja_Sections_isFull_5 : jv_at jm_Sections_isFull.2.2.2.2.2.2 5 = some (.getfield 9, 3, 8, 1, 153, 0, 0) := rfl
set_option maxRecDepth 20000 in
theorem ja_Sections_isFull_8 : jv_at jm_Sections_isFull.2.2.2.2.2.2 8 = some (.arraylength, 1, 0, 0, 0, 0, 0) := rfl
set_option maxRecDepth 20000 in
theorem ja_Sections_isFull_9 : jv_at jm_Sections_isFull.2.2.2.2.2.2 9 = some (.if_icmp .lt 7, 3, 16, 0, 0, 0, 0) := rfl
set_option maxRecDepth 20000 in
theorem ja_Sections_isFull_12 : jv_at jm_Sections_isFull.2.2.2.2.2.2 12 = some (.iconst 1, 1, 0, 0, 0, 0, 1) := rfl
set_option maxRecDepth 20000 in
theorem ja_Sections_isFull_13 : jv_at jm_Sections_isFull.2.2.2.2.2.2 13 = some (.goto 4, 3, 17, 0, 0, 0, 0) := rfl
set_option maxRecDepth 20000 in
theorem ja_Sections_isFull_16 : jv_at jm_Sections_isFull.2.2.2.2.2.2 16 = some (.iconst 0, 1, 0, 0, 0, 0, 0) := rfl
set_option maxRecDepth 20000 in
theorem ja_Sections_isFull_17 : jv_at jm_Sections_isFull.2.2.2.2.2.2 17 = some (.ireturn, 1, 0, 0, 0, 0, 0) := rfl
set_option maxRecDepth 20000 in
theorem ja_Sections_change_0 : jv_at jm_Sections_change.2.2.2.2.2.2 0 = some (.aload_n 0, 1, 0, 0, 0, 0, 0) := rfl
set_option maxRecDepth 20000 in
theorem ja_Sections_change_1 : jv_at jm_Sections_change.2.2.2.2.2.2 1 = some (.iload_n 1, 1, 0, 0, 0, 0, 0) := rfl
set_option maxRecDepth 20000 in
theorem ja_Sections_change_2 : jv_at jm_Sections_change.2.2.2.2.2.2 2 = some (.iload_n 2, 1, 0, 0, 0, 0, 0) := rfl
set_option maxRecDepth 20000 in
theorem ja_Sections_change_3 : jv_at jm_Sections_change.2.2.2.2.2.2 3 = some (.invokevirtual 25, 3, 55, 0, 622, 8, 2) := rfl
set_option maxRecDepth 20000 in
theorem ja_Sections_change_6 : jv_at jm_Sections_change.2.2.2.2.2.2 6 = some (.ifCond .ne 5, 3, 11, 0, 0, 0, 0) := rfl
set_option maxRecDepth 20000 in
theorem ja_Sections_change_9 : jv_at jm_Sections_change.2.2.2.2.2.2 9 = some (.iconst 0, 1, 0, 0, 0, 0, 0) := rfl
set_option maxRecDepth 20000 in
theorem ja_Sections_change_10 : jv_at jm_Sections_change.2.2.2.2.2.2 10 = some (.ireturn, 1, 0, 0, 0, 0, 0) := rfl
set_option maxRecDepth 20000 in
theorem ja_Sections_change_11 : jv_at jm_Sections_change.2.2.2.2.2.2 11 = some (.iload_n 1, 1, 0, 0, 0, 0, 0) := rfl
set_option maxRecDepth 20000 in
theorem ja_Sections_change_12 : jv_at jm_Sections_change.2.2.2.2.2.2 12 = some (.iconst 2, 1, 0, 0, 0, 0, 2) := rfl
set_option maxRecDepth 20000 in
theorem ja_Sections_change_13 : jv_at jm_Sections_change.2.2.2.2.2.2 13 = some (.if_icmp .ne 12, 3, 25, 0, 0, 0, 0) := rfl
set_option maxRecDepth 20000 in
theorem ja_Sections_change_16 : jv_at jm_Sections_change.2.2.2.2.2.2 16 = some (.aload_n 0, 1, 0, 0, 0, 0, 0) := rfl
set_option maxRecDepth 20000 in
theorem ja_Sections_change_17 : jv_at jm_Sections_change.2.2.2.2.2.2 17 = some (.iload_n 2, 1, 0, 0, 0, 0, 0) := rfl
set_option maxRecDepth 20000 in
theorem ja_Sections_change_18 : jv_at jm_Sections_change.2.2.2.2.2.2 18 = some (.iload_n 3, 1, 0, 0, 0, 0, 0) := rfl
set_option maxRecDepth 20000 in
theorem ja_Sections_change_19 : jv_at jm_Sections_change.2.2.2.2.2.2 19 = some (.invokevirtual 32, 3, 56, 0, 626, 8, 2) := rfl
set_option maxRecDepth 20000 in
theorem ja_Sections_change_22 : jv_at jm_Sections_change.2.2.2.2.2.2 22 = some (.goto 32, 3, 54, 0, 0, 0, 0) := rfl
set_option maxRecDepth 20000 in
theorem ja_Sections_change_25 : jv_at jm_Sections_change.2.2.2.2.2.2 25 = some (.iload_n 1, 1, 0, 0, 0, 0, 0) := rfl
set_option maxRecDepth 20000 in
theorem ja_Sections_change_26 : jv_at jm_Sections_change.2.2.2.2.2.2 26 = some (.iconst 1, 1, 0, 0, 0, 0, 1) := rfl
set_option maxRecDepth 20000 in
theorem ja_Sections_change_27 : jv_at jm_Sections_change.2.2.2.2.2.2 27 = some (.if_icmp .ne 11, 3, 38, 0, 0, 0, 0) := rfl
set_option maxRecDepth 20000 in
theorem ja_Sections_change_30 : jv_at jm_Sections_change.2.2.2.2.2.2 30 = some (.aload_n 0, 1, 0, 0, 0, 0, 0) := rfl
set_option maxRecDepth 20000 in
theorem ja_Sections_change_31 : jv_at jm_Sections_change.2.2.2.2.2.2 31 = some (.iload_n 2, 1, 0, 0, 0, 0, 0) := rfl
set_option maxRecDepth 20000 in
theorem ja_Sections_change_32 : jv_at jm_Sections_change.2.2.2.2.2.2 32 = some (.invokevirtual 36, 3, 57, 0, 630, 8, 1) := rfl
set_option maxRecDepth 20000 in
theorem ja_Sections_change_35 : jv_at jm_Sections_change.2.2.2.2.2.2 35 = some (.goto 19, 3, 54, 0, 0, 0, 0) := rfl
set_option maxRecDepth 20000 in
theorem ja_Sections_change_38 : jv_at jm_Sections_change.2.2.2.2.2.2 38 = some (.iload_n 2, 1, 0, 0, 0, 0, 0) := rfl
set_option maxRecDepth 20000 in
theorem ja_Sections_change_39 : jv_at jm_Sections_change.2.2.2.2.2.2 39 = some (.aload_n 0, 1, 0, 0, 0, 0, 0) := rfl
set_option maxRecDepth 20000 in
theorem ja_Sections_change_40 : jv_at jm_Sections_change.2.2.2.2.2.2 40 = some (.getfield 9, 3, 8, 1, 153, 0, 0) := rfl
set_option maxRecDepth 20000 in
theorem ja_Sections_change_43 : jv_at jm_Sections_change.2.2.2.2.2.2 43 = some (.arraylength, 1, 0, 0, 0, 0, 0) := rfl
set_option maxRecDepth 20000 in
theorem ja_Sections_change_44 : jv_at jm_Sections_change.2.2.2.2.2.2 44 = some (.if_icmp .ge 10, 3, 54, 0, 0, 0, 0) := rfl
set_option maxRecDepth 20000 in
theorem ja_Sections_change_47 : jv_at jm_Sections_change.2.2.2.2.2.2 47 = some (.aload_n 0, 1, 0, 0, 0, 0, 0) := rfl
set_option maxRecDepth 20000 in
theorem ja_Sections_change_48 : jv_at jm_Sections_change.2.2.2.2.2.2 48 = some (.getfield 9, 3, 8, 1, 153, 0, 0) := rfl
set_option maxRecDepth 20000 in
theorem ja_Sections_change_51 : jv_at jm_Sections_change.2.2.2.2.2.2 51 = some (.iload_n 2, 1, 0, 0, 0, 0, 0) := rfl
set_option maxRecDepth 20000 in
theorem ja_Sections_change_52 : jv_at jm_Sections_change.2.2.2.2.2.2 52 = some (.iload_n 3, 1, 0, 0, 0, 0, 0) := rfl
set_option maxRecDepth 20000 in
theorem ja_Sections_change_53 : jv_at jm_Sections_change.2.2.2.2.2.2 53 = some (.iastore, 1, 0, 0, 0, 0, 0) := rfl
set_option maxRecDepth 20000 in
theorem ja_Sections_change_54 : jv_at jm_Sections_change.2.2.2.2.2.2 54 = some (.iconst 1, 1, 0, 0, 0, 0, 1) := rfl
set_option maxRecDepth 20000 in
theorem ja_Sections_change_55 : jv_at jm_Sections_change.2.2.2.2.2.2 55 = some (.ireturn, 1, 0, 0, 0, 0, 0) := rfl
set_option maxRecDepth 20000 in
theorem ja_Sections_canChange_0 : jv_at jm_Sections_canChange.2.2.2.2.2.2 0 = some (.iload_n 2, 1, 0, 0, 0, 0, 0) := rfl
set_option maxRecDepth 20000 in
theorem ja_Sections_canChange_1 : jv_at jm_Sections_canChange.2.2.2.2.2.2 1 = some (.ifCond .lt 43, 3, 44, 0, 0, 0, 0) := rfl
set_option maxRecDepth 20000 in
theorem ja_Sections_canChange_4 : jv_at jm_Sections_canChange.2.2.2.2.2.2 4 = some (.iload_n 1, 1, 0, 0, 0, 0, 0) := rfl
set_option maxRecDepth 20000 in
theorem ja_Sections_canChange_5 : jv_at jm_Sections_canChange.2.2.2.2.2.2 5 = some (.iconst 2, 1, 0, 0, 0, 0, 2) := rfl
set_option maxRecDepth 20000 in
theorem ja_Sections_canChange_6 : jv_at jm_Sections_canChange.2.2.2.2.2.2 6 = some (.if_icmp .ne 26, 3, 32, 0, 0, 0, 0) := rfl
set_option maxRecDepth 20000 in
theorem ja_Sections_canChange_9 : jv_at jm_Sections_canChange.2.2.2.2.2.2 9 = some (.iload_n 2, 1, 0, 0, 0, 0, 0) := rfl
set_option maxRecDepth 20000 in
theorem ja_Sections_canChange_10 : jv_at jm_Sections_canChange.2.2.2.2.2.2 10 = some (.aload_n 0, 1, 0, 0, 0, 0, 0) := rfl
set_option maxRecDepth 20000 in
theorem ja_Sections_canChange_11 : jv_at jm_Sections_canChange.2.2.2.2.2.2 11 = some (.getfield 15, 3, 8, 0, 150, 0, 0) := rfl
set_option maxRecDepth 20000 in
theorem ja_Sections_canChange_14 : jv_at jm_Sections_canChange.2.2.2.2.2.2 14 = some (.if_icmp .gt 30, 3, 44, 0, 0, 0, 0) := rfl
set_option maxRecDepth 20000 in
theorem ja_Sections_canChange_17 : jv_at jm_Sections_canChange.2.2.2.2.2.2 17 = some (.aload_n 0, 1, 0, 0, 0, 0, 0) := rfl
set_option maxRecDepth 20000 in
theorem ja_Sections_canChange_18 : jv_at jm_Sections_canChange.2.2.2.2.2.2 18 = some (.getfield 15, 3, 8, 0, 150, 0, 0) := rfl
set_option maxRecDepth 20000 in
theorem ja_Sections_canChange_21 : jv_at jm_Sections_canChange.2.2.2.2.2.2 21 = some (.aload_n 0, 1, 0, 0, 0, 0, 0) := rfl
set_option maxRecDepth 20000 in
theorem ja_Sections_canChange_22 : jv_at jm_Sections_canChange.2.2.2.2.2.2 22 = some (.getfield 9, 3, 8, 1, 153, 0, 0) := rfl
set_option maxRecDepth 20000 in
theorem ja_Sections_canChange_25 : jv_at jm_Sections_canChange.2.2.2.2.2.2 25 = some (.arraylength, 1, 0, 0, 0, 0, 0) := rfl
set_option maxRecDepth 20000 in
theorem ja_Sections_canChange_26 : jv_at jm_Sections_canChange.2.2.2.2.2.2 26 = some (.if_icmp .ge 18, 3, 44, 0, 0, 0, 0) := rfl
set_option maxRecDepth 20000 in
theorem ja_Sections_canChange_29 : jv_at jm_Sections_canChange.2.2.2.2.2.2 29 = some (.goto 11, 3, 40, 0, 0, 0, 0) := rfl
set_option maxRecDepth 20000 in
theorem ja_Sections_canChange_32 : jv_at jm_Sections_canChange.2.2.2.2.2.2 32 = some (.iload_n 2, 1, 0, 0, 0, 0, 0) := rfl
set_option maxRecDepth 20000 in
theorem ja_Sections_canChange_33 : jv_at jm_Sections_canChange.2.2.2.2.2.2 33 = some (.aload_n 0, 1, 0, 0, 0, 0, 0) := rfl
set_option maxRecDepth 20000 in
theorem ja_Sections_canChange_34 : jv_at jm_Sections_canChange.2.2.2.2.2.2 34 = some (.getfield 15, 3, 8, 0, 150, 0, 0) := rfl
set_option maxRecDepth 20000 in
theorem ja_Sections_canChange_37 : jv_at jm_Sections_canChange.2.2.2.2.2.2 37 = some (.if_icmp .ge 7, 3, 44, 0, 0, 0, 0) := rfl
set_option maxRecDepth 20000 in
theorem ja_Sections_canChange_40 : jv_at jm_Sections_canChange.2.2.2.2.2.2 40 = some (.iconst 1, 1, 0, 0, 0, 0, 1) := rfl
set_option maxRecDepth 20000 in
theorem ja_Sections_canChange_41 : jv_at jm_Sections_canChange.2.2.2.2.2.2 41 = some (.goto 4, 3, 45, 0, 0, 0, 0) := rfl
set_option maxRecDepth 20000 in
theorem ja_Sections_canChange_44 : jv_at jm_Sections_canChange.2.2.2.2.2.2 44 = some (.iconst 0, 1, 0, 0, 0, 0, 0) := rfl
set_option maxRecDepth 20000 in
theorem ja_Sections_canChange_45 : jv_at jm_Sections_canChange.2.2.2.2.2.2 45 = some (.ireturn, 1, 0, 0, 0, 0, 0) := rfl
set_option maxRecDepth 20000 in
theorem ja_Sections_putIn_0 : jv_at jm_Sections_putIn.2.2.2.2.2.2 0 = some (.iload_n 1, 1, 0, 0, 0, 0, 0) := rfl
set_option maxRecDepth 20000 in
theorem ja_Sections_putIn_1 : jv_at jm_Sections_putIn.2.2.2.2.2.2 1 = some (.ifCond .lt 23, 3, 24, 0, 0, 0, 0) := rfl
set_option maxRecDepth 20000 in
theorem ja_Sections_putIn_4 : jv_at jm_Sections_putIn.2.2.2.2.2.2 4 = some (.iload_n 1, 1, 0, 0, 0, 0, 0) := rfl
set_option maxRecDepth 20000 in
theorem ja_Sections_putIn_5 : jv_at jm_Sections_putIn.2.2.2.2.2.2 5 = some (.aload_n 0, 1, 0, 0, 0, 0, 0) := rfl
set_option maxRecDepth 20000 in
theorem ja_Sections_putIn_6 : jv_at jm_Sections_putIn.2.2.2.2.2.2 6 = some (.getfield 15, 3, 8, 0, 150, 0, 0) := rfl
set_option maxRecDepth 20000 in
theorem ja_Sections_putIn_9 : jv_at jm_Sections_putIn.2.2.2.2.2.2 9 = some (.if_icmp .gt 15, 3, 24, 0, 0, 0, 0) := rfl
set_option maxRecDepth 20000 in
theorem ja_Sections_putIn_12 : jv_at jm_Sections_putIn.2.2.2.2.2.2 12 = some (.aload_n 0, 1, 0, 0, 0, 0, 0) := rfl
set_option maxRecDepth 20000 in
theorem ja_Sections_putIn_13 : jv_at jm_Sections_putIn.2.2.2.2.2.2 13 = some (.getfield 15, 3, 8, 0, 150, 0, 0) := rfl
set_option maxRecDepth 20000 in
theorem ja_Sections_putIn_16 : jv_at jm_Sections_putIn.2.2.2.2.2.2 16 = some (.aload_n 0, 1, 0, 0, 0, 0, 0) := rfl
set_option maxRecDepth 20000 in
theorem ja_Sections_putIn_17 : jv_at jm_Sections_putIn.2.2.2.2.2.2 17 = some (.getfield 9, 3, 8, 1, 153, 0, 0) := rfl
set_option maxRecDepth 20000 in
theorem ja_Sections_putIn_20 : jv_at jm_Sections_putIn.2.2.2.2.2.2 20 = some (.arraylength, 1, 0, 0, 0, 0, 0) := rfl
set_option maxRecDepth 20000 in
theorem ja_Sections_putIn_21 : jv_at jm_Sections_putIn.2.2.2.2.2.2 21 = some (.if_icmp .lt 4, 3, 25, 0, 0, 0, 0) := rfl
set_option maxRecDepth 20000 in
theorem ja_Sections_putIn_24 : jv_at jm_Sections_putIn.2.2.2.2.2.2 24 = some (.return_, 1, 0, 0, 0, 0, 0) := rfl
set_option maxRecDepth 20000 in
theorem ja_Sections_putIn_25 : jv_at jm_Sections_putIn.2.2.2.2.2.2 25 = some (.aload_n 0, 1, 0, 0, 0, 0, 0) := rfl
set_option maxRecDepth 20000 in
theorem ja_Sections_putIn_26 : jv_at jm_Sections_putIn.2.2.2.2.2.2 26 = some (.getfield 15, 3, 8, 0, 150, 0, 0) := rfl
set_option maxRecDepth 20000 in
theorem ja_Sections_putIn_29 : jv_at jm_Sections_putIn.2.2.2.2.2.2 29 = some (.istore_n 3, 1, 0, 0, 0, 0, 0) := rfl
set_option maxRecDepth 20000 in
theorem ja_Sections_putIn_30 : jv_at jm_Sections_putIn.2.2.2.2.2.2 30 = some (.iload_n 3, 1, 0, 0, 0, 0, 0) := rfl
set_option maxRecDepth 20000 in
theorem ja_Sections_putIn_31 : jv_at jm_Sections_putIn.2.2.2.2.2.2 31 = some (.iload_n 1, 1, 0, 0, 0, 0, 0) := rfl
set_option maxRecDepth 20000 in
theorem ja_Sections_putIn_32 : jv_at jm_Sections_putIn.2.2.2.2.2.2 32 = some (.if_icmp .le 23, 3, 55, 0, 0, 0, 0) := rfl
set_option maxRecDepth 20000 in
theorem ja_Sections_putIn_35 : jv_at jm_Sections_putIn.2.2.2.2.2.2 35 = some (.aload_n 0, 1, 0, 0, 0, 0, 0) := rfl
set_option maxRecDepth 20000 in
theorem ja_Sections_putIn_36 : jv_at jm_Sections_putIn.2.2.2.2.2.2 36 = some (.getfield 9, 3, 8, 1, 153, 0, 0) := rfl
set_option maxRecDepth 20000 in
theorem ja_Sections_putIn_39 : jv_at jm_Sections_putIn.2.2.2.2.2.2 39 = some (.iload_n 3, 1, 0, 0, 0, 0, 0) := rfl
set_option maxRecDepth 20000 in
theorem ja_Sections_putIn_40 : jv_at jm_Sections_putIn.2.2.2.2.2.2 40 = some (.aload_n 0, 1, 0, 0, 0, 0, 0) := rfl
set_option maxRecDepth 20000 in
theorem ja_Sections_putIn_41 : jv_at jm_Sections_putIn.2.2.2.2.2.2 41 = some (.getfield 9, 3, 8, 1, 153, 0, 0) := rfl
set_option maxRecDepth 20000 in
theorem ja_Sections_putIn_44 : jv_at jm_Sections_putIn.2.2.2.2.2.2 44 = some (.iload_n 3, 1, 0, 0, 0, 0, 0) := rfl
set_option maxRecDepth 20000 in
theorem ja_Sections_putIn_45 : jv_at jm_Sections_putIn.2.2.2.2.2.2 45 = some (.iconst 1, 1, 0, 0, 0, 0, 1) := rfl
set_option maxRecDepth 20000 in
theorem ja_Sections_putIn_46 : jv_at jm_Sections_putIn.2.2.2.2.2.2 46 = some (.isub, 1, 0, 0, 0, 0, 0) := rfl
set_option maxRecDepth 20000 in
theorem ja_Sections_putIn_47 : jv_at jm_Sections_putIn.2.2.2.2.2.2 47 = some (.iaload, 1, 0, 0, 0, 0, 0) := rfl
set_option maxRecDepth 20000 in
theorem ja_Sections_putIn_48 : jv_at jm_Sections_putIn.2.2.2.2.2.2 48 = some (.iastore, 1, 0, 0, 0, 0, 0) := rfl
set_option maxRecDepth 20000 in
theorem ja_Sections_putIn_49 : jv_at jm_Sections_putIn.2.2.2.2.2.2 49 = some (.iinc 3 (-1), 3, 0, 0, 0, 0, 0) := rfl
set_option maxRecDepth 20000 in
theorem ja_Sections_putIn_52 : jv_at jm_Sections_putIn.2.2.2.2.2.2 52 = some (.goto (-22), 3, 30, 0, 0, 0, 0) := rfl
set_option maxRecDepth 20000 in
theorem ja_Sections_putIn_55 : jv_at jm_Sections_putIn.2.2.2.2.2.2 55 = some (.aload_n 0, 1, 0, 0, 0, 0, 0) := rfl
set_option maxRecDepth 20000 in
theorem ja_Sections_putIn_56 : jv_at jm_Sections_putIn.2.2.2.2.2.2 56 = some (.getfield 9, 3, 8, 1, 153, 0, 0) := rfl
set_option maxRecDepth 20000 in
theorem ja_Sections_putIn_59 : jv_at jm_Sections_putIn.2.2.2.2.2.2 59 = some (.iload_n 1, 1, 0, 0, 0, 0, 0) := rfl
set_option maxRecDepth 20000 in
theorem ja_Sections_putIn_60 : jv_at jm_Sections_putIn.2.2.2.2.2.2 60 = some (.iload_n 2, 1, 0, 0, 0, 0, 0) := rfl
set_option maxRecDepth 20000 in
theorem ja_Sections_putIn_61 : jv_at jm_Sections_putIn.2.2.2.2.2.2 61 = some (.iastore, 1, 0, 0, 0, 0, 0) := rfl
set_option maxRecDepth 20000 in
theorem ja_Sections_putIn_62 : jv_at jm_Sections_putIn.2.2.2.2.2.2 62 = some (.aload_n 0, 1, 0, 0, 0, 0, 0) := rfl
set_option maxRecDepth 20000 in
theorem ja_Sections_putIn_63 : jv_at jm_Sections_putIn.2.2.2.2.2.2 63 = some (.dup, 1, 0, 0, 0, 0, 0) := rfl
set_option maxRecDepth 20000 in
theorem ja_Sections_putIn_64 : jv_at jm_Sections_putIn.2.2.2.2.2.2 64 = some (.getfield 15, 3, 8, 0, 150, 0, 0) := rfl
set_option maxRecDepth 20000 in
theorem ja_Sections_putIn_67 : jv_at jm_Sections_putIn.2.2.2.2.2.2 67 = some (.iconst 1, 1, 0, 0, 0, 0, 1) := rfl
set_option maxRecDepth 20000 in
theorem ja_Sections_putIn_68 : jv_at jm_Sections_putIn.2.2.2.2.2.2 68 = some (.iadd, 1, 0, 0, 0, 0, 0) := rfl
set_option maxRecDepth 20000 in
theorem ja_Sections_putIn_69 : jv_at jm_Sections_putIn.2.2.2.2.2.2 69 = some (.putfield 15, 3, 8, 0, 150, 0, 0) := rfl
set_option maxRecDepth 20000 in
theorem ja_Sections_putIn_72 : jv_at jm_Sections_putIn.2.2.2.2.2.2 72 = some (.return_, 1, 0, 0, 0, 0, 0) := rfl
set_option maxRecDepth 20000 in
theorem ja_Sections_takeOut_0 : jv_at jm_Sections_takeOut.2.2.2.2.2.2 0 = some (.iload_n 1, 1, 0, 0, 0, 0, 0) := rfl
set_option maxRecDepth 20000 in
theorem ja_Sections_takeOut_1 : jv_at jm_Sections_takeOut.2.2.2.2.2.2 1 = some (.ifCond .lt 23, 3, 24, 0, 0, 0, 0) := rfl
set_option maxRecDepth 20000 in
theorem ja_Sections_takeOut_4 : jv_at jm_Sections_takeOut.2.2.2.2.2.2 4 = some (.iload_n 1, 1, 0, 0, 0, 0, 0) := rfl
set_option maxRecDepth 20000 in
theorem ja_Sections_takeOut_5 : jv_at jm_Sections_takeOut.2.2.2.2.2.2 5 = some (.aload_n 0, 1, 0, 0, 0, 0, 0) := rfl
set_option maxRecDepth 20000 in
theorem ja_Sections_takeOut_6 : jv_at jm_Sections_takeOut.2.2.2.2.2.2 6 = some (.getfield 15, 3, 8, 0, 150, 0, 0) := rfl
set_option maxRecDepth 20000 in
theorem ja_Sections_takeOut_9 : jv_at jm_Sections_takeOut.2.2.2.2.2.2 9 = some (.if_icmp .ge 15, 3, 24, 0, 0, 0, 0) := rfl
set_option maxRecDepth 20000 in
theorem ja_Sections_takeOut_12 : jv_at jm_Sections_takeOut.2.2.2.2.2.2 12 = some (.aload_n 0, 1, 0, 0, 0, 0, 0) := rfl
set_option maxRecDepth 20000 in
theorem ja_Sections_takeOut_13 : jv_at jm_Sections_takeOut.2.2.2.2.2.2 13 = some (.getfield 15, 3, 8, 0, 150, 0, 0) := rfl
set_option maxRecDepth 20000 in
theorem ja_Sections_takeOut_16 : jv_at jm_Sections_takeOut.2.2.2.2.2.2 16 = some (.aload_n 0, 1, 0, 0, 0, 0, 0) := rfl
set_option maxRecDepth 20000 in
theorem ja_Sections_takeOut_17 : jv_at jm_Sections_takeOut.2.2.2.2.2.2 17 = some (.getfield 9, 3, 8, 1, 153, 0, 0) := rfl
set_option maxRecDepth 20000 in
theorem ja_Sections_takeOut_20 : jv_at jm_Sections_takeOut.2.2.2.2.2.2 20 = some (.arraylength, 1, 0, 0, 0, 0, 0) := rfl
set_option maxRecDepth 20000 in
theorem ja_Sections_takeOut_21 : jv_at jm_Sections_takeOut.2.2.2.2.2.2 21 = some (.if_icmp .le 4, 3, 25, 0, 0, 0, 0) := rfl
set_option maxRecDepth 20000 in
theorem ja_Sections_takeOut_24 : jv_at jm_Sections_takeOut.2.2.2.2.2.2 24 = some (.return_, 1, 0, 0, 0, 0, 0) := rfl
set_option maxRecDepth 20000 in
theorem ja_Sections_takeOut_25 : jv_at jm_Sections_takeOut.2.2.2.2.2.2 25 = some (.iload_n 1, 1, 0, 0, 0, 0, 0) := rfl
set_option maxRecDepth 20000 in
theorem ja_Sections_takeOut_26 : jv_at jm_Sections_takeOut.2.2.2.2.2.2 26 = some (.istore_n 2, 1, 0, 0, 0, 0, 0) := rfl
set_option maxRecDepth 20000 in
theorem ja_Sections_takeOut_27 : jv_at jm_Sections_takeOut.2.2.2.2.2.2 27 = some (.iload_n 2, 1, 0, 0, 0, 0, 0) := rfl
set_option maxRecDepth 20000 in
theorem ja_Sections_takeOut_28 : jv_at jm_Sections_takeOut.2.2.2.2.2.2 28 = some (.iconst 1, 1, 0, 0, 0, 0, 1) := rfl
set_option maxRecDepth 20000 in
theorem ja_Sections_takeOut_29 : jv_at jm_Sections_takeOut.2.2.2.2.2.2 29 = some (.iadd, 1, 0, 0, 0, 0, 0) := rfl
set_option maxRecDepth 20000 in
theorem ja_Sections_takeOut_30 : jv_at jm_Sections_takeOut.2.2.2.2.2.2 30 = some (.aload_n 0, 1, 0, 0, 0, 0, 0) := rfl
set_option maxRecDepth 20000 in
theorem ja_Sections_takeOut_31 : jv_at jm_Sections_takeOut.2.2.2.2.2.2 31 = some (.getfield 15, 3, 8, 0, 150, 0, 0) := rfl
set_option maxRecDepth 20000 in
theorem ja_Sections_takeOut_34 : jv_at jm_Sections_takeOut.2.2.2.2.2.2 34 = some (.if_icmp .ge 23, 3, 57, 0, 0, 0, 0) := rfl
set_option maxRecDepth 20000 in
theorem ja_Sections_takeOut_37 : jv_at jm_Sections_takeOut.2.2.2.2.2.2 37 = some (.aload_n 0, 1, 0, 0, 0, 0, 0) := rfl
set_option maxRecDepth 20000 in
theorem ja_Sections_takeOut_38 : jv_at jm_Sections_takeOut.2.2.2.2.2.2 38 = some (.getfield 9, 3, 8, 1, 153, 0, 0) := rfl
set_option maxRecDepth 20000 in
theorem ja_Sections_takeOut_41 : jv_at jm_Sections_takeOut.2.2.2.2.2.2 41 = some (.iload_n 2, 1, 0, 0, 0, 0, 0) := rfl
set_option maxRecDepth 20000 in
theorem ja_Sections_takeOut_42 : jv_at jm_Sections_takeOut.2.2.2.2.2.2 42 = some (.aload_n 0, 1, 0, 0, 0, 0, 0) := rfl
set_option maxRecDepth 20000 in
theorem ja_Sections_takeOut_43 : jv_at jm_Sections_takeOut.2.2.2.2.2.2 43 = some (.getfield 9, 3, 8, 1, 153, 0, 0) := rfl
set_option maxRecDepth 20000 in
theorem ja_Sections_takeOut_46 : jv_at jm_Sections_takeOut.2.2.2.2.2.2 46 = some (.iload_n 2, 1, 0, 0, 0, 0, 0) := rfl
set_option maxRecDepth 20000 in
theorem ja_Sections_takeOut_47 : jv_at jm_Sections_takeOut.2.2.2.2.2.2 47 = some (.iconst 1, 1, 0, 0, 0, 0, 1) := rfl
set_option maxRecDepth 20000 in
theorem ja_Sections_takeOut_48 : jv_at jm_Sections_takeOut.2.2.2.2.2.2 48 = some (.iadd, 1, 0, 0, 0, 0, 0) := rfl
set_option maxRecDepth 20000 in
theorem ja_Sections_takeOut_49 : jv_at jm_Sections_takeOut.2.2.2.2.2.2 49 = some (.iaload, 1, 0, 0, 0, 0, 0) := rfl
set_option maxRecDepth 20000 in
theorem ja_Sections_takeOut_50 : jv_at jm_Sections_takeOut.2.2.2.2.2.2 50 = some (.iastore, 1, 0, 0, 0, 0, 0) := rfl
set_option maxRecDepth 20000 in
theorem ja_Sections_takeOut_51 : jv_at jm_Sections_takeOut.2.2.2.2.2.2 51 = some (.iinc 2 1, 3, 0, 0, 0, 0, 0) := rfl
set_option maxRecDepth 20000 in
theorem ja_Sections_takeOut_54 : jv_at jm_Sections_takeOut.2.2.2.2.2.2 54 = some (.goto (-27), 3, 27, 0, 0, 0, 0) := rfl
set_option maxRecDepth 20000 in
theorem ja_Sections_takeOut_57 : jv_at jm_Sections_takeOut.2.2.2.2.2.2 57 = some (.aload_n 0, 1, 0, 0, 0, 0, 0) := rfl
set_option maxRecDepth 20000 in
theorem ja_Sections_takeOut_58 : jv_at jm_Sections_takeOut.2.2.2.2.2.2 58 = some (.dup, 1, 0, 0, 0, 0, 0) := rfl
set_option maxRecDepth 20000 in
theorem ja_Sections_takeOut_59 : jv_at jm_Sections_takeOut.2.2.2.2.2.2 59 = some (.getfield 15, 3, 8, 0, 150, 0, 0) := rfl
set_option maxRecDepth 20000 in
theorem ja_Sections_takeOut_62 : jv_at jm_Sections_takeOut.2.2.2.2.2.2 62 = some (.iconst 1, 1, 0, 0, 0, 0, 1) := rfl
set_option maxRecDepth 20000 in
theorem ja_Sections_takeOut_63 : jv_at jm_Sections_takeOut.2.2.2.2.2.2 63 = some (.isub, 1, 0, 0, 0, 0, 0) := rfl
set_option maxRecDepth 20000 in
theorem ja_Sections_takeOut_64 : jv_at jm_Sections_takeOut.2.2.2.2.2.2 64 = some (.putfield 15, 3, 8, 0, 150, 0, 0) := rfl
set_option maxRecDepth 20000 in
theorem ja_Sections_takeOut_67 : jv_at jm_Sections_takeOut.2.2.2.2.2.2 67 = some (.return_, 1, 0, 0, 0, 0, 0) := rfl
set_option maxRecDepth 20000 in
theorem ja_JI_bitCount_0 : jv_at jm_JI_bitCount.2.2.2.2.2.2 0 = some (.iload_n 0, 1, 0, 0, 0, 0, 0) := rfl
set_option maxRecDepth 20000 in
theorem ja_JI_bitCount_1 : jv_at jm_JI_bitCount.2.2.2.2.2.2 1 = some (.iload_n 0, 1, 0, 0, 0, 0, 0) := rfl
set_option maxRecDepth 20000 in
theorem ja_JI_bitCount_2 : jv_at jm_JI_bitCount.2.2.2.2.2.2 2 = some (.iconst 1, 1, 0, 0, 0, 0, 1) := rfl
set_option maxRecDepth 20000 in
theorem ja_JI_bitCount_3 : jv_at jm_JI_bitCount.2.2.2.2.2.2 3 = some (.iushr, 1, 0, 0, 0, 0, 0) := rfl
set_option maxRecDepth 20000 in
theorem ja_JI_bitCount_4 : jv_at jm_JI_bitCount.2.2.2.2.2.2 4 = some (.ldc_w 265, 3, 0, 0, 645, 0, 1431655765) := rfl
set_option maxRecDepth 20000 in
theorem ja_JI_bitCount_7 : jv_at jm_JI_bitCount.2.2.2.2.2.2 7 = some (.iand, 1, 0, 0, 0, 0, 0) := rfl
set_option maxRecDepth 20000 in
theorem ja_JI_bitCount_8 : jv_at jm_JI_bitCount.2.2.2.2.2.2 8 = some (.isub, 1, 0, 0, 0, 0, 0) := rfl
set_option maxRecDepth 20000 in
theorem ja_JI_bitCount_9 : jv_at jm_JI_bitCount.2.2.2.2.2.2 9 = some (.istore_n 0, 1, 0, 0, 0, 0, 0) := rfl
set_option maxRecDepth 20000 in
theorem ja_JI_bitCount_10 : jv_at jm_JI_bitCount.2.2.2.2.2.2 10 = some (.iload_n 0, 1, 0, 0, 0, 0, 0) := rfl
set_option maxRecDepth 20000 in
theorem ja_JI_bitCount_11 : jv_at jm_JI_bitCount.2.2.2.2.2.2 11 = some (.ldc_w 266, 3, 0, 0, 646, 0, 858993459) := rfl
set_option maxRecDepth 20000 in
theorem ja_JI_bitCount_14 : jv_at jm_JI_bitCount.2.2.2.2.2.2 14 = some (.iand, 1, 0, 0, 0, 0, 0) := rfl
set_option maxRecDepth 20000 in
theorem ja_JI_bitCount_15 : jv_at jm_JI_bitCount.2.2.2.2.2.2 15 = some (.iload_n 0, 1, 0, 0, 0, 0, 0) := rfl
set_option maxRecDepth 20000 in
theorem ja_JI_bitCount_16 : jv_at jm_JI_bitCount.2.2.2.2.2.2 16 = some (.iconst 2, 1, 0, 0, 0, 0, 2) := rfl
set_option maxRecDepth 20000 in
theorem ja_JI_bitCount_17 : jv_at jm_JI_bitCount.2.2.2.2.2.2 17 = some (.iushr, 1, 0, 0, 0, 0, 0) := rfl
set_option maxRecDepth 20000 in
theorem ja_JI_bitCount_18 : jv_at jm_JI_bitCount.2.2.2.2.2.2 18 = some (.ldc_w 266, 3, 0, 0, 646, 0, 858993459) := rfl
set_option maxRecDepth 20000 in
theorem ja_JI_bitCount_21 : jv_at jm_JI_bitCount.2.2.2.2.2.2 21 = some (.iand, 1, 0, 0, 0, 0, 0) := rfl
set_option maxRecDepth 20000 in
theorem ja_JI_bitCount_22 : jv_at jm_JI_bitCount.2.2.2.2.2.2 22 = some (.iadd, 1, 0, 0, 0, 0, 0) := rfl
set_option maxRecDepth 20000 in
theorem ja_JI_bitCount_23 : jv_at jm_JI_bitCount.2.2.2.2.2.2 23 = some (.istore_n 0, 1, 0, 0, 0, 0, 0) := rfl
set_option maxRecDepth 20000 in
theorem ja_JI_bitCount_24 : jv_at jm_JI_bitCount.2.2.2.2.2.2 24 = some (.iload_n 0, 1, 0, 0, 0, 0, 0) := rfl
set_option maxRecDepth 20000 in
theorem ja_JI_bitCount_25 : jv_at jm_JI_bitCount.2.2.2.2.2.2 25 = some (.iload_n 0, 1, 0, 0, 0, 0, 0) := rfl
set_option maxRecDepth 20000 in
theorem ja_JI_bitCount_26 : jv_at jm_JI_bitCount.2.2.2.2.2.2 26 = some (.iconst 4, 1, 0, 0, 0, 0, 4) := rfl
set_option maxRecDepth 20000 in
theorem ja_JI_bitCount_27 : jv_at jm_JI_bitCount.2.2.2.2.2.2 27 = some (.iushr, 1, 0, 0, 0, 0, 0) := rfl
set_option maxRecDepth 20000 in
theorem ja_JI_bitCount_28 : jv_at jm_JI_bitCount.2.2.2.2.2.2 28 = some (.iadd, 1, 0, 0, 0, 0, 0) := rfl
set_option maxRecDepth 20000 in
theorem ja_JI_bitCount_29 : jv_at jm_JI_bitCount.2.2.2.2.2.2 29 = some (.ldc_w 267, 3, 0, 0, 647, 0, 252645135) := rfl
set_option maxRecDepth 20000 in
theorem ja_JI_bitCount_32 : jv_at jm_JI_bitCount.2.2.2.2.2.2 32 = some (.iand, 1, 0, 0, 0, 0, 0) := rfl
set_option maxRecDepth 20000 in
theorem ja_JI_bitCount_33 : jv_at jm_JI_bitCount.2.2.2.2.2.2 33 = some (.istore_n 0, 1, 0, 0, 0, 0, 0) := rfl
set_option maxRecDepth 20000 in
theorem ja_JI_bitCount_34 : jv_at jm_JI_bitCount.2.2.2.2.2.2 34 = some (.iload_n 0, 1, 0, 0, 0, 0, 0) := rfl
set_option maxRecDepth 20000 in
theorem ja_JI_bitCount_35 : jv_at jm_JI_bitCount.2.2.2.2.2.2 35 = some (.iload_n 0, 1, 0, 0, 0, 0, 0) := rfl
set_option maxRecDepth 20000 in
theorem ja_JI_bitCount_36 : jv_at jm_JI_bitCount.2.2.2.2.2.2 36 = some (.bipush 8, 2, 0, 0, 0, 0, 8) := rfl
set_option maxRecDepth 20000 in
theorem ja_JI_bitCount_38 : jv_at jm_JI_bitCount.2.2.2.2.2.2 38 = some (.iushr, 1, 0, 0, 0, 0, 0) := rfl
set_option maxRecDepth 20000 in
theorem ja_JI_bitCount_39 : jv_at jm_JI_bitCount.2.2.2.2.2.2 39 = some (.iadd, 1, 0, 0, 0, 0, 0) := rfl
set_option maxRecDepth 20000 in
theorem ja_JI_bitCount_40 : jv_at jm_JI_bitCount.2.2.2.2.2.2 40 = some (.istore_n 0, 1, 0, 0, 0, 0, 0) := rfl
set_option maxRecDepth 20000 in
theorem ja_JI_bitCount_41 : jv_at jm_JI_bitCount.2.2.2.2.2.2 41 = some (.iload_n 0, 1, 0, 0, 0, 0, 0) := rfl
set_option maxRecDepth 20000 in
theorem ja_JI_bitCount_42 : jv_at jm_JI_bitCount.2.2.2.2.2.2 42 = some (.iload_n 0, 1, 0, 0, 0, 0, 0) := rfl
set_option maxRecDepth 20000 in
theorem ja_JI_bitCount_43 : jv_at jm_JI_bitCount.2.2.2.2.2.2 43 = some (.bipush 16, 2, 0, 0, 0, 0, 16) := rfl
set_option maxRecDepth 20000 in
theorem ja_JI_bitCount_45 : jv_at jm_JI_bitCount.2.2.2.2.2.2 45 = some (.iushr, 1, 0, 0, 0, 0, 0) := rfl
set_option maxRecDepth 20000 in
theorem ja_JI_bitCount_46 : jv_at jm_JI_bitCount.2.2.2.2.2.2 46 = some (.iadd, 1, 0, 0, 0, 0, 0) := rfl
set_option maxRecDepth 20000 in
theorem ja_JI_bitCount_47 : jv_at jm_JI_bitCount.2.2.2.2.2.2 47 = some (.istore_n 0, 1, 0, 0, 0, 0, 0) := rfl
set_option maxRecDepth 20000 in
theorem ja_JI_bitCount_48 : jv_at jm_JI_bitCount.2.2.2.2.2.2 48 = some (.iload_n 0, 1, 0, 0, 0, 0, 0) := rfl
set_option maxRecDepth 20000 in
theorem ja_JI_bitCount_49 : jv_at jm_JI_bitCount.2.2.2.2.2.2 49 = some (.bipush 63, 2, 0, 0, 0, 0, 63) := rfl
set_option maxRecDepth 20000 in
theorem ja_JI_bitCount_51 : jv_at jm_JI_bitCount.2.2.2.2.2.2 51 = some (.iand, 1, 0, 0, 0, 0, 0) := rfl
set_option maxRecDepth 20000 in
theorem ja_JI_bitCount_52 : jv_at jm_JI_bitCount.2.2.2.2.2.2 52 = some (.ireturn, 1, 0, 0, 0, 0, 0) := rfl
set_option maxRecDepth 20000 in
theorem ja_Sections_wordAt_0 : jv_at jm_Sections_wordAt.2.2.2.2.2.2 0 = some (.iload_n 1, 1, 0, 0, 0, 0, 0) := rfl
set_option maxRecDepth 20000 in
theorem ja_Sections_wordAt_1 : jv_at jm_Sections_wordAt.2.2.2.2.2.2 1 = some (.ifCond .lt 29, 3, 30, 0, 0, 0, 0) := rfl
set_option maxRecDepth 20000 in
theorem ja_Sections_wordAt_4 : jv_at jm_Sections_wordAt.2.2.2.2.2.2 4 = some (.iload_n 1, 1, 0, 0, 0, 0, 0) := rfl
set_option maxRecDepth 20000 in
theorem ja_Sections_wordAt_5 : jv_at jm_Sections_wordAt.2.2.2.2.2.2 5 = some (.aload_n 0, 1, 0, 0, 0, 0, 0) := rfl
set_option maxRecDepth 20000 in
theorem ja_Sections_wordAt_6 : jv_at jm_Sections_wordAt.2.2.2.2.2.2 6 = some (.getfield 15, 3, 8, 0, 150, 0, 0) := rfl
set_option maxRecDepth 20000 in
theorem ja_Sections_wordAt_9 : jv_at jm_Sections_wordAt.2.2.2.2.2.2 9 = some (.if_icmp .ge 21, 3, 30, 0, 0, 0, 0) := rfl
set_option maxRecDepth 20000 in
theorem ja_Sections_wordAt_12 : jv_at jm_Sections_wordAt.2.2.2.2.2.2 12 = some (.iload_n 1, 1, 0, 0, 0, 0, 0) := rfl
set_option maxRecDepth 20000 in
theorem ja_Sections_wordAt_13 : jv_at jm_Sections_wordAt.2.2.2.2.2.2 13 = some (.aload_n 0, 1, 0, 0, 0, 0, 0) := rfl
set_option maxRecDepth 20000 in
theorem ja_Sections_wordAt_14 : jv_at jm_Sections_wordAt.2.2.2.2.2.2 14 = some (.getfield 9, 3, 8, 1, 153, 0, 0) := rfl
set_option maxRecDepth 20000 in
theorem ja_Sections_wordAt_17 : jv_at jm_Sections_wordAt.2.2.2.2.2.2 17 = some (.arraylength, 1, 0, 0, 0, 0, 0) := rfl
set_option maxRecDepth 20000 in
theorem ja_Sections_wordAt_18 : jv_at jm_Sections_wordAt.2.2.2.2.2.2 18 = some (.if_icmp .ge 12, 3, 30, 0, 0, 0, 0) := rfl
set_option maxRecDepth 20000 in
theorem ja_Sections_wordAt_21 : jv_at jm_Sections_wordAt.2.2.2.2.2.2 21 = some (.aload_n 0, 1, 0, 0, 0, 0, 0) := rfl
set_option maxRecDepth 20000 in
theorem ja_Sections_wordAt_22 : jv_at jm_Sections_wordAt.2.2.2.2.2.2 22 = some (.getfield 9, 3, 8, 1, 153, 0, 0) := rfl
set_option maxRecDepth 20000 in
theorem ja_Sections_wordAt_25 : jv_at jm_Sections_wordAt.2.2.2.2.2.2 25 = some (.iload_n 1, 1, 0, 0, 0, 0, 0) := rfl
set_option maxRecDepth 20000 in
theorem ja_Sections_wordAt_26 : jv_at jm_Sections_wordAt.2.2.2.2.2.2 26 = some (.iaload, 1, 0, 0, 0, 0, 0) := rfl
set_option maxRecDepth 20000 in
theorem ja_Sections_wordAt_27 : jv_at jm_Sections_wordAt.2.2.2.2.2.2 27 = some (.goto 4, 3, 31, 0, 0, 0, 0) := rfl
set_option maxRecDepth 20000 in
theorem ja_Sections_wordAt_30 : jv_at jm_Sections_wordAt.2.2.2.2.2.2 30 = some (.iconst (-1), 1, 0, 0, 0, 0, -1) := rfl
set_option maxRecDepth 20000 in
theorem ja_Sections_wordAt_31 : jv_at jm_Sections_wordAt.2.2.2.2.2.2 31 = some (.ireturn, 1, 0, 0, 0, 0, 0) := rfl
set_option maxRecDepth 20000 in
theorem ja_Sections_worthTo_0 : jv_at jm_Sections_worthTo.2.2.2.2.2.2 0 = some (.iconst 0, 1, 0, 0, 0, 0, 0) := rfl
set_option maxRecDepth 20000 in
theorem ja_Sections_worthTo_1 : jv_at jm_Sections_worthTo.2.2.2.2.2.2 1 = some (.istore_n 2, 1, 0, 0, 0, 0, 0) := rfl
set_option maxRecDepth 20000 in
theorem ja_Sections_worthTo_2 : jv_at jm_Sections_worthTo.2.2.2.2.2.2 2 = some (.iconst 0, 1, 0, 0, 0, 0, 0) := rfl
set_option maxRecDepth 20000 in
theorem ja_Sections_worthTo_3 : jv_at jm_Sections_worthTo.2.2.2.2.2.2 3 = some (.istore_n 3, 1, 0, 0, 0, 0, 0) := rfl
set_option maxRecDepth 20000 in
theorem ja_Sections_worthTo_4 : jv_at jm_Sections_worthTo.2.2.2.2.2.2 4 = some (.iload_n 3, 1, 0, 0, 0, 0, 0) := rfl
set_option maxRecDepth 20000 in
theorem ja_Sections_worthTo_5 : jv_at jm_Sections_worthTo.2.2.2.2.2.2 5 = some (.aload_n 0, 1, 0, 0, 0, 0, 0) := rfl
set_option maxRecDepth 20000 in
theorem ja_Sections_worthTo_6 : jv_at jm_Sections_worthTo.2.2.2.2.2.2 6 = some (.getfield 15, 3, 8, 0, 150, 0, 0) := rfl
set_option maxRecDepth 20000 in
theorem ja_Sections_worthTo_9 : jv_at jm_Sections_worthTo.2.2.2.2.2.2 9 = some (.if_icmp .ge 31, 3, 40, 0, 0, 0, 0) := rfl
set_option maxRecDepth 20000 in
theorem ja_Sections_worthTo_12 : jv_at jm_Sections_worthTo.2.2.2.2.2.2 12 = some (.iload_n 3, 1, 0, 0, 0, 0, 0) := rfl
set_option maxRecDepth 20000 in
theorem ja_Sections_worthTo_13 : jv_at jm_Sections_worthTo.2.2.2.2.2.2 13 = some (.aload_n 0, 1, 0, 0, 0, 0, 0) := rfl
set_option maxRecDepth 20000 in
theorem ja_Sections_worthTo_14 : jv_at jm_Sections_worthTo.2.2.2.2.2.2 14 = some (.getfield 9, 3, 8, 1, 153, 0, 0) := rfl
set_option maxRecDepth 20000 in
theorem ja_Sections_worthTo_17 : jv_at jm_Sections_worthTo.2.2.2.2.2.2 17 = some (.arraylength, 1, 0, 0, 0, 0, 0) := rfl
set_option maxRecDepth 20000 in
theorem ja_Sections_worthTo_18 : jv_at jm_Sections_worthTo.2.2.2.2.2.2 18 = some (.if_icmp .ge 22, 3, 40, 0, 0, 0, 0) := rfl
set_option maxRecDepth 20000 in
theorem ja_Sections_worthTo_21 : jv_at jm_Sections_worthTo.2.2.2.2.2.2 21 = some (.iload_n 2, 1, 0, 0, 0, 0, 0) := rfl
set_option maxRecDepth 20000 in
theorem ja_Sections_worthTo_22 : jv_at jm_Sections_worthTo.2.2.2.2.2.2 22 = some (.aload_n 1, 1, 0, 0, 0, 0, 0) := rfl
set_option maxRecDepth 20000 in
theorem ja_Sections_worthTo_23 : jv_at jm_Sections_worthTo.2.2.2.2.2.2 23 = some (.aload_n 0, 1, 0, 0, 0, 0, 0) := rfl
set_option maxRecDepth 20000 in
theorem ja_Sections_worthTo_24 : jv_at jm_Sections_worthTo.2.2.2.2.2.2 24 = some (.getfield 9, 3, 8, 1, 153, 0, 0) := rfl
set_option maxRecDepth 20000 in
theorem ja_Sections_worthTo_27 : jv_at jm_Sections_worthTo.2.2.2.2.2.2 27 = some (.iload_n 3, 1, 0, 0, 0, 0, 0) := rfl
set_option maxRecDepth 20000 in
theorem ja_Sections_worthTo_28 : jv_at jm_Sections_worthTo.2.2.2.2.2.2 28 = some (.iaload, 1, 0, 0, 0, 0, 0) := rfl
set_option maxRecDepth 20000 in
theorem ja_Sections_worthTo_29 : jv_at jm_Sections_worthTo.2.2.2.2.2.2 29 = some (.invokevirtual 19, 3, 44, 0, 665, 5, 1) := rfl
set_option maxRecDepth 20000 in
theorem ja_Sections_worthTo_32 : jv_at jm_Sections_worthTo.2.2.2.2.2.2 32 = some (.iadd, 1, 0, 0, 0, 0, 0) := rfl
set_option maxRecDepth 20000 in
theorem ja_Sections_worthTo_33 : jv_at jm_Sections_worthTo.2.2.2.2.2.2 33 = some (.istore_n 2, 1, 0, 0, 0, 0, 0) := rfl
set_option maxRecDepth 20000 in
theorem ja_Sections_worthTo_34 : jv_at jm_Sections_worthTo.2.2.2.2.2.2 34 = some (.iinc 3 1, 3, 0, 0, 0, 0, 0) := rfl
set_option maxRecDepth 20000 in
theorem ja_Sections_worthTo_37 : jv_at jm_Sections_worthTo.2.2.2.2.2.2 37 = some (.goto (-33), 3, 4, 0, 0, 0, 0) := rfl
set_option maxRecDepth 20000 in
theorem ja_Sections_worthTo_40 : jv_at jm_Sections_worthTo.2.2.2.2.2.2 40 = some (.iload_n 2, 1, 0, 0, 0, 0, 0) := rfl
set_option maxRecDepth 20000 in
theorem ja_Sections_worthTo_41 : jv_at jm_Sections_worthTo.2.2.2.2.2.2 41 = some (.ireturn, 1, 0, 0, 0, 0, 0) := rfl
set_option maxRecDepth 20000 in
theorem ja_Machine_sets_0 : jv_at jm_Machine_sets.2.2.2.2.2.2 0 = some (.aload_n 0, 1, 0, 0, 0, 0, 0) := rfl
set_option maxRecDepth 20000 in
theorem ja_Machine_sets_1 : jv_at jm_Machine_sets.2.2.2.2.2.2 1 = some (.getfield 11, 3, 4, 0, 325, 0, 0) := rfl
set_option maxRecDepth 20000 in
theorem ja_Machine_sets_4 : jv_at jm_Machine_sets.2.2.2.2.2.2 4 = some (.iconst 0, 1, 0, 0, 0, 0, 0) := rfl
set_option maxRecDepth 20000 in
theorem ja_Machine_sets_5 : jv_at jm_Machine_sets.2.2.2.2.2.2 5 = some (.iload_n 1, 1, 0, 0, 0, 0, 0) := rfl
set_option maxRecDepth 20000 in
theorem ja_Machine_sets_6 : jv_at jm_Machine_sets.2.2.2.2.2.2 6 = some (.iastore, 1, 0, 0, 0, 0, 0) := rfl
set_option maxRecDepth 20000 in
theorem ja_Machine_sets_7 : jv_at jm_Machine_sets.2.2.2.2.2.2 7 = some (.aload_n 0, 1, 0, 0, 0, 0, 0) := rfl
set_option maxRecDepth 20000 in
theorem ja_Machine_sets_8 : jv_at jm_Machine_sets.2.2.2.2.2.2 8 = some (.getfield 11, 3, 4, 0, 325, 0, 0) := rfl
set_option maxRecDepth 20000 in
theorem ja_Machine_sets_11 : jv_at jm_Machine_sets.2.2.2.2.2.2 11 = some (.iconst 1, 1, 0, 0, 0, 0, 1) := rfl
set_option maxRecDepth 20000 in
theorem ja_Machine_sets_12 : jv_at jm_Machine_sets.2.2.2.2.2.2 12 = some (.iload_n 3, 1, 0, 0, 0, 0, 0) := rfl
set_option maxRecDepth 20000 in
theorem ja_Machine_sets_13 : jv_at jm_Machine_sets.2.2.2.2.2.2 13 = some (.iastore, 1, 0, 0, 0, 0, 0) := rfl
set_option maxRecDepth 20000 in
theorem ja_Machine_sets_14 : jv_at jm_Machine_sets.2.2.2.2.2.2 14 = some (.aload_n 0, 1, 0, 0, 0, 0, 0) := rfl
set_option maxRecDepth 20000 in
theorem ja_Machine_sets_15 : jv_at jm_Machine_sets.2.2.2.2.2.2 15 = some (.getfield 11, 3, 4, 0, 325, 0, 0) := rfl
set_option maxRecDepth 20000 in
theorem ja_Machine_sets_18 : jv_at jm_Machine_sets.2.2.2.2.2.2 18 = some (.iconst 3, 1, 0, 0, 0, 0, 3) := rfl
set_option maxRecDepth 20000 in
theorem ja_Machine_sets_19 : jv_at jm_Machine_sets.2.2.2.2.2.2 19 = some (.iload_n 2, 1, 0, 0, 0, 0, 0) := rfl
set_option maxRecDepth 20000 in
theorem ja_Machine_sets_20 : jv_at jm_Machine_sets.2.2.2.2.2.2 20 = some (.iastore, 1, 0, 0, 0, 0, 0) := rfl
set_option maxRecDepth 20000 in
theorem ja_Machine_sets_21 : jv_at jm_Machine_sets.2.2.2.2.2.2 21 = some (.aload_n 0, 1, 0, 0, 0, 0, 0) := rfl
set_option maxRecDepth 20000 in
theorem ja_Machine_sets_22 : jv_at jm_Machine_sets.2.2.2.2.2.2 22 = some (.getfield 11, 3, 4, 0, 325, 0, 0) := rfl
set_option maxRecDepth 20000 in
theorem ja_Machine_sets_25 : jv_at jm_Machine_sets.2.2.2.2.2.2 25 = some (.bipush 6, 2, 0, 0, 0, 0, 6) := rfl
set_option maxRecDepth 20000 in
theorem ja_Machine_sets_27 : jv_at jm_Machine_sets.2.2.2.2.2.2 27 = some (.iload 4, 2, 0, 0, 0, 0, 0) := rfl
set_option maxRecDepth 20000 in
theorem ja_Machine_sets_29 : jv_at jm_Machine_sets.2.2.2.2.2.2 29 = some (.iastore, 1, 0, 0, 0, 0, 0) := rfl
set_option maxRecDepth 20000 in
theorem ja_Machine_sets_30 : jv_at jm_Machine_sets.2.2.2.2.2.2 30 = some (.aload_n 0, 1, 0, 0, 0, 0, 0) := rfl
set_option maxRecDepth 20000 in
theorem ja_Machine_sets_31 : jv_at jm_Machine_sets.2.2.2.2.2.2 31 = some (.getfield 11, 3, 4, 0, 325, 0, 0) := rfl
set_option maxRecDepth 20000 in
theorem ja_Machine_sets_34 : jv_at jm_Machine_sets.2.2.2.2.2.2 34 = some (.bipush 7, 2, 0, 0, 0, 0, 7) := rfl
set_option maxRecDepth 20000 in
theorem ja_Machine_sets_36 : jv_at jm_Machine_sets.2.2.2.2.2.2 36 = some (.iload 5, 2, 0, 0, 0, 0, 0) := rfl
set_option maxRecDepth 20000 in
theorem ja_Machine_sets_38 : jv_at jm_Machine_sets.2.2.2.2.2.2 38 = some (.iastore, 1, 0, 0, 0, 0, 0) := rfl
set_option maxRecDepth 20000 in
theorem ja_Machine_sets_39 : jv_at jm_Machine_sets.2.2.2.2.2.2 39 = some (.return_, 1, 0, 0, 0, 0, 0) := rfl
set_option maxRecDepth 20000 in
theorem ja_Machine_setsHouse_0 : jv_at jm_Machine_setsHouse.2.2.2.2.2.2 0 = some (.aload_n 0, 1, 0, 0, 0, 0, 0) := rfl
set_option maxRecDepth 20000 in
theorem ja_Machine_setsHouse_1 : jv_at jm_Machine_setsHouse.2.2.2.2.2.2 1 = some (.getfield 11, 3, 4, 0, 325, 0, 0) := rfl
set_option maxRecDepth 20000 in
theorem ja_Machine_setsHouse_4 : jv_at jm_Machine_setsHouse.2.2.2.2.2.2 4 = some (.iconst 2, 1, 0, 0, 0, 0, 2) := rfl
set_option maxRecDepth 20000 in
theorem ja_Machine_setsHouse_5 : jv_at jm_Machine_setsHouse.2.2.2.2.2.2 5 = some (.iload_n 1, 1, 0, 0, 0, 0, 0) := rfl
set_option maxRecDepth 20000 in
theorem ja_Machine_setsHouse_6 : jv_at jm_Machine_setsHouse.2.2.2.2.2.2 6 = some (.iastore, 1, 0, 0, 0, 0, 0) := rfl
set_option maxRecDepth 20000 in
theorem ja_Machine_setsHouse_7 : jv_at jm_Machine_setsHouse.2.2.2.2.2.2 7 = some (.aload_n 0, 1, 0, 0, 0, 0, 0) := rfl
set_option maxRecDepth 20000 in
theorem ja_Machine_setsHouse_8 : jv_at jm_Machine_setsHouse.2.2.2.2.2.2 8 = some (.getfield 11, 3, 4, 0, 325, 0, 0) := rfl
set_option maxRecDepth 20000 in
theorem ja_Machine_setsHouse_11 : jv_at jm_Machine_setsHouse.2.2.2.2.2.2 11 = some (.iconst 4, 1, 0, 0, 0, 0, 4) := rfl
set_option maxRecDepth 20000 in
theorem ja_Machine_setsHouse_12 : jv_at jm_Machine_setsHouse.2.2.2.2.2.2 12 = some (.iload_n 2, 1, 0, 0, 0, 0, 0) := rfl
set_option maxRecDepth 20000 in
theorem ja_Machine_setsHouse_13 : jv_at jm_Machine_setsHouse.2.2.2.2.2.2 13 = some (.iastore, 1, 0, 0, 0, 0, 0) := rfl
set_option maxRecDepth 20000 in
theorem ja_Machine_setsHouse_14 : jv_at jm_Machine_setsHouse.2.2.2.2.2.2 14 = some (.aload_n 0, 1, 0, 0, 0, 0, 0) := rfl
set_option maxRecDepth 20000 in
theorem ja_Machine_setsHouse_15 : jv_at jm_Machine_setsHouse.2.2.2.2.2.2 15 = some (.getfield 11, 3, 4, 0, 325, 0, 0) := rfl
set_option maxRecDepth 20000 in
theorem ja_Machine_setsHouse_18 : jv_at jm_Machine_setsHouse.2.2.2.2.2.2 18 = some (.iconst 5, 1, 0, 0, 0, 0, 5) := rfl
set_option maxRecDepth 20000 in
theorem ja_Machine_setsHouse_19 : jv_at jm_Machine_setsHouse.2.2.2.2.2.2 19 = some (.iload_n 3, 1, 0, 0, 0, 0, 0) := rfl
set_option maxRecDepth 20000 in
theorem ja_Machine_setsHouse_20 : jv_at jm_Machine_setsHouse.2.2.2.2.2.2 20 = some (.iastore, 1, 0, 0, 0, 0, 0) := rfl
set_option maxRecDepth 20000 in
theorem ja_Machine_setsHouse_21 : jv_at jm_Machine_setsHouse.2.2.2.2.2.2 21 = some (.return_, 1, 0, 0, 0, 0, 0) := rfl
set_option maxRecDepth 20000 in
theorem ja_Machine_run_0 : jv_at jm_Machine_run.2.2.2.2.2.2 0 = some (.iload_n 2, 1, 0, 0, 0, 0, 0) := rfl
set_option maxRecDepth 20000 in
theorem ja_Machine_run_1 : jv_at jm_Machine_run.2.2.2.2.2.2 1 = some (.ifCond .lt 8, 3, 9, 0, 0, 0, 0) := rfl
set_option maxRecDepth 20000 in
theorem ja_Machine_run_4 : jv_at jm_Machine_run.2.2.2.2.2.2 4 = some (.iload_n 2, 1, 0, 0, 0, 0, 0) := rfl
set_option maxRecDepth 20000 in
theorem ja_Machine_run_5 : jv_at jm_Machine_run.2.2.2.2.2.2 5 = some (.iconst 4, 1, 0, 0, 0, 0, 4) := rfl
set_option maxRecDepth 20000 in
theorem ja_Machine_run_6 : jv_at jm_Machine_run.2.2.2.2.2.2 6 = some (.if_icmp .lt 5, 3, 11, 0, 0, 0, 0) := rfl
set_option maxRecDepth 20000 in
theorem ja_Machine_run_9 : jv_at jm_Machine_run.2.2.2.2.2.2 9 = some (.iconst 0, 1, 0, 0, 0, 0, 0) := rfl
set_option maxRecDepth 20000 in
theorem ja_Machine_run_10 : jv_at jm_Machine_run.2.2.2.2.2.2 10 = some (.ireturn, 1, 0, 0, 0, 0, 0) := rfl
set_option maxRecDepth 20000 in
theorem ja_Machine_run_11 : jv_at jm_Machine_run.2.2.2.2.2.2 11 = some (.iconst 0, 1, 0, 0, 0, 0, 0) := rfl
set_option maxRecDepth 20000 in
theorem ja_Machine_run_12 : jv_at jm_Machine_run.2.2.2.2.2.2 12 = some (.istore_n 3, 1, 0, 0, 0, 0, 0) := rfl
set_option maxRecDepth 20000 in
theorem ja_Machine_run_13 : jv_at jm_Machine_run.2.2.2.2.2.2 13 = some (.aload_n 1, 1, 0, 0, 0, 0, 0) := rfl
set_option maxRecDepth 20000 in
theorem ja_Machine_run_14 : jv_at jm_Machine_run.2.2.2.2.2.2 14 = some (.getfield 20, 3, 9, 2, 276, 0, 0) := rfl
set_option maxRecDepth 20000 in
theorem ja_Machine_run_17 : jv_at jm_Machine_run.2.2.2.2.2.2 17 = some (.iload_n 2, 1, 0, 0, 0, 0, 0) := rfl
set_option maxRecDepth 20000 in
theorem ja_Machine_run_18 : jv_at jm_Machine_run.2.2.2.2.2.2 18 = some (.iaload, 1, 0, 0, 0, 0, 0) := rfl
set_option maxRecDepth 20000 in
theorem ja_Machine_run_19 : jv_at jm_Machine_run.2.2.2.2.2.2 19 = some (.istore 4, 2, 0, 0, 0, 0, 0) := rfl
set_option maxRecDepth 20000 in
theorem ja_Machine_run_21 : jv_at jm_Machine_run.2.2.2.2.2.2 21 = some (.iload 4, 2, 0, 0, 0, 0, 0) := rfl
set_option maxRecDepth 20000 in
theorem ja_Machine_run_23 : jv_at jm_Machine_run.2.2.2.2.2.2 23 = some (.aload_n 1, 1, 0, 0, 0, 0, 0) := rfl
set_option maxRecDepth 20000 in
theorem ja_Machine_run_24 : jv_at jm_Machine_run.2.2.2.2.2.2 24 = some (.getfield 20, 3, 9, 2, 276, 0, 0) := rfl
set_option maxRecDepth 20000 in
theorem ja_Machine_run_27 : jv_at jm_Machine_run.2.2.2.2.2.2 27 = some (.iload_n 2, 1, 0, 0, 0, 0, 0) := rfl
set_option maxRecDepth 20000 in
theorem ja_Machine_run_28 : jv_at jm_Machine_run.2.2.2.2.2.2 28 = some (.iconst 1, 1, 0, 0, 0, 0, 1) := rfl
set_option maxRecDepth 20000 in
theorem ja_Machine_run_29 : jv_at jm_Machine_run.2.2.2.2.2.2 29 = some (.iadd, 1, 0, 0, 0, 0, 0) := rfl
set_option maxRecDepth 20000 in
theorem ja_Machine_run_30 : jv_at jm_Machine_run.2.2.2.2.2.2 30 = some (.iaload, 1, 0, 0, 0, 0, 0) := rfl
set_option maxRecDepth 20000 in
theorem ja_Machine_run_31 : jv_at jm_Machine_run.2.2.2.2.2.2 31 = some (.if_icmp .ge 185, 3, 216, 0, 0, 0, 0) := rfl
set_option maxRecDepth 20000 in
theorem ja_Machine_run_34 : jv_at jm_Machine_run.2.2.2.2.2.2 34 = some (.iload 4, 2, 0, 0, 0, 0, 0) := rfl
set_option maxRecDepth 20000 in
theorem ja_Machine_run_36 : jv_at jm_Machine_run.2.2.2.2.2.2 36 = some (.aload_n 1, 1, 0, 0, 0, 0, 0) := rfl
set_option maxRecDepth 20000 in
theorem ja_Machine_run_37 : jv_at jm_Machine_run.2.2.2.2.2.2 37 = some (.getfield 25, 3, 9, 0, 271, 0, 0) := rfl
set_option maxRecDepth 20000 in
theorem ja_Machine_run_40 : jv_at jm_Machine_run.2.2.2.2.2.2 40 = some (.arraylength, 1, 0, 0, 0, 0, 0) := rfl
set_option maxRecDepth 20000 in
theorem ja_Machine_run_41 : jv_at jm_Machine_run.2.2.2.2.2.2 41 = some (.if_icmp .ge 175, 3, 216, 0, 0, 0, 0) := rfl
set_option maxRecDepth 20000 in
theorem ja_Machine_run_44 : jv_at jm_Machine_run.2.2.2.2.2.2 44 = some (.aload_n 1, 1, 0, 0, 0, 0, 0) := rfl
set_option maxRecDepth 20000 in
theorem ja_Machine_run_45 : jv_at jm_Machine_run.2.2.2.2.2.2 45 = some (.getfield 25, 3, 9, 0, 271, 0, 0) := rfl
set_option maxRecDepth 20000 in
theorem ja_Machine_run_48 : jv_at jm_Machine_run.2.2.2.2.2.2 48 = some (.iload 4, 2, 0, 0, 0, 0, 0) := rfl
set_option maxRecDepth 20000 in
theorem ja_Machine_run_50 : jv_at jm_Machine_run.2.2.2.2.2.2 50 = some (.iaload, 1, 0, 0, 0, 0, 0) := rfl
set_option maxRecDepth 20000 in
theorem ja_Machine_run_51 : jv_at jm_Machine_run.2.2.2.2.2.2 51 = some (.istore 5, 2, 0, 0, 0, 0, 0) := rfl
set_option maxRecDepth 20000 in
theorem ja_Machine_run_53 : jv_at jm_Machine_run.2.2.2.2.2.2 53 = some (.iload 5, 2, 0, 0, 0, 0, 0) := rfl
set_option maxRecDepth 20000 in
theorem ja_Machine_run_55 : jv_at jm_Machine_run.2.2.2.2.2.2 55 = some (.aload_n 0, 1, 0, 0, 0, 0, 0) := rfl
set_option maxRecDepth 20000 in
theorem ja_Machine_run_56 : jv_at jm_Machine_run.2.2.2.2.2.2 56 = some (.getfield 11, 3, 4, 0, 325, 0, 0) := rfl
set_option maxRecDepth 20000 in
theorem ja_Machine_run_59 : jv_at jm_Machine_run.2.2.2.2.2.2 59 = some (.arraylength, 1, 0, 0, 0, 0, 0) := rfl
set_option maxRecDepth 20000 in
theorem ja_Machine_run_60 : jv_at jm_Machine_run.2.2.2.2.2.2 60 = some (.ineg, 1, 0, 0, 0, 0, 0) := rfl
set_option maxRecDepth 20000 in
theorem ja_Machine_run_61 : jv_at jm_Machine_run.2.2.2.2.2.2 61 = some (.if_icmp .lt 45, 3, 106, 0, 0, 0, 0) := rfl
set_option maxRecDepth 20000 in
theorem ja_Machine_run_64 : jv_at jm_Machine_run.2.2.2.2.2.2 64 = some (.iload_n 3, 1, 0, 0, 0, 0, 0) := rfl
set_option maxRecDepth 20000 in
theorem ja_Machine_run_65 : jv_at jm_Machine_run.2.2.2.2.2.2 65 = some (.aload_n 0, 1, 0, 0, 0, 0, 0) := rfl
set_option maxRecDepth 20000 in
theorem ja_Machine_run_66 : jv_at jm_Machine_run.2.2.2.2.2.2 66 = some (.getfield 17, 3, 4, 1, 326, 0, 0) := rfl
set_option maxRecDepth 20000 in
theorem ja_Machine_run_69 : jv_at jm_Machine_run.2.2.2.2.2.2 69 = some (.arraylength, 1, 0, 0, 0, 0, 0) := rfl
set_option maxRecDepth 20000 in
theorem ja_Machine_run_70 : jv_at jm_Machine_run.2.2.2.2.2.2 70 = some (.if_icmp .lt 5, 3, 75, 0, 0, 0, 0) := rfl
set_option maxRecDepth 20000 in
theorem ja_Machine_run_73 : jv_at jm_Machine_run.2.2.2.2.2.2 73 = some (.iconst 0, 1, 0, 0, 0, 0, 0) := rfl
set_option maxRecDepth 20000 in
theorem ja_Machine_run_74 : jv_at jm_Machine_run.2.2.2.2.2.2 74 = some (.ireturn, 1, 0, 0, 0, 0, 0) := rfl
set_option maxRecDepth 20000 in
theorem ja_Machine_run_75 : jv_at jm_Machine_run.2.2.2.2.2.2 75 = some (.aload_n 0, 1, 0, 0, 0, 0, 0) := rfl
set_option maxRecDepth 20000 in
theorem ja_Machine_run_76 : jv_at jm_Machine_run.2.2.2.2.2.2 76 = some (.getfield 17, 3, 4, 1, 326, 0, 0) := rfl
set_option maxRecDepth 20000 in
theorem ja_Machine_run_79 : jv_at jm_Machine_run.2.2.2.2.2.2 79 = some (.iload_n 3, 1, 0, 0, 0, 0, 0) := rfl
set_option maxRecDepth 20000 in
theorem ja_Machine_run_80 : jv_at jm_Machine_run.2.2.2.2.2.2 80 = some (.iload 5, 2, 0, 0, 0, 0, 0) := rfl
set_option maxRecDepth 20000 in
theorem ja_Machine_run_82 : jv_at jm_Machine_run.2.2.2.2.2.2 82 = some (.ifCond .lt 8, 3, 90, 0, 0, 0, 0) := rfl
set_option maxRecDepth 20000 in
theorem ja_Machine_run_85 : jv_at jm_Machine_run.2.2.2.2.2.2 85 = some (.iload 5, 2, 0, 0, 0, 0, 0) := rfl
set_option maxRecDepth 20000 in
theorem ja_Machine_run_87 : jv_at jm_Machine_run.2.2.2.2.2.2 87 = some (.goto 12, 3, 99, 0, 0, 0, 0) := rfl
set_option maxRecDepth 20000 in
theorem ja_Machine_run_90 : jv_at jm_Machine_run.2.2.2.2.2.2 90 = some (.aload_n 0, 1, 0, 0, 0, 0, 0) := rfl
set_option maxRecDepth 20000 in
theorem ja_Machine_run_91 : jv_at jm_Machine_run.2.2.2.2.2.2 91 = some (.getfield 11, 3, 4, 0, 325, 0, 0) := rfl
set_option maxRecDepth 20000 in
theorem ja_Machine_run_94 : jv_at jm_Machine_run.2.2.2.2.2.2 94 = some (.iconst (-1), 1, 0, 0, 0, 0, -1) := rfl
set_option maxRecDepth 20000 in
theorem ja_Machine_run_95 : jv_at jm_Machine_run.2.2.2.2.2.2 95 = some (.iload 5, 2, 0, 0, 0, 0, 0) := rfl
set_option maxRecDepth 20000 in
theorem ja_Machine_run_97 : jv_at jm_Machine_run.2.2.2.2.2.2 97 = some (.isub, 1, 0, 0, 0, 0, 0) := rfl
set_option maxRecDepth 20000 in
theorem ja_Machine_run_98 : jv_at jm_Machine_run.2.2.2.2.2.2 98 = some (.iaload, 1, 0, 0, 0, 0, 0) := rfl
set_option maxRecDepth 20000 in
theorem ja_Machine_run_99 : jv_at jm_Machine_run.2.2.2.2.2.2 99 = some (.iastore, 1, 0, 0, 0, 0, 0) := rfl
set_option maxRecDepth 20000 in
theorem ja_Machine_run_100 : jv_at jm_Machine_run.2.2.2.2.2.2 100 = some (.iinc 3 1, 3, 0, 0, 0, 0, 0) := rfl
set_option maxRecDepth 20000 in
theorem ja_Machine_run_103 : jv_at jm_Machine_run.2.2.2.2.2.2 103 = some (.goto 107, 3, 210, 0, 0, 0, 0) := rfl
set_option maxRecDepth 20000 in
theorem ja_Machine_run_106 : jv_at jm_Machine_run.2.2.2.2.2.2 106 = some (.iload 5, 2, 0, 0, 0, 0, 0) := rfl
set_option maxRecDepth 20000 in
theorem ja_Machine_run_108 : jv_at jm_Machine_run.2.2.2.2.2.2 108 = some (.bipush (-11), 2, 0, 0, 0, 0, -11) := rfl
set_option maxRecDepth 20000 in
theorem ja_Machine_run_110 : jv_at jm_Machine_run.2.2.2.2.2.2 110 = some (.if_icmp .eq 10, 3, 120, 0, 0, 0, 0) := rfl
set_option maxRecDepth 20000 in
theorem ja_Machine_run_113 : jv_at jm_Machine_run.2.2.2.2.2.2 113 = some (.iload 5, 2, 0, 0, 0, 0, 0) := rfl
set_option maxRecDepth 20000 in
theorem ja_Machine_run_115 : jv_at jm_Machine_run.2.2.2.2.2.2 115 = some (.bipush (-17), 2, 0, 0, 0, 0, -17) := rfl
set_option maxRecDepth 20000 in
theorem ja_Machine_run_117 : jv_at jm_Machine_run.2.2.2.2.2.2 117 = some (.if_icmp .ne 56, 3, 173, 0, 0, 0, 0) := rfl
set_option maxRecDepth 20000 in
theorem ja_Machine_run_120 : jv_at jm_Machine_run.2.2.2.2.2.2 120 = some (.iload_n 3, 1, 0, 0, 0, 0, 0) := rfl
set_option maxRecDepth 20000 in
theorem ja_Machine_run_121 : jv_at jm_Machine_run.2.2.2.2.2.2 121 = some (.iconst 1, 1, 0, 0, 0, 0, 1) := rfl
set_option maxRecDepth 20000 in
theorem ja_Machine_run_122 : jv_at jm_Machine_run.2.2.2.2.2.2 122 = some (.if_icmp .ge 5, 3, 127, 0, 0, 0, 0) := rfl
set_option maxRecDepth 20000 in
theorem ja_Machine_run_125 : jv_at jm_Machine_run.2.2.2.2.2.2 125 = some (.iconst 0, 1, 0, 0, 0, 0, 0) := rfl
set_option maxRecDepth 20000 in
theorem ja_Machine_run_126 : jv_at jm_Machine_run.2.2.2.2.2.2 126 = some (.ireturn, 1, 0, 0, 0, 0, 0) := rfl
set_option maxRecDepth 20000 in
theorem ja_Machine_run_127 : jv_at jm_Machine_run.2.2.2.2.2.2 127 = some (.aload_n 0, 1, 0, 0, 0, 0, 0) := rfl
set_option maxRecDepth 20000 in
theorem ja_Machine_run_128 : jv_at jm_Machine_run.2.2.2.2.2.2 128 = some (.getfield 17, 3, 4, 1, 326, 0, 0) := rfl
set_option maxRecDepth 20000 in
theorem ja_Machine_run_131 : jv_at jm_Machine_run.2.2.2.2.2.2 131 = some (.iload_n 3, 1, 0, 0, 0, 0, 0) := rfl
set_option maxRecDepth 20000 in
theorem ja_Machine_run_132 : jv_at jm_Machine_run.2.2.2.2.2.2 132 = some (.iconst 1, 1, 0, 0, 0, 0, 1) := rfl
set_option maxRecDepth 20000 in
theorem ja_Machine_run_133 : jv_at jm_Machine_run.2.2.2.2.2.2 133 = some (.isub, 1, 0, 0, 0, 0, 0) := rfl
set_option maxRecDepth 20000 in
theorem ja_Machine_run_134 : jv_at jm_Machine_run.2.2.2.2.2.2 134 = some (.iload 5, 2, 0, 0, 0, 0, 0) := rfl
set_option maxRecDepth 20000 in
theorem ja_Machine_run_136 : jv_at jm_Machine_run.2.2.2.2.2.2 136 = some (.bipush (-17), 2, 0, 0, 0, 0, -17) := rfl
set_option maxRecDepth 20000 in
theorem ja_Machine_run_138 : jv_at jm_Machine_run.2.2.2.2.2.2 138 = some (.if_icmp .ne 15, 3, 153, 0, 0, 0, 0) := rfl
set_option maxRecDepth 20000 in
theorem ja_Machine_run_141 : jv_at jm_Machine_run.2.2.2.2.2.2 141 = some (.aload_n 0, 1, 0, 0, 0, 0, 0) := rfl
set_option maxRecDepth 20000 in
theorem ja_Machine_run_142 : jv_at jm_Machine_run.2.2.2.2.2.2 142 = some (.getfield 17, 3, 4, 1, 326, 0, 0) := rfl
set_option maxRecDepth 20000 in
theorem ja_Machine_run_145 : jv_at jm_Machine_run.2.2.2.2.2.2 145 = some (.iload_n 3, 1, 0, 0, 0, 0, 0) := rfl
set_option maxRecDepth 20000 in
theorem ja_Machine_run_146 : jv_at jm_Machine_run.2.2.2.2.2.2 146 = some (.iconst 1, 1, 0, 0, 0, 0, 1) := rfl
set_option maxRecDepth 20000 in
theorem ja_Machine_run_147 : jv_at jm_Machine_run.2.2.2.2.2.2 147 = some (.isub, 1, 0, 0, 0, 0, 0) := rfl
set_option maxRecDepth 20000 in
theorem ja_Machine_run_148 : jv_at jm_Machine_run.2.2.2.2.2.2 148 = some (.iaload, 1, 0, 0, 0, 0, 0) := rfl
set_option maxRecDepth 20000 in
theorem ja_Machine_run_149 : jv_at jm_Machine_run.2.2.2.2.2.2 149 = some (.ineg, 1, 0, 0, 0, 0, 0) := rfl
set_option maxRecDepth 20000 in
theorem ja_Machine_run_150 : jv_at jm_Machine_run.2.2.2.2.2.2 150 = some (.goto 19, 3, 169, 0, 0, 0, 0) := rfl
set_option maxRecDepth 20000 in
theorem ja_Machine_run_153 : jv_at jm_Machine_run.2.2.2.2.2.2 153 = some (.aload_n 0, 1, 0, 0, 0, 0, 0) := rfl
set_option maxRecDepth 20000 in
theorem ja_Machine_run_154 : jv_at jm_Machine_run.2.2.2.2.2.2 154 = some (.getfield 17, 3, 4, 1, 326, 0, 0) := rfl
set_option maxRecDepth 20000 in
theorem ja_Machine_run_157 : jv_at jm_Machine_run.2.2.2.2.2.2 157 = some (.iload_n 3, 1, 0, 0, 0, 0, 0) := rfl
set_option maxRecDepth 20000 in
theorem ja_Machine_run_158 : jv_at jm_Machine_run.2.2.2.2.2.2 158 = some (.iconst 1, 1, 0, 0, 0, 0, 1) := rfl
set_option maxRecDepth 20000 in
theorem ja_Machine_run_159 : jv_at jm_Machine_run.2.2.2.2.2.2 159 = some (.isub, 1, 0, 0, 0, 0, 0) := rfl
set_option maxRecDepth 20000 in
theorem ja_Machine_run_160 : jv_at jm_Machine_run.2.2.2.2.2.2 160 = some (.iaload, 1, 0, 0, 0, 0, 0) := rfl
set_option maxRecDepth 20000 in
theorem ja_Machine_run_161 : jv_at jm_Machine_run.2.2.2.2.2.2 161 = some (.ifCond .ne 7, 3, 168, 0, 0, 0, 0) := rfl
set_option maxRecDepth 20000 in
theorem ja_Machine_run_164 : jv_at jm_Machine_run.2.2.2.2.2.2 164 = some (.iconst 1, 1, 0, 0, 0, 0, 1) := rfl
set_option maxRecDepth 20000 in
theorem ja_Machine_run_165 : jv_at jm_Machine_run.2.2.2.2.2.2 165 = some (.goto 4, 3, 169, 0, 0, 0, 0) := rfl
set_option maxRecDepth 20000 in
theorem ja_Machine_run_168 : jv_at jm_Machine_run.2.2.2.2.2.2 168 = some (.iconst 0, 1, 0, 0, 0, 0, 0) := rfl
set_option maxRecDepth 20000 in
theorem ja_Machine_run_169 : jv_at jm_Machine_run.2.2.2.2.2.2 169 = some (.iastore, 1, 0, 0, 0, 0, 0) := rfl
set_option maxRecDepth 20000 in
theorem ja_Machine_run_170 : jv_at jm_Machine_run.2.2.2.2.2.2 170 = some (.goto 40, 3, 210, 0, 0, 0, 0) := rfl
set_option maxRecDepth 20000 in
theorem ja_Machine_run_173 : jv_at jm_Machine_run.2.2.2.2.2.2 173 = some (.iload_n 3, 1, 0, 0, 0, 0, 0) := rfl
set_option maxRecDepth 20000 in
theorem ja_Machine_run_174 : jv_at jm_Machine_run.2.2.2.2.2.2 174 = some (.iconst 2, 1, 0, 0, 0, 0, 2) := rfl
set_option maxRecDepth 20000 in
theorem ja_Machine_run_175 : jv_at jm_Machine_run.2.2.2.2.2.2 175 = some (.if_icmp .ge 5, 3, 180, 0, 0, 0, 0) := rfl
set_option maxRecDepth 20000 in
theorem ja_Machine_run_178 : jv_at jm_Machine_run.2.2.2.2.2.2 178 = some (.iconst 0, 1, 0, 0, 0, 0, 0) := rfl
set_option maxRecDepth 20000 in
theorem ja_Machine_run_179 : jv_at jm_Machine_run.2.2.2.2.2.2 179 = some (.ireturn, 1, 0, 0, 0, 0, 0) := rfl
set_option maxRecDepth 20000 in
theorem ja_Machine_run_180 : jv_at jm_Machine_run.2.2.2.2.2.2 180 = some (.iinc 3 (-1), 3, 0, 0, 0, 0, 0) := rfl
set_option maxRecDepth 20000 in
theorem ja_Machine_run_183 : jv_at jm_Machine_run.2.2.2.2.2.2 183 = some (.aload_n 0, 1, 0, 0, 0, 0, 0) := rfl
set_option maxRecDepth 20000 in
theorem ja_Machine_run_184 : jv_at jm_Machine_run.2.2.2.2.2.2 184 = some (.getfield 17, 3, 4, 1, 326, 0, 0) := rfl
set_option maxRecDepth 20000 in
theorem ja_Machine_run_187 : jv_at jm_Machine_run.2.2.2.2.2.2 187 = some (.iload_n 3, 1, 0, 0, 0, 0, 0) := rfl
set_option maxRecDepth 20000 in
theorem ja_Machine_run_188 : jv_at jm_Machine_run.2.2.2.2.2.2 188 = some (.iconst 1, 1, 0, 0, 0, 0, 1) := rfl
set_option maxRecDepth 20000 in
theorem ja_Machine_run_189 : jv_at jm_Machine_run.2.2.2.2.2.2 189 = some (.isub, 1, 0, 0, 0, 0, 0) := rfl
set_option maxRecDepth 20000 in
theorem ja_Machine_run_190 : jv_at jm_Machine_run.2.2.2.2.2.2 190 = some (.iload 5, 2, 0, 0, 0, 0, 0) := rfl
set_option maxRecDepth 20000 in
theorem ja_Machine_run_192 : jv_at jm_Machine_run.2.2.2.2.2.2 192 = some (.aload_n 0, 1, 0, 0, 0, 0, 0) := rfl
set_option maxRecDepth 20000 in
theorem ja_Machine_run_193 : jv_at jm_Machine_run.2.2.2.2.2.2 193 = some (.getfield 17, 3, 4, 1, 326, 0, 0) := rfl
set_option maxRecDepth 20000 in
theorem ja_Machine_run_196 : jv_at jm_Machine_run.2.2.2.2.2.2 196 = some (.iload_n 3, 1, 0, 0, 0, 0, 0) := rfl
set_option maxRecDepth 20000 in
theorem ja_Machine_run_197 : jv_at jm_Machine_run.2.2.2.2.2.2 197 = some (.iconst 1, 1, 0, 0, 0, 0, 1) := rfl
set_option maxRecDepth 20000 in
theorem ja_Machine_run_198 : jv_at jm_Machine_run.2.2.2.2.2.2 198 = some (.isub, 1, 0, 0, 0, 0, 0) := rfl
set_option maxRecDepth 20000 in
theorem ja_Machine_run_199 : jv_at jm_Machine_run.2.2.2.2.2.2 199 = some (.iaload, 1, 0, 0, 0, 0, 0) := rfl
set_option maxRecDepth 20000 in
theorem ja_Machine_run_200 : jv_at jm_Machine_run.2.2.2.2.2.2 200 = some (.aload_n 0, 1, 0, 0, 0, 0, 0) := rfl
set_option maxRecDepth 20000 in
theorem ja_Machine_run_201 : jv_at jm_Machine_run.2.2.2.2.2.2 201 = some (.getfield 17, 3, 4, 1, 326, 0, 0) := rfl
set_option maxRecDepth 20000 in
theorem ja_Machine_run_204 : jv_at jm_Machine_run.2.2.2.2.2.2 204 = some (.iload_n 3, 1, 0, 0, 0, 0, 0) := rfl
set_option maxRecDepth 20000 in
theorem ja_Machine_run_205 : jv_at jm_Machine_run.2.2.2.2.2.2 205 = some (.iaload, 1, 0, 0, 0, 0, 0) := rfl
set_option maxRecDepth 20000 in
theorem ja_Machine_run_206 : jv_at jm_Machine_run.2.2.2.2.2.2 206 = some (.invokestatic 28, 3, 79, 1, 722, 4, 3) := rfl
set_option maxRecDepth 20000 in
theorem ja_Machine_run_209 : jv_at jm_Machine_run.2.2.2.2.2.2 209 = some (.iastore, 1, 0, 0, 0, 0, 0) := rfl
set_option maxRecDepth 20000 in
theorem ja_Machine_run_210 : jv_at jm_Machine_run.2.2.2.2.2.2 210 = some (.iinc 4 1, 3, 0, 0, 0, 0, 0) := rfl
set_option maxRecDepth 20000 in
theorem ja_Machine_run_213 : jv_at jm_Machine_run.2.2.2.2.2.2 213 = some (.goto (-192), 3, 21, 0, 0, 0, 0) := rfl
set_option maxRecDepth 20000 in
theorem ja_Machine_run_216 : jv_at jm_Machine_run.2.2.2.2.2.2 216 = some (.iload_n 3, 1, 0, 0, 0, 0, 0) := rfl
set_option maxRecDepth 20000 in
theorem ja_Machine_run_217 : jv_at jm_Machine_run.2.2.2.2.2.2 217 = some (.iconst 1, 1, 0, 0, 0, 0, 1) := rfl
set_option maxRecDepth 20000 in
theorem ja_Machine_run_218 : jv_at jm_Machine_run.2.2.2.2.2.2 218 = some (.if_icmp .ge 7, 3, 225, 0, 0, 0, 0) := rfl
set_option maxRecDepth 20000 in
theorem ja_Machine_run_221 : jv_at jm_Machine_run.2.2.2.2.2.2 221 = some (.iconst 0, 1, 0, 0, 0, 0, 0) := rfl
set_option maxRecDepth 20000 in
theorem ja_Machine_run_222 : jv_at jm_Machine_run.2.2.2.2.2.2 222 = some (.goto 11, 3, 233, 0, 0, 0, 0) := rfl
set_option maxRecDepth 20000 in
theorem ja_Machine_run_225 : jv_at jm_Machine_run.2.2.2.2.2.2 225 = some (.aload_n 0, 1, 0, 0, 0, 0, 0) := rfl
set_option maxRecDepth 20000 in
theorem ja_Machine_run_226 : jv_at jm_Machine_run.2.2.2.2.2.2 226 = some (.getfield 17, 3, 4, 1, 326, 0, 0) := rfl
set_option maxRecDepth 20000 in
theorem ja_Machine_run_229 : jv_at jm_Machine_run.2.2.2.2.2.2 229 = some (.iload_n 3, 1, 0, 0, 0, 0, 0) := rfl
set_option maxRecDepth 20000 in
theorem ja_Machine_run_230 : jv_at jm_Machine_run.2.2.2.2.2.2 230 = some (.iconst 1, 1, 0, 0, 0, 0, 1) := rfl
set_option maxRecDepth 20000 in
theorem ja_Machine_run_231 : jv_at jm_Machine_run.2.2.2.2.2.2 231 = some (.isub, 1, 0, 0, 0, 0, 0) := rfl
set_option maxRecDepth 20000 in
theorem ja_Machine_run_232 : jv_at jm_Machine_run.2.2.2.2.2.2 232 = some (.iaload, 1, 0, 0, 0, 0, 0) := rfl
set_option maxRecDepth 20000 in
theorem ja_Machine_run_233 : jv_at jm_Machine_run.2.2.2.2.2.2 233 = some (.ireturn, 1, 0, 0, 0, 0, 0) := rfl
set_option maxRecDepth 20000 in
theorem ja_Machine_joined_0 : jv_at jm_Machine_joined.2.2.2.2.2.2 0 = some (.iload_n 0, 1, 0, 0, 0, 0, 0) := rfl
set_option maxRecDepth 20000 in
theorem ja_Machine_joined_1 : jv_at jm_Machine_joined.2.2.2.2.2.2 1 = some (.tableswitch 109 (-16) (-9) #[105, 101, 97, 86, 75, 109, 61, 47], 47, 0, 0, 0, 0, 0) := rfl
set_option maxRecDepth 20000 in
theorem ja_Machine_joined_48 : jv_at jm_Machine_joined.2.2.2.2.2.2 48 = some (.iload_n 1, 1, 0, 0, 0, 0, 0) := rfl
set_option maxRecDepth 20000 in
theorem ja_Machine_joined_49 : jv_at jm_Machine_joined.2.2.2.2.2.2 49 = some (.ifCond .ne 7, 3, 56, 0, 0, 0, 0) := rfl
set_option maxRecDepth 20000 in
theorem ja_Machine_joined_52 : jv_at jm_Machine_joined.2.2.2.2.2.2 52 = some (.iload_n 2, 1, 0, 0, 0, 0, 0) := rfl
set_option maxRecDepth 20000 in
theorem ja_Machine_joined_53 : jv_at jm_Machine_joined.2.2.2.2.2.2 53 = some (.ifCond .eq 7, 3, 60, 0, 0, 0, 0) := rfl
set_option maxRecDepth 20000 in
theorem ja_Machine_joined_56 : jv_at jm_Machine_joined.2.2.2.2.2.2 56 = some (.iconst 1, 1, 0, 0, 0, 0, 1) := rfl
set_option maxRecDepth 20000 in
theorem ja_Machine_joined_57 : jv_at jm_Machine_joined.2.2.2.2.2.2 57 = some (.goto 4, 3, 61, 0, 0, 0, 0) := rfl
set_option maxRecDepth 20000 in
theorem ja_Machine_joined_60 : jv_at jm_Machine_joined.2.2.2.2.2.2 60 = some (.iconst 0, 1, 0, 0, 0, 0, 0) := rfl
set_option maxRecDepth 20000 in
theorem ja_Machine_joined_61 : jv_at jm_Machine_joined.2.2.2.2.2.2 61 = some (.ireturn, 1, 0, 0, 0, 0, 0) := rfl
set_option maxRecDepth 20000 in
theorem ja_Machine_joined_62 : jv_at jm_Machine_joined.2.2.2.2.2.2 62 = some (.iload_n 1, 1, 0, 0, 0, 0, 0) := rfl
set_option maxRecDepth 20000 in
theorem ja_Machine_joined_63 : jv_at jm_Machine_joined.2.2.2.2.2.2 63 = some (.ifCond .eq 11, 3, 74, 0, 0, 0, 0) := rfl
set_option maxRecDepth 20000 in
theorem ja_Machine_joined_66 : jv_at jm_Machine_joined.2.2.2.2.2.2 66 = some (.iload_n 2, 1, 0, 0, 0, 0, 0) := rfl
set_option maxRecDepth 20000 in
theorem ja_Machine_joined_67 : jv_at jm_Machine_joined.2.2.2.2.2.2 67 = some (.ifCond .eq 7, 3, 74, 0, 0, 0, 0) := rfl
set_option maxRecDepth 20000 in
theorem ja_Machine_joined_70 : jv_at jm_Machine_joined.2.2.2.2.2.2 70 = some (.iconst 1, 1, 0, 0, 0, 0, 1) := rfl
set_option maxRecDepth 20000 in
theorem ja_Machine_joined_71 : jv_at jm_Machine_joined.2.2.2.2.2.2 71 = some (.goto 4, 3, 75, 0, 0, 0, 0) := rfl
set_option maxRecDepth 20000 in
theorem ja_Machine_joined_74 : jv_at jm_Machine_joined.2.2.2.2.2.2 74 = some (.iconst 0, 1, 0, 0, 0, 0, 0) := rfl
set_option maxRecDepth 20000 in
theorem ja_Machine_joined_75 : jv_at jm_Machine_joined.2.2.2.2.2.2 75 = some (.ireturn, 1, 0, 0, 0, 0, 0) := rfl
set_option maxRecDepth 20000 in
theorem ja_Machine_joined_76 : jv_at jm_Machine_joined.2.2.2.2.2.2 76 = some (.iload_n 1, 1, 0, 0, 0, 0, 0) := rfl
set_option maxRecDepth 20000 in
theorem ja_Machine_joined_77 : jv_at jm_Machine_joined.2.2.2.2.2.2 77 = some (.iload_n 2, 1, 0, 0, 0, 0, 0) := rfl
set_option maxRecDepth 20000 in
theorem ja_Machine_joined_78 : jv_at jm_Machine_joined.2.2.2.2.2.2 78 = some (.if_icmp .ge 7, 3, 85, 0, 0, 0, 0) := rfl
set_option maxRecDepth 20000 in
theorem ja_Machine_joined_81 : jv_at jm_Machine_joined.2.2.2.2.2.2 81 = some (.iconst 1, 1, 0, 0, 0, 0, 1) := rfl
set_option maxRecDepth 20000 in
theorem ja_Machine_joined_82 : jv_at jm_Machine_joined.2.2.2.2.2.2 82 = some (.goto 4, 3, 86, 0, 0, 0, 0) := rfl
set_option maxRecDepth 20000 in
theorem ja_Machine_joined_85 : jv_at jm_Machine_joined.2.2.2.2.2.2 85 = some (.iconst 0, 1, 0, 0, 0, 0, 0) := rfl
set_option maxRecDepth 20000 in
theorem ja_Machine_joined_86 : jv_at jm_Machine_joined.2.2.2.2.2.2 86 = some (.ireturn, 1, 0, 0, 0, 0, 0) := rfl
set_option maxRecDepth 20000 in
theorem ja_Machine_joined_87 : jv_at jm_Machine_joined.2.2.2.2.2.2 87 = some (.iload_n 1, 1, 0, 0, 0, 0, 0) := rfl
set_option maxRecDepth 20000 in
theorem ja_Machine_joined_88 : jv_at jm_Machine_joined.2.2.2.2.2.2 88 = some (.iload_n 2, 1, 0, 0, 0, 0, 0) := rfl
set_option maxRecDepth 20000 in
theorem ja_Machine_joined_89 : jv_at jm_Machine_joined.2.2.2.2.2.2 89 = some (.if_icmp .ne 7, 3, 96, 0, 0, 0, 0) := rfl
set_option maxRecDepth 20000 in
theorem ja_Machine_joined_92 : jv_at jm_Machine_joined.2.2.2.2.2.2 92 = some (.iconst 1, 1, 0, 0, 0, 0, 1) := rfl
set_option maxRecDepth 20000 in
theorem ja_Machine_joined_93 : jv_at jm_Machine_joined.2.2.2.2.2.2 93 = some (.goto 4, 3, 97, 0, 0, 0, 0) := rfl
set_option maxRecDepth 20000 in
theorem ja_Machine_joined_96 : jv_at jm_Machine_joined.2.2.2.2.2.2 96 = some (.iconst 0, 1, 0, 0, 0, 0, 0) := rfl
set_option maxRecDepth 20000 in
theorem ja_Machine_joined_97 : jv_at jm_Machine_joined.2.2.2.2.2.2 97 = some (.ireturn, 1, 0, 0, 0, 0, 0) := rfl
set_option maxRecDepth 20000 in
theorem ja_Machine_joined_98 : jv_at jm_Machine_joined.2.2.2.2.2.2 98 = some (.iload_n 1, 1, 0, 0, 0, 0, 0) := rfl
set_option maxRecDepth 20000 in
theorem ja_Machine_joined_99 : jv_at jm_Machine_joined.2.2.2.2.2.2 99 = some (.iload_n 2, 1, 0, 0, 0, 0, 0) := rfl
set_option maxRecDepth 20000 in
theorem ja_Machine_joined_100 : jv_at jm_Machine_joined.2.2.2.2.2.2 100 = some (.iadd, 1, 0, 0, 0, 0, 0) := rfl
set_option maxRecDepth 20000 in
theorem ja_Machine_joined_101 : jv_at jm_Machine_joined.2.2.2.2.2.2 101 = some (.ireturn, 1, 0, 0, 0, 0, 0) := rfl
set_option maxRecDepth 20000 in
theorem ja_Machine_joined_102 : jv_at jm_Machine_joined.2.2.2.2.2.2 102 = some (.iload_n 1, 1, 0, 0, 0, 0, 0) := rfl
set_option maxRecDepth 20000 in
theorem ja_Machine_joined_103 : jv_at jm_Machine_joined.2.2.2.2.2.2 103 = some (.iload_n 2, 1, 0, 0, 0, 0, 0) := rfl
set_option maxRecDepth 20000 in
theorem ja_Machine_joined_104 : jv_at jm_Machine_joined.2.2.2.2.2.2 104 = some (.isub, 1, 0, 0, 0, 0, 0) := rfl
set_option maxRecDepth 20000 in
theorem ja_Machine_joined_105 : jv_at jm_Machine_joined.2.2.2.2.2.2 105 = some (.ireturn, 1, 0, 0, 0, 0, 0) := rfl
set_option maxRecDepth 20000 in
theorem ja_Machine_joined_106 : jv_at jm_Machine_joined.2.2.2.2.2.2 106 = some (.iload_n 1, 1, 0, 0, 0, 0, 0) := rfl
set_option maxRecDepth 20000 in
theorem ja_Machine_joined_107 : jv_at jm_Machine_joined.2.2.2.2.2.2 107 = some (.iload_n 2, 1, 0, 0, 0, 0, 0) := rfl
set_option maxRecDepth 20000 in
theorem ja_Machine_joined_108 : jv_at jm_Machine_joined.2.2.2.2.2.2 108 = some (.imul, 1, 0, 0, 0, 0, 0) := rfl
set_option maxRecDepth 20000 in
theorem ja_Machine_joined_109 : jv_at jm_Machine_joined.2.2.2.2.2.2 109 = some (.ireturn, 1, 0, 0, 0, 0, 0) := rfl
set_option maxRecDepth 20000 in
theorem ja_Machine_joined_110 : jv_at jm_Machine_joined.2.2.2.2.2.2 110 = some (.iconst 0, 1, 0, 0, 0, 0, 0) := rfl
set_option maxRecDepth 20000 in
theorem ja_Machine_joined_111 : jv_at jm_Machine_joined.2.2.2.2.2.2 111 = some (.ireturn, 1, 0, 0, 0, 0, 0) := rfl
set_option maxRecDepth 20000 in
theorem ja_Sections_has_0 : jv_at jm_Sections_has.2.2.2.2.2.2 0 = some (.iload_n 2, 1, 0, 0, 0, 0, 0) := rfl
set_option maxRecDepth 20000 in
theorem ja_Sections_has_1 : jv_at jm_Sections_has.2.2.2.2.2.2 1 = some (.ifCond .lt 31, 3, 32, 0, 0, 0, 0) := rfl
set_option maxRecDepth 20000 in
theorem ja_Sections_has_4 : jv_at jm_Sections_has.2.2.2.2.2.2 4 = some (.iload_n 1, 1, 0, 0, 0, 0, 0) := rfl
set_option maxRecDepth 20000 in
theorem ja_Sections_has_5 : jv_at jm_Sections_has.2.2.2.2.2.2 5 = some (.iconst 2, 1, 0, 0, 0, 0, 2) := rfl
set_option maxRecDepth 20000 in
theorem ja_Sections_has_6 : jv_at jm_Sections_has.2.2.2.2.2.2 6 = some (.if_icmp .ne 14, 3, 20, 0, 0, 0, 0) := rfl
set_option maxRecDepth 20000 in
theorem ja_Sections_has_9 : jv_at jm_Sections_has.2.2.2.2.2.2 9 = some (.iload_n 2, 1, 0, 0, 0, 0, 0) := rfl
set_option maxRecDepth 20000 in
theorem ja_Sections_has_10 : jv_at jm_Sections_has.2.2.2.2.2.2 10 = some (.aload_n 0, 1, 0, 0, 0, 0, 0) := rfl
set_option maxRecDepth 20000 in
theorem ja_Sections_has_11 : jv_at jm_Sections_has.2.2.2.2.2.2 11 = some (.getfield 15, 3, 8, 0, 150, 0, 0) := rfl
set_option maxRecDepth 20000 in
theorem ja_Sections_has_14 : jv_at jm_Sections_has.2.2.2.2.2.2 14 = some (.if_icmp .gt 18, 3, 32, 0, 0, 0, 0) := rfl
set_option maxRecDepth 20000 in
theorem ja_Sections_has_17 : jv_at jm_Sections_has.2.2.2.2.2.2 17 = some (.goto 11, 3, 28, 0, 0, 0, 0) := rfl
set_option maxRecDepth 20000 in
theorem ja_Sections_has_20 : jv_at jm_Sections_has.2.2.2.2.2.2 20 = some (.iload_n 2, 1, 0, 0, 0, 0, 0) := rfl
set_option maxRecDepth 20000 in
theorem ja_Sections_has_21 : jv_at jm_Sections_has.2.2.2.2.2.2 21 = some (.aload_n 0, 1, 0, 0, 0, 0, 0) := rfl
set_option maxRecDepth 20000 in
theorem ja_Sections_has_22 : jv_at jm_Sections_has.2.2.2.2.2.2 22 = some (.getfield 15, 3, 8, 0, 150, 0, 0) := rfl
set_option maxRecDepth 20000 in
theorem ja_Sections_has_25 : jv_at jm_Sections_has.2.2.2.2.2.2 25 = some (.if_icmp .ge 7, 3, 32, 0, 0, 0, 0) := rfl
set_option maxRecDepth 20000 in
theorem ja_Sections_has_28 : jv_at jm_Sections_has.2.2.2.2.2.2 28 = some (.iconst 1, 1, 0, 0, 0, 0, 1) := rfl
set_option maxRecDepth 20000 in
theorem ja_Sections_has_29 : jv_at jm_Sections_has.2.2.2.2.2.2 29 = some (.goto 4, 3, 33, 0, 0, 0, 0) := rfl
set_option maxRecDepth 20000 in
theorem ja_Sections_has_32 : jv_at jm_Sections_has.2.2.2.2.2.2 32 = some (.iconst 0, 1, 0, 0, 0, 0, 0) := rfl
set_option maxRecDepth 20000 in
theorem ja_Sections_has_33 : jv_at jm_Sections_has.2.2.2.2.2.2 33 = some (.ireturn, 1, 0, 0, 0, 0, 0) := rfl
set_option maxRecDepth 20000 in
theorem ja_Motions_has_0 : jv_at jm_Motions_has.2.2.2.2.2.2 0 = some (.iload_n 1, 1, 0, 0, 0, 0, 0) := rfl
set_option maxRecDepth 20000 in
theorem ja_Motions_has_1 : jv_at jm_Motions_has.2.2.2.2.2.2 1 = some (.ifCond .lt 23, 3, 24, 0, 0, 0, 0) := rfl
set_option maxRecDepth 20000 in
theorem ja_Motions_has_4 : jv_at jm_Motions_has.2.2.2.2.2.2 4 = some (.iload_n 1, 1, 0, 0, 0, 0, 0) := rfl
set_option maxRecDepth 20000 in
theorem ja_Motions_has_5 : jv_at jm_Motions_has.2.2.2.2.2.2 5 = some (.aload_n 0, 1, 0, 0, 0, 0, 0) := rfl
set_option maxRecDepth 20000 in
theorem ja_Motions_has_6 : jv_at jm_Motions_has.2.2.2.2.2.2 6 = some (.getfield 26, 3, 6, 0, 180, 0, 0) := rfl
set_option maxRecDepth 20000 in
theorem ja_Motions_has_9 : jv_at jm_Motions_has.2.2.2.2.2.2 9 = some (.if_icmp .ge 15, 3, 24, 0, 0, 0, 0) := rfl
set_option maxRecDepth 20000 in
theorem ja_Motions_has_12 : jv_at jm_Motions_has.2.2.2.2.2.2 12 = some (.iload_n 1, 1, 0, 0, 0, 0, 0) := rfl
set_option maxRecDepth 20000 in
theorem ja_Motions_has_13 : jv_at jm_Motions_has.2.2.2.2.2.2 13 = some (.aload_n 0, 1, 0, 0, 0, 0, 0) := rfl
set_option maxRecDepth 20000 in
theorem ja_Motions_has_14 : jv_at jm_Motions_has.2.2.2.2.2.2 14 = some (.getfield 7, 3, 6, 1, 183, 0, 0) := rfl
set_option maxRecDepth 20000 in
theorem ja_Motions_has_17 : jv_at jm_Motions_has.2.2.2.2.2.2 17 = some (.if_icmp .ge 7, 3, 24, 0, 0, 0, 0) := rfl
set_option maxRecDepth 20000 in
theorem ja_Motions_has_20 : jv_at jm_Motions_has.2.2.2.2.2.2 20 = some (.iconst 1, 1, 0, 0, 0, 0, 1) := rfl
set_option maxRecDepth 20000 in
theorem ja_Motions_has_21 : jv_at jm_Motions_has.2.2.2.2.2.2 21 = some (.goto 4, 3, 25, 0, 0, 0, 0) := rfl
set_option maxRecDepth 20000 in
theorem ja_Motions_has_24 : jv_at jm_Motions_has.2.2.2.2.2.2 24 = some (.iconst 0, 1, 0, 0, 0, 0, 0) := rfl
set_option maxRecDepth 20000 in
theorem ja_Motions_has_25 : jv_at jm_Motions_has.2.2.2.2.2.2 25 = some (.ireturn, 1, 0, 0, 0, 0, 0) := rfl
set_option maxRecDepth 20000 in
theorem ja_Motions_isFull_0 : jv_at jm_Motions_isFull.2.2.2.2.2.2 0 = some (.aload_n 0, 1, 0, 0, 0, 0, 0) := rfl
set_option maxRecDepth 20000 in
theorem ja_Motions_isFull_1 : jv_at jm_Motions_isFull.2.2.2.2.2.2 1 = some (.getfield 26, 3, 6, 0, 180, 0, 0) := rfl
set_option maxRecDepth 20000 in
theorem ja_Motions_isFull_4 : jv_at jm_Motions_isFull.2.2.2.2.2.2 4 = some (.aload_n 0, 1, 0, 0, 0, 0, 0) := rfl
set_option maxRecDepth 20000 in
theorem ja_Motions_isFull_5 : jv_at jm_Motions_isFull.2.2.2.2.2.2 5 = some (.getfield 7, 3, 6, 1, 183, 0, 0) := rfl
set_option maxRecDepth 20000 in
theorem ja_Motions_isFull_8 : jv_at jm_Motions_isFull.2.2.2.2.2.2 8 = some (.if_icmp .lt 7, 3, 15, 0, 0, 0, 0) := rfl
set_option maxRecDepth 20000 in
theorem ja_Motions_isFull_11 : jv_at jm_Motions_isFull.2.2.2.2.2.2 11 = some (.iconst 1, 1, 0, 0, 0, 0, 1) := rfl
set_option maxRecDepth 20000 in
theorem ja_Motions_isFull_12 : jv_at jm_Motions_isFull.2.2.2.2.2.2 12 = some (.goto 4, 3, 16, 0, 0, 0, 0) := rfl
set_option maxRecDepth 20000 in
theorem ja_Motions_isFull_15 : jv_at jm_Motions_isFull.2.2.2.2.2.2 15 = some (.iconst 0, 1, 0, 0, 0, 0, 0) := rfl
set_option maxRecDepth 20000 in
theorem ja_Motions_isFull_16 : jv_at jm_Motions_isFull.2.2.2.2.2.2 16 = some (.ireturn, 1, 0, 0, 0, 0, 0) := rfl
set_option maxRecDepth 20000 in
theorem ja_Motions_push_0 : jv_at jm_Motions_push.2.2.2.2.2.2 0 = some (.aload_n 0, 1, 0, 0, 0, 0, 0) := rfl
set_option maxRecDepth 20000 in
theorem ja_Motions_push_1 : jv_at jm_Motions_push.2.2.2.2.2.2 1 = some (.getfield 26, 3, 6, 0, 180, 0, 0) := rfl
set_option maxRecDepth 20000 in
theorem ja_Motions_push_4 : jv_at jm_Motions_push.2.2.2.2.2.2 4 = some (.ifCond .lt 10, 3, 14, 0, 0, 0, 0) := rfl
set_option maxRecDepth 20000 in
theorem ja_Motions_push_7 : jv_at jm_Motions_push.2.2.2.2.2.2 7 = some (.aload_n 0, 1, 0, 0, 0, 0, 0) := rfl
set_option maxRecDepth 20000 in
theorem ja_Motions_push_8 : jv_at jm_Motions_push.2.2.2.2.2.2 8 = some (.invokevirtual 29, 3, 89, 0, 767, 6, 0) := rfl
set_option maxRecDepth 20000 in
theorem ja_Motions_push_11 : jv_at jm_Motions_push.2.2.2.2.2.2 11 = some (.ifCond .eq 4, 3, 15, 0, 0, 0, 0) := rfl
set_option maxRecDepth 20000 in
theorem ja_Motions_push_14 : jv_at jm_Motions_push.2.2.2.2.2.2 14 = some (.return_, 1, 0, 0, 0, 0, 0) := rfl
set_option maxRecDepth 20000 in
theorem ja_Motions_push_15 : jv_at jm_Motions_push.2.2.2.2.2.2 15 = some (.aload_n 0, 1, 0, 0, 0, 0, 0) := rfl
set_option maxRecDepth 20000 in
theorem ja_Motions_push_16 : jv_at jm_Motions_push.2.2.2.2.2.2 16 = some (.getfield 13, 3, 6, 2, 184, 0, 0) := rfl
set_option maxRecDepth 20000 in
theorem ja_Motions_push_19 : jv_at jm_Motions_push.2.2.2.2.2.2 19 = some (.aload_n 0, 1, 0, 0, 0, 0, 0) := rfl
set_option maxRecDepth 20000 in
theorem ja_Motions_push_20 : jv_at jm_Motions_push.2.2.2.2.2.2 20 = some (.getfield 26, 3, 6, 0, 180, 0, 0) := rfl
set_option maxRecDepth 20000 in
theorem ja_Motions_push_23 : jv_at jm_Motions_push.2.2.2.2.2.2 23 = some (.iload_n 1, 1, 0, 0, 0, 0, 0) := rfl
set_option maxRecDepth 20000 in
theorem ja_Motions_push_24 : jv_at jm_Motions_push.2.2.2.2.2.2 24 = some (.iastore, 1, 0, 0, 0, 0, 0) := rfl
set_option maxRecDepth 20000 in
theorem ja_Motions_push_25 : jv_at jm_Motions_push.2.2.2.2.2.2 25 = some (.aload_n 0, 1, 0, 0, 0, 0, 0) := rfl
set_option maxRecDepth 20000 in
theorem ja_Motions_push_26 : jv_at jm_Motions_push.2.2.2.2.2.2 26 = some (.getfield 17, 3, 6, 3, 186, 0, 0) := rfl
set_option maxRecDepth 20000 in
theorem ja_Motions_push_29 : jv_at jm_Motions_push.2.2.2.2.2.2 29 = some (.aload_n 0, 1, 0, 0, 0, 0, 0) := rfl
set_option maxRecDepth 20000 in
theorem ja_Motions_push_30 : jv_at jm_Motions_push.2.2.2.2.2.2 30 = some (.getfield 26, 3, 6, 0, 180, 0, 0) := rfl
set_option maxRecDepth 20000 in
theorem ja_Motions_push_33 : jv_at jm_Motions_push.2.2.2.2.2.2 33 = some (.iload_n 2, 1, 0, 0, 0, 0, 0) := rfl
set_option maxRecDepth 20000 in
theorem ja_Motions_push_34 : jv_at jm_Motions_push.2.2.2.2.2.2 34 = some (.iastore, 1, 0, 0, 0, 0, 0) := rfl
set_option maxRecDepth 20000 in
theorem ja_Motions_push_35 : jv_at jm_Motions_push.2.2.2.2.2.2 35 = some (.aload_n 0, 1, 0, 0, 0, 0, 0) := rfl
set_option maxRecDepth 20000 in
theorem ja_Motions_push_36 : jv_at jm_Motions_push.2.2.2.2.2.2 36 = some (.getfield 20, 3, 6, 4, 188, 0, 0) := rfl
set_option maxRecDepth 20000 in
theorem ja_Motions_push_39 : jv_at jm_Motions_push.2.2.2.2.2.2 39 = some (.aload_n 0, 1, 0, 0, 0, 0, 0) := rfl
set_option maxRecDepth 20000 in
theorem ja_Motions_push_40 : jv_at jm_Motions_push.2.2.2.2.2.2 40 = some (.getfield 26, 3, 6, 0, 180, 0, 0) := rfl
set_option maxRecDepth 20000 in
theorem ja_Motions_push_43 : jv_at jm_Motions_push.2.2.2.2.2.2 43 = some (.iload_n 3, 1, 0, 0, 0, 0, 0) := rfl
set_option maxRecDepth 20000 in
theorem ja_Motions_push_44 : jv_at jm_Motions_push.2.2.2.2.2.2 44 = some (.iastore, 1, 0, 0, 0, 0, 0) := rfl
set_option maxRecDepth 20000 in
theorem ja_Motions_push_45 : jv_at jm_Motions_push.2.2.2.2.2.2 45 = some (.aload_n 0, 1, 0, 0, 0, 0, 0) := rfl
set_option maxRecDepth 20000 in
theorem ja_Motions_push_46 : jv_at jm_Motions_push.2.2.2.2.2.2 46 = some (.getfield 23, 3, 6, 5, 191, 0, 0) := rfl
set_option maxRecDepth 20000 in
theorem ja_Motions_push_49 : jv_at jm_Motions_push.2.2.2.2.2.2 49 = some (.aload_n 0, 1, 0, 0, 0, 0, 0) := rfl
set_option maxRecDepth 20000 in
theorem ja_Motions_push_50 : jv_at jm_Motions_push.2.2.2.2.2.2 50 = some (.getfield 26, 3, 6, 0, 180, 0, 0) := rfl
set_option maxRecDepth 20000 in
theorem ja_Motions_push_53 : jv_at jm_Motions_push.2.2.2.2.2.2 53 = some (.iload 4, 2, 0, 0, 0, 0, 0) := rfl
set_option maxRecDepth 20000 in
theorem ja_Motions_push_55 : jv_at jm_Motions_push.2.2.2.2.2.2 55 = some (.iastore, 1, 0, 0, 0, 0, 0) := rfl
set_option maxRecDepth 20000 in
theorem ja_Motions_push_56 : jv_at jm_Motions_push.2.2.2.2.2.2 56 = some (.aload_n 0, 1, 0, 0, 0, 0, 0) := rfl
set_option maxRecDepth 20000 in
theorem ja_Motions_push_57 : jv_at jm_Motions_push.2.2.2.2.2.2 57 = some (.dup, 1, 0, 0, 0, 0, 0) := rfl
set_option maxRecDepth 20000 in
theorem ja_Motions_push_58 : jv_at jm_Motions_push.2.2.2.2.2.2 58 = some (.getfield 26, 3, 6, 0, 180, 0, 0) := rfl
set_option maxRecDepth 20000 in
theorem ja_Motions_push_61 : jv_at jm_Motions_push.2.2.2.2.2.2 61 = some (.iconst 1, 1, 0, 0, 0, 0, 1) := rfl
set_option maxRecDepth 20000 in
theorem ja_Motions_push_62 : jv_at jm_Motions_push.2.2.2.2.2.2 62 = some (.iadd, 1, 0, 0, 0, 0, 0) := rfl
set_option maxRecDepth 20000 in
theorem ja_Motions_push_63 : jv_at jm_Motions_push.2.2.2.2.2.2 63 = some (.putfield 26, 3, 6, 0, 180, 0, 0) := rfl
set_option maxRecDepth 20000 in
theorem ja_Motions_push_66 : jv_at jm_Motions_push.2.2.2.2.2.2 66 = some (.return_, 1, 0, 0, 0, 0, 0) := rfl
set_option maxRecDepth 20000 in
theorem ja_Sections_gain_0 : jv_at jm_Sections_gain.2.2.2.2.2.2 0 = some (.aload_n 0, 1, 0, 0, 0, 0, 0) := rfl
set_option maxRecDepth 20000 in
theorem ja_Sections_gain_1 : jv_at jm_Sections_gain.2.2.2.2.2.2 1 = some (.iload_n 2, 1, 0, 0, 0, 0, 0) := rfl
set_option maxRecDepth 20000 in
theorem ja_Sections_gain_2 : jv_at jm_Sections_gain.2.2.2.2.2.2 2 = some (.iload_n 3, 1, 0, 0, 0, 0, 0) := rfl
set_option maxRecDepth 20000 in
theorem ja_Sections_gain_3 : jv_at jm_Sections_gain.2.2.2.2.2.2 3 = some (.invokevirtual 25, 3, 55, 0, 622, 8, 2) := rfl
set_option maxRecDepth 20000 in
theorem ja_Sections_gain_6 : jv_at jm_Sections_gain.2.2.2.2.2.2 6 = some (.ifCond .ne 5, 3, 11, 0, 0, 0, 0) := rfl
set_option maxRecDepth 20000 in
theorem ja_Sections_gain_9 : jv_at jm_Sections_gain.2.2.2.2.2.2 9 = some (.iconst 0, 1, 0, 0, 0, 0, 0) := rfl
set_option maxRecDepth 20000 in
theorem ja_Sections_gain_10 : jv_at jm_Sections_gain.2.2.2.2.2.2 10 = some (.ireturn, 1, 0, 0, 0, 0, 0) := rfl
set_option maxRecDepth 20000 in
theorem ja_Sections_gain_11 : jv_at jm_Sections_gain.2.2.2.2.2.2 11 = some (.iload_n 2, 1, 0, 0, 0, 0, 0) := rfl
set_option maxRecDepth 20000 in
theorem ja_Sections_gain_12 : jv_at jm_Sections_gain.2.2.2.2.2.2 12 = some (.iconst 1, 1, 0, 0, 0, 0, 1) := rfl
set_option maxRecDepth 20000 in
theorem ja_Sections_gain_13 : jv_at jm_Sections_gain.2.2.2.2.2.2 13 = some (.if_icmp .ne 7, 3, 20, 0, 0, 0, 0) := rfl
set_option maxRecDepth 20000 in
theorem ja_Sections_gain_16 : jv_at jm_Sections_gain.2.2.2.2.2.2 16 = some (.iconst 0, 1, 0, 0, 0, 0, 0) := rfl
set_option maxRecDepth 20000 in
theorem ja_Sections_gain_17 : jv_at jm_Sections_gain.2.2.2.2.2.2 17 = some (.goto 9, 3, 26, 0, 0, 0, 0) := rfl
set_option maxRecDepth 20000 in
theorem ja_Sections_gain_20 : jv_at jm_Sections_gain.2.2.2.2.2.2 20 = some (.aload_n 1, 1, 0, 0, 0, 0, 0) := rfl
set_option maxRecDepth 20000 in
theorem ja_Sections_gain_21 : jv_at jm_Sections_gain.2.2.2.2.2.2 21 = some (.iload 4, 2, 0, 0, 0, 0, 0) := rfl
set_option maxRecDepth 20000 in
theorem ja_Sections_gain_23 : jv_at jm_Sections_gain.2.2.2.2.2.2 23 = some (.invokevirtual 19, 3, 44, 0, 665, 5, 1) := rfl
set_option maxRecDepth 20000 in
theorem ja_Sections_gain_26 : jv_at jm_Sections_gain.2.2.2.2.2.2 26 = some (.istore 5, 2, 0, 0, 0, 0, 0) := rfl
set_option maxRecDepth 20000 in
theorem ja_Sections_gain_28 : jv_at jm_Sections_gain.2.2.2.2.2.2 28 = some (.iload_n 2, 1, 0, 0, 0, 0, 0) := rfl
set_option maxRecDepth 20000 in
theorem ja_Sections_gain_29 : jv_at jm_Sections_gain.2.2.2.2.2.2 29 = some (.iconst 2, 1, 0, 0, 0, 0, 2) := rfl
set_option maxRecDepth 20000 in
theorem ja_Sections_gain_30 : jv_at jm_Sections_gain.2.2.2.2.2.2 30 = some (.if_icmp .ne 7, 3, 37, 0, 0, 0, 0) := rfl
set_option maxRecDepth 20000 in
theorem ja_Sections_gain_33 : jv_at jm_Sections_gain.2.2.2.2.2.2 33 = some (.iconst 0, 1, 0, 0, 0, 0, 0) := rfl
set_option maxRecDepth 20000 in
theorem ja_Sections_gain_34 : jv_at jm_Sections_gain.2.2.2.2.2.2 34 = some (.goto 12, 3, 46, 0, 0, 0, 0) := rfl
set_option maxRecDepth 20000 in
theorem ja_Sections_gain_37 : jv_at jm_Sections_gain.2.2.2.2.2.2 37 = some (.aload_n 1, 1, 0, 0, 0, 0, 0) := rfl
set_option maxRecDepth 20000 in
theorem ja_Sections_gain_38 : jv_at jm_Sections_gain.2.2.2.2.2.2 38 = some (.aload_n 0, 1, 0, 0, 0, 0, 0) := rfl
set_option maxRecDepth 20000 in
theorem ja_Sections_gain_39 : jv_at jm_Sections_gain.2.2.2.2.2.2 39 = some (.iload_n 3, 1, 0, 0, 0, 0, 0) := rfl
set_option maxRecDepth 20000 in
theorem ja_Sections_gain_40 : jv_at jm_Sections_gain.2.2.2.2.2.2 40 = some (.invokevirtual 29, 3, 62, 0, 791, 8, 1) := rfl
set_option maxRecDepth 20000 in
theorem ja_Sections_gain_43 : jv_at jm_Sections_gain.2.2.2.2.2.2 43 = some (.invokevirtual 19, 3, 44, 0, 665, 5, 1) := rfl
set_option maxRecDepth 20000 in
theorem ja_Sections_gain_46 : jv_at jm_Sections_gain.2.2.2.2.2.2 46 = some (.istore 6, 2, 0, 0, 0, 0, 0) := rfl
set_option maxRecDepth 20000 in
theorem ja_Sections_gain_48 : jv_at jm_Sections_gain.2.2.2.2.2.2 48 = some (.iload 5, 2, 0, 0, 0, 0, 0) := rfl
set_option maxRecDepth 20000 in
theorem ja_Sections_gain_50 : jv_at jm_Sections_gain.2.2.2.2.2.2 50 = some (.iload 6, 2, 0, 0, 0, 0, 0) := rfl
set_option maxRecDepth 20000 in
theorem ja_Sections_gain_52 : jv_at jm_Sections_gain.2.2.2.2.2.2 52 = some (.isub, 1, 0, 0, 0, 0, 0) := rfl
set_option maxRecDepth 20000 in
theorem ja_Sections_gain_53 : jv_at jm_Sections_gain.2.2.2.2.2.2 53 = some (.ireturn, 1, 0, 0, 0, 0, 0) := rfl
set_option maxRecDepth 20000 in
theorem ja_Foresight_namesEachOnce_0 : jv_at jm_Foresight_namesEachOnce.2.2.2.2.2.2 0 = some (.iload_n 1, 1, 0, 0, 0, 0, 0) := rfl
set_option maxRecDepth 20000 in
theorem ja_Foresight_namesEachOnce_1 : jv_at jm_Foresight_namesEachOnce.2.2.2.2.2.2 1 = some (.istore_n 2, 1, 0, 0, 0, 0, 0) := rfl
set_option maxRecDepth 20000 in
theorem ja_Foresight_namesEachOnce_2 : jv_at jm_Foresight_namesEachOnce.2.2.2.2.2.2 2 = some (.iconst 0, 1, 0, 0, 0, 0, 0) := rfl
set_option maxRecDepth 20000 in
theorem ja_Foresight_namesEachOnce_3 : jv_at jm_Foresight_namesEachOnce.2.2.2.2.2.2 3 = some (.istore_n 3, 1, 0, 0, 0, 0, 0) := rfl
set_option maxRecDepth 20000 in
theorem ja_Foresight_namesEachOnce_4 : jv_at jm_Foresight_namesEachOnce.2.2.2.2.2.2 4 = some (.iconst 0, 1, 0, 0, 0, 0, 0) := rfl
set_option maxRecDepth 20000 in
theorem ja_Foresight_namesEachOnce_5 : jv_at jm_Foresight_namesEachOnce.2.2.2.2.2.2 5 = some (.istore 4, 2, 0, 0, 0, 0, 0) := rfl
set_option maxRecDepth 20000 in
theorem ja_Foresight_namesEachOnce_7 : jv_at jm_Foresight_namesEachOnce.2.2.2.2.2.2 7 = some (.iload 4, 2, 0, 0, 0, 0, 0) := rfl
set_option maxRecDepth 20000 in
theorem ja_Foresight_namesEachOnce_9 : jv_at jm_Foresight_namesEachOnce.2.2.2.2.2.2 9 = some (.aload_n 0, 1, 0, 0, 0, 0, 0) := rfl
set_option maxRecDepth 20000 in
theorem ja_Foresight_namesEachOnce_10 : jv_at jm_Foresight_namesEachOnce.2.2.2.2.2.2 10 = some (.getfield 14, 3, 3, 0, 239, 0, 0) := rfl
set_option maxRecDepth 20000 in
theorem ja_Foresight_namesEachOnce_13 : jv_at jm_Foresight_namesEachOnce.2.2.2.2.2.2 13 = some (.getfield 47, 3, 6, 0, 181, 0, 0) := rfl
set_option maxRecDepth 20000 in
theorem ja_Foresight_namesEachOnce_16 : jv_at jm_Foresight_namesEachOnce.2.2.2.2.2.2 16 = some (.if_icmp .ge 50, 3, 66, 0, 0, 0, 0) := rfl
set_option maxRecDepth 20000 in
theorem ja_Foresight_namesEachOnce_19 : jv_at jm_Foresight_namesEachOnce.2.2.2.2.2.2 19 = some (.iload_n 2, 1, 0, 0, 0, 0, 0) := rfl
set_option maxRecDepth 20000 in
theorem ja_Foresight_namesEachOnce_20 : jv_at jm_Foresight_namesEachOnce.2.2.2.2.2.2 20 = some (.bipush 6, 2, 0, 0, 0, 0, 6) := rfl
set_option maxRecDepth 20000 in
theorem ja_Foresight_namesEachOnce_22 : jv_at jm_Foresight_namesEachOnce.2.2.2.2.2.2 22 = some (.irem, 1, 0, 0, 0, 0, 0) := rfl
set_option maxRecDepth 20000 in
theorem ja_Foresight_namesEachOnce_23 : jv_at jm_Foresight_namesEachOnce.2.2.2.2.2.2 23 = some (.istore 5, 2, 0, 0, 0, 0, 0) := rfl
set_option maxRecDepth 20000 in
theorem ja_Foresight_namesEachOnce_25 : jv_at jm_Foresight_namesEachOnce.2.2.2.2.2.2 25 = some (.aload_n 0, 1, 0, 0, 0, 0, 0) := rfl
set_option maxRecDepth 20000 in
theorem ja_Foresight_namesEachOnce_26 : jv_at jm_Foresight_namesEachOnce.2.2.2.2.2.2 26 = some (.getfield 14, 3, 3, 0, 239, 0, 0) := rfl
set_option maxRecDepth 20000 in
theorem ja_Foresight_namesEachOnce_29 : jv_at jm_Foresight_namesEachOnce.2.2.2.2.2.2 29 = some (.iload 5, 2, 0, 0, 0, 0, 0) := rfl
set_option maxRecDepth 20000 in
theorem ja_Foresight_namesEachOnce_31 : jv_at jm_Foresight_namesEachOnce.2.2.2.2.2.2 31 = some (.invokevirtual 53, 3, 86, 0, 840, 6, 1) := rfl
set_option maxRecDepth 20000 in
theorem ja_Foresight_namesEachOnce_34 : jv_at jm_Foresight_namesEachOnce.2.2.2.2.2.2 34 = some (.ifCond .eq 12, 3, 46, 0, 0, 0, 0) := rfl
set_option maxRecDepth 20000 in
theorem ja_Foresight_namesEachOnce_37 : jv_at jm_Foresight_namesEachOnce.2.2.2.2.2.2 37 = some (.iload_n 3, 1, 0, 0, 0, 0, 0) := rfl
set_option maxRecDepth 20000 in
theorem ja_Foresight_namesEachOnce_38 : jv_at jm_Foresight_namesEachOnce.2.2.2.2.2.2 38 = some (.iload 5, 2, 0, 0, 0, 0, 0) := rfl
set_option maxRecDepth 20000 in
theorem ja_Foresight_namesEachOnce_40 : jv_at jm_Foresight_namesEachOnce.2.2.2.2.2.2 40 = some (.ishr, 1, 0, 0, 0, 0, 0) := rfl
set_option maxRecDepth 20000 in
theorem ja_Foresight_namesEachOnce_41 : jv_at jm_Foresight_namesEachOnce.2.2.2.2.2.2 41 = some (.iconst 1, 1, 0, 0, 0, 0, 1) := rfl
set_option maxRecDepth 20000 in
theorem ja_Foresight_namesEachOnce_42 : jv_at jm_Foresight_namesEachOnce.2.2.2.2.2.2 42 = some (.iand, 1, 0, 0, 0, 0, 0) := rfl
set_option maxRecDepth 20000 in
theorem ja_Foresight_namesEachOnce_43 : jv_at jm_Foresight_namesEachOnce.2.2.2.2.2.2 43 = some (.ifCond .eq 5, 3, 48, 0, 0, 0, 0) := rfl
set_option maxRecDepth 20000 in
theorem ja_Foresight_namesEachOnce_46 : jv_at jm_Foresight_namesEachOnce.2.2.2.2.2.2 46 = some (.iconst 0, 1, 0, 0, 0, 0, 0) := rfl
set_option maxRecDepth 20000 in
theorem ja_Foresight_namesEachOnce_47 : jv_at jm_Foresight_namesEachOnce.2.2.2.2.2.2 47 = some (.ireturn, 1, 0, 0, 0, 0, 0) := rfl
set_option maxRecDepth 20000 in
theorem ja_Foresight_namesEachOnce_48 : jv_at jm_Foresight_namesEachOnce.2.2.2.2.2.2 48 = some (.iload_n 3, 1, 0, 0, 0, 0, 0) := rfl
set_option maxRecDepth 20000 in
theorem ja_Foresight_namesEachOnce_49 : jv_at jm_Foresight_namesEachOnce.2.2.2.2.2.2 49 = some (.iconst 1, 1, 0, 0, 0, 0, 1) := rfl
set_option maxRecDepth 20000 in
theorem ja_Foresight_namesEachOnce_50 : jv_at jm_Foresight_namesEachOnce.2.2.2.2.2.2 50 = some (.iload 5, 2, 0, 0, 0, 0, 0) := rfl
set_option maxRecDepth 20000 in
theorem ja_Foresight_namesEachOnce_52 : jv_at jm_Foresight_namesEachOnce.2.2.2.2.2.2 52 = some (.ishl, 1, 0, 0, 0, 0, 0) := rfl
set_option maxRecDepth 20000 in
theorem ja_Foresight_namesEachOnce_53 : jv_at jm_Foresight_namesEachOnce.2.2.2.2.2.2 53 = some (.ior, 1, 0, 0, 0, 0, 0) := rfl
set_option maxRecDepth 20000 in
theorem ja_Foresight_namesEachOnce_54 : jv_at jm_Foresight_namesEachOnce.2.2.2.2.2.2 54 = some (.istore_n 3, 1, 0, 0, 0, 0, 0) := rfl
set_option maxRecDepth 20000 in
theorem ja_Foresight_namesEachOnce_55 : jv_at jm_Foresight_namesEachOnce.2.2.2.2.2.2 55 = some (.iload_n 2, 1, 0, 0, 0, 0, 0) := rfl
set_option maxRecDepth 20000 in
theorem ja_Foresight_namesEachOnce_56 : jv_at jm_Foresight_namesEachOnce.2.2.2.2.2.2 56 = some (.bipush 6, 2, 0, 0, 0, 0, 6) := rfl
set_option maxRecDepth 20000 in
theorem ja_Foresight_namesEachOnce_58 : jv_at jm_Foresight_namesEachOnce.2.2.2.2.2.2 58 = some (.idiv, 1, 0, 0, 0, 0, 0) := rfl
set_option maxRecDepth 20000 in
theorem ja_Foresight_namesEachOnce_59 : jv_at jm_Foresight_namesEachOnce.2.2.2.2.2.2 59 = some (.istore_n 2, 1, 0, 0, 0, 0, 0) := rfl
set_option maxRecDepth 20000 in
theorem ja_Foresight_namesEachOnce_60 : jv_at jm_Foresight_namesEachOnce.2.2.2.2.2.2 60 = some (.iinc 4 1, 3, 0, 0, 0, 0, 0) := rfl
set_option maxRecDepth 20000 in
theorem ja_Foresight_namesEachOnce_63 : jv_at jm_Foresight_namesEachOnce.2.2.2.2.2.2 63 = some (.goto (-56), 3, 7, 0, 0, 0, 0) := rfl
set_option maxRecDepth 20000 in
theorem ja_Foresight_namesEachOnce_66 : jv_at jm_Foresight_namesEachOnce.2.2.2.2.2.2 66 = some (.iload_n 2, 1, 0, 0, 0, 0, 0) := rfl
set_option maxRecDepth 20000 in
theorem ja_Foresight_namesEachOnce_67 : jv_at jm_Foresight_namesEachOnce.2.2.2.2.2.2 67 = some (.ifCond .ne 7, 3, 74, 0, 0, 0, 0) := rfl
set_option maxRecDepth 20000 in
theorem ja_Foresight_namesEachOnce_70 : jv_at jm_Foresight_namesEachOnce.2.2.2.2.2.2 70 = some (.iconst 1, 1, 0, 0, 0, 0, 1) := rfl
set_option maxRecDepth 20000 in
theorem ja_Foresight_namesEachOnce_71 : jv_at jm_Foresight_namesEachOnce.2.2.2.2.2.2 71 = some (.goto 4, 3, 75, 0, 0, 0, 0) := rfl
set_option maxRecDepth 20000 in
theorem ja_Foresight_namesEachOnce_74 : jv_at jm_Foresight_namesEachOnce.2.2.2.2.2.2 74 = some (.iconst 0, 1, 0, 0, 0, 0, 0) := rfl
set_option maxRecDepth 20000 in
theorem ja_Foresight_namesEachOnce_75 : jv_at jm_Foresight_namesEachOnce.2.2.2.2.2.2 75 = some (.ireturn, 1, 0, 0, 0, 0, 0) := rfl
set_option maxRecDepth 20000 in
theorem ja_Foresight_begin_0 : jv_at jm_Foresight_begin.2.2.2.2.2.2 0 = some (.aload_n 0, 1, 0, 0, 0, 0, 0) := rfl
set_option maxRecDepth 20000 in
theorem ja_Foresight_begin_1 : jv_at jm_Foresight_begin.2.2.2.2.2.2 1 = some (.iconst (-1), 1, 0, 0, 0, 0, -1) := rfl
set_option maxRecDepth 20000 in
theorem ja_Foresight_begin_2 : jv_at jm_Foresight_begin.2.2.2.2.2.2 2 = some (.putfield 39, 3, 3, 4, 247, 0, 0) := rfl
set_option maxRecDepth 20000 in
theorem ja_Foresight_begin_5 : jv_at jm_Foresight_begin.2.2.2.2.2.2 5 = some (.aload_n 0, 1, 0, 0, 0, 0, 0) := rfl
set_option maxRecDepth 20000 in
theorem ja_Foresight_begin_6 : jv_at jm_Foresight_begin.2.2.2.2.2.2 6 = some (.getfield 22, 3, 3, 1, 241, 0, 0) := rfl
set_option maxRecDepth 20000 in
theorem ja_Foresight_begin_9 : jv_at jm_Foresight_begin.2.2.2.2.2.2 9 = some (.iconst 0, 1, 0, 0, 0, 0, 0) := rfl
set_option maxRecDepth 20000 in
theorem ja_Foresight_begin_10 : jv_at jm_Foresight_begin.2.2.2.2.2.2 10 = some (.aaload, 1, 0, 0, 0, 0, 0) := rfl
set_option maxRecDepth 20000 in
theorem ja_Foresight_begin_11 : jv_at jm_Foresight_begin.2.2.2.2.2.2 11 = some (.aload_n 1, 1, 0, 0, 0, 0, 0) := rfl
set_option maxRecDepth 20000 in
theorem ja_Foresight_begin_12 : jv_at jm_Foresight_begin.2.2.2.2.2.2 12 = some (.invokevirtual 43, 3, 110, 0, 845, 8, 1) := rfl
set_option maxRecDepth 20000 in
theorem ja_Foresight_begin_15 : jv_at jm_Foresight_begin.2.2.2.2.2.2 15 = some (.iconst 0, 1, 0, 0, 0, 0, 0) := rfl
set_option maxRecDepth 20000 in
theorem ja_Foresight_begin_16 : jv_at jm_Foresight_begin.2.2.2.2.2.2 16 = some (.istore_n 2, 1, 0, 0, 0, 0, 0) := rfl
set_option maxRecDepth 20000 in
theorem ja_Foresight_begin_17 : jv_at jm_Foresight_begin.2.2.2.2.2.2 17 = some (.iload_n 2, 1, 0, 0, 0, 0, 0) := rfl
set_option maxRecDepth 20000 in
theorem ja_Foresight_begin_18 : jv_at jm_Foresight_begin.2.2.2.2.2.2 18 = some (.aload_n 0, 1, 0, 0, 0, 0, 0) := rfl
set_option maxRecDepth 20000 in
theorem ja_Foresight_begin_19 : jv_at jm_Foresight_begin.2.2.2.2.2.2 19 = some (.getfield 14, 3, 3, 0, 239, 0, 0) := rfl
set_option maxRecDepth 20000 in
theorem ja_Foresight_begin_22 : jv_at jm_Foresight_begin.2.2.2.2.2.2 22 = some (.getfield 47, 3, 6, 0, 181, 0, 0) := rfl
set_option maxRecDepth 20000 in
theorem ja_Foresight_begin_25 : jv_at jm_Foresight_begin.2.2.2.2.2.2 25 = some (.if_icmp .ge 31, 3, 56, 0, 0, 0, 0) := rfl
set_option maxRecDepth 20000 in
theorem ja_Foresight_begin_28 : jv_at jm_Foresight_begin.2.2.2.2.2.2 28 = some (.iload_n 2, 1, 0, 0, 0, 0, 0) := rfl
set_option maxRecDepth 20000 in
theorem ja_Foresight_begin_29 : jv_at jm_Foresight_begin.2.2.2.2.2.2 29 = some (.iconst 5, 1, 0, 0, 0, 0, 5) := rfl
set_option maxRecDepth 20000 in
theorem ja_Foresight_begin_30 : jv_at jm_Foresight_begin.2.2.2.2.2.2 30 = some (.if_icmp .ge 26, 3, 56, 0, 0, 0, 0) := rfl
set_option maxRecDepth 20000 in
theorem ja_Foresight_begin_33 : jv_at jm_Foresight_begin.2.2.2.2.2.2 33 = some (.aload_n 0, 1, 0, 0, 0, 0, 0) := rfl
set_option maxRecDepth 20000 in
theorem ja_Foresight_begin_34 : jv_at jm_Foresight_begin.2.2.2.2.2.2 34 = some (.getfield 28, 3, 3, 2, 243, 0, 0) := rfl
set_option maxRecDepth 20000 in
theorem ja_Foresight_begin_37 : jv_at jm_Foresight_begin.2.2.2.2.2.2 37 = some (.iconst 0, 1, 0, 0, 0, 0, 0) := rfl
set_option maxRecDepth 20000 in
theorem ja_Foresight_begin_38 : jv_at jm_Foresight_begin.2.2.2.2.2.2 38 = some (.aaload, 1, 0, 0, 0, 0, 0) := rfl
set_option maxRecDepth 20000 in
theorem ja_Foresight_begin_39 : jv_at jm_Foresight_begin.2.2.2.2.2.2 39 = some (.iload_n 2, 1, 0, 0, 0, 0, 0) := rfl
set_option maxRecDepth 20000 in
theorem ja_Foresight_begin_40 : jv_at jm_Foresight_begin.2.2.2.2.2.2 40 = some (.aload_n 0, 1, 0, 0, 0, 0, 0) := rfl
set_option maxRecDepth 20000 in
theorem ja_Foresight_begin_41 : jv_at jm_Foresight_begin.2.2.2.2.2.2 41 = some (.getfield 14, 3, 3, 0, 239, 0, 0) := rfl
set_option maxRecDepth 20000 in
theorem ja_Foresight_begin_44 : jv_at jm_Foresight_begin.2.2.2.2.2.2 44 = some (.getfield 50, 3, 6, 4, 189, 0, 0) := rfl
set_option maxRecDepth 20000 in
theorem ja_Foresight_begin_47 : jv_at jm_Foresight_begin.2.2.2.2.2.2 47 = some (.iload_n 2, 1, 0, 0, 0, 0, 0) := rfl
set_option maxRecDepth 20000 in
theorem ja_Foresight_begin_48 : jv_at jm_Foresight_begin.2.2.2.2.2.2 48 = some (.iaload, 1, 0, 0, 0, 0, 0) := rfl
set_option maxRecDepth 20000 in
theorem ja_Foresight_begin_49 : jv_at jm_Foresight_begin.2.2.2.2.2.2 49 = some (.iastore, 1, 0, 0, 0, 0, 0) := rfl
set_option maxRecDepth 20000 in
theorem ja_Foresight_begin_50 : jv_at jm_Foresight_begin.2.2.2.2.2.2 50 = some (.iinc 2 1, 3, 0, 0, 0, 0, 0) := rfl
set_option maxRecDepth 20000 in
theorem ja_Foresight_begin_53 : jv_at jm_Foresight_begin.2.2.2.2.2.2 53 = some (.goto (-36), 3, 17, 0, 0, 0, 0) := rfl
set_option maxRecDepth 20000 in
theorem ja_Foresight_begin_56 : jv_at jm_Foresight_begin.2.2.2.2.2.2 56 = some (.return_, 1, 0, 0, 0, 0, 0) := rfl
set_option maxRecDepth 20000 in
theorem ja_Sections_copyFrom_0 : jv_at jm_Sections_copyFrom.2.2.2.2.2.2 0 = some (.aload_n 0, 1, 0, 0, 0, 0, 0) := rfl
set_option maxRecDepth 20000 in
theorem ja_Sections_copyFrom_1 : jv_at jm_Sections_copyFrom.2.2.2.2.2.2 1 = some (.aload_n 1, 1, 0, 0, 0, 0, 0) := rfl
set_option maxRecDepth 20000 in
theorem ja_Sections_copyFrom_2 : jv_at jm_Sections_copyFrom.2.2.2.2.2.2 2 = some (.getfield 15, 3, 8, 0, 150, 0, 0) := rfl
set_option maxRecDepth 20000 in
theorem ja_Sections_copyFrom_5 : jv_at jm_Sections_copyFrom.2.2.2.2.2.2 5 = some (.putfield 15, 3, 8, 0, 150, 0, 0) := rfl
set_option maxRecDepth 20000 in
theorem ja_Sections_copyFrom_8 : jv_at jm_Sections_copyFrom.2.2.2.2.2.2 8 = some (.iconst 0, 1, 0, 0, 0, 0, 0) := rfl
set_option maxRecDepth 20000 in
theorem ja_Sections_copyFrom_9 : jv_at jm_Sections_copyFrom.2.2.2.2.2.2 9 = some (.istore_n 2, 1, 0, 0, 0, 0, 0) := rfl
set_option maxRecDepth 20000 in
theorem ja_Sections_copyFrom_10 : jv_at jm_Sections_copyFrom.2.2.2.2.2.2 10 = some (.iload_n 2, 1, 0, 0, 0, 0, 0) := rfl
set_option maxRecDepth 20000 in
theorem ja_Sections_copyFrom_11 : jv_at jm_Sections_copyFrom.2.2.2.2.2.2 11 = some (.aload_n 0, 1, 0, 0, 0, 0, 0) := rfl
set_option maxRecDepth 20000 in
theorem ja_Sections_copyFrom_12 : jv_at jm_Sections_copyFrom.2.2.2.2.2.2 12 = some (.getfield 15, 3, 8, 0, 150, 0, 0) := rfl
set_option maxRecDepth 20000 in
theorem ja_Sections_copyFrom_15 : jv_at jm_Sections_copyFrom.2.2.2.2.2.2 15 = some (.if_icmp .ge 30, 3, 45, 0, 0, 0, 0) := rfl
set_option maxRecDepth 20000 in
theorem ja_Sections_copyFrom_18 : jv_at jm_Sections_copyFrom.2.2.2.2.2.2 18 = some (.iload_n 2, 1, 0, 0, 0, 0, 0) := rfl
set_option maxRecDepth 20000 in
theorem ja_Sections_copyFrom_19 : jv_at jm_Sections_copyFrom.2.2.2.2.2.2 19 = some (.aload_n 0, 1, 0, 0, 0, 0, 0) := rfl
set_option maxRecDepth 20000 in
theorem ja_Sections_copyFrom_20 : jv_at jm_Sections_copyFrom.2.2.2.2.2.2 20 = some (.getfield 9, 3, 8, 1, 153, 0, 0) := rfl
set_option maxRecDepth 20000 in
theorem ja_Sections_copyFrom_23 : jv_at jm_Sections_copyFrom.2.2.2.2.2.2 23 = some (.arraylength, 1, 0, 0, 0, 0, 0) := rfl
set_option maxRecDepth 20000 in
theorem ja_Sections_copyFrom_24 : jv_at jm_Sections_copyFrom.2.2.2.2.2.2 24 = some (.if_icmp .ge 21, 3, 45, 0, 0, 0, 0) := rfl
set_option maxRecDepth 20000 in
theorem ja_Sections_copyFrom_27 : jv_at jm_Sections_copyFrom.2.2.2.2.2.2 27 = some (.aload_n 0, 1, 0, 0, 0, 0, 0) := rfl
set_option maxRecDepth 20000 in
theorem ja_Sections_copyFrom_28 : jv_at jm_Sections_copyFrom.2.2.2.2.2.2 28 = some (.getfield 9, 3, 8, 1, 153, 0, 0) := rfl
set_option maxRecDepth 20000 in
theorem ja_Sections_copyFrom_31 : jv_at jm_Sections_copyFrom.2.2.2.2.2.2 31 = some (.iload_n 2, 1, 0, 0, 0, 0, 0) := rfl
set_option maxRecDepth 20000 in
theorem ja_Sections_copyFrom_32 : jv_at jm_Sections_copyFrom.2.2.2.2.2.2 32 = some (.aload_n 1, 1, 0, 0, 0, 0, 0) := rfl
set_option maxRecDepth 20000 in
theorem ja_Sections_copyFrom_33 : jv_at jm_Sections_copyFrom.2.2.2.2.2.2 33 = some (.getfield 9, 3, 8, 1, 153, 0, 0) := rfl
set_option maxRecDepth 20000 in
theorem ja_Sections_copyFrom_36 : jv_at jm_Sections_copyFrom.2.2.2.2.2.2 36 = some (.iload_n 2, 1, 0, 0, 0, 0, 0) := rfl
set_option maxRecDepth 20000 in
theorem ja_Sections_copyFrom_37 : jv_at jm_Sections_copyFrom.2.2.2.2.2.2 37 = some (.iaload, 1, 0, 0, 0, 0, 0) := rfl
set_option maxRecDepth 20000 in
theorem ja_Sections_copyFrom_38 : jv_at jm_Sections_copyFrom.2.2.2.2.2.2 38 = some (.iastore, 1, 0, 0, 0, 0, 0) := rfl
set_option maxRecDepth 20000 in
theorem ja_Sections_copyFrom_39 : jv_at jm_Sections_copyFrom.2.2.2.2.2.2 39 = some (.iinc 2 1, 3, 0, 0, 0, 0, 0) := rfl
set_option maxRecDepth 20000 in
theorem ja_Sections_copyFrom_42 : jv_at jm_Sections_copyFrom.2.2.2.2.2.2 42 = some (.goto (-32), 3, 10, 0, 0, 0, 0) := rfl
set_option maxRecDepth 20000 in
theorem ja_Sections_copyFrom_45 : jv_at jm_Sections_copyFrom.2.2.2.2.2.2 45 = some (.return_, 1, 0, 0, 0, 0, 0) := rfl
set_option maxRecDepth 20000 in
theorem ja_Foresight_goesOn_0 : jv_at jm_Foresight_goesOn.2.2.2.2.2.2 0 = some (.iload_n 1, 1, 0, 0, 0, 0, 0) := rfl
set_option maxRecDepth 20000 in
theorem ja_Foresight_goesOn_1 : jv_at jm_Foresight_goesOn.2.2.2.2.2.2 1 = some (.ifCond .lt 8, 3, 9, 0, 0, 0, 0) := rfl
set_option maxRecDepth 20000 in
theorem ja_Foresight_goesOn_4 : jv_at jm_Foresight_goesOn.2.2.2.2.2.2 4 = some (.iload_n 1, 1, 0, 0, 0, 0, 0) := rfl
set_option maxRecDepth 20000 in
theorem ja_Foresight_goesOn_5 : jv_at jm_Foresight_goesOn.2.2.2.2.2.2 5 = some (.iconst 5, 1, 0, 0, 0, 0, 5) := rfl
set_option maxRecDepth 20000 in
theorem ja_Foresight_goesOn_6 : jv_at jm_Foresight_goesOn.2.2.2.2.2.2 6 = some (.if_icmp .lt 5, 3, 11, 0, 0, 0, 0) := rfl
set_option maxRecDepth 20000 in
theorem ja_Foresight_goesOn_9 : jv_at jm_Foresight_goesOn.2.2.2.2.2.2 9 = some (.iconst 0, 1, 0, 0, 0, 0, 0) := rfl
set_option maxRecDepth 20000 in
theorem ja_Foresight_goesOn_10 : jv_at jm_Foresight_goesOn.2.2.2.2.2.2 10 = some (.ireturn, 1, 0, 0, 0, 0, 0) := rfl
set_option maxRecDepth 20000 in
theorem ja_Foresight_goesOn_11 : jv_at jm_Foresight_goesOn.2.2.2.2.2.2 11 = some (.aload_n 0, 1, 0, 0, 0, 0, 0) := rfl
set_option maxRecDepth 20000 in
theorem ja_Foresight_goesOn_12 : jv_at jm_Foresight_goesOn.2.2.2.2.2.2 12 = some (.getfield 22, 3, 3, 1, 241, 0, 0) := rfl
set_option maxRecDepth 20000 in
theorem ja_Foresight_goesOn_15 : jv_at jm_Foresight_goesOn.2.2.2.2.2.2 15 = some (.iload_n 1, 1, 0, 0, 0, 0, 0) := rfl
set_option maxRecDepth 20000 in
theorem ja_Foresight_goesOn_16 : jv_at jm_Foresight_goesOn.2.2.2.2.2.2 16 = some (.iconst 1, 1, 0, 0, 0, 0, 1) := rfl
set_option maxRecDepth 20000 in
theorem ja_Foresight_goesOn_17 : jv_at jm_Foresight_goesOn.2.2.2.2.2.2 17 = some (.iadd, 1, 0, 0, 0, 0, 0) := rfl
set_option maxRecDepth 20000 in
theorem ja_Foresight_goesOn_18 : jv_at jm_Foresight_goesOn.2.2.2.2.2.2 18 = some (.aaload, 1, 0, 0, 0, 0, 0) := rfl
set_option maxRecDepth 20000 in
theorem ja_Foresight_goesOn_19 : jv_at jm_Foresight_goesOn.2.2.2.2.2.2 19 = some (.aload_n 0, 1, 0, 0, 0, 0, 0) := rfl
set_option maxRecDepth 20000 in
theorem ja_Foresight_goesOn_20 : jv_at jm_Foresight_goesOn.2.2.2.2.2.2 20 = some (.getfield 22, 3, 3, 1, 241, 0, 0) := rfl
set_option maxRecDepth 20000 in
theorem ja_Foresight_goesOn_23 : jv_at jm_Foresight_goesOn.2.2.2.2.2.2 23 = some (.iload_n 1, 1, 0, 0, 0, 0, 0) := rfl
set_option maxRecDepth 20000 in
theorem ja_Foresight_goesOn_24 : jv_at jm_Foresight_goesOn.2.2.2.2.2.2 24 = some (.aaload, 1, 0, 0, 0, 0, 0) := rfl
set_option maxRecDepth 20000 in
theorem ja_Foresight_goesOn_25 : jv_at jm_Foresight_goesOn.2.2.2.2.2.2 25 = some (.invokevirtual 43, 3, 110, 0, 845, 8, 1) := rfl
set_option maxRecDepth 20000 in
theorem ja_Foresight_goesOn_28 : jv_at jm_Foresight_goesOn.2.2.2.2.2.2 28 = some (.iconst 0, 1, 0, 0, 0, 0, 0) := rfl
set_option maxRecDepth 20000 in
theorem ja_Foresight_goesOn_29 : jv_at jm_Foresight_goesOn.2.2.2.2.2.2 29 = some (.istore_n 2, 1, 0, 0, 0, 0, 0) := rfl
set_option maxRecDepth 20000 in
theorem ja_Foresight_goesOn_30 : jv_at jm_Foresight_goesOn.2.2.2.2.2.2 30 = some (.iload_n 2, 1, 0, 0, 0, 0, 0) := rfl
set_option maxRecDepth 20000 in
theorem ja_Foresight_goesOn_31 : jv_at jm_Foresight_goesOn.2.2.2.2.2.2 31 = some (.aload_n 0, 1, 0, 0, 0, 0, 0) := rfl
set_option maxRecDepth 20000 in
theorem ja_Foresight_goesOn_32 : jv_at jm_Foresight_goesOn.2.2.2.2.2.2 32 = some (.getfield 14, 3, 3, 0, 239, 0, 0) := rfl
set_option maxRecDepth 20000 in
theorem ja_Foresight_goesOn_35 : jv_at jm_Foresight_goesOn.2.2.2.2.2.2 35 = some (.getfield 47, 3, 6, 0, 181, 0, 0) := rfl
set_option maxRecDepth 20000 in
theorem ja_Foresight_goesOn_38 : jv_at jm_Foresight_goesOn.2.2.2.2.2.2 38 = some (.if_icmp .ge 32, 3, 70, 0, 0, 0, 0) := rfl
set_option maxRecDepth 20000 in
theorem ja_Foresight_goesOn_41 : jv_at jm_Foresight_goesOn.2.2.2.2.2.2 41 = some (.iload_n 2, 1, 0, 0, 0, 0, 0) := rfl
set_option maxRecDepth 20000 in
theorem ja_Foresight_goesOn_42 : jv_at jm_Foresight_goesOn.2.2.2.2.2.2 42 = some (.iconst 5, 1, 0, 0, 0, 0, 5) := rfl
set_option maxRecDepth 20000 in
theorem ja_Foresight_goesOn_43 : jv_at jm_Foresight_goesOn.2.2.2.2.2.2 43 = some (.if_icmp .ge 27, 3, 70, 0, 0, 0, 0) := rfl
set_option maxRecDepth 20000 in
theorem ja_Foresight_goesOn_46 : jv_at jm_Foresight_goesOn.2.2.2.2.2.2 46 = some (.aload_n 0, 1, 0, 0, 0, 0, 0) := rfl
set_option maxRecDepth 20000 in
theorem ja_Foresight_goesOn_47 : jv_at jm_Foresight_goesOn.2.2.2.2.2.2 47 = some (.getfield 28, 3, 3, 2, 243, 0, 0) := rfl
set_option maxRecDepth 20000 in
theorem ja_Foresight_goesOn_50 : jv_at jm_Foresight_goesOn.2.2.2.2.2.2 50 = some (.iload_n 1, 1, 0, 0, 0, 0, 0) := rfl
set_option maxRecDepth 20000 in
theorem ja_Foresight_goesOn_51 : jv_at jm_Foresight_goesOn.2.2.2.2.2.2 51 = some (.iconst 1, 1, 0, 0, 0, 0, 1) := rfl
set_option maxRecDepth 20000 in
theorem ja_Foresight_goesOn_52 : jv_at jm_Foresight_goesOn.2.2.2.2.2.2 52 = some (.iadd, 1, 0, 0, 0, 0, 0) := rfl
set_option maxRecDepth 20000 in
theorem ja_Foresight_goesOn_53 : jv_at jm_Foresight_goesOn.2.2.2.2.2.2 53 = some (.aaload, 1, 0, 0, 0, 0, 0) := rfl
set_option maxRecDepth 20000 in
theorem ja_Foresight_goesOn_54 : jv_at jm_Foresight_goesOn.2.2.2.2.2.2 54 = some (.iload_n 2, 1, 0, 0, 0, 0, 0) := rfl
set_option maxRecDepth 20000 in
theorem ja_Foresight_goesOn_55 : jv_at jm_Foresight_goesOn.2.2.2.2.2.2 55 = some (.aload_n 0, 1, 0, 0, 0, 0, 0) := rfl
set_option maxRecDepth 20000 in
theorem ja_Foresight_goesOn_56 : jv_at jm_Foresight_goesOn.2.2.2.2.2.2 56 = some (.getfield 28, 3, 3, 2, 243, 0, 0) := rfl
set_option maxRecDepth 20000 in
theorem ja_Foresight_goesOn_59 : jv_at jm_Foresight_goesOn.2.2.2.2.2.2 59 = some (.iload_n 1, 1, 0, 0, 0, 0, 0) := rfl
set_option maxRecDepth 20000 in
theorem ja_Foresight_goesOn_60 : jv_at jm_Foresight_goesOn.2.2.2.2.2.2 60 = some (.aaload, 1, 0, 0, 0, 0, 0) := rfl
set_option maxRecDepth 20000 in
theorem ja_Foresight_goesOn_61 : jv_at jm_Foresight_goesOn.2.2.2.2.2.2 61 = some (.iload_n 2, 1, 0, 0, 0, 0, 0) := rfl
set_option maxRecDepth 20000 in
theorem ja_Foresight_goesOn_62 : jv_at jm_Foresight_goesOn.2.2.2.2.2.2 62 = some (.iaload, 1, 0, 0, 0, 0, 0) := rfl
set_option maxRecDepth 20000 in
theorem ja_Foresight_goesOn_63 : jv_at jm_Foresight_goesOn.2.2.2.2.2.2 63 = some (.iastore, 1, 0, 0, 0, 0, 0) := rfl
set_option maxRecDepth 20000 in
theorem ja_Foresight_goesOn_64 : jv_at jm_Foresight_goesOn.2.2.2.2.2.2 64 = some (.iinc 2 1, 3, 0, 0, 0, 0, 0) := rfl
set_option maxRecDepth 20000 in
theorem ja_Foresight_goesOn_67 : jv_at jm_Foresight_goesOn.2.2.2.2.2.2 67 = some (.goto (-37), 3, 30, 0, 0, 0, 0) := rfl
set_option maxRecDepth 20000 in
theorem ja_Foresight_goesOn_70 : jv_at jm_Foresight_goesOn.2.2.2.2.2.2 70 = some (.iconst 1, 1, 0, 0, 0, 0, 1) := rfl
set_option maxRecDepth 20000 in
theorem ja_Foresight_goesOn_71 : jv_at jm_Foresight_goesOn.2.2.2.2.2.2 71 = some (.ireturn, 1, 0, 0, 0, 0, 0) := rfl
set_option maxRecDepth 20000 in
theorem ja_Foresight_worthBehindAll_0 : jv_at jm_Foresight_worthBehindAll.2.2.2.2.2.2 0 = some (.aload_n 0, 1, 0, 0, 0, 0, 0) := rfl
set_option maxRecDepth 20000 in
theorem ja_Foresight_worthBehindAll_1 : jv_at jm_Foresight_worthBehindAll.2.2.2.2.2.2 1 = some (.getfield 14, 3, 3, 0, 239, 0, 0) := rfl
set_option maxRecDepth 20000 in
theorem ja_Foresight_worthBehindAll_4 : jv_at jm_Foresight_worthBehindAll.2.2.2.2.2.2 4 = some (.getfield 47, 3, 6, 0, 181, 0, 0) := rfl
set_option maxRecDepth 20000 in
theorem ja_Foresight_worthBehindAll_7 : jv_at jm_Foresight_worthBehindAll.2.2.2.2.2.2 7 = some (.ifCond .lt 37, 3, 44, 0, 0, 0, 0) := rfl
set_option maxRecDepth 20000 in
theorem ja_Foresight_worthBehindAll_10 : jv_at jm_Foresight_worthBehindAll.2.2.2.2.2.2 10 = some (.aload_n 0, 1, 0, 0, 0, 0, 0) := rfl
set_option maxRecDepth 20000 in
theorem ja_Foresight_worthBehindAll_11 : jv_at jm_Foresight_worthBehindAll.2.2.2.2.2.2 11 = some (.getfield 14, 3, 3, 0, 239, 0, 0) := rfl
set_option maxRecDepth 20000 in
theorem ja_Foresight_worthBehindAll_14 : jv_at jm_Foresight_worthBehindAll.2.2.2.2.2.2 14 = some (.getfield 47, 3, 6, 0, 181, 0, 0) := rfl
set_option maxRecDepth 20000 in
theorem ja_Foresight_worthBehindAll_17 : jv_at jm_Foresight_worthBehindAll.2.2.2.2.2.2 17 = some (.aload_n 0, 1, 0, 0, 0, 0, 0) := rfl
set_option maxRecDepth 20000 in
theorem ja_Foresight_worthBehindAll_18 : jv_at jm_Foresight_worthBehindAll.2.2.2.2.2.2 18 = some (.getfield 22, 3, 3, 1, 241, 0, 0) := rfl
set_option maxRecDepth 20000 in
theorem ja_Foresight_worthBehindAll_21 : jv_at jm_Foresight_worthBehindAll.2.2.2.2.2.2 21 = some (.arraylength, 1, 0, 0, 0, 0, 0) := rfl
set_option maxRecDepth 20000 in
theorem ja_Foresight_worthBehindAll_22 : jv_at jm_Foresight_worthBehindAll.2.2.2.2.2.2 22 = some (.if_icmp .ge 22, 3, 44, 0, 0, 0, 0) := rfl
set_option maxRecDepth 20000 in
theorem ja_Foresight_worthBehindAll_25 : jv_at jm_Foresight_worthBehindAll.2.2.2.2.2.2 25 = some (.aload_n 0, 1, 0, 0, 0, 0, 0) := rfl
set_option maxRecDepth 20000 in
theorem ja_Foresight_worthBehindAll_26 : jv_at jm_Foresight_worthBehindAll.2.2.2.2.2.2 26 = some (.getfield 22, 3, 3, 1, 241, 0, 0) := rfl
set_option maxRecDepth 20000 in
theorem ja_Foresight_worthBehindAll_29 : jv_at jm_Foresight_worthBehindAll.2.2.2.2.2.2 29 = some (.aload_n 0, 1, 0, 0, 0, 0, 0) := rfl
set_option maxRecDepth 20000 in
theorem ja_Foresight_worthBehindAll_30 : jv_at jm_Foresight_worthBehindAll.2.2.2.2.2.2 30 = some (.getfield 14, 3, 3, 0, 239, 0, 0) := rfl
set_option maxRecDepth 20000 in
theorem ja_Foresight_worthBehindAll_33 : jv_at jm_Foresight_worthBehindAll.2.2.2.2.2.2 33 = some (.getfield 47, 3, 6, 0, 181, 0, 0) := rfl
set_option maxRecDepth 20000 in
theorem ja_Foresight_worthBehindAll_36 : jv_at jm_Foresight_worthBehindAll.2.2.2.2.2.2 36 = some (.aaload, 1, 0, 0, 0, 0, 0) := rfl
set_option maxRecDepth 20000 in
theorem ja_Foresight_worthBehindAll_37 : jv_at jm_Foresight_worthBehindAll.2.2.2.2.2.2 37 = some (.aload_n 1, 1, 0, 0, 0, 0, 0) := rfl
set_option maxRecDepth 20000 in
theorem ja_Foresight_worthBehindAll_38 : jv_at jm_Foresight_worthBehindAll.2.2.2.2.2.2 38 = some (.invokevirtual 57, 3, 64, 0, 862, 8, 1) := rfl
set_option maxRecDepth 20000 in
theorem ja_Foresight_worthBehindAll_41 : jv_at jm_Foresight_worthBehindAll.2.2.2.2.2.2 41 = some (.goto 4, 3, 45, 0, 0, 0, 0) := rfl
set_option maxRecDepth 20000 in
theorem ja_Foresight_worthBehindAll_44 : jv_at jm_Foresight_worthBehindAll.2.2.2.2.2.2 44 = some (.iconst 0, 1, 0, 0, 0, 0, 0) := rfl
set_option maxRecDepth 20000 in
theorem ja_Foresight_worthBehindAll_45 : jv_at jm_Foresight_worthBehindAll.2.2.2.2.2.2 45 = some (.ireturn, 1, 0, 0, 0, 0, 0) := rfl
set_option maxRecDepth 20000 in
theorem ja_Foresight_weigh_0 : jv_at jm_Foresight_weigh.2.2.2.2.2.2 0 = some (.aload_n 0, 1, 0, 0, 0, 0, 0) := rfl
set_option maxRecDepth 20000 in
theorem ja_Foresight_weigh_1 : jv_at jm_Foresight_weigh.2.2.2.2.2.2 1 = some (.getfield 39, 3, 3, 4, 247, 0, 0) := rfl
set_option maxRecDepth 20000 in
theorem ja_Foresight_weigh_4 : jv_at jm_Foresight_weigh.2.2.2.2.2.2 4 = some (.iconst (-1), 1, 0, 0, 0, 0, -1) := rfl
set_option maxRecDepth 20000 in
theorem ja_Foresight_weigh_5 : jv_at jm_Foresight_weigh.2.2.2.2.2.2 5 = some (.if_icmp .eq 27, 3, 32, 0, 0, 0, 0) := rfl
set_option maxRecDepth 20000 in
theorem ja_Foresight_weigh_8 : jv_at jm_Foresight_weigh.2.2.2.2.2.2 8 = some (.iload_n 2, 1, 0, 0, 0, 0, 0) := rfl
set_option maxRecDepth 20000 in
theorem ja_Foresight_weigh_9 : jv_at jm_Foresight_weigh.2.2.2.2.2.2 9 = some (.aload_n 0, 1, 0, 0, 0, 0, 0) := rfl
set_option maxRecDepth 20000 in
theorem ja_Foresight_weigh_10 : jv_at jm_Foresight_weigh.2.2.2.2.2.2 10 = some (.getfield 61, 3, 3, 5, 249, 0, 0) := rfl
set_option maxRecDepth 20000 in
theorem ja_Foresight_weigh_13 : jv_at jm_Foresight_weigh.2.2.2.2.2.2 13 = some (.if_icmp .gt 19, 3, 32, 0, 0, 0, 0) := rfl
set_option maxRecDepth 20000 in
theorem ja_Foresight_weigh_16 : jv_at jm_Foresight_weigh.2.2.2.2.2.2 16 = some (.iload_n 2, 1, 0, 0, 0, 0, 0) := rfl
set_option maxRecDepth 20000 in
theorem ja_Foresight_weigh_17 : jv_at jm_Foresight_weigh.2.2.2.2.2.2 17 = some (.aload_n 0, 1, 0, 0, 0, 0, 0) := rfl
set_option maxRecDepth 20000 in
theorem ja_Foresight_weigh_18 : jv_at jm_Foresight_weigh.2.2.2.2.2.2 18 = some (.getfield 61, 3, 3, 5, 249, 0, 0) := rfl
set_option maxRecDepth 20000 in
theorem ja_Foresight_weigh_21 : jv_at jm_Foresight_weigh.2.2.2.2.2.2 21 = some (.if_icmp .ne 15, 3, 36, 0, 0, 0, 0) := rfl
set_option maxRecDepth 20000 in
theorem ja_Foresight_weigh_24 : jv_at jm_Foresight_weigh.2.2.2.2.2.2 24 = some (.iload_n 1, 1, 0, 0, 0, 0, 0) := rfl
set_option maxRecDepth 20000 in
theorem ja_Foresight_weigh_25 : jv_at jm_Foresight_weigh.2.2.2.2.2.2 25 = some (.aload_n 0, 1, 0, 0, 0, 0, 0) := rfl
set_option maxRecDepth 20000 in
theorem ja_Foresight_weigh_26 : jv_at jm_Foresight_weigh.2.2.2.2.2.2 26 = some (.getfield 39, 3, 3, 4, 247, 0, 0) := rfl
set_option maxRecDepth 20000 in
theorem ja_Foresight_weigh_29 : jv_at jm_Foresight_weigh.2.2.2.2.2.2 29 = some (.if_icmp .ge 7, 3, 36, 0, 0, 0, 0) := rfl
set_option maxRecDepth 20000 in
theorem ja_Foresight_weigh_32 : jv_at jm_Foresight_weigh.2.2.2.2.2.2 32 = some (.iconst 1, 1, 0, 0, 0, 0, 1) := rfl
set_option maxRecDepth 20000 in
theorem ja_Foresight_weigh_33 : jv_at jm_Foresight_weigh.2.2.2.2.2.2 33 = some (.goto 4, 3, 37, 0, 0, 0, 0) := rfl
set_option maxRecDepth 20000 in
theorem ja_Foresight_weigh_36 : jv_at jm_Foresight_weigh.2.2.2.2.2.2 36 = some (.iconst 0, 1, 0, 0, 0, 0, 0) := rfl
set_option maxRecDepth 20000 in
theorem ja_Foresight_weigh_37 : jv_at jm_Foresight_weigh.2.2.2.2.2.2 37 = some (.istore_n 3, 1, 0, 0, 0, 0, 0) := rfl
set_option maxRecDepth 20000 in
theorem ja_Foresight_weigh_38 : jv_at jm_Foresight_weigh.2.2.2.2.2.2 38 = some (.iload_n 3, 1, 0, 0, 0, 0, 0) := rfl
set_option maxRecDepth 20000 in
theorem ja_Foresight_weigh_39 : jv_at jm_Foresight_weigh.2.2.2.2.2.2 39 = some (.ifCond .ne 4, 3, 43, 0, 0, 0, 0) := rfl
set_option maxRecDepth 20000 in
theorem ja_Foresight_weigh_42 : jv_at jm_Foresight_weigh.2.2.2.2.2.2 42 = some (.return_, 1, 0, 0, 0, 0, 0) := rfl
set_option maxRecDepth 20000 in
theorem ja_Foresight_weigh_43 : jv_at jm_Foresight_weigh.2.2.2.2.2.2 43 = some (.aload_n 0, 1, 0, 0, 0, 0, 0) := rfl
set_option maxRecDepth 20000 in
theorem ja_Foresight_weigh_44 : jv_at jm_Foresight_weigh.2.2.2.2.2.2 44 = some (.iload_n 1, 1, 0, 0, 0, 0, 0) := rfl
set_option maxRecDepth 20000 in
theorem ja_Foresight_weigh_45 : jv_at jm_Foresight_weigh.2.2.2.2.2.2 45 = some (.putfield 39, 3, 3, 4, 247, 0, 0) := rfl
set_option maxRecDepth 20000 in
theorem ja_Foresight_weigh_48 : jv_at jm_Foresight_weigh.2.2.2.2.2.2 48 = some (.aload_n 0, 1, 0, 0, 0, 0, 0) := rfl
set_option maxRecDepth 20000 in
theorem ja_Foresight_weigh_49 : jv_at jm_Foresight_weigh.2.2.2.2.2.2 49 = some (.iload_n 2, 1, 0, 0, 0, 0, 0) := rfl
set_option maxRecDepth 20000 in
theorem ja_Foresight_weigh_50 : jv_at jm_Foresight_weigh.2.2.2.2.2.2 50 = some (.putfield 61, 3, 3, 5, 249, 0, 0) := rfl
set_option maxRecDepth 20000 in
theorem ja_Foresight_weigh_53 : jv_at jm_Foresight_weigh.2.2.2.2.2.2 53 = some (.return_, 1, 0, 0, 0, 0, 0) := rfl
set_option maxRecDepth 20000 in
theorem ja_Conference_bring_0 : jv_at jm_Conference_bring.2.2.2.2.2.2 0 = some (.aload_n 1, 1, 0, 0, 0, 0, 0) := rfl
set_option maxRecDepth 20000 in
theorem ja_Conference_bring_1 : jv_at jm_Conference_bring.2.2.2.2.2.2 1 = some (.getfield 20, 3, 8, 0, 151, 0, 0) := rfl
set_option maxRecDepth 20000 in
theorem ja_Conference_bring_4 : jv_at jm_Conference_bring.2.2.2.2.2.2 4 = some (.bipush 10, 2, 0, 0, 0, 0, 10) := rfl
set_option maxRecDepth 20000 in
theorem ja_Conference_bring_6 : jv_at jm_Conference_bring.2.2.2.2.2.2 6 = some (.if_icmp .gt 12, 3, 18, 0, 0, 0, 0) := rfl
set_option maxRecDepth 20000 in
theorem ja_Conference_bring_9 : jv_at jm_Conference_bring.2.2.2.2.2.2 9 = some (.aload_n 2, 1, 0, 0, 0, 0, 0) := rfl
set_option maxRecDepth 20000 in
theorem ja_Conference_bring_10 : jv_at jm_Conference_bring.2.2.2.2.2.2 10 = some (.getfield 20, 3, 8, 0, 151, 0, 0) := rfl
set_option maxRecDepth 20000 in
theorem ja_Conference_bring_13 : jv_at jm_Conference_bring.2.2.2.2.2.2 13 = some (.bipush 10, 2, 0, 0, 0, 0, 10) := rfl
set_option maxRecDepth 20000 in
theorem ja_Conference_bring_15 : jv_at jm_Conference_bring.2.2.2.2.2.2 15 = some (.if_icmp .le 5, 3, 20, 0, 0, 0, 0) := rfl
set_option maxRecDepth 20000 in
theorem ja_Conference_bring_18 : jv_at jm_Conference_bring.2.2.2.2.2.2 18 = some (.iconst 0, 1, 0, 0, 0, 0, 0) := rfl
set_option maxRecDepth 20000 in
theorem ja_Conference_bring_19 : jv_at jm_Conference_bring.2.2.2.2.2.2 19 = some (.ireturn, 1, 0, 0, 0, 0, 0) := rfl
set_option maxRecDepth 20000 in
theorem ja_Conference_bring_20 : jv_at jm_Conference_bring.2.2.2.2.2.2 20 = some (.aload_n 0, 1, 0, 0, 0, 0, 0) := rfl
set_option maxRecDepth 20000 in
theorem ja_Conference_bring_21 : jv_at jm_Conference_bring.2.2.2.2.2.2 21 = some (.aload_n 1, 1, 0, 0, 0, 0, 0) := rfl
set_option maxRecDepth 20000 in
theorem ja_Conference_bring_22 : jv_at jm_Conference_bring.2.2.2.2.2.2 22 = some (.aload_n 2, 1, 0, 0, 0, 0, 0) := rfl
set_option maxRecDepth 20000 in
theorem ja_Conference_bring_23 : jv_at jm_Conference_bring.2.2.2.2.2.2 23 = some (.invokevirtual 26, 3, 119, 0, 882, 2, 2) := rfl
set_option maxRecDepth 20000 in
theorem ja_Conference_bring_26 : jv_at jm_Conference_bring.2.2.2.2.2.2 26 = some (.aload_n 0, 1, 0, 0, 0, 0, 0) := rfl
set_option maxRecDepth 20000 in
theorem ja_Conference_bring_27 : jv_at jm_Conference_bring.2.2.2.2.2.2 27 = some (.getfield 17, 3, 2, 1, 343, 0, 0) := rfl
set_option maxRecDepth 20000 in
theorem ja_Conference_bring_30 : jv_at jm_Conference_bring.2.2.2.2.2.2 30 = some (.iconst 0, 1, 0, 0, 0, 0, 0) := rfl
set_option maxRecDepth 20000 in
theorem ja_Conference_bring_31 : jv_at jm_Conference_bring.2.2.2.2.2.2 31 = some (.aaload, 1, 0, 0, 0, 0, 0) := rfl
set_option maxRecDepth 20000 in
theorem ja_Conference_bring_32 : jv_at jm_Conference_bring.2.2.2.2.2.2 32 = some (.iconst 0, 1, 0, 0, 0, 0, 0) := rfl
set_option maxRecDepth 20000 in
theorem ja_Conference_bring_33 : jv_at jm_Conference_bring.2.2.2.2.2.2 33 = some (.iaload, 1, 0, 0, 0, 0, 0) := rfl
set_option maxRecDepth 20000 in
theorem ja_Conference_bring_34 : jv_at jm_Conference_bring.2.2.2.2.2.2 34 = some (.istore_n 3, 1, 0, 0, 0, 0, 0) := rfl
set_option maxRecDepth 20000 in
theorem ja_Conference_bring_35 : jv_at jm_Conference_bring.2.2.2.2.2.2 35 = some (.iconst 0, 1, 0, 0, 0, 0, 0) := rfl
set_option maxRecDepth 20000 in
theorem ja_Conference_bring_36 : jv_at jm_Conference_bring.2.2.2.2.2.2 36 = some (.istore 4, 2, 0, 0, 0, 0, 0) := rfl
set_option maxRecDepth 20000 in
theorem ja_Conference_bring_38 : jv_at jm_Conference_bring.2.2.2.2.2.2 38 = some (.iconst 0, 1, 0, 0, 0, 0, 0) := rfl
set_option maxRecDepth 20000 in
theorem ja_Conference_bring_39 : jv_at jm_Conference_bring.2.2.2.2.2.2 39 = some (.istore 5, 2, 0, 0, 0, 0, 0) := rfl
set_option maxRecDepth 20000 in
theorem ja_Conference_bring_41 : jv_at jm_Conference_bring.2.2.2.2.2.2 41 = some (.iconst 0, 1, 0, 0, 0, 0, 0) := rfl
set_option maxRecDepth 20000 in
theorem ja_Conference_bring_42 : jv_at jm_Conference_bring.2.2.2.2.2.2 42 = some (.istore 6, 2, 0, 0, 0, 0, 0) := rfl
set_option maxRecDepth 20000 in
theorem ja_Conference_bring_44 : jv_at jm_Conference_bring.2.2.2.2.2.2 44 = some (.iload 6, 2, 0, 0, 0, 0, 0) := rfl
set_option maxRecDepth 20000 in
theorem ja_Conference_bring_46 : jv_at jm_Conference_bring.2.2.2.2.2.2 46 = some (.iload_n 3, 1, 0, 0, 0, 0, 0) := rfl
set_option maxRecDepth 20000 in
theorem ja_Conference_bring_47 : jv_at jm_Conference_bring.2.2.2.2.2.2 47 = some (.if_icmp .ge 67, 3, 114, 0, 0, 0, 0) := rfl
set_option maxRecDepth 20000 in
theorem ja_Conference_bring_50 : jv_at jm_Conference_bring.2.2.2.2.2.2 50 = some (.iload 6, 2, 0, 0, 0, 0, 0) := rfl
set_option maxRecDepth 20000 in
theorem ja_Conference_bring_52 : jv_at jm_Conference_bring.2.2.2.2.2.2 52 = some (.bipush 10, 2, 0, 0, 0, 0, 10) := rfl
set_option maxRecDepth 20000 in
theorem ja_Conference_bring_54 : jv_at jm_Conference_bring.2.2.2.2.2.2 54 = some (.if_icmp .ge 60, 3, 114, 0, 0, 0, 0) := rfl
set_option maxRecDepth 20000 in
theorem ja_Conference_bring_57 : jv_at jm_Conference_bring.2.2.2.2.2.2 57 = some (.aload_n 0, 1, 0, 0, 0, 0, 0) := rfl
set_option maxRecDepth 20000 in
theorem ja_Conference_bring_58 : jv_at jm_Conference_bring.2.2.2.2.2.2 58 = some (.aload_n 1, 1, 0, 0, 0, 0, 0) := rfl
set_option maxRecDepth 20000 in
theorem ja_Conference_bring_59 : jv_at jm_Conference_bring.2.2.2.2.2.2 59 = some (.aload_n 2, 1, 0, 0, 0, 0, 0) := rfl
set_option maxRecDepth 20000 in
theorem ja_Conference_bring_60 : jv_at jm_Conference_bring.2.2.2.2.2.2 60 = some (.iload 4, 2, 0, 0, 0, 0, 0) := rfl
set_option maxRecDepth 20000 in
theorem ja_Conference_bring_62 : jv_at jm_Conference_bring.2.2.2.2.2.2 62 = some (.iload 5, 2, 0, 0, 0, 0, 0) := rfl
set_option maxRecDepth 20000 in
theorem ja_Conference_bring_64 : jv_at jm_Conference_bring.2.2.2.2.2.2 64 = some (.iload_n 3, 1, 0, 0, 0, 0, 0) := rfl
set_option maxRecDepth 20000 in
theorem ja_Conference_bring_65 : jv_at jm_Conference_bring.2.2.2.2.2.2 65 = some (.iload 6, 2, 0, 0, 0, 0, 0) := rfl
set_option maxRecDepth 20000 in
theorem ja_Conference_bring_67 : jv_at jm_Conference_bring.2.2.2.2.2.2 67 = some (.isub, 1, 0, 0, 0, 0, 0) := rfl
set_option maxRecDepth 20000 in
theorem ja_Conference_bring_68 : jv_at jm_Conference_bring.2.2.2.2.2.2 68 = some (.iconst 1, 1, 0, 0, 0, 0, 1) := rfl
set_option maxRecDepth 20000 in
theorem ja_Conference_bring_69 : jv_at jm_Conference_bring.2.2.2.2.2.2 69 = some (.isub, 1, 0, 0, 0, 0, 0) := rfl
set_option maxRecDepth 20000 in
theorem ja_Conference_bring_70 : jv_at jm_Conference_bring.2.2.2.2.2.2 70 = some (.invokevirtual 30, 3, 120, 0, 889, 2, 5) := rfl
set_option maxRecDepth 20000 in
theorem ja_Conference_bring_73 : jv_at jm_Conference_bring.2.2.2.2.2.2 73 = some (.istore 7, 2, 0, 0, 0, 0, 0) := rfl
set_option maxRecDepth 20000 in
theorem ja_Conference_bring_75 : jv_at jm_Conference_bring.2.2.2.2.2.2 75 = some (.aload_n 0, 1, 0, 0, 0, 0, 0) := rfl
set_option maxRecDepth 20000 in
theorem ja_Conference_bring_76 : jv_at jm_Conference_bring.2.2.2.2.2.2 76 = some (.getfield 9, 3, 2, 0, 341, 0, 0) := rfl
set_option maxRecDepth 20000 in
theorem ja_Conference_bring_79 : jv_at jm_Conference_bring.2.2.2.2.2.2 79 = some (.iload 6, 2, 0, 0, 0, 0, 0) := rfl
set_option maxRecDepth 20000 in
theorem ja_Conference_bring_81 : jv_at jm_Conference_bring.2.2.2.2.2.2 81 = some (.iload 7, 2, 0, 0, 0, 0, 0) := rfl
set_option maxRecDepth 20000 in
theorem ja_Conference_bring_83 : jv_at jm_Conference_bring.2.2.2.2.2.2 83 = some (.iastore, 1, 0, 0, 0, 0, 0) := rfl
set_option maxRecDepth 20000 in
theorem ja_Conference_bring_84 : jv_at jm_Conference_bring.2.2.2.2.2.2 84 = some (.aload_n 1, 1, 0, 0, 0, 0, 0) := rfl
set_option maxRecDepth 20000 in
theorem ja_Conference_bring_85 : jv_at jm_Conference_bring.2.2.2.2.2.2 85 = some (.iload 4, 2, 0, 0, 0, 0, 0) := rfl
set_option maxRecDepth 20000 in
theorem ja_Conference_bring_87 : jv_at jm_Conference_bring.2.2.2.2.2.2 87 = some (.iload 7, 2, 0, 0, 0, 0, 0) := rfl
set_option maxRecDepth 20000 in
theorem ja_Conference_bring_89 : jv_at jm_Conference_bring.2.2.2.2.2.2 89 = some (.invokestatic 34, 3, 121, 1, 894, 2, 3) := rfl
set_option maxRecDepth 20000 in
theorem ja_Conference_bring_92 : jv_at jm_Conference_bring.2.2.2.2.2.2 92 = some (.iconst 1, 1, 0, 0, 0, 0, 1) := rfl
set_option maxRecDepth 20000 in
theorem ja_Conference_bring_93 : jv_at jm_Conference_bring.2.2.2.2.2.2 93 = some (.iadd, 1, 0, 0, 0, 0, 0) := rfl
set_option maxRecDepth 20000 in
theorem ja_Conference_bring_94 : jv_at jm_Conference_bring.2.2.2.2.2.2 94 = some (.istore 4, 2, 0, 0, 0, 0, 0) := rfl
set_option maxRecDepth 20000 in
theorem ja_Conference_bring_96 : jv_at jm_Conference_bring.2.2.2.2.2.2 96 = some (.aload_n 2, 1, 0, 0, 0, 0, 0) := rfl
set_option maxRecDepth 20000 in
theorem ja_Conference_bring_97 : jv_at jm_Conference_bring.2.2.2.2.2.2 97 = some (.iload 5, 2, 0, 0, 0, 0, 0) := rfl
set_option maxRecDepth 20000 in
theorem ja_Conference_bring_99 : jv_at jm_Conference_bring.2.2.2.2.2.2 99 = some (.iload 7, 2, 0, 0, 0, 0, 0) := rfl
set_option maxRecDepth 20000 in
theorem ja_Conference_bring_101 : jv_at jm_Conference_bring.2.2.2.2.2.2 101 = some (.invokestatic 34, 3, 121, 1, 894, 2, 3) := rfl
set_option maxRecDepth 20000 in
theorem ja_Conference_bring_104 : jv_at jm_Conference_bring.2.2.2.2.2.2 104 = some (.iconst 1, 1, 0, 0, 0, 0, 1) := rfl
set_option maxRecDepth 20000 in
theorem ja_Conference_bring_105 : jv_at jm_Conference_bring.2.2.2.2.2.2 105 = some (.iadd, 1, 0, 0, 0, 0, 0) := rfl
set_option maxRecDepth 20000 in
theorem ja_Conference_bring_106 : jv_at jm_Conference_bring.2.2.2.2.2.2 106 = some (.istore 5, 2, 0, 0, 0, 0, 0) := rfl
set_option maxRecDepth 20000 in
theorem ja_Conference_bring_108 : jv_at jm_Conference_bring.2.2.2.2.2.2 108 = some (.iinc 6 1, 3, 0, 0, 0, 0, 0) := rfl
set_option maxRecDepth 20000 in
theorem ja_Conference_bring_111 : jv_at jm_Conference_bring.2.2.2.2.2.2 111 = some (.goto (-67), 3, 44, 0, 0, 0, 0) := rfl
set_option maxRecDepth 20000 in
theorem ja_Conference_bring_114 : jv_at jm_Conference_bring.2.2.2.2.2.2 114 = some (.iload_n 3, 1, 0, 0, 0, 0, 0) := rfl
set_option maxRecDepth 20000 in
theorem ja_Conference_bring_115 : jv_at jm_Conference_bring.2.2.2.2.2.2 115 = some (.ireturn, 1, 0, 0, 0, 0, 0) := rfl
set_option maxRecDepth 20000 in
theorem ja_Conference_measure_0 : jv_at jm_Conference_measure.2.2.2.2.2.2 0 = some (.aload_n 1, 1, 0, 0, 0, 0, 0) := rfl
set_option maxRecDepth 20000 in
theorem ja_Conference_measure_1 : jv_at jm_Conference_measure.2.2.2.2.2.2 1 = some (.getfield 20, 3, 8, 0, 151, 0, 0) := rfl
set_option maxRecDepth 20000 in
theorem ja_Conference_measure_4 : jv_at jm_Conference_measure.2.2.2.2.2.2 4 = some (.istore_n 3, 1, 0, 0, 0, 0, 0) := rfl
set_option maxRecDepth 20000 in
theorem ja_Conference_measure_5 : jv_at jm_Conference_measure.2.2.2.2.2.2 5 = some (.iload_n 3, 1, 0, 0, 0, 0, 0) := rfl
set_option maxRecDepth 20000 in
theorem ja_Conference_measure_6 : jv_at jm_Conference_measure.2.2.2.2.2.2 6 = some (.ifCond .lt 133, 3, 139, 0, 0, 0, 0) := rfl
set_option maxRecDepth 20000 in
theorem ja_Conference_measure_9 : jv_at jm_Conference_measure.2.2.2.2.2.2 9 = some (.aload_n 2, 1, 0, 0, 0, 0, 0) := rfl
set_option maxRecDepth 20000 in
theorem ja_Conference_measure_10 : jv_at jm_Conference_measure.2.2.2.2.2.2 10 = some (.getfield 20, 3, 8, 0, 151, 0, 0) := rfl
set_option maxRecDepth 20000 in
theorem ja_Conference_measure_13 : jv_at jm_Conference_measure.2.2.2.2.2.2 13 = some (.istore 4, 2, 0, 0, 0, 0, 0) := rfl
set_option maxRecDepth 20000 in
theorem ja_Conference_measure_15 : jv_at jm_Conference_measure.2.2.2.2.2.2 15 = some (.iload 4, 2, 0, 0, 0, 0, 0) := rfl
set_option maxRecDepth 20000 in
theorem ja_Conference_measure_17 : jv_at jm_Conference_measure.2.2.2.2.2.2 17 = some (.ifCond .lt 116, 3, 133, 0, 0, 0, 0) := rfl
set_option maxRecDepth 20000 in
theorem ja_Conference_measure_20 : jv_at jm_Conference_measure.2.2.2.2.2.2 20 = some (.iload_n 3, 1, 0, 0, 0, 0, 0) := rfl
set_option maxRecDepth 20000 in
theorem ja_Conference_measure_21 : jv_at jm_Conference_measure.2.2.2.2.2.2 21 = some (.aload_n 1, 1, 0, 0, 0, 0, 0) := rfl
set_option maxRecDepth 20000 in
theorem ja_Conference_measure_22 : jv_at jm_Conference_measure.2.2.2.2.2.2 22 = some (.getfield 20, 3, 8, 0, 151, 0, 0) := rfl
set_option maxRecDepth 20000 in
theorem ja_Conference_measure_25 : jv_at jm_Conference_measure.2.2.2.2.2.2 25 = some (.if_icmp .eq 12, 3, 37, 0, 0, 0, 0) := rfl
set_option maxRecDepth 20000 in
theorem ja_Conference_measure_28 : jv_at jm_Conference_measure.2.2.2.2.2.2 28 = some (.iload 4, 2, 0, 0, 0, 0, 0) := rfl
set_option maxRecDepth 20000 in
theorem ja_Conference_measure_30 : jv_at jm_Conference_measure.2.2.2.2.2.2 30 = some (.aload_n 2, 1, 0, 0, 0, 0, 0) := rfl
set_option maxRecDepth 20000 in
theorem ja_Conference_measure_31 : jv_at jm_Conference_measure.2.2.2.2.2.2 31 = some (.getfield 20, 3, 8, 0, 151, 0, 0) := rfl
set_option maxRecDepth 20000 in
theorem ja_Conference_measure_34 : jv_at jm_Conference_measure.2.2.2.2.2.2 34 = some (.if_icmp .ne 16, 3, 50, 0, 0, 0, 0) := rfl
set_option maxRecDepth 20000 in
theorem ja_Conference_measure_37 : jv_at jm_Conference_measure.2.2.2.2.2.2 37 = some (.aload_n 0, 1, 0, 0, 0, 0, 0) := rfl
set_option maxRecDepth 20000 in
theorem ja_Conference_measure_38 : jv_at jm_Conference_measure.2.2.2.2.2.2 38 = some (.getfield 17, 3, 2, 1, 343, 0, 0) := rfl
set_option maxRecDepth 20000 in
theorem ja_Conference_measure_41 : jv_at jm_Conference_measure.2.2.2.2.2.2 41 = some (.iload_n 3, 1, 0, 0, 0, 0, 0) := rfl
set_option maxRecDepth 20000 in
theorem ja_Conference_measure_42 : jv_at jm_Conference_measure.2.2.2.2.2.2 42 = some (.aaload, 1, 0, 0, 0, 0, 0) := rfl
set_option maxRecDepth 20000 in
theorem ja_Conference_measure_43 : jv_at jm_Conference_measure.2.2.2.2.2.2 43 = some (.iload 4, 2, 0, 0, 0, 0, 0) := rfl
set_option maxRecDepth 20000 in
theorem ja_Conference_measure_45 : jv_at jm_Conference_measure.2.2.2.2.2.2 45 = some (.iconst 0, 1, 0, 0, 0, 0, 0) := rfl
set_option maxRecDepth 20000 in
theorem ja_Conference_measure_46 : jv_at jm_Conference_measure.2.2.2.2.2.2 46 = some (.iastore, 1, 0, 0, 0, 0, 0) := rfl
set_option maxRecDepth 20000 in
theorem ja_Conference_measure_47 : jv_at jm_Conference_measure.2.2.2.2.2.2 47 = some (.goto 80, 3, 127, 0, 0, 0, 0) := rfl
set_option maxRecDepth 20000 in
theorem ja_Conference_measure_50 : jv_at jm_Conference_measure.2.2.2.2.2.2 50 = some (.aload_n 1, 1, 0, 0, 0, 0, 0) := rfl
set_option maxRecDepth 20000 in
theorem ja_Conference_measure_51 : jv_at jm_Conference_measure.2.2.2.2.2.2 51 = some (.getfield 38, 3, 8, 1, 154, 0, 0) := rfl
set_option maxRecDepth 20000 in
theorem ja_Conference_measure_54 : jv_at jm_Conference_measure.2.2.2.2.2.2 54 = some (.iload_n 3, 1, 0, 0, 0, 0, 0) := rfl
set_option maxRecDepth 20000 in
theorem ja_Conference_measure_55 : jv_at jm_Conference_measure.2.2.2.2.2.2 55 = some (.iaload, 1, 0, 0, 0, 0, 0) := rfl
set_option maxRecDepth 20000 in
theorem ja_Conference_measure_56 : jv_at jm_Conference_measure.2.2.2.2.2.2 56 = some (.aload_n 2, 1, 0, 0, 0, 0, 0) := rfl
set_option maxRecDepth 20000 in
theorem ja_Conference_measure_57 : jv_at jm_Conference_measure.2.2.2.2.2.2 57 = some (.getfield 38, 3, 8, 1, 154, 0, 0) := rfl
set_option maxRecDepth 20000 in
theorem ja_Conference_measure_60 : jv_at jm_Conference_measure.2.2.2.2.2.2 60 = some (.iload 4, 2, 0, 0, 0, 0, 0) := rfl
set_option maxRecDepth 20000 in
theorem ja_Conference_measure_62 : jv_at jm_Conference_measure.2.2.2.2.2.2 62 = some (.iaload, 1, 0, 0, 0, 0, 0) := rfl
set_option maxRecDepth 20000 in
theorem ja_Conference_measure_63 : jv_at jm_Conference_measure.2.2.2.2.2.2 63 = some (.if_icmp .ne 30, 3, 93, 0, 0, 0, 0) := rfl
set_option maxRecDepth 20000 in
theorem ja_Conference_measure_66 : jv_at jm_Conference_measure.2.2.2.2.2.2 66 = some (.aload_n 0, 1, 0, 0, 0, 0, 0) := rfl
set_option maxRecDepth 20000 in
theorem ja_Conference_measure_67 : jv_at jm_Conference_measure.2.2.2.2.2.2 67 = some (.getfield 17, 3, 2, 1, 343, 0, 0) := rfl
set_option maxRecDepth 20000 in
theorem ja_Conference_measure_70 : jv_at jm_Conference_measure.2.2.2.2.2.2 70 = some (.iload_n 3, 1, 0, 0, 0, 0, 0) := rfl
set_option maxRecDepth 20000 in
theorem ja_Conference_measure_71 : jv_at jm_Conference_measure.2.2.2.2.2.2 71 = some (.aaload, 1, 0, 0, 0, 0, 0) := rfl
set_option maxRecDepth 20000 in
theorem ja_Conference_measure_72 : jv_at jm_Conference_measure.2.2.2.2.2.2 72 = some (.iload 4, 2, 0, 0, 0, 0, 0) := rfl
set_option maxRecDepth 20000 in
theorem ja_Conference_measure_74 : jv_at jm_Conference_measure.2.2.2.2.2.2 74 = some (.aload_n 0, 1, 0, 0, 0, 0, 0) := rfl
set_option maxRecDepth 20000 in
theorem ja_Conference_measure_75 : jv_at jm_Conference_measure.2.2.2.2.2.2 75 = some (.getfield 17, 3, 2, 1, 343, 0, 0) := rfl
set_option maxRecDepth 20000 in
theorem ja_Conference_measure_78 : jv_at jm_Conference_measure.2.2.2.2.2.2 78 = some (.iload_n 3, 1, 0, 0, 0, 0, 0) := rfl
set_option maxRecDepth 20000 in
theorem ja_Conference_measure_79 : jv_at jm_Conference_measure.2.2.2.2.2.2 79 = some (.iconst 1, 1, 0, 0, 0, 0, 1) := rfl
set_option maxRecDepth 20000 in
theorem ja_Conference_measure_80 : jv_at jm_Conference_measure.2.2.2.2.2.2 80 = some (.iadd, 1, 0, 0, 0, 0, 0) := rfl
set_option maxRecDepth 20000 in
theorem ja_Conference_measure_81 : jv_at jm_Conference_measure.2.2.2.2.2.2 81 = some (.aaload, 1, 0, 0, 0, 0, 0) := rfl
set_option maxRecDepth 20000 in
theorem ja_Conference_measure_82 : jv_at jm_Conference_measure.2.2.2.2.2.2 82 = some (.iload 4, 2, 0, 0, 0, 0, 0) := rfl
set_option maxRecDepth 20000 in
theorem ja_Conference_measure_84 : jv_at jm_Conference_measure.2.2.2.2.2.2 84 = some (.iconst 1, 1, 0, 0, 0, 0, 1) := rfl
set_option maxRecDepth 20000 in
theorem ja_Conference_measure_85 : jv_at jm_Conference_measure.2.2.2.2.2.2 85 = some (.iadd, 1, 0, 0, 0, 0, 0) := rfl
set_option maxRecDepth 20000 in
theorem ja_Conference_measure_86 : jv_at jm_Conference_measure.2.2.2.2.2.2 86 = some (.iaload, 1, 0, 0, 0, 0, 0) := rfl
set_option maxRecDepth 20000 in
theorem ja_Conference_measure_87 : jv_at jm_Conference_measure.2.2.2.2.2.2 87 = some (.iconst 1, 1, 0, 0, 0, 0, 1) := rfl
set_option maxRecDepth 20000 in
theorem ja_Conference_measure_88 : jv_at jm_Conference_measure.2.2.2.2.2.2 88 = some (.iadd, 1, 0, 0, 0, 0, 0) := rfl
set_option maxRecDepth 20000 in
theorem ja_Conference_measure_89 : jv_at jm_Conference_measure.2.2.2.2.2.2 89 = some (.iastore, 1, 0, 0, 0, 0, 0) := rfl
set_option maxRecDepth 20000 in
theorem ja_Conference_measure_90 : jv_at jm_Conference_measure.2.2.2.2.2.2 90 = some (.goto 37, 3, 127, 0, 0, 0, 0) := rfl
set_option maxRecDepth 20000 in
theorem ja_Conference_measure_93 : jv_at jm_Conference_measure.2.2.2.2.2.2 93 = some (.aload_n 0, 1, 0, 0, 0, 0, 0) := rfl
set_option maxRecDepth 20000 in
theorem ja_Conference_measure_94 : jv_at jm_Conference_measure.2.2.2.2.2.2 94 = some (.getfield 17, 3, 2, 1, 343, 0, 0) := rfl
set_option maxRecDepth 20000 in
theorem ja_Conference_measure_97 : jv_at jm_Conference_measure.2.2.2.2.2.2 97 = some (.iload_n 3, 1, 0, 0, 0, 0, 0) := rfl
set_option maxRecDepth 20000 in
theorem ja_Conference_measure_98 : jv_at jm_Conference_measure.2.2.2.2.2.2 98 = some (.aaload, 1, 0, 0, 0, 0, 0) := rfl
set_option maxRecDepth 20000 in
theorem ja_Conference_measure_99 : jv_at jm_Conference_measure.2.2.2.2.2.2 99 = some (.iload 4, 2, 0, 0, 0, 0, 0) := rfl
set_option maxRecDepth 20000 in
theorem ja_Conference_measure_101 : jv_at jm_Conference_measure.2.2.2.2.2.2 101 = some (.aload_n 0, 1, 0, 0, 0, 0, 0) := rfl
set_option maxRecDepth 20000 in
theorem ja_Conference_measure_102 : jv_at jm_Conference_measure.2.2.2.2.2.2 102 = some (.getfield 17, 3, 2, 1, 343, 0, 0) := rfl
set_option maxRecDepth 20000 in
theorem ja_Conference_measure_105 : jv_at jm_Conference_measure.2.2.2.2.2.2 105 = some (.iload_n 3, 1, 0, 0, 0, 0, 0) := rfl
set_option maxRecDepth 20000 in
theorem ja_Conference_measure_106 : jv_at jm_Conference_measure.2.2.2.2.2.2 106 = some (.iconst 1, 1, 0, 0, 0, 0, 1) := rfl
set_option maxRecDepth 20000 in
theorem ja_Conference_measure_107 : jv_at jm_Conference_measure.2.2.2.2.2.2 107 = some (.iadd, 1, 0, 0, 0, 0, 0) := rfl
set_option maxRecDepth 20000 in
theorem ja_Conference_measure_108 : jv_at jm_Conference_measure.2.2.2.2.2.2 108 = some (.aaload, 1, 0, 0, 0, 0, 0) := rfl
set_option maxRecDepth 20000 in
theorem ja_Conference_measure_109 : jv_at jm_Conference_measure.2.2.2.2.2.2 109 = some (.iload 4, 2, 0, 0, 0, 0, 0) := rfl
set_option maxRecDepth 20000 in
theorem ja_Conference_measure_111 : jv_at jm_Conference_measure.2.2.2.2.2.2 111 = some (.iaload, 1, 0, 0, 0, 0, 0) := rfl
set_option maxRecDepth 20000 in
theorem ja_Conference_measure_112 : jv_at jm_Conference_measure.2.2.2.2.2.2 112 = some (.aload_n 0, 1, 0, 0, 0, 0, 0) := rfl
set_option maxRecDepth 20000 in
theorem ja_Conference_measure_113 : jv_at jm_Conference_measure.2.2.2.2.2.2 113 = some (.getfield 17, 3, 2, 1, 343, 0, 0) := rfl
set_option maxRecDepth 20000 in
theorem ja_Conference_measure_116 : jv_at jm_Conference_measure.2.2.2.2.2.2 116 = some (.iload_n 3, 1, 0, 0, 0, 0, 0) := rfl
set_option maxRecDepth 20000 in
theorem ja_Conference_measure_117 : jv_at jm_Conference_measure.2.2.2.2.2.2 117 = some (.aaload, 1, 0, 0, 0, 0, 0) := rfl
set_option maxRecDepth 20000 in
theorem ja_Conference_measure_118 : jv_at jm_Conference_measure.2.2.2.2.2.2 118 = some (.iload 4, 2, 0, 0, 0, 0, 0) := rfl
set_option maxRecDepth 20000 in
theorem ja_Conference_measure_120 : jv_at jm_Conference_measure.2.2.2.2.2.2 120 = some (.iconst 1, 1, 0, 0, 0, 0, 1) := rfl
set_option maxRecDepth 20000 in
theorem ja_Conference_measure_121 : jv_at jm_Conference_measure.2.2.2.2.2.2 121 = some (.iadd, 1, 0, 0, 0, 0, 0) := rfl
set_option maxRecDepth 20000 in
theorem ja_Conference_measure_122 : jv_at jm_Conference_measure.2.2.2.2.2.2 122 = some (.iaload, 1, 0, 0, 0, 0, 0) := rfl
set_option maxRecDepth 20000 in
theorem ja_Conference_measure_123 : jv_at jm_Conference_measure.2.2.2.2.2.2 123 = some (.invokestatic 41, 3, 0, 7, 886, 20, 2) := rfl
set_option maxRecDepth 20000 in
theorem ja_Conference_measure_126 : jv_at jm_Conference_measure.2.2.2.2.2.2 126 = some (.iastore, 1, 0, 0, 0, 0, 0) := rfl
set_option maxRecDepth 20000 in
theorem ja_Conference_measure_127 : jv_at jm_Conference_measure.2.2.2.2.2.2 127 = some (.iinc 4 (-1), 3, 0, 0, 0, 0, 0) := rfl
set_option maxRecDepth 20000 in
theorem ja_Conference_measure_130 : jv_at jm_Conference_measure.2.2.2.2.2.2 130 = some (.goto (-115), 3, 15, 0, 0, 0, 0) := rfl
set_option maxRecDepth 20000 in
theorem ja_Conference_measure_133 : jv_at jm_Conference_measure.2.2.2.2.2.2 133 = some (.iinc 3 (-1), 3, 0, 0, 0, 0, 0) := rfl
set_option maxRecDepth 20000 in
theorem ja_Conference_measure_136 : jv_at jm_Conference_measure.2.2.2.2.2.2 136 = some (.goto (-131), 3, 5, 0, 0, 0, 0) := rfl
set_option maxRecDepth 20000 in
theorem ja_Conference_measure_139 : jv_at jm_Conference_measure.2.2.2.2.2.2 139 = some (.return_, 1, 0, 0, 0, 0, 0) := rfl
set_option maxRecDepth 20000 in
theorem ja_Conference_leastNext_0 : jv_at jm_Conference_leastNext.2.2.2.2.2.2 0 = some (.bipush 61, 2, 0, 0, 0, 0, 61) := rfl
set_option maxRecDepth 20000 in
theorem ja_Conference_leastNext_2 : jv_at jm_Conference_leastNext.2.2.2.2.2.2 2 = some (.istore 6, 2, 0, 0, 0, 0, 0) := rfl
set_option maxRecDepth 20000 in
theorem ja_Conference_leastNext_4 : jv_at jm_Conference_leastNext.2.2.2.2.2.2 4 = some (.iload_n 3, 1, 0, 0, 0, 0, 0) := rfl
set_option maxRecDepth 20000 in
theorem ja_Conference_leastNext_5 : jv_at jm_Conference_leastNext.2.2.2.2.2.2 5 = some (.istore 7, 2, 0, 0, 0, 0, 0) := rfl
set_option maxRecDepth 20000 in
theorem ja_Conference_leastNext_7 : jv_at jm_Conference_leastNext.2.2.2.2.2.2 7 = some (.iload 7, 2, 0, 0, 0, 0, 0) := rfl
set_option maxRecDepth 20000 in
theorem ja_Conference_leastNext_9 : jv_at jm_Conference_leastNext.2.2.2.2.2.2 9 = some (.aload_n 1, 1, 0, 0, 0, 0, 0) := rfl
set_option maxRecDepth 20000 in
theorem ja_Conference_leastNext_10 : jv_at jm_Conference_leastNext.2.2.2.2.2.2 10 = some (.getfield 20, 3, 8, 0, 151, 0, 0) := rfl
set_option maxRecDepth 20000 in
theorem ja_Conference_leastNext_13 : jv_at jm_Conference_leastNext.2.2.2.2.2.2 13 = some (.if_icmp .ge 66, 3, 79, 0, 0, 0, 0) := rfl
set_option maxRecDepth 20000 in
theorem ja_Conference_leastNext_16 : jv_at jm_Conference_leastNext.2.2.2.2.2.2 16 = some (.aload_n 1, 1, 0, 0, 0, 0, 0) := rfl
set_option maxRecDepth 20000 in
theorem ja_Conference_leastNext_17 : jv_at jm_Conference_leastNext.2.2.2.2.2.2 17 = some (.iload 7, 2, 0, 0, 0, 0, 0) := rfl
set_option maxRecDepth 20000 in
theorem ja_Conference_leastNext_19 : jv_at jm_Conference_leastNext.2.2.2.2.2.2 19 = some (.invokevirtual 47, 3, 62, 0, 893, 8, 1) := rfl
set_option maxRecDepth 20000 in
theorem ja_Conference_leastNext_22 : jv_at jm_Conference_leastNext.2.2.2.2.2.2 22 = some (.istore 8, 2, 0, 0, 0, 0, 0) := rfl
set_option maxRecDepth 20000 in
theorem ja_Conference_leastNext_24 : jv_at jm_Conference_leastNext.2.2.2.2.2.2 24 = some (.aload_n 2, 1, 0, 0, 0, 0, 0) := rfl
set_option maxRecDepth 20000 in
theorem ja_Conference_leastNext_25 : jv_at jm_Conference_leastNext.2.2.2.2.2.2 25 = some (.iload 4, 2, 0, 0, 0, 0, 0) := rfl
set_option maxRecDepth 20000 in
theorem ja_Conference_leastNext_27 : jv_at jm_Conference_leastNext.2.2.2.2.2.2 27 = some (.iload 8, 2, 0, 0, 0, 0, 0) := rfl
set_option maxRecDepth 20000 in
theorem ja_Conference_leastNext_29 : jv_at jm_Conference_leastNext.2.2.2.2.2.2 29 = some (.invokestatic 34, 3, 121, 1, 894, 2, 3) := rfl
set_option maxRecDepth 20000 in
theorem ja_Conference_leastNext_32 : jv_at jm_Conference_leastNext.2.2.2.2.2.2 32 = some (.istore 9, 2, 0, 0, 0, 0, 0) := rfl
set_option maxRecDepth 20000 in
theorem ja_Conference_leastNext_34 : jv_at jm_Conference_leastNext.2.2.2.2.2.2 34 = some (.iload 8, 2, 0, 0, 0, 0, 0) := rfl
set_option maxRecDepth 20000 in
theorem ja_Conference_leastNext_36 : jv_at jm_Conference_leastNext.2.2.2.2.2.2 36 = some (.iload 6, 2, 0, 0, 0, 0, 0) := rfl
set_option maxRecDepth 20000 in
theorem ja_Conference_leastNext_38 : jv_at jm_Conference_leastNext.2.2.2.2.2.2 38 = some (.if_icmp .ge 35, 3, 73, 0, 0, 0, 0) := rfl
set_option maxRecDepth 20000 in
theorem ja_Conference_leastNext_41 : jv_at jm_Conference_leastNext.2.2.2.2.2.2 41 = some (.iload 9, 2, 0, 0, 0, 0, 0) := rfl
set_option maxRecDepth 20000 in
theorem ja_Conference_leastNext_43 : jv_at jm_Conference_leastNext.2.2.2.2.2.2 43 = some (.aload_n 2, 1, 0, 0, 0, 0, 0) := rfl
set_option maxRecDepth 20000 in
theorem ja_Conference_leastNext_44 : jv_at jm_Conference_leastNext.2.2.2.2.2.2 44 = some (.getfield 20, 3, 8, 0, 151, 0, 0) := rfl
set_option maxRecDepth 20000 in
theorem ja_Conference_leastNext_47 : jv_at jm_Conference_leastNext.2.2.2.2.2.2 47 = some (.if_icmp .ge 26, 3, 73, 0, 0, 0, 0) := rfl
set_option maxRecDepth 20000 in
theorem ja_Conference_leastNext_50 : jv_at jm_Conference_leastNext.2.2.2.2.2.2 50 = some (.aload_n 0, 1, 0, 0, 0, 0, 0) := rfl
set_option maxRecDepth 20000 in
theorem ja_Conference_leastNext_51 : jv_at jm_Conference_leastNext.2.2.2.2.2.2 51 = some (.getfield 17, 3, 2, 1, 343, 0, 0) := rfl
set_option maxRecDepth 20000 in
theorem ja_Conference_leastNext_54 : jv_at jm_Conference_leastNext.2.2.2.2.2.2 54 = some (.iload 7, 2, 0, 0, 0, 0, 0) := rfl
set_option maxRecDepth 20000 in
theorem ja_Conference_leastNext_56 : jv_at jm_Conference_leastNext.2.2.2.2.2.2 56 = some (.iconst 1, 1, 0, 0, 0, 0, 1) := rfl
set_option maxRecDepth 20000 in
theorem ja_Conference_leastNext_57 : jv_at jm_Conference_leastNext.2.2.2.2.2.2 57 = some (.iadd, 1, 0, 0, 0, 0, 0) := rfl
set_option maxRecDepth 20000 in
theorem ja_Conference_leastNext_58 : jv_at jm_Conference_leastNext.2.2.2.2.2.2 58 = some (.aaload, 1, 0, 0, 0, 0, 0) := rfl
set_option maxRecDepth 20000 in
theorem ja_Conference_leastNext_59 : jv_at jm_Conference_leastNext.2.2.2.2.2.2 59 = some (.iload 9, 2, 0, 0, 0, 0, 0) := rfl
set_option maxRecDepth 20000 in
theorem ja_Conference_leastNext_61 : jv_at jm_Conference_leastNext.2.2.2.2.2.2 61 = some (.iconst 1, 1, 0, 0, 0, 0, 1) := rfl
set_option maxRecDepth 20000 in
theorem ja_Conference_leastNext_62 : jv_at jm_Conference_leastNext.2.2.2.2.2.2 62 = some (.iadd, 1, 0, 0, 0, 0, 0) := rfl
set_option maxRecDepth 20000 in
theorem ja_Conference_leastNext_63 : jv_at jm_Conference_leastNext.2.2.2.2.2.2 63 = some (.iaload, 1, 0, 0, 0, 0, 0) := rfl
set_option maxRecDepth 20000 in
theorem ja_Conference_leastNext_64 : jv_at jm_Conference_leastNext.2.2.2.2.2.2 64 = some (.iload 5, 2, 0, 0, 0, 0, 0) := rfl
set_option maxRecDepth 20000 in
theorem ja_Conference_leastNext_66 : jv_at jm_Conference_leastNext.2.2.2.2.2.2 66 = some (.if_icmp .lt 7, 3, 73, 0, 0, 0, 0) := rfl
set_option maxRecDepth 20000 in
theorem ja_Conference_leastNext_69 : jv_at jm_Conference_leastNext.2.2.2.2.2.2 69 = some (.iload 8, 2, 0, 0, 0, 0, 0) := rfl
set_option maxRecDepth 20000 in
theorem ja_Conference_leastNext_71 : jv_at jm_Conference_leastNext.2.2.2.2.2.2 71 = some (.istore 6, 2, 0, 0, 0, 0, 0) := rfl
set_option maxRecDepth 20000 in
theorem ja_Conference_leastNext_73 : jv_at jm_Conference_leastNext.2.2.2.2.2.2 73 = some (.iinc 7 1, 3, 0, 0, 0, 0, 0) := rfl
set_option maxRecDepth 20000 in
theorem ja_Conference_leastNext_76 : jv_at jm_Conference_leastNext.2.2.2.2.2.2 76 = some (.goto (-69), 3, 7, 0, 0, 0, 0) := rfl
set_option maxRecDepth 20000 in
theorem ja_Conference_leastNext_79 : jv_at jm_Conference_leastNext.2.2.2.2.2.2 79 = some (.iload 6, 2, 0, 0, 0, 0, 0) := rfl
set_option maxRecDepth 20000 in
theorem ja_Conference_leastNext_81 : jv_at jm_Conference_leastNext.2.2.2.2.2.2 81 = some (.ireturn, 1, 0, 0, 0, 0, 0) := rfl
set_option maxRecDepth 20000 in
theorem ja_Conference_placeFrom_0 : jv_at jm_Conference_placeFrom.2.2.2.2.2.2 0 = some (.iload_n 1, 1, 0, 0, 0, 0, 0) := rfl
set_option maxRecDepth 20000 in
theorem ja_Conference_placeFrom_1 : jv_at jm_Conference_placeFrom.2.2.2.2.2.2 1 = some (.istore_n 3, 1, 0, 0, 0, 0, 0) := rfl
set_option maxRecDepth 20000 in
theorem ja_Conference_placeFrom_2 : jv_at jm_Conference_placeFrom.2.2.2.2.2.2 2 = some (.iload_n 3, 1, 0, 0, 0, 0, 0) := rfl
set_option maxRecDepth 20000 in
theorem ja_Conference_placeFrom_3 : jv_at jm_Conference_placeFrom.2.2.2.2.2.2 3 = some (.aload_n 0, 1, 0, 0, 0, 0, 0) := rfl
set_option maxRecDepth 20000 in
theorem ja_Conference_placeFrom_4 : jv_at jm_Conference_placeFrom.2.2.2.2.2.2 4 = some (.getfield 20, 3, 8, 0, 151, 0, 0) := rfl
set_option maxRecDepth 20000 in
theorem ja_Conference_placeFrom_7 : jv_at jm_Conference_placeFrom.2.2.2.2.2.2 7 = some (.if_icmp .ge 18, 3, 25, 0, 0, 0, 0) := rfl
set_option maxRecDepth 20000 in
theorem ja_Conference_placeFrom_10 : jv_at jm_Conference_placeFrom.2.2.2.2.2.2 10 = some (.aload_n 0, 1, 0, 0, 0, 0, 0) := rfl
set_option maxRecDepth 20000 in
theorem ja_Conference_placeFrom_11 : jv_at jm_Conference_placeFrom.2.2.2.2.2.2 11 = some (.iload_n 3, 1, 0, 0, 0, 0, 0) := rfl
set_option maxRecDepth 20000 in
theorem ja_Conference_placeFrom_12 : jv_at jm_Conference_placeFrom.2.2.2.2.2.2 12 = some (.invokevirtual 47, 3, 62, 0, 893, 8, 1) := rfl
set_option maxRecDepth 20000 in
theorem ja_Conference_placeFrom_15 : jv_at jm_Conference_placeFrom.2.2.2.2.2.2 15 = some (.iload_n 2, 1, 0, 0, 0, 0, 0) := rfl
set_option maxRecDepth 20000 in
theorem ja_Conference_placeFrom_16 : jv_at jm_Conference_placeFrom.2.2.2.2.2.2 16 = some (.if_icmp .eq 9, 3, 25, 0, 0, 0, 0) := rfl
set_option maxRecDepth 20000 in
theorem ja_Conference_placeFrom_19 : jv_at jm_Conference_placeFrom.2.2.2.2.2.2 19 = some (.iinc 3 1, 3, 0, 0, 0, 0, 0) := rfl
set_option maxRecDepth 20000 in
theorem ja_Conference_placeFrom_22 : jv_at jm_Conference_placeFrom.2.2.2.2.2.2 22 = some (.goto (-20), 3, 2, 0, 0, 0, 0) := rfl
set_option maxRecDepth 20000 in
theorem ja_Conference_placeFrom_25 : jv_at jm_Conference_placeFrom.2.2.2.2.2.2 25 = some (.iload_n 3, 1, 0, 0, 0, 0, 0) := rfl
set_option maxRecDepth 20000 in
theorem ja_Conference_placeFrom_26 : jv_at jm_Conference_placeFrom.2.2.2.2.2.2 26 = some (.ireturn, 1, 0, 0, 0, 0, 0) := rfl
set_option maxRecDepth 20000 in
theorem ja_Tray_reset_0 : jv_at jm_Tray_reset.2.2.2.2.2.2 0 = some (.aload_n 0, 1, 0, 0, 0, 0, 0) := rfl
set_option maxRecDepth 20000 in
theorem ja_Tray_reset_1 : jv_at jm_Tray_reset.2.2.2.2.2.2 1 = some (.iload_n 1, 1, 0, 0, 0, 0, 0) := rfl
set_option maxRecDepth 20000 in
theorem ja_Tray_reset_2 : jv_at jm_Tray_reset.2.2.2.2.2.2 2 = some (.putfield 9, 3, 10, 0, 356, 0, 0) := rfl
set_option maxRecDepth 20000 in
theorem ja_Tray_reset_5 : jv_at jm_Tray_reset.2.2.2.2.2.2 5 = some (.iconst 0, 1, 0, 0, 0, 0, 0) := rfl
set_option maxRecDepth 20000 in
theorem ja_Tray_reset_6 : jv_at jm_Tray_reset.2.2.2.2.2.2 6 = some (.istore_n 2, 1, 0, 0, 0, 0, 0) := rfl
set_option maxRecDepth 20000 in
theorem ja_Tray_reset_7 : jv_at jm_Tray_reset.2.2.2.2.2.2 7 = some (.iload_n 2, 1, 0, 0, 0, 0, 0) := rfl
set_option maxRecDepth 20000 in
theorem ja_Tray_reset_8 : jv_at jm_Tray_reset.2.2.2.2.2.2 8 = some (.aload_n 0, 1, 0, 0, 0, 0, 0) := rfl
set_option maxRecDepth 20000 in
theorem ja_Tray_reset_9 : jv_at jm_Tray_reset.2.2.2.2.2.2 9 = some (.getfield 15, 3, 10, 1, 358, 0, 0) := rfl
set_option maxRecDepth 20000 in
theorem ja_Tray_reset_12 : jv_at jm_Tray_reset.2.2.2.2.2.2 12 = some (.arraylength, 1, 0, 0, 0, 0, 0) := rfl
set_option maxRecDepth 20000 in
theorem ja_Tray_reset_13 : jv_at jm_Tray_reset.2.2.2.2.2.2 13 = some (.if_icmp .ge 16, 3, 29, 0, 0, 0, 0) := rfl
set_option maxRecDepth 20000 in
theorem ja_Tray_reset_16 : jv_at jm_Tray_reset.2.2.2.2.2.2 16 = some (.aload_n 0, 1, 0, 0, 0, 0, 0) := rfl
set_option maxRecDepth 20000 in
theorem ja_Tray_reset_17 : jv_at jm_Tray_reset.2.2.2.2.2.2 17 = some (.getfield 15, 3, 10, 1, 358, 0, 0) := rfl
set_option maxRecDepth 20000 in
theorem ja_Tray_reset_20 : jv_at jm_Tray_reset.2.2.2.2.2.2 20 = some (.iload_n 2, 1, 0, 0, 0, 0, 0) := rfl
set_option maxRecDepth 20000 in
theorem ja_Tray_reset_21 : jv_at jm_Tray_reset.2.2.2.2.2.2 21 = some (.iconst 0, 1, 0, 0, 0, 0, 0) := rfl
set_option maxRecDepth 20000 in
theorem ja_Tray_reset_22 : jv_at jm_Tray_reset.2.2.2.2.2.2 22 = some (.iastore, 1, 0, 0, 0, 0, 0) := rfl
set_option maxRecDepth 20000 in
theorem ja_Tray_reset_23 : jv_at jm_Tray_reset.2.2.2.2.2.2 23 = some (.iinc 2 1, 3, 0, 0, 0, 0, 0) := rfl
set_option maxRecDepth 20000 in
theorem ja_Tray_reset_26 : jv_at jm_Tray_reset.2.2.2.2.2.2 26 = some (.goto (-19), 3, 7, 0, 0, 0, 0) := rfl
set_option maxRecDepth 20000 in
theorem ja_Tray_reset_29 : jv_at jm_Tray_reset.2.2.2.2.2.2 29 = some (.return_, 1, 0, 0, 0, 0, 0) := rfl
set_option maxRecDepth 20000 in
theorem ja_Tray_has_0 : jv_at jm_Tray_has.2.2.2.2.2.2 0 = some (.iload_n 1, 1, 0, 0, 0, 0, 0) := rfl
set_option maxRecDepth 20000 in
theorem ja_Tray_has_1 : jv_at jm_Tray_has.2.2.2.2.2.2 1 = some (.ifCond .lt 24, 3, 25, 0, 0, 0, 0) := rfl
set_option maxRecDepth 20000 in
theorem ja_Tray_has_4 : jv_at jm_Tray_has.2.2.2.2.2.2 4 = some (.iload_n 1, 1, 0, 0, 0, 0, 0) := rfl
set_option maxRecDepth 20000 in
theorem ja_Tray_has_5 : jv_at jm_Tray_has.2.2.2.2.2.2 5 = some (.aload_n 0, 1, 0, 0, 0, 0, 0) := rfl
set_option maxRecDepth 20000 in
theorem ja_Tray_has_6 : jv_at jm_Tray_has.2.2.2.2.2.2 6 = some (.getfield 9, 3, 10, 0, 356, 0, 0) := rfl
set_option maxRecDepth 20000 in
theorem ja_Tray_has_9 : jv_at jm_Tray_has.2.2.2.2.2.2 9 = some (.if_icmp .ge 16, 3, 25, 0, 0, 0, 0) := rfl
set_option maxRecDepth 20000 in
theorem ja_Tray_has_12 : jv_at jm_Tray_has.2.2.2.2.2.2 12 = some (.iload_n 1, 1, 0, 0, 0, 0, 0) := rfl
set_option maxRecDepth 20000 in
theorem ja_Tray_has_13 : jv_at jm_Tray_has.2.2.2.2.2.2 13 = some (.aload_n 0, 1, 0, 0, 0, 0, 0) := rfl
set_option maxRecDepth 20000 in
theorem ja_Tray_has_14 : jv_at jm_Tray_has.2.2.2.2.2.2 14 = some (.getfield 15, 3, 10, 1, 358, 0, 0) := rfl
set_option maxRecDepth 20000 in
theorem ja_Tray_has_17 : jv_at jm_Tray_has.2.2.2.2.2.2 17 = some (.arraylength, 1, 0, 0, 0, 0, 0) := rfl
set_option maxRecDepth 20000 in
theorem ja_Tray_has_18 : jv_at jm_Tray_has.2.2.2.2.2.2 18 = some (.if_icmp .ge 7, 3, 25, 0, 0, 0, 0) := rfl
set_option maxRecDepth 20000 in
theorem ja_Tray_has_21 : jv_at jm_Tray_has.2.2.2.2.2.2 21 = some (.iconst 1, 1, 0, 0, 0, 0, 1) := rfl
set_option maxRecDepth 20000 in
theorem ja_Tray_has_22 : jv_at jm_Tray_has.2.2.2.2.2.2 22 = some (.goto 4, 3, 26, 0, 0, 0, 0) := rfl
set_option maxRecDepth 20000 in
theorem ja_Tray_has_25 : jv_at jm_Tray_has.2.2.2.2.2.2 25 = some (.iconst 0, 1, 0, 0, 0, 0, 0) := rfl
set_option maxRecDepth 20000 in
theorem ja_Tray_has_26 : jv_at jm_Tray_has.2.2.2.2.2.2 26 = some (.ireturn, 1, 0, 0, 0, 0, 0) := rfl
