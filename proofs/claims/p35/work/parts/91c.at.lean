set_option maxRecDepth 20000 in
theorem ja_M_reads_0 : jv_at jm_M_reads.2.2.2.2.2.2 0 = some (.aload_n 0, 1, 0, 0, 0, 0, 0) := rfl
set_option maxRecDepth 20000 in
theorem ja_M_reads_1 : jv_at jm_M_reads.2.2.2.2.2.2 1 = some (.iload_n 1, 1, 0, 0, 0, 0, 0) := rfl
set_option maxRecDepth 20000 in
theorem ja_M_reads_2 : jv_at jm_M_reads.2.2.2.2.2.2 2 = some (.putfield 199, 3, 12, 39, 1051, 0, 0) := rfl
set_option maxRecDepth 20000 in
theorem ja_M_reads_5 : jv_at jm_M_reads.2.2.2.2.2.2 5 = some (.aload_n 0, 1, 0, 0, 0, 0, 0) := rfl
set_option maxRecDepth 20000 in
theorem ja_M_reads_6 : jv_at jm_M_reads.2.2.2.2.2.2 6 = some (.iconst 0, 1, 0, 0, 0, 0, 0) := rfl
set_option maxRecDepth 20000 in
theorem ja_M_reads_7 : jv_at jm_M_reads.2.2.2.2.2.2 7 = some (.putfield 156, 3, 12, 40, 1052, 0, 0) := rfl
set_option maxRecDepth 20000 in
theorem ja_M_reads_10 : jv_at jm_M_reads.2.2.2.2.2.2 10 = some (.aload_n 0, 1, 0, 0, 0, 0, 0) := rfl
set_option maxRecDepth 20000 in
theorem ja_M_reads_11 : jv_at jm_M_reads.2.2.2.2.2.2 11 = some (.iconst (-1), 1, 0, 0, 0, 0, -1) := rfl
set_option maxRecDepth 20000 in
theorem ja_M_reads_12 : jv_at jm_M_reads.2.2.2.2.2.2 12 = some (.putfield 183, 3, 12, 44, 1056, 0, 0) := rfl
set_option maxRecDepth 20000 in
theorem ja_M_reads_15 : jv_at jm_M_reads.2.2.2.2.2.2 15 = some (.aload_n 0, 1, 0, 0, 0, 0, 0) := rfl
set_option maxRecDepth 20000 in
theorem ja_M_reads_16 : jv_at jm_M_reads.2.2.2.2.2.2 16 = some (.iconst 0, 1, 0, 0, 0, 0, 0) := rfl
set_option maxRecDepth 20000 in
theorem ja_M_reads_17 : jv_at jm_M_reads.2.2.2.2.2.2 17 = some (.putfield 196, 3, 12, 45, 1057, 0, 0) := rfl
set_option maxRecDepth 20000 in
theorem ja_M_reads_20 : jv_at jm_M_reads.2.2.2.2.2.2 20 = some (.aload_n 0, 1, 0, 0, 0, 0, 0) := rfl
set_option maxRecDepth 20000 in
theorem ja_M_reads_21 : jv_at jm_M_reads.2.2.2.2.2.2 21 = some (.iconst 0, 1, 0, 0, 0, 0, 0) := rfl
set_option maxRecDepth 20000 in
theorem ja_M_reads_22 : jv_at jm_M_reads.2.2.2.2.2.2 22 = some (.putfield 202, 3, 12, 46, 1058, 0, 0) := rfl
set_option maxRecDepth 20000 in
theorem ja_M_reads_25 : jv_at jm_M_reads.2.2.2.2.2.2 25 = some (.aload_n 0, 1, 0, 0, 0, 0, 0) := rfl
set_option maxRecDepth 20000 in
theorem ja_M_reads_26 : jv_at jm_M_reads.2.2.2.2.2.2 26 = some (.invokevirtual 193, 3, 134, 0, 946, 12, 0) := rfl
set_option maxRecDepth 20000 in
theorem ja_M_reads_29 : jv_at jm_M_reads.2.2.2.2.2.2 29 = some (.iconst 0, 1, 0, 0, 0, 0, 0) := rfl
set_option maxRecDepth 20000 in
theorem ja_M_reads_30 : jv_at jm_M_reads.2.2.2.2.2.2 30 = some (.istore_n 2, 1, 0, 0, 0, 0, 0) := rfl
set_option maxRecDepth 20000 in
theorem ja_M_reads_31 : jv_at jm_M_reads.2.2.2.2.2.2 31 = some (.iload_n 2, 1, 0, 0, 0, 0, 0) := rfl
set_option maxRecDepth 20000 in
theorem ja_M_reads_32 : jv_at jm_M_reads.2.2.2.2.2.2 32 = some (.iconst 4, 1, 0, 0, 0, 0, 4) := rfl
set_option maxRecDepth 20000 in
theorem ja_M_reads_33 : jv_at jm_M_reads.2.2.2.2.2.2 33 = some (.if_icmp .ge 42, 3, 75, 0, 0, 0, 0) := rfl
set_option maxRecDepth 20000 in
theorem ja_M_reads_36 : jv_at jm_M_reads.2.2.2.2.2.2 36 = some (.aload_n 0, 1, 0, 0, 0, 0, 0) := rfl
set_option maxRecDepth 20000 in
theorem ja_M_reads_37 : jv_at jm_M_reads.2.2.2.2.2.2 37 = some (.getfield 72, 3, 12, 33, 1045, 0, 0) := rfl
set_option maxRecDepth 20000 in
theorem ja_M_reads_40 : jv_at jm_M_reads.2.2.2.2.2.2 40 = some (.iconst 5, 1, 0, 0, 0, 0, 5) := rfl
set_option maxRecDepth 20000 in
theorem ja_M_reads_41 : jv_at jm_M_reads.2.2.2.2.2.2 41 = some (.iload_n 1, 1, 0, 0, 0, 0, 0) := rfl
set_option maxRecDepth 20000 in
theorem ja_M_reads_42 : jv_at jm_M_reads.2.2.2.2.2.2 42 = some (.imul, 1, 0, 0, 0, 0, 0) := rfl
set_option maxRecDepth 20000 in
theorem ja_M_reads_43 : jv_at jm_M_reads.2.2.2.2.2.2 43 = some (.iload_n 2, 1, 0, 0, 0, 0, 0) := rfl
set_option maxRecDepth 20000 in
theorem ja_M_reads_44 : jv_at jm_M_reads.2.2.2.2.2.2 44 = some (.iadd, 1, 0, 0, 0, 0, 0) := rfl
set_option maxRecDepth 20000 in
theorem ja_M_reads_45 : jv_at jm_M_reads.2.2.2.2.2.2 45 = some (.aload_n 0, 1, 0, 0, 0, 0, 0) := rfl
set_option maxRecDepth 20000 in
theorem ja_M_reads_46 : jv_at jm_M_reads.2.2.2.2.2.2 46 = some (.getfield 202, 3, 12, 46, 1058, 0, 0) := rfl
set_option maxRecDepth 20000 in
theorem ja_M_reads_49 : jv_at jm_M_reads.2.2.2.2.2.2 49 = some (.iastore, 1, 0, 0, 0, 0, 0) := rfl
set_option maxRecDepth 20000 in
theorem ja_M_reads_50 : jv_at jm_M_reads.2.2.2.2.2.2 50 = some (.aload_n 0, 1, 0, 0, 0, 0, 0) := rfl
set_option maxRecDepth 20000 in
theorem ja_M_reads_51 : jv_at jm_M_reads.2.2.2.2.2.2 51 = some (.sipush 300, 3, 0, 0, 0, 0, 300) := rfl
set_option maxRecDepth 20000 in
theorem ja_M_reads_54 : jv_at jm_M_reads.2.2.2.2.2.2 54 = some (.iload_n 2, 1, 0, 0, 0, 0, 0) := rfl
set_option maxRecDepth 20000 in
theorem ja_M_reads_55 : jv_at jm_M_reads.2.2.2.2.2.2 55 = some (.iadd, 1, 0, 0, 0, 0, 0) := rfl
set_option maxRecDepth 20000 in
theorem ja_M_reads_56 : jv_at jm_M_reads.2.2.2.2.2.2 56 = some (.invokevirtual 205, 3, 140, 0, 968, 12, 1) := rfl
set_option maxRecDepth 20000 in
theorem ja_M_reads_59 : jv_at jm_M_reads.2.2.2.2.2.2 59 = some (.aload_n 0, 1, 0, 0, 0, 0, 0) := rfl
set_option maxRecDepth 20000 in
theorem ja_M_reads_60 : jv_at jm_M_reads.2.2.2.2.2.2 60 = some (.invokevirtual 208, 3, 143, 0, 980, 12, 0) := rfl
set_option maxRecDepth 20000 in
theorem ja_M_reads_63 : jv_at jm_M_reads.2.2.2.2.2.2 63 = some (.aload_n 0, 1, 0, 0, 0, 0, 0) := rfl
set_option maxRecDepth 20000 in
theorem ja_M_reads_64 : jv_at jm_M_reads.2.2.2.2.2.2 64 = some (.bipush 59, 2, 0, 0, 0, 0, 59) := rfl
set_option maxRecDepth 20000 in
theorem ja_M_reads_66 : jv_at jm_M_reads.2.2.2.2.2.2 66 = some (.invokevirtual 205, 3, 140, 0, 968, 12, 1) := rfl
set_option maxRecDepth 20000 in
theorem ja_M_reads_69 : jv_at jm_M_reads.2.2.2.2.2.2 69 = some (.iinc 2 1, 3, 0, 0, 0, 0, 0) := rfl
set_option maxRecDepth 20000 in
theorem ja_M_reads_72 : jv_at jm_M_reads.2.2.2.2.2.2 72 = some (.goto (-41), 3, 31, 0, 0, 0, 0) := rfl
set_option maxRecDepth 20000 in
theorem ja_M_reads_75 : jv_at jm_M_reads.2.2.2.2.2.2 75 = some (.aload_n 0, 1, 0, 0, 0, 0, 0) := rfl
set_option maxRecDepth 20000 in
theorem ja_M_reads_76 : jv_at jm_M_reads.2.2.2.2.2.2 76 = some (.getfield 72, 3, 12, 33, 1045, 0, 0) := rfl
set_option maxRecDepth 20000 in
theorem ja_M_reads_79 : jv_at jm_M_reads.2.2.2.2.2.2 79 = some (.iconst 5, 1, 0, 0, 0, 0, 5) := rfl
set_option maxRecDepth 20000 in
theorem ja_M_reads_80 : jv_at jm_M_reads.2.2.2.2.2.2 80 = some (.iload_n 1, 1, 0, 0, 0, 0, 0) := rfl
set_option maxRecDepth 20000 in
theorem ja_M_reads_81 : jv_at jm_M_reads.2.2.2.2.2.2 81 = some (.imul, 1, 0, 0, 0, 0, 0) := rfl
set_option maxRecDepth 20000 in
theorem ja_M_reads_82 : jv_at jm_M_reads.2.2.2.2.2.2 82 = some (.iconst 4, 1, 0, 0, 0, 0, 4) := rfl
set_option maxRecDepth 20000 in
theorem ja_M_reads_83 : jv_at jm_M_reads.2.2.2.2.2.2 83 = some (.iadd, 1, 0, 0, 0, 0, 0) := rfl
set_option maxRecDepth 20000 in
theorem ja_M_reads_84 : jv_at jm_M_reads.2.2.2.2.2.2 84 = some (.aload_n 0, 1, 0, 0, 0, 0, 0) := rfl
set_option maxRecDepth 20000 in
theorem ja_M_reads_85 : jv_at jm_M_reads.2.2.2.2.2.2 85 = some (.getfield 202, 3, 12, 46, 1058, 0, 0) := rfl
set_option maxRecDepth 20000 in
theorem ja_M_reads_88 : jv_at jm_M_reads.2.2.2.2.2.2 88 = some (.iastore, 1, 0, 0, 0, 0, 0) := rfl
set_option maxRecDepth 20000 in
theorem ja_M_reads_89 : jv_at jm_M_reads.2.2.2.2.2.2 89 = some (.aload_n 0, 1, 0, 0, 0, 0, 0) := rfl
set_option maxRecDepth 20000 in
theorem ja_M_reads_90 : jv_at jm_M_reads.2.2.2.2.2.2 90 = some (.iconst 0, 1, 0, 0, 0, 0, 0) := rfl
set_option maxRecDepth 20000 in
theorem ja_M_reads_91 : jv_at jm_M_reads.2.2.2.2.2.2 91 = some (.invokevirtual 205, 3, 140, 0, 968, 12, 1) := rfl
set_option maxRecDepth 20000 in
theorem ja_M_reads_94 : jv_at jm_M_reads.2.2.2.2.2.2 94 = some (.return_, 1, 0, 0, 0, 0, 0) := rfl
set_option maxRecDepth 20000 in
theorem ja_M_next_0 : jv_at jm_M_next.2.2.2.2.2.2 0 = some (.aload_n 0, 1, 0, 0, 0, 0, 0) := rfl
set_option maxRecDepth 20000 in
theorem ja_M_next_1 : jv_at jm_M_next.2.2.2.2.2.2 1 = some (.aload_n 0, 1, 0, 0, 0, 0, 0) := rfl
set_option maxRecDepth 20000 in
theorem ja_M_next_2 : jv_at jm_M_next.2.2.2.2.2.2 2 = some (.getfield 156, 3, 12, 40, 1052, 0, 0) := rfl
set_option maxRecDepth 20000 in
theorem ja_M_next_5 : jv_at jm_M_next.2.2.2.2.2.2 5 = some (.invokevirtual 159, 3, 135, 0, 950, 12, 1) := rfl
set_option maxRecDepth 20000 in
theorem ja_M_next_8 : jv_at jm_M_next.2.2.2.2.2.2 8 = some (.bipush 32, 2, 0, 0, 0, 0, 32) := rfl
set_option maxRecDepth 20000 in
theorem ja_M_next_10 : jv_at jm_M_next.2.2.2.2.2.2 10 = some (.if_icmp .eq 16, 3, 26, 0, 0, 0, 0) := rfl
set_option maxRecDepth 20000 in
theorem ja_M_next_13 : jv_at jm_M_next.2.2.2.2.2.2 13 = some (.aload_n 0, 1, 0, 0, 0, 0, 0) := rfl
set_option maxRecDepth 20000 in
theorem ja_M_next_14 : jv_at jm_M_next.2.2.2.2.2.2 14 = some (.aload_n 0, 1, 0, 0, 0, 0, 0) := rfl
set_option maxRecDepth 20000 in
theorem ja_M_next_15 : jv_at jm_M_next.2.2.2.2.2.2 15 = some (.getfield 156, 3, 12, 40, 1052, 0, 0) := rfl
set_option maxRecDepth 20000 in
theorem ja_M_next_18 : jv_at jm_M_next.2.2.2.2.2.2 18 = some (.invokevirtual 159, 3, 135, 0, 950, 12, 1) := rfl
set_option maxRecDepth 20000 in
theorem ja_M_next_21 : jv_at jm_M_next.2.2.2.2.2.2 21 = some (.bipush 10, 2, 0, 0, 0, 0, 10) := rfl
set_option maxRecDepth 20000 in
theorem ja_M_next_23 : jv_at jm_M_next.2.2.2.2.2.2 23 = some (.if_icmp .ne 16, 3, 39, 0, 0, 0, 0) := rfl
set_option maxRecDepth 20000 in
theorem ja_M_next_26 : jv_at jm_M_next.2.2.2.2.2.2 26 = some (.aload_n 0, 1, 0, 0, 0, 0, 0) := rfl
set_option maxRecDepth 20000 in
theorem ja_M_next_27 : jv_at jm_M_next.2.2.2.2.2.2 27 = some (.dup, 1, 0, 0, 0, 0, 0) := rfl
set_option maxRecDepth 20000 in
theorem ja_M_next_28 : jv_at jm_M_next.2.2.2.2.2.2 28 = some (.getfield 156, 3, 12, 40, 1052, 0, 0) := rfl
set_option maxRecDepth 20000 in
theorem ja_M_next_31 : jv_at jm_M_next.2.2.2.2.2.2 31 = some (.iconst 1, 1, 0, 0, 0, 0, 1) := rfl
set_option maxRecDepth 20000 in
theorem ja_M_next_32 : jv_at jm_M_next.2.2.2.2.2.2 32 = some (.iadd, 1, 0, 0, 0, 0, 0) := rfl
set_option maxRecDepth 20000 in
theorem ja_M_next_33 : jv_at jm_M_next.2.2.2.2.2.2 33 = some (.putfield 156, 3, 12, 40, 1052, 0, 0) := rfl
set_option maxRecDepth 20000 in
theorem ja_M_next_36 : jv_at jm_M_next.2.2.2.2.2.2 36 = some (.goto (-36), 3, 0, 0, 0, 0, 0) := rfl
set_option maxRecDepth 20000 in
theorem ja_M_next_39 : jv_at jm_M_next.2.2.2.2.2.2 39 = some (.aload_n 0, 1, 0, 0, 0, 0, 0) := rfl
set_option maxRecDepth 20000 in
theorem ja_M_next_40 : jv_at jm_M_next.2.2.2.2.2.2 40 = some (.aload_n 0, 1, 0, 0, 0, 0, 0) := rfl
set_option maxRecDepth 20000 in
theorem ja_M_next_41 : jv_at jm_M_next.2.2.2.2.2.2 41 = some (.getfield 156, 3, 12, 40, 1052, 0, 0) := rfl
set_option maxRecDepth 20000 in
theorem ja_M_next_44 : jv_at jm_M_next.2.2.2.2.2.2 44 = some (.putfield 162, 3, 12, 41, 1053, 0, 0) := rfl
set_option maxRecDepth 20000 in
theorem ja_M_next_47 : jv_at jm_M_next.2.2.2.2.2.2 47 = some (.aload_n 0, 1, 0, 0, 0, 0, 0) := rfl
set_option maxRecDepth 20000 in
theorem ja_M_next_48 : jv_at jm_M_next.2.2.2.2.2.2 48 = some (.aload_n 0, 1, 0, 0, 0, 0, 0) := rfl
set_option maxRecDepth 20000 in
theorem ja_M_next_49 : jv_at jm_M_next.2.2.2.2.2.2 49 = some (.getfield 156, 3, 12, 40, 1052, 0, 0) := rfl
set_option maxRecDepth 20000 in
theorem ja_M_next_52 : jv_at jm_M_next.2.2.2.2.2.2 52 = some (.invokevirtual 159, 3, 135, 0, 950, 12, 1) := rfl
set_option maxRecDepth 20000 in
theorem ja_M_next_55 : jv_at jm_M_next.2.2.2.2.2.2 55 = some (.istore_n 1, 1, 0, 0, 0, 0, 0) := rfl
set_option maxRecDepth 20000 in
theorem ja_M_next_56 : jv_at jm_M_next.2.2.2.2.2.2 56 = some (.iload_n 1, 1, 0, 0, 0, 0, 0) := rfl
set_option maxRecDepth 20000 in
theorem ja_M_next_57 : jv_at jm_M_next.2.2.2.2.2.2 57 = some (.iconst (-1), 1, 0, 0, 0, 0, -1) := rfl
set_option maxRecDepth 20000 in
theorem ja_M_next_58 : jv_at jm_M_next.2.2.2.2.2.2 58 = some (.if_icmp .ne 11, 3, 69, 0, 0, 0, 0) := rfl
set_option maxRecDepth 20000 in
theorem ja_M_next_61 : jv_at jm_M_next.2.2.2.2.2.2 61 = some (.aload_n 0, 1, 0, 0, 0, 0, 0) := rfl
set_option maxRecDepth 20000 in
theorem ja_M_next_62 : jv_at jm_M_next.2.2.2.2.2.2 62 = some (.iconst 0, 1, 0, 0, 0, 0, 0) := rfl
set_option maxRecDepth 20000 in
theorem ja_M_next_63 : jv_at jm_M_next.2.2.2.2.2.2 63 = some (.putfield 165, 3, 12, 42, 1054, 0, 0) := rfl
set_option maxRecDepth 20000 in
theorem ja_M_next_66 : jv_at jm_M_next.2.2.2.2.2.2 66 = some (.goto 108, 3, 174, 0, 0, 0, 0) := rfl
set_option maxRecDepth 20000 in
theorem ja_M_next_69 : jv_at jm_M_next.2.2.2.2.2.2 69 = some (.iload_n 1, 1, 0, 0, 0, 0, 0) := rfl
set_option maxRecDepth 20000 in
theorem ja_M_next_70 : jv_at jm_M_next.2.2.2.2.2.2 70 = some (.invokestatic 168, 3, 136, 1, 954, 12, 1) := rfl
set_option maxRecDepth 20000 in
theorem ja_M_next_73 : jv_at jm_M_next.2.2.2.2.2.2 73 = some (.ifCond .eq 10, 3, 83, 0, 0, 0, 0) := rfl
set_option maxRecDepth 20000 in
theorem ja_M_next_76 : jv_at jm_M_next.2.2.2.2.2.2 76 = some (.aload_n 0, 1, 0, 0, 0, 0, 0) := rfl
set_option maxRecDepth 20000 in
theorem ja_M_next_77 : jv_at jm_M_next.2.2.2.2.2.2 77 = some (.invokevirtual 171, 3, 137, 0, 957, 12, 0) := rfl
set_option maxRecDepth 20000 in
theorem ja_M_next_80 : jv_at jm_M_next.2.2.2.2.2.2 80 = some (.goto 94, 3, 174, 0, 0, 0, 0) := rfl
set_option maxRecDepth 20000 in
theorem ja_M_next_83 : jv_at jm_M_next.2.2.2.2.2.2 83 = some (.iload_n 1, 1, 0, 0, 0, 0, 0) := rfl
set_option maxRecDepth 20000 in
theorem ja_M_next_84 : jv_at jm_M_next.2.2.2.2.2.2 84 = some (.invokestatic 174, 3, 138, 1, 961, 12, 1) := rfl
set_option maxRecDepth 20000 in
theorem ja_M_next_87 : jv_at jm_M_next.2.2.2.2.2.2 87 = some (.ifCond .eq 10, 3, 97, 0, 0, 0, 0) := rfl
set_option maxRecDepth 20000 in
theorem ja_M_next_90 : jv_at jm_M_next.2.2.2.2.2.2 90 = some (.aload_n 0, 1, 0, 0, 0, 0, 0) := rfl
set_option maxRecDepth 20000 in
theorem ja_M_next_91 : jv_at jm_M_next.2.2.2.2.2.2 91 = some (.invokevirtual 177, 3, 139, 0, 964, 12, 0) := rfl
set_option maxRecDepth 20000 in
theorem ja_M_next_94 : jv_at jm_M_next.2.2.2.2.2.2 94 = some (.goto 80, 3, 174, 0, 0, 0, 0) := rfl
set_option maxRecDepth 20000 in
theorem ja_M_next_97 : jv_at jm_M_next.2.2.2.2.2.2 97 = some (.iload_n 1, 1, 0, 0, 0, 0, 0) := rfl
set_option maxRecDepth 20000 in
theorem ja_M_next_98 : jv_at jm_M_next.2.2.2.2.2.2 98 = some (.bipush 40, 2, 0, 0, 0, 0, 40) := rfl
set_option maxRecDepth 20000 in
theorem ja_M_next_100 : jv_at jm_M_next.2.2.2.2.2.2 100 = some (.if_icmp .eq 45, 3, 145, 0, 0, 0, 0) := rfl
set_option maxRecDepth 20000 in
theorem ja_M_next_103 : jv_at jm_M_next.2.2.2.2.2.2 103 = some (.iload_n 1, 1, 0, 0, 0, 0, 0) := rfl
set_option maxRecDepth 20000 in
theorem ja_M_next_104 : jv_at jm_M_next.2.2.2.2.2.2 104 = some (.bipush 41, 2, 0, 0, 0, 0, 41) := rfl
set_option maxRecDepth 20000 in
theorem ja_M_next_106 : jv_at jm_M_next.2.2.2.2.2.2 106 = some (.if_icmp .eq 39, 3, 145, 0, 0, 0, 0) := rfl
set_option maxRecDepth 20000 in
theorem ja_M_next_109 : jv_at jm_M_next.2.2.2.2.2.2 109 = some (.iload_n 1, 1, 0, 0, 0, 0, 0) := rfl
set_option maxRecDepth 20000 in
theorem ja_M_next_110 : jv_at jm_M_next.2.2.2.2.2.2 110 = some (.bipush 59, 2, 0, 0, 0, 0, 59) := rfl
set_option maxRecDepth 20000 in
theorem ja_M_next_112 : jv_at jm_M_next.2.2.2.2.2.2 112 = some (.if_icmp .eq 33, 3, 145, 0, 0, 0, 0) := rfl
set_option maxRecDepth 20000 in
theorem ja_M_next_115 : jv_at jm_M_next.2.2.2.2.2.2 115 = some (.iload_n 1, 1, 0, 0, 0, 0, 0) := rfl
set_option maxRecDepth 20000 in
theorem ja_M_next_116 : jv_at jm_M_next.2.2.2.2.2.2 116 = some (.bipush 43, 2, 0, 0, 0, 0, 43) := rfl
set_option maxRecDepth 20000 in
theorem ja_M_next_118 : jv_at jm_M_next.2.2.2.2.2.2 118 = some (.if_icmp .eq 27, 3, 145, 0, 0, 0, 0) := rfl
set_option maxRecDepth 20000 in
theorem ja_M_next_121 : jv_at jm_M_next.2.2.2.2.2.2 121 = some (.iload_n 1, 1, 0, 0, 0, 0, 0) := rfl
set_option maxRecDepth 20000 in
theorem ja_M_next_122 : jv_at jm_M_next.2.2.2.2.2.2 122 = some (.bipush 45, 2, 0, 0, 0, 0, 45) := rfl
set_option maxRecDepth 20000 in
theorem ja_M_next_124 : jv_at jm_M_next.2.2.2.2.2.2 124 = some (.if_icmp .eq 21, 3, 145, 0, 0, 0, 0) := rfl
set_option maxRecDepth 20000 in
theorem ja_M_next_127 : jv_at jm_M_next.2.2.2.2.2.2 127 = some (.iload_n 1, 1, 0, 0, 0, 0, 0) := rfl
set_option maxRecDepth 20000 in
theorem ja_M_next_128 : jv_at jm_M_next.2.2.2.2.2.2 128 = some (.bipush 42, 2, 0, 0, 0, 0, 42) := rfl
set_option maxRecDepth 20000 in
theorem ja_M_next_130 : jv_at jm_M_next.2.2.2.2.2.2 130 = some (.if_icmp .eq 15, 3, 145, 0, 0, 0, 0) := rfl
set_option maxRecDepth 20000 in
theorem ja_M_next_133 : jv_at jm_M_next.2.2.2.2.2.2 133 = some (.iload_n 1, 1, 0, 0, 0, 0, 0) := rfl
set_option maxRecDepth 20000 in
theorem ja_M_next_134 : jv_at jm_M_next.2.2.2.2.2.2 134 = some (.bipush 60, 2, 0, 0, 0, 0, 60) := rfl
set_option maxRecDepth 20000 in
theorem ja_M_next_136 : jv_at jm_M_next.2.2.2.2.2.2 136 = some (.if_icmp .eq 9, 3, 145, 0, 0, 0, 0) := rfl
set_option maxRecDepth 20000 in
theorem ja_M_next_139 : jv_at jm_M_next.2.2.2.2.2.2 139 = some (.iload_n 1, 1, 0, 0, 0, 0, 0) := rfl
set_option maxRecDepth 20000 in
theorem ja_M_next_140 : jv_at jm_M_next.2.2.2.2.2.2 140 = some (.bipush 61, 2, 0, 0, 0, 0, 61) := rfl
set_option maxRecDepth 20000 in
theorem ja_M_next_142 : jv_at jm_M_next.2.2.2.2.2.2 142 = some (.if_icmp .ne 7, 3, 149, 0, 0, 0, 0) := rfl
set_option maxRecDepth 20000 in
theorem ja_M_next_145 : jv_at jm_M_next.2.2.2.2.2.2 145 = some (.iconst 1, 1, 0, 0, 0, 0, 1) := rfl
set_option maxRecDepth 20000 in
theorem ja_M_next_146 : jv_at jm_M_next.2.2.2.2.2.2 146 = some (.goto 4, 3, 150, 0, 0, 0, 0) := rfl
set_option maxRecDepth 20000 in
theorem ja_M_next_149 : jv_at jm_M_next.2.2.2.2.2.2 149 = some (.iconst 0, 1, 0, 0, 0, 0, 0) := rfl
set_option maxRecDepth 20000 in
theorem ja_M_next_150 : jv_at jm_M_next.2.2.2.2.2.2 150 = some (.istore_n 2, 1, 0, 0, 0, 0, 0) := rfl
set_option maxRecDepth 20000 in
theorem ja_M_next_151 : jv_at jm_M_next.2.2.2.2.2.2 151 = some (.aload_n 0, 1, 0, 0, 0, 0, 0) := rfl
set_option maxRecDepth 20000 in
theorem ja_M_next_152 : jv_at jm_M_next.2.2.2.2.2.2 152 = some (.iload_n 2, 1, 0, 0, 0, 0, 0) := rfl
set_option maxRecDepth 20000 in
theorem ja_M_next_153 : jv_at jm_M_next.2.2.2.2.2.2 153 = some (.ifCond .eq 7, 3, 160, 0, 0, 0, 0) := rfl
set_option maxRecDepth 20000 in
theorem ja_M_next_156 : jv_at jm_M_next.2.2.2.2.2.2 156 = some (.iload_n 1, 1, 0, 0, 0, 0, 0) := rfl
set_option maxRecDepth 20000 in
theorem ja_M_next_157 : jv_at jm_M_next.2.2.2.2.2.2 157 = some (.goto 4, 3, 161, 0, 0, 0, 0) := rfl
set_option maxRecDepth 20000 in
theorem ja_M_next_160 : jv_at jm_M_next.2.2.2.2.2.2 160 = some (.iconst 2, 1, 0, 0, 0, 0, 2) := rfl
set_option maxRecDepth 20000 in
theorem ja_M_next_161 : jv_at jm_M_next.2.2.2.2.2.2 161 = some (.putfield 165, 3, 12, 42, 1054, 0, 0) := rfl
set_option maxRecDepth 20000 in
theorem ja_M_next_164 : jv_at jm_M_next.2.2.2.2.2.2 164 = some (.aload_n 0, 1, 0, 0, 0, 0, 0) := rfl
set_option maxRecDepth 20000 in
theorem ja_M_next_165 : jv_at jm_M_next.2.2.2.2.2.2 165 = some (.dup, 1, 0, 0, 0, 0, 0) := rfl
set_option maxRecDepth 20000 in
theorem ja_M_next_166 : jv_at jm_M_next.2.2.2.2.2.2 166 = some (.getfield 156, 3, 12, 40, 1052, 0, 0) := rfl
set_option maxRecDepth 20000 in
theorem ja_M_next_169 : jv_at jm_M_next.2.2.2.2.2.2 169 = some (.iconst 1, 1, 0, 0, 0, 0, 1) := rfl
set_option maxRecDepth 20000 in
theorem ja_M_next_170 : jv_at jm_M_next.2.2.2.2.2.2 170 = some (.iadd, 1, 0, 0, 0, 0, 0) := rfl
set_option maxRecDepth 20000 in
theorem ja_M_next_171 : jv_at jm_M_next.2.2.2.2.2.2 171 = some (.putfield 156, 3, 12, 40, 1052, 0, 0) := rfl
set_option maxRecDepth 20000 in
theorem ja_M_next_174 : jv_at jm_M_next.2.2.2.2.2.2 174 = some (.return_, 1, 0, 0, 0, 0, 0) := rfl
set_option maxRecDepth 20000 in
theorem ja_M_byteAt_0 : jv_at jm_M_byteAt.2.2.2.2.2.2 0 = some (.iload_n 1, 1, 0, 0, 0, 0, 0) := rfl
set_option maxRecDepth 20000 in
theorem ja_M_byteAt_1 : jv_at jm_M_byteAt.2.2.2.2.2.2 1 = some (.aload_n 0, 1, 0, 0, 0, 0, 0) := rfl
set_option maxRecDepth 20000 in
theorem ja_M_byteAt_2 : jv_at jm_M_byteAt.2.2.2.2.2.2 2 = some (.getfield 105, 3, 12, 38, 1050, 0, 0) := rfl
set_option maxRecDepth 20000 in
theorem ja_M_byteAt_5 : jv_at jm_M_byteAt.2.2.2.2.2.2 5 = some (.if_icmp .ge 12, 3, 17, 0, 0, 0, 0) := rfl
set_option maxRecDepth 20000 in
theorem ja_M_byteAt_8 : jv_at jm_M_byteAt.2.2.2.2.2.2 8 = some (.aload_n 0, 1, 0, 0, 0, 0, 0) := rfl
set_option maxRecDepth 20000 in
theorem ja_M_byteAt_9 : jv_at jm_M_byteAt.2.2.2.2.2.2 9 = some (.getfield 63, 3, 12, 29, 1041, 0, 0) := rfl
set_option maxRecDepth 20000 in
theorem ja_M_byteAt_12 : jv_at jm_M_byteAt.2.2.2.2.2.2 12 = some (.iload_n 1, 1, 0, 0, 0, 0, 0) := rfl
set_option maxRecDepth 20000 in
theorem ja_M_byteAt_13 : jv_at jm_M_byteAt.2.2.2.2.2.2 13 = some (.iaload, 1, 0, 0, 0, 0, 0) := rfl
set_option maxRecDepth 20000 in
theorem ja_M_byteAt_14 : jv_at jm_M_byteAt.2.2.2.2.2.2 14 = some (.goto 4, 3, 18, 0, 0, 0, 0) := rfl
set_option maxRecDepth 20000 in
theorem ja_M_byteAt_17 : jv_at jm_M_byteAt.2.2.2.2.2.2 17 = some (.iconst (-1), 1, 0, 0, 0, 0, -1) := rfl
set_option maxRecDepth 20000 in
theorem ja_M_byteAt_18 : jv_at jm_M_byteAt.2.2.2.2.2.2 18 = some (.ireturn, 1, 0, 0, 0, 0, 0) := rfl
set_option maxRecDepth 20000 in
theorem ja_M_isLetter_0 : jv_at jm_M_isLetter.2.2.2.2.2.2 0 = some (.iload_n 0, 1, 0, 0, 0, 0, 0) := rfl
set_option maxRecDepth 20000 in
theorem ja_M_isLetter_1 : jv_at jm_M_isLetter.2.2.2.2.2.2 1 = some (.bipush 97, 2, 0, 0, 0, 0, 97) := rfl
set_option maxRecDepth 20000 in
theorem ja_M_isLetter_3 : jv_at jm_M_isLetter.2.2.2.2.2.2 3 = some (.if_icmp .lt 13, 3, 16, 0, 0, 0, 0) := rfl
set_option maxRecDepth 20000 in
theorem ja_M_isLetter_6 : jv_at jm_M_isLetter.2.2.2.2.2.2 6 = some (.iload_n 0, 1, 0, 0, 0, 0, 0) := rfl
set_option maxRecDepth 20000 in
theorem ja_M_isLetter_7 : jv_at jm_M_isLetter.2.2.2.2.2.2 7 = some (.bipush 122, 2, 0, 0, 0, 0, 122) := rfl
set_option maxRecDepth 20000 in
theorem ja_M_isLetter_9 : jv_at jm_M_isLetter.2.2.2.2.2.2 9 = some (.if_icmp .gt 7, 3, 16, 0, 0, 0, 0) := rfl
set_option maxRecDepth 20000 in
theorem ja_M_isLetter_12 : jv_at jm_M_isLetter.2.2.2.2.2.2 12 = some (.iconst 1, 1, 0, 0, 0, 0, 1) := rfl
set_option maxRecDepth 20000 in
theorem ja_M_isLetter_13 : jv_at jm_M_isLetter.2.2.2.2.2.2 13 = some (.goto 4, 3, 17, 0, 0, 0, 0) := rfl
set_option maxRecDepth 20000 in
theorem ja_M_isLetter_16 : jv_at jm_M_isLetter.2.2.2.2.2.2 16 = some (.iconst 0, 1, 0, 0, 0, 0, 0) := rfl
set_option maxRecDepth 20000 in
theorem ja_M_isLetter_17 : jv_at jm_M_isLetter.2.2.2.2.2.2 17 = some (.ireturn, 1, 0, 0, 0, 0, 0) := rfl
set_option maxRecDepth 20000 in
theorem ja_M_spelled_0 : jv_at jm_M_spelled.2.2.2.2.2.2 0 = some (.aload_n 0, 1, 0, 0, 0, 0, 0) := rfl
set_option maxRecDepth 20000 in
theorem ja_M_spelled_1 : jv_at jm_M_spelled.2.2.2.2.2.2 1 = some (.aload_n 0, 1, 0, 0, 0, 0, 0) := rfl
set_option maxRecDepth 20000 in
theorem ja_M_spelled_2 : jv_at jm_M_spelled.2.2.2.2.2.2 2 = some (.getfield 156, 3, 12, 40, 1052, 0, 0) := rfl
set_option maxRecDepth 20000 in
theorem ja_M_spelled_5 : jv_at jm_M_spelled.2.2.2.2.2.2 5 = some (.invokevirtual 159, 3, 135, 0, 950, 12, 1) := rfl
set_option maxRecDepth 20000 in
theorem ja_M_spelled_8 : jv_at jm_M_spelled.2.2.2.2.2.2 8 = some (.invokestatic 168, 3, 136, 1, 954, 12, 1) := rfl
set_option maxRecDepth 20000 in
theorem ja_M_spelled_11 : jv_at jm_M_spelled.2.2.2.2.2.2 11 = some (.ifCond .eq 16, 3, 27, 0, 0, 0, 0) := rfl
set_option maxRecDepth 20000 in
theorem ja_M_spelled_14 : jv_at jm_M_spelled.2.2.2.2.2.2 14 = some (.aload_n 0, 1, 0, 0, 0, 0, 0) := rfl
set_option maxRecDepth 20000 in
theorem ja_M_spelled_15 : jv_at jm_M_spelled.2.2.2.2.2.2 15 = some (.dup, 1, 0, 0, 0, 0, 0) := rfl
set_option maxRecDepth 20000 in
theorem ja_M_spelled_16 : jv_at jm_M_spelled.2.2.2.2.2.2 16 = some (.getfield 156, 3, 12, 40, 1052, 0, 0) := rfl
set_option maxRecDepth 20000 in
theorem ja_M_spelled_19 : jv_at jm_M_spelled.2.2.2.2.2.2 19 = some (.iconst 1, 1, 0, 0, 0, 0, 1) := rfl
set_option maxRecDepth 20000 in
theorem ja_M_spelled_20 : jv_at jm_M_spelled.2.2.2.2.2.2 20 = some (.iadd, 1, 0, 0, 0, 0, 0) := rfl
set_option maxRecDepth 20000 in
theorem ja_M_spelled_21 : jv_at jm_M_spelled.2.2.2.2.2.2 21 = some (.putfield 156, 3, 12, 40, 1052, 0, 0) := rfl
set_option maxRecDepth 20000 in
theorem ja_M_spelled_24 : jv_at jm_M_spelled.2.2.2.2.2.2 24 = some (.goto (-24), 3, 0, 0, 0, 0, 0) := rfl
set_option maxRecDepth 20000 in
theorem ja_M_spelled_27 : jv_at jm_M_spelled.2.2.2.2.2.2 27 = some (.iconst 0, 1, 0, 0, 0, 0, 0) := rfl
set_option maxRecDepth 20000 in
theorem ja_M_spelled_28 : jv_at jm_M_spelled.2.2.2.2.2.2 28 = some (.istore_n 1, 1, 0, 0, 0, 0, 0) := rfl
set_option maxRecDepth 20000 in
theorem ja_M_spelled_29 : jv_at jm_M_spelled.2.2.2.2.2.2 29 = some (.iconst 0, 1, 0, 0, 0, 0, 0) := rfl
set_option maxRecDepth 20000 in
theorem ja_M_spelled_30 : jv_at jm_M_spelled.2.2.2.2.2.2 30 = some (.istore_n 2, 1, 0, 0, 0, 0, 0) := rfl
set_option maxRecDepth 20000 in
theorem ja_M_spelled_31 : jv_at jm_M_spelled.2.2.2.2.2.2 31 = some (.iconst 1, 1, 0, 0, 0, 0, 1) := rfl
set_option maxRecDepth 20000 in
theorem ja_M_spelled_32 : jv_at jm_M_spelled.2.2.2.2.2.2 32 = some (.istore_n 3, 1, 0, 0, 0, 0, 0) := rfl
set_option maxRecDepth 20000 in
theorem ja_M_spelled_33 : jv_at jm_M_spelled.2.2.2.2.2.2 33 = some (.aload_n 0, 1, 0, 0, 0, 0, 0) := rfl
set_option maxRecDepth 20000 in
theorem ja_M_spelled_34 : jv_at jm_M_spelled.2.2.2.2.2.2 34 = some (.iconst 2, 1, 0, 0, 0, 0, 2) := rfl
set_option maxRecDepth 20000 in
theorem ja_M_spelled_35 : jv_at jm_M_spelled.2.2.2.2.2.2 35 = some (.putfield 165, 3, 12, 42, 1054, 0, 0) := rfl
set_option maxRecDepth 20000 in
theorem ja_M_spelled_38 : jv_at jm_M_spelled.2.2.2.2.2.2 38 = some (.iconst 0, 1, 0, 0, 0, 0, 0) := rfl
set_option maxRecDepth 20000 in
theorem ja_M_spelled_39 : jv_at jm_M_spelled.2.2.2.2.2.2 39 = some (.istore 4, 2, 0, 0, 0, 0, 0) := rfl
set_option maxRecDepth 20000 in
theorem ja_M_spelled_41 : jv_at jm_M_spelled.2.2.2.2.2.2 41 = some (.iload 4, 2, 0, 0, 0, 0, 0) := rfl
set_option maxRecDepth 20000 in
theorem ja_M_spelled_43 : jv_at jm_M_spelled.2.2.2.2.2.2 43 = some (.aload_n 0, 1, 0, 0, 0, 0, 0) := rfl
set_option maxRecDepth 20000 in
theorem ja_M_spelled_44 : jv_at jm_M_spelled.2.2.2.2.2.2 44 = some (.getfield 84, 3, 12, 37, 1049, 0, 0) := rfl
set_option maxRecDepth 20000 in
theorem ja_M_spelled_47 : jv_at jm_M_spelled.2.2.2.2.2.2 47 = some (.arraylength, 1, 0, 0, 0, 0, 0) := rfl
set_option maxRecDepth 20000 in
theorem ja_M_spelled_48 : jv_at jm_M_spelled.2.2.2.2.2.2 48 = some (.if_icmp .ge 119, 3, 167, 0, 0, 0, 0) := rfl
set_option maxRecDepth 20000 in
theorem ja_M_spelled_51 : jv_at jm_M_spelled.2.2.2.2.2.2 51 = some (.aload_n 0, 1, 0, 0, 0, 0, 0) := rfl
set_option maxRecDepth 20000 in
theorem ja_M_spelled_52 : jv_at jm_M_spelled.2.2.2.2.2.2 52 = some (.getfield 84, 3, 12, 37, 1049, 0, 0) := rfl
set_option maxRecDepth 20000 in
theorem ja_M_spelled_55 : jv_at jm_M_spelled.2.2.2.2.2.2 55 = some (.iload 4, 2, 0, 0, 0, 0, 0) := rfl
set_option maxRecDepth 20000 in
theorem ja_M_spelled_57 : jv_at jm_M_spelled.2.2.2.2.2.2 57 = some (.iaload, 1, 0, 0, 0, 0, 0) := rfl
set_option maxRecDepth 20000 in
theorem ja_M_spelled_58 : jv_at jm_M_spelled.2.2.2.2.2.2 58 = some (.ifCond .ne 57, 3, 115, 0, 0, 0, 0) := rfl
set_option maxRecDepth 20000 in
theorem ja_M_spelled_61 : jv_at jm_M_spelled.2.2.2.2.2.2 61 = some (.iload_n 3, 1, 0, 0, 0, 0, 0) := rfl
set_option maxRecDepth 20000 in
theorem ja_M_spelled_62 : jv_at jm_M_spelled.2.2.2.2.2.2 62 = some (.ifCond .eq 43, 3, 105, 0, 0, 0, 0) := rfl
set_option maxRecDepth 20000 in
theorem ja_M_spelled_65 : jv_at jm_M_spelled.2.2.2.2.2.2 65 = some (.iload_n 2, 1, 0, 0, 0, 0, 0) := rfl
set_option maxRecDepth 20000 in
theorem ja_M_spelled_66 : jv_at jm_M_spelled.2.2.2.2.2.2 66 = some (.aload_n 0, 1, 0, 0, 0, 0, 0) := rfl
set_option maxRecDepth 20000 in
theorem ja_M_spelled_67 : jv_at jm_M_spelled.2.2.2.2.2.2 67 = some (.getfield 156, 3, 12, 40, 1052, 0, 0) := rfl
set_option maxRecDepth 20000 in
theorem ja_M_spelled_70 : jv_at jm_M_spelled.2.2.2.2.2.2 70 = some (.aload_n 0, 1, 0, 0, 0, 0, 0) := rfl
set_option maxRecDepth 20000 in
theorem ja_M_spelled_71 : jv_at jm_M_spelled.2.2.2.2.2.2 71 = some (.getfield 162, 3, 12, 41, 1053, 0, 0) := rfl
set_option maxRecDepth 20000 in
theorem ja_M_spelled_74 : jv_at jm_M_spelled.2.2.2.2.2.2 74 = some (.isub, 1, 0, 0, 0, 0, 0) := rfl
set_option maxRecDepth 20000 in
theorem ja_M_spelled_75 : jv_at jm_M_spelled.2.2.2.2.2.2 75 = some (.if_icmp .ne 30, 3, 105, 0, 0, 0, 0) := rfl
set_option maxRecDepth 20000 in
theorem ja_M_spelled_78 : jv_at jm_M_spelled.2.2.2.2.2.2 78 = some (.aload_n 0, 1, 0, 0, 0, 0, 0) := rfl
set_option maxRecDepth 20000 in
theorem ja_M_spelled_79 : jv_at jm_M_spelled.2.2.2.2.2.2 79 = some (.iload_n 1, 1, 0, 0, 0, 0, 0) := rfl
set_option maxRecDepth 20000 in
theorem ja_M_spelled_80 : jv_at jm_M_spelled.2.2.2.2.2.2 80 = some (.bipush 8, 2, 0, 0, 0, 0, 8) := rfl
set_option maxRecDepth 20000 in
theorem ja_M_spelled_82 : jv_at jm_M_spelled.2.2.2.2.2.2 82 = some (.if_icmp .ge 7, 3, 89, 0, 0, 0, 0) := rfl
set_option maxRecDepth 20000 in
theorem ja_M_spelled_85 : jv_at jm_M_spelled.2.2.2.2.2.2 85 = some (.iconst 3, 1, 0, 0, 0, 0, 3) := rfl
set_option maxRecDepth 20000 in
theorem ja_M_spelled_86 : jv_at jm_M_spelled.2.2.2.2.2.2 86 = some (.goto 11, 3, 97, 0, 0, 0, 0) := rfl
set_option maxRecDepth 20000 in
theorem ja_M_spelled_89 : jv_at jm_M_spelled.2.2.2.2.2.2 89 = some (.sipush 300, 3, 0, 0, 0, 0, 300) := rfl
set_option maxRecDepth 20000 in
theorem ja_M_spelled_92 : jv_at jm_M_spelled.2.2.2.2.2.2 92 = some (.iload_n 1, 1, 0, 0, 0, 0, 0) := rfl
set_option maxRecDepth 20000 in
theorem ja_M_spelled_93 : jv_at jm_M_spelled.2.2.2.2.2.2 93 = some (.iadd, 1, 0, 0, 0, 0, 0) := rfl
set_option maxRecDepth 20000 in
theorem ja_M_spelled_94 : jv_at jm_M_spelled.2.2.2.2.2.2 94 = some (.bipush 8, 2, 0, 0, 0, 0, 8) := rfl
set_option maxRecDepth 20000 in
theorem ja_M_spelled_96 : jv_at jm_M_spelled.2.2.2.2.2.2 96 = some (.isub, 1, 0, 0, 0, 0, 0) := rfl
set_option maxRecDepth 20000 in
theorem ja_M_spelled_97 : jv_at jm_M_spelled.2.2.2.2.2.2 97 = some (.putfield 165, 3, 12, 42, 1054, 0, 0) := rfl
set_option maxRecDepth 20000 in
theorem ja_M_spelled_100 : jv_at jm_M_spelled.2.2.2.2.2.2 100 = some (.aload_n 0, 1, 0, 0, 0, 0, 0) := rfl
set_option maxRecDepth 20000 in
theorem ja_M_spelled_101 : jv_at jm_M_spelled.2.2.2.2.2.2 101 = some (.iload_n 1, 1, 0, 0, 0, 0, 0) := rfl
set_option maxRecDepth 20000 in
theorem ja_M_spelled_102 : jv_at jm_M_spelled.2.2.2.2.2.2 102 = some (.putfield 180, 3, 12, 43, 1055, 0, 0) := rfl
set_option maxRecDepth 20000 in
theorem ja_M_spelled_105 : jv_at jm_M_spelled.2.2.2.2.2.2 105 = some (.iinc 1 1, 3, 0, 0, 0, 0, 0) := rfl
set_option maxRecDepth 20000 in
theorem ja_M_spelled_108 : jv_at jm_M_spelled.2.2.2.2.2.2 108 = some (.iconst 0, 1, 0, 0, 0, 0, 0) := rfl
set_option maxRecDepth 20000 in
theorem ja_M_spelled_109 : jv_at jm_M_spelled.2.2.2.2.2.2 109 = some (.istore_n 2, 1, 0, 0, 0, 0, 0) := rfl
set_option maxRecDepth 20000 in
theorem ja_M_spelled_110 : jv_at jm_M_spelled.2.2.2.2.2.2 110 = some (.iconst 1, 1, 0, 0, 0, 0, 1) := rfl
set_option maxRecDepth 20000 in
theorem ja_M_spelled_111 : jv_at jm_M_spelled.2.2.2.2.2.2 111 = some (.istore_n 3, 1, 0, 0, 0, 0, 0) := rfl
set_option maxRecDepth 20000 in
theorem ja_M_spelled_112 : jv_at jm_M_spelled.2.2.2.2.2.2 112 = some (.goto 49, 3, 161, 0, 0, 0, 0) := rfl
set_option maxRecDepth 20000 in
theorem ja_M_spelled_115 : jv_at jm_M_spelled.2.2.2.2.2.2 115 = some (.iload_n 3, 1, 0, 0, 0, 0, 0) := rfl
set_option maxRecDepth 20000 in
theorem ja_M_spelled_116 : jv_at jm_M_spelled.2.2.2.2.2.2 116 = some (.ifCond .eq 40, 3, 156, 0, 0, 0, 0) := rfl
set_option maxRecDepth 20000 in
theorem ja_M_spelled_119 : jv_at jm_M_spelled.2.2.2.2.2.2 119 = some (.aload_n 0, 1, 0, 0, 0, 0, 0) := rfl
set_option maxRecDepth 20000 in
theorem ja_M_spelled_120 : jv_at jm_M_spelled.2.2.2.2.2.2 120 = some (.aload_n 0, 1, 0, 0, 0, 0, 0) := rfl
set_option maxRecDepth 20000 in
theorem ja_M_spelled_121 : jv_at jm_M_spelled.2.2.2.2.2.2 121 = some (.getfield 162, 3, 12, 41, 1053, 0, 0) := rfl
set_option maxRecDepth 20000 in
theorem ja_M_spelled_124 : jv_at jm_M_spelled.2.2.2.2.2.2 124 = some (.iload_n 2, 1, 0, 0, 0, 0, 0) := rfl
set_option maxRecDepth 20000 in
theorem ja_M_spelled_125 : jv_at jm_M_spelled.2.2.2.2.2.2 125 = some (.iadd, 1, 0, 0, 0, 0, 0) := rfl
set_option maxRecDepth 20000 in
theorem ja_M_spelled_126 : jv_at jm_M_spelled.2.2.2.2.2.2 126 = some (.invokevirtual 159, 3, 135, 0, 950, 12, 1) := rfl
set_option maxRecDepth 20000 in
theorem ja_M_spelled_129 : jv_at jm_M_spelled.2.2.2.2.2.2 129 = some (.aload_n 0, 1, 0, 0, 0, 0, 0) := rfl
set_option maxRecDepth 20000 in
theorem ja_M_spelled_130 : jv_at jm_M_spelled.2.2.2.2.2.2 130 = some (.getfield 84, 3, 12, 37, 1049, 0, 0) := rfl
set_option maxRecDepth 20000 in
theorem ja_M_spelled_133 : jv_at jm_M_spelled.2.2.2.2.2.2 133 = some (.iload 4, 2, 0, 0, 0, 0, 0) := rfl
set_option maxRecDepth 20000 in
theorem ja_M_spelled_135 : jv_at jm_M_spelled.2.2.2.2.2.2 135 = some (.iaload, 1, 0, 0, 0, 0, 0) := rfl
set_option maxRecDepth 20000 in
theorem ja_M_spelled_136 : jv_at jm_M_spelled.2.2.2.2.2.2 136 = some (.if_icmp .ne 20, 3, 156, 0, 0, 0, 0) := rfl
set_option maxRecDepth 20000 in
theorem ja_M_spelled_139 : jv_at jm_M_spelled.2.2.2.2.2.2 139 = some (.iload_n 2, 1, 0, 0, 0, 0, 0) := rfl
set_option maxRecDepth 20000 in
theorem ja_M_spelled_140 : jv_at jm_M_spelled.2.2.2.2.2.2 140 = some (.aload_n 0, 1, 0, 0, 0, 0, 0) := rfl
set_option maxRecDepth 20000 in
theorem ja_M_spelled_141 : jv_at jm_M_spelled.2.2.2.2.2.2 141 = some (.getfield 156, 3, 12, 40, 1052, 0, 0) := rfl
set_option maxRecDepth 20000 in
theorem ja_M_spelled_144 : jv_at jm_M_spelled.2.2.2.2.2.2 144 = some (.aload_n 0, 1, 0, 0, 0, 0, 0) := rfl
set_option maxRecDepth 20000 in
theorem ja_M_spelled_145 : jv_at jm_M_spelled.2.2.2.2.2.2 145 = some (.getfield 162, 3, 12, 41, 1053, 0, 0) := rfl
set_option maxRecDepth 20000 in
theorem ja_M_spelled_148 : jv_at jm_M_spelled.2.2.2.2.2.2 148 = some (.isub, 1, 0, 0, 0, 0, 0) := rfl
set_option maxRecDepth 20000 in
theorem ja_M_spelled_149 : jv_at jm_M_spelled.2.2.2.2.2.2 149 = some (.if_icmp .ge 7, 3, 156, 0, 0, 0, 0) := rfl
set_option maxRecDepth 20000 in
theorem ja_M_spelled_152 : jv_at jm_M_spelled.2.2.2.2.2.2 152 = some (.iconst 1, 1, 0, 0, 0, 0, 1) := rfl
set_option maxRecDepth 20000 in
theorem ja_M_spelled_153 : jv_at jm_M_spelled.2.2.2.2.2.2 153 = some (.goto 4, 3, 157, 0, 0, 0, 0) := rfl
set_option maxRecDepth 20000 in
theorem ja_M_spelled_156 : jv_at jm_M_spelled.2.2.2.2.2.2 156 = some (.iconst 0, 1, 0, 0, 0, 0, 0) := rfl
set_option maxRecDepth 20000 in
theorem ja_M_spelled_157 : jv_at jm_M_spelled.2.2.2.2.2.2 157 = some (.istore_n 3, 1, 0, 0, 0, 0, 0) := rfl
set_option maxRecDepth 20000 in
theorem ja_M_spelled_158 : jv_at jm_M_spelled.2.2.2.2.2.2 158 = some (.iinc 2 1, 3, 0, 0, 0, 0, 0) := rfl
set_option maxRecDepth 20000 in
theorem ja_M_spelled_161 : jv_at jm_M_spelled.2.2.2.2.2.2 161 = some (.iinc 4 1, 3, 0, 0, 0, 0, 0) := rfl
set_option maxRecDepth 20000 in
theorem ja_M_spelled_164 : jv_at jm_M_spelled.2.2.2.2.2.2 164 = some (.goto (-123), 3, 41, 0, 0, 0, 0) := rfl
set_option maxRecDepth 20000 in
theorem ja_M_spelled_167 : jv_at jm_M_spelled.2.2.2.2.2.2 167 = some (.return_, 1, 0, 0, 0, 0, 0) := rfl
set_option maxRecDepth 20000 in
theorem ja_M_isDigit_0 : jv_at jm_M_isDigit.2.2.2.2.2.2 0 = some (.iload_n 0, 1, 0, 0, 0, 0, 0) := rfl
set_option maxRecDepth 20000 in
theorem ja_M_isDigit_1 : jv_at jm_M_isDigit.2.2.2.2.2.2 1 = some (.bipush 48, 2, 0, 0, 0, 0, 48) := rfl
set_option maxRecDepth 20000 in
theorem ja_M_isDigit_3 : jv_at jm_M_isDigit.2.2.2.2.2.2 3 = some (.if_icmp .lt 13, 3, 16, 0, 0, 0, 0) := rfl
set_option maxRecDepth 20000 in
theorem ja_M_isDigit_6 : jv_at jm_M_isDigit.2.2.2.2.2.2 6 = some (.iload_n 0, 1, 0, 0, 0, 0, 0) := rfl
set_option maxRecDepth 20000 in
theorem ja_M_isDigit_7 : jv_at jm_M_isDigit.2.2.2.2.2.2 7 = some (.bipush 57, 2, 0, 0, 0, 0, 57) := rfl
set_option maxRecDepth 20000 in
theorem ja_M_isDigit_9 : jv_at jm_M_isDigit.2.2.2.2.2.2 9 = some (.if_icmp .gt 7, 3, 16, 0, 0, 0, 0) := rfl
set_option maxRecDepth 20000 in
theorem ja_M_isDigit_12 : jv_at jm_M_isDigit.2.2.2.2.2.2 12 = some (.iconst 1, 1, 0, 0, 0, 0, 1) := rfl
set_option maxRecDepth 20000 in
theorem ja_M_isDigit_13 : jv_at jm_M_isDigit.2.2.2.2.2.2 13 = some (.goto 4, 3, 17, 0, 0, 0, 0) := rfl
set_option maxRecDepth 20000 in
theorem ja_M_isDigit_16 : jv_at jm_M_isDigit.2.2.2.2.2.2 16 = some (.iconst 0, 1, 0, 0, 0, 0, 0) := rfl
set_option maxRecDepth 20000 in
theorem ja_M_isDigit_17 : jv_at jm_M_isDigit.2.2.2.2.2.2 17 = some (.ireturn, 1, 0, 0, 0, 0, 0) := rfl
set_option maxRecDepth 20000 in
theorem ja_M_number_0 : jv_at jm_M_number.2.2.2.2.2.2 0 = some (.aload_n 0, 1, 0, 0, 0, 0, 0) := rfl
set_option maxRecDepth 20000 in
theorem ja_M_number_1 : jv_at jm_M_number.2.2.2.2.2.2 1 = some (.iconst 0, 1, 0, 0, 0, 0, 0) := rfl
set_option maxRecDepth 20000 in
theorem ja_M_number_2 : jv_at jm_M_number.2.2.2.2.2.2 2 = some (.putfield 180, 3, 12, 43, 1055, 0, 0) := rfl
set_option maxRecDepth 20000 in
theorem ja_M_number_5 : jv_at jm_M_number.2.2.2.2.2.2 5 = some (.aload_n 0, 1, 0, 0, 0, 0, 0) := rfl
set_option maxRecDepth 20000 in
theorem ja_M_number_6 : jv_at jm_M_number.2.2.2.2.2.2 6 = some (.aload_n 0, 1, 0, 0, 0, 0, 0) := rfl
set_option maxRecDepth 20000 in
theorem ja_M_number_7 : jv_at jm_M_number.2.2.2.2.2.2 7 = some (.getfield 156, 3, 12, 40, 1052, 0, 0) := rfl
set_option maxRecDepth 20000 in
theorem ja_M_number_10 : jv_at jm_M_number.2.2.2.2.2.2 10 = some (.invokevirtual 159, 3, 135, 0, 950, 12, 1) := rfl
set_option maxRecDepth 20000 in
theorem ja_M_number_13 : jv_at jm_M_number.2.2.2.2.2.2 13 = some (.invokestatic 174, 3, 138, 1, 961, 12, 1) := rfl
set_option maxRecDepth 20000 in
theorem ja_M_number_16 : jv_at jm_M_number.2.2.2.2.2.2 16 = some (.ifCond .eq 59, 3, 75, 0, 0, 0, 0) := rfl
set_option maxRecDepth 20000 in
theorem ja_M_number_19 : jv_at jm_M_number.2.2.2.2.2.2 19 = some (.aload_n 0, 1, 0, 0, 0, 0, 0) := rfl
set_option maxRecDepth 20000 in
theorem ja_M_number_20 : jv_at jm_M_number.2.2.2.2.2.2 20 = some (.aload_n 0, 1, 0, 0, 0, 0, 0) := rfl
set_option maxRecDepth 20000 in
theorem ja_M_number_21 : jv_at jm_M_number.2.2.2.2.2.2 21 = some (.getfield 156, 3, 12, 40, 1052, 0, 0) := rfl
set_option maxRecDepth 20000 in
theorem ja_M_number_24 : jv_at jm_M_number.2.2.2.2.2.2 24 = some (.aload_n 0, 1, 0, 0, 0, 0, 0) := rfl
set_option maxRecDepth 20000 in
theorem ja_M_number_25 : jv_at jm_M_number.2.2.2.2.2.2 25 = some (.getfield 162, 3, 12, 41, 1053, 0, 0) := rfl
set_option maxRecDepth 20000 in
theorem ja_M_number_28 : jv_at jm_M_number.2.2.2.2.2.2 28 = some (.isub, 1, 0, 0, 0, 0, 0) := rfl
set_option maxRecDepth 20000 in
theorem ja_M_number_29 : jv_at jm_M_number.2.2.2.2.2.2 29 = some (.iconst 4, 1, 0, 0, 0, 0, 4) := rfl
set_option maxRecDepth 20000 in
theorem ja_M_number_30 : jv_at jm_M_number.2.2.2.2.2.2 30 = some (.if_icmp .ge 25, 3, 55, 0, 0, 0, 0) := rfl
set_option maxRecDepth 20000 in
theorem ja_M_number_33 : jv_at jm_M_number.2.2.2.2.2.2 33 = some (.bipush 10, 2, 0, 0, 0, 0, 10) := rfl
set_option maxRecDepth 20000 in
theorem ja_M_number_35 : jv_at jm_M_number.2.2.2.2.2.2 35 = some (.aload_n 0, 1, 0, 0, 0, 0, 0) := rfl
set_option maxRecDepth 20000 in
theorem ja_M_number_36 : jv_at jm_M_number.2.2.2.2.2.2 36 = some (.getfield 180, 3, 12, 43, 1055, 0, 0) := rfl
set_option maxRecDepth 20000 in
theorem ja_M_number_39 : jv_at jm_M_number.2.2.2.2.2.2 39 = some (.imul, 1, 0, 0, 0, 0, 0) := rfl
set_option maxRecDepth 20000 in
theorem ja_M_number_40 : jv_at jm_M_number.2.2.2.2.2.2 40 = some (.aload_n 0, 1, 0, 0, 0, 0, 0) := rfl
set_option maxRecDepth 20000 in
theorem ja_M_number_41 : jv_at jm_M_number.2.2.2.2.2.2 41 = some (.aload_n 0, 1, 0, 0, 0, 0, 0) := rfl
set_option maxRecDepth 20000 in
theorem ja_M_number_42 : jv_at jm_M_number.2.2.2.2.2.2 42 = some (.getfield 156, 3, 12, 40, 1052, 0, 0) := rfl
set_option maxRecDepth 20000 in
theorem ja_M_number_45 : jv_at jm_M_number.2.2.2.2.2.2 45 = some (.invokevirtual 159, 3, 135, 0, 950, 12, 1) := rfl
set_option maxRecDepth 20000 in
theorem ja_M_number_48 : jv_at jm_M_number.2.2.2.2.2.2 48 = some (.iadd, 1, 0, 0, 0, 0, 0) := rfl
set_option maxRecDepth 20000 in
theorem ja_M_number_49 : jv_at jm_M_number.2.2.2.2.2.2 49 = some (.bipush 48, 2, 0, 0, 0, 0, 48) := rfl
set_option maxRecDepth 20000 in
theorem ja_M_number_51 : jv_at jm_M_number.2.2.2.2.2.2 51 = some (.isub, 1, 0, 0, 0, 0, 0) := rfl
set_option maxRecDepth 20000 in
theorem ja_M_number_52 : jv_at jm_M_number.2.2.2.2.2.2 52 = some (.goto 7, 3, 59, 0, 0, 0, 0) := rfl
set_option maxRecDepth 20000 in
theorem ja_M_number_55 : jv_at jm_M_number.2.2.2.2.2.2 55 = some (.aload_n 0, 1, 0, 0, 0, 0, 0) := rfl
set_option maxRecDepth 20000 in
theorem ja_M_number_56 : jv_at jm_M_number.2.2.2.2.2.2 56 = some (.getfield 180, 3, 12, 43, 1055, 0, 0) := rfl
set_option maxRecDepth 20000 in
theorem ja_M_number_59 : jv_at jm_M_number.2.2.2.2.2.2 59 = some (.putfield 180, 3, 12, 43, 1055, 0, 0) := rfl
set_option maxRecDepth 20000 in
theorem ja_M_number_62 : jv_at jm_M_number.2.2.2.2.2.2 62 = some (.aload_n 0, 1, 0, 0, 0, 0, 0) := rfl
set_option maxRecDepth 20000 in
theorem ja_M_number_63 : jv_at jm_M_number.2.2.2.2.2.2 63 = some (.dup, 1, 0, 0, 0, 0, 0) := rfl
set_option maxRecDepth 20000 in
theorem ja_M_number_64 : jv_at jm_M_number.2.2.2.2.2.2 64 = some (.getfield 156, 3, 12, 40, 1052, 0, 0) := rfl
set_option maxRecDepth 20000 in
theorem ja_M_number_67 : jv_at jm_M_number.2.2.2.2.2.2 67 = some (.iconst 1, 1, 0, 0, 0, 0, 1) := rfl
set_option maxRecDepth 20000 in
theorem ja_M_number_68 : jv_at jm_M_number.2.2.2.2.2.2 68 = some (.iadd, 1, 0, 0, 0, 0, 0) := rfl
set_option maxRecDepth 20000 in
theorem ja_M_number_69 : jv_at jm_M_number.2.2.2.2.2.2 69 = some (.putfield 156, 3, 12, 40, 1052, 0, 0) := rfl
set_option maxRecDepth 20000 in
theorem ja_M_number_72 : jv_at jm_M_number.2.2.2.2.2.2 72 = some (.goto (-67), 3, 5, 0, 0, 0, 0) := rfl
set_option maxRecDepth 20000 in
theorem ja_M_number_75 : jv_at jm_M_number.2.2.2.2.2.2 75 = some (.aload_n 0, 1, 0, 0, 0, 0, 0) := rfl
set_option maxRecDepth 20000 in
theorem ja_M_number_76 : jv_at jm_M_number.2.2.2.2.2.2 76 = some (.aload_n 0, 1, 0, 0, 0, 0, 0) := rfl
set_option maxRecDepth 20000 in
theorem ja_M_number_77 : jv_at jm_M_number.2.2.2.2.2.2 77 = some (.getfield 156, 3, 12, 40, 1052, 0, 0) := rfl
set_option maxRecDepth 20000 in
theorem ja_M_number_80 : jv_at jm_M_number.2.2.2.2.2.2 80 = some (.aload_n 0, 1, 0, 0, 0, 0, 0) := rfl
set_option maxRecDepth 20000 in
theorem ja_M_number_81 : jv_at jm_M_number.2.2.2.2.2.2 81 = some (.getfield 162, 3, 12, 41, 1053, 0, 0) := rfl
set_option maxRecDepth 20000 in
theorem ja_M_number_84 : jv_at jm_M_number.2.2.2.2.2.2 84 = some (.isub, 1, 0, 0, 0, 0, 0) := rfl
set_option maxRecDepth 20000 in
theorem ja_M_number_85 : jv_at jm_M_number.2.2.2.2.2.2 85 = some (.iconst 4, 1, 0, 0, 0, 0, 4) := rfl
set_option maxRecDepth 20000 in
theorem ja_M_number_86 : jv_at jm_M_number.2.2.2.2.2.2 86 = some (.if_icmp .le 7, 3, 93, 0, 0, 0, 0) := rfl
set_option maxRecDepth 20000 in
theorem ja_M_number_89 : jv_at jm_M_number.2.2.2.2.2.2 89 = some (.iconst 2, 1, 0, 0, 0, 0, 2) := rfl
set_option maxRecDepth 20000 in
theorem ja_M_number_90 : jv_at jm_M_number.2.2.2.2.2.2 90 = some (.goto 4, 3, 94, 0, 0, 0, 0) := rfl
set_option maxRecDepth 20000 in
theorem ja_M_number_93 : jv_at jm_M_number.2.2.2.2.2.2 93 = some (.iconst 1, 1, 0, 0, 0, 0, 1) := rfl
set_option maxRecDepth 20000 in
theorem ja_M_number_94 : jv_at jm_M_number.2.2.2.2.2.2 94 = some (.putfield 165, 3, 12, 42, 1054, 0, 0) := rfl
set_option maxRecDepth 20000 in
theorem ja_M_number_97 : jv_at jm_M_number.2.2.2.2.2.2 97 = some (.return_, 1, 0, 0, 0, 0, 0) := rfl
set_option maxRecDepth 20000 in
theorem ja_M_need_0 : jv_at jm_M_need.2.2.2.2.2.2 0 = some (.aload_n 0, 1, 0, 0, 0, 0, 0) := rfl
set_option maxRecDepth 20000 in
theorem ja_M_need_1 : jv_at jm_M_need.2.2.2.2.2.2 1 = some (.invokevirtual 186, 3, 141, 0, 972, 12, 0) := rfl
set_option maxRecDepth 20000 in
theorem ja_M_need_4 : jv_at jm_M_need.2.2.2.2.2.2 4 = some (.ifCond .eq 4, 3, 8, 0, 0, 0, 0) := rfl
set_option maxRecDepth 20000 in
theorem ja_M_need_7 : jv_at jm_M_need.2.2.2.2.2.2 7 = some (.return_, 1, 0, 0, 0, 0, 0) := rfl
set_option maxRecDepth 20000 in
theorem ja_M_need_8 : jv_at jm_M_need.2.2.2.2.2.2 8 = some (.aload_n 0, 1, 0, 0, 0, 0, 0) := rfl
set_option maxRecDepth 20000 in
theorem ja_M_need_9 : jv_at jm_M_need.2.2.2.2.2.2 9 = some (.getfield 165, 3, 12, 42, 1054, 0, 0) := rfl
set_option maxRecDepth 20000 in
theorem ja_M_need_12 : jv_at jm_M_need.2.2.2.2.2.2 12 = some (.iload_n 1, 1, 0, 0, 0, 0, 0) := rfl
set_option maxRecDepth 20000 in
theorem ja_M_need_13 : jv_at jm_M_need.2.2.2.2.2.2 13 = some (.if_icmp .eq 10, 3, 23, 0, 0, 0, 0) := rfl
set_option maxRecDepth 20000 in
theorem ja_M_need_16 : jv_at jm_M_need.2.2.2.2.2.2 16 = some (.aload_n 0, 1, 0, 0, 0, 0, 0) := rfl
set_option maxRecDepth 20000 in
theorem ja_M_need_17 : jv_at jm_M_need.2.2.2.2.2.2 17 = some (.invokevirtual 190, 3, 142, 0, 976, 12, 0) := rfl
set_option maxRecDepth 20000 in
theorem ja_M_need_20 : jv_at jm_M_need.2.2.2.2.2.2 20 = some (.goto 7, 3, 27, 0, 0, 0, 0) := rfl
set_option maxRecDepth 20000 in
theorem ja_M_need_23 : jv_at jm_M_need.2.2.2.2.2.2 23 = some (.aload_n 0, 1, 0, 0, 0, 0, 0) := rfl
set_option maxRecDepth 20000 in
theorem ja_M_need_24 : jv_at jm_M_need.2.2.2.2.2.2 24 = some (.invokevirtual 193, 3, 134, 0, 946, 12, 0) := rfl
set_option maxRecDepth 20000 in
theorem ja_M_need_27 : jv_at jm_M_need.2.2.2.2.2.2 27 = some (.return_, 1, 0, 0, 0, 0, 0) := rfl
set_option maxRecDepth 20000 in
theorem ja_M_isWrong_0 : jv_at jm_M_isWrong.2.2.2.2.2.2 0 = some (.aload_n 0, 1, 0, 0, 0, 0, 0) := rfl
set_option maxRecDepth 20000 in
theorem ja_M_isWrong_1 : jv_at jm_M_isWrong.2.2.2.2.2.2 1 = some (.getfield 183, 3, 12, 44, 1056, 0, 0) := rfl
set_option maxRecDepth 20000 in
theorem ja_M_isWrong_4 : jv_at jm_M_isWrong.2.2.2.2.2.2 4 = some (.iconst (-1), 1, 0, 0, 0, 0, -1) := rfl
set_option maxRecDepth 20000 in
theorem ja_M_isWrong_5 : jv_at jm_M_isWrong.2.2.2.2.2.2 5 = some (.if_icmp .eq 7, 3, 12, 0, 0, 0, 0) := rfl
set_option maxRecDepth 20000 in
theorem ja_M_isWrong_8 : jv_at jm_M_isWrong.2.2.2.2.2.2 8 = some (.iconst 1, 1, 0, 0, 0, 0, 1) := rfl
set_option maxRecDepth 20000 in
theorem ja_M_isWrong_9 : jv_at jm_M_isWrong.2.2.2.2.2.2 9 = some (.goto 4, 3, 13, 0, 0, 0, 0) := rfl
set_option maxRecDepth 20000 in
theorem ja_M_isWrong_12 : jv_at jm_M_isWrong.2.2.2.2.2.2 12 = some (.iconst 0, 1, 0, 0, 0, 0, 0) := rfl
set_option maxRecDepth 20000 in
theorem ja_M_isWrong_13 : jv_at jm_M_isWrong.2.2.2.2.2.2 13 = some (.ireturn, 1, 0, 0, 0, 0, 0) := rfl
set_option maxRecDepth 20000 in
theorem ja_M_cannot_0 : jv_at jm_M_cannot.2.2.2.2.2.2 0 = some (.aload_n 0, 1, 0, 0, 0, 0, 0) := rfl
set_option maxRecDepth 20000 in
theorem ja_M_cannot_1 : jv_at jm_M_cannot.2.2.2.2.2.2 1 = some (.aload_n 0, 1, 0, 0, 0, 0, 0) := rfl
set_option maxRecDepth 20000 in
theorem ja_M_cannot_2 : jv_at jm_M_cannot.2.2.2.2.2.2 2 = some (.getfield 183, 3, 12, 44, 1056, 0, 0) := rfl
set_option maxRecDepth 20000 in
theorem ja_M_cannot_5 : jv_at jm_M_cannot.2.2.2.2.2.2 5 = some (.iconst (-1), 1, 0, 0, 0, 0, -1) := rfl
set_option maxRecDepth 20000 in
theorem ja_M_cannot_6 : jv_at jm_M_cannot.2.2.2.2.2.2 6 = some (.if_icmp .ne 10, 3, 16, 0, 0, 0, 0) := rfl
set_option maxRecDepth 20000 in
theorem ja_M_cannot_9 : jv_at jm_M_cannot.2.2.2.2.2.2 9 = some (.aload_n 0, 1, 0, 0, 0, 0, 0) := rfl
set_option maxRecDepth 20000 in
theorem ja_M_cannot_10 : jv_at jm_M_cannot.2.2.2.2.2.2 10 = some (.getfield 162, 3, 12, 41, 1053, 0, 0) := rfl
set_option maxRecDepth 20000 in
theorem ja_M_cannot_13 : jv_at jm_M_cannot.2.2.2.2.2.2 13 = some (.goto 7, 3, 20, 0, 0, 0, 0) := rfl
set_option maxRecDepth 20000 in
theorem ja_M_cannot_16 : jv_at jm_M_cannot.2.2.2.2.2.2 16 = some (.aload_n 0, 1, 0, 0, 0, 0, 0) := rfl
set_option maxRecDepth 20000 in
theorem ja_M_cannot_17 : jv_at jm_M_cannot.2.2.2.2.2.2 17 = some (.getfield 183, 3, 12, 44, 1056, 0, 0) := rfl
set_option maxRecDepth 20000 in
theorem ja_M_cannot_20 : jv_at jm_M_cannot.2.2.2.2.2.2 20 = some (.putfield 183, 3, 12, 44, 1056, 0, 0) := rfl
set_option maxRecDepth 20000 in
theorem ja_M_cannot_23 : jv_at jm_M_cannot.2.2.2.2.2.2 23 = some (.return_, 1, 0, 0, 0, 0, 0) := rfl
set_option maxRecDepth 20000 in
theorem ja_M_either_0 : jv_at jm_M_either.2.2.2.2.2.2 0 = some (.aload_n 0, 1, 0, 0, 0, 0, 0) := rfl
set_option maxRecDepth 20000 in
theorem ja_M_either_1 : jv_at jm_M_either.2.2.2.2.2.2 1 = some (.invokevirtual 211, 3, 144, 0, 984, 12, 0) := rfl
set_option maxRecDepth 20000 in
theorem ja_M_either_4 : jv_at jm_M_either.2.2.2.2.2.2 4 = some (.aload_n 0, 1, 0, 0, 0, 0, 0) := rfl
set_option maxRecDepth 20000 in
theorem ja_M_either_5 : jv_at jm_M_either.2.2.2.2.2.2 5 = some (.invokevirtual 186, 3, 141, 0, 972, 12, 0) := rfl
set_option maxRecDepth 20000 in
theorem ja_M_either_8 : jv_at jm_M_either.2.2.2.2.2.2 8 = some (.ifCond .ne 30, 3, 38, 0, 0, 0, 0) := rfl
set_option maxRecDepth 20000 in
theorem ja_M_either_11 : jv_at jm_M_either.2.2.2.2.2.2 11 = some (.aload_n 0, 1, 0, 0, 0, 0, 0) := rfl
set_option maxRecDepth 20000 in
theorem ja_M_either_12 : jv_at jm_M_either.2.2.2.2.2.2 12 = some (.getfield 165, 3, 12, 42, 1054, 0, 0) := rfl
set_option maxRecDepth 20000 in
theorem ja_M_either_15 : jv_at jm_M_either.2.2.2.2.2.2 15 = some (.sipush 304, 3, 0, 0, 0, 0, 304) := rfl
set_option maxRecDepth 20000 in
theorem ja_M_either_18 : jv_at jm_M_either.2.2.2.2.2.2 18 = some (.if_icmp .ne 20, 3, 38, 0, 0, 0, 0) := rfl
set_option maxRecDepth 20000 in
theorem ja_M_either_21 : jv_at jm_M_either.2.2.2.2.2.2 21 = some (.aload_n 0, 1, 0, 0, 0, 0, 0) := rfl
set_option maxRecDepth 20000 in
theorem ja_M_either_22 : jv_at jm_M_either.2.2.2.2.2.2 22 = some (.invokevirtual 193, 3, 134, 0, 946, 12, 0) := rfl
set_option maxRecDepth 20000 in
theorem ja_M_either_25 : jv_at jm_M_either.2.2.2.2.2.2 25 = some (.aload_n 0, 1, 0, 0, 0, 0, 0) := rfl
set_option maxRecDepth 20000 in
theorem ja_M_either_26 : jv_at jm_M_either.2.2.2.2.2.2 26 = some (.invokevirtual 211, 3, 144, 0, 984, 12, 0) := rfl
set_option maxRecDepth 20000 in
theorem ja_M_either_29 : jv_at jm_M_either.2.2.2.2.2.2 29 = some (.aload_n 0, 1, 0, 0, 0, 0, 0) := rfl
set_option maxRecDepth 20000 in
theorem ja_M_either_30 : jv_at jm_M_either.2.2.2.2.2.2 30 = some (.iconst 2, 1, 0, 0, 0, 0, 2) := rfl
set_option maxRecDepth 20000 in
theorem ja_M_either_31 : jv_at jm_M_either.2.2.2.2.2.2 31 = some (.iconst 0, 1, 0, 0, 0, 0, 0) := rfl
set_option maxRecDepth 20000 in
theorem ja_M_either_32 : jv_at jm_M_either.2.2.2.2.2.2 32 = some (.invokevirtual 214, 3, 147, 0, 996, 12, 2) := rfl
set_option maxRecDepth 20000 in
theorem ja_M_either_35 : jv_at jm_M_either.2.2.2.2.2.2 35 = some (.goto (-31), 3, 4, 0, 0, 0, 0) := rfl
set_option maxRecDepth 20000 in
theorem ja_M_either_38 : jv_at jm_M_either.2.2.2.2.2.2 38 = some (.return_, 1, 0, 0, 0, 0, 0) := rfl
set_option maxRecDepth 20000 in
theorem ja_M_both_0 : jv_at jm_M_both.2.2.2.2.2.2 0 = some (.aload_n 0, 1, 0, 0, 0, 0, 0) := rfl
set_option maxRecDepth 20000 in
theorem ja_M_both_1 : jv_at jm_M_both.2.2.2.2.2.2 1 = some (.invokevirtual 218, 3, 145, 0, 988, 12, 0) := rfl
set_option maxRecDepth 20000 in
theorem ja_M_both_4 : jv_at jm_M_both.2.2.2.2.2.2 4 = some (.aload_n 0, 1, 0, 0, 0, 0, 0) := rfl
set_option maxRecDepth 20000 in
theorem ja_M_both_5 : jv_at jm_M_both.2.2.2.2.2.2 5 = some (.invokevirtual 186, 3, 141, 0, 972, 12, 0) := rfl
set_option maxRecDepth 20000 in
theorem ja_M_both_8 : jv_at jm_M_both.2.2.2.2.2.2 8 = some (.ifCond .ne 30, 3, 38, 0, 0, 0, 0) := rfl
set_option maxRecDepth 20000 in
theorem ja_M_both_11 : jv_at jm_M_both.2.2.2.2.2.2 11 = some (.aload_n 0, 1, 0, 0, 0, 0, 0) := rfl
set_option maxRecDepth 20000 in
theorem ja_M_both_12 : jv_at jm_M_both.2.2.2.2.2.2 12 = some (.getfield 165, 3, 12, 42, 1054, 0, 0) := rfl
set_option maxRecDepth 20000 in
theorem ja_M_both_15 : jv_at jm_M_both.2.2.2.2.2.2 15 = some (.sipush 305, 3, 0, 0, 0, 0, 305) := rfl
set_option maxRecDepth 20000 in
theorem ja_M_both_18 : jv_at jm_M_both.2.2.2.2.2.2 18 = some (.if_icmp .ne 20, 3, 38, 0, 0, 0, 0) := rfl
set_option maxRecDepth 20000 in
theorem ja_M_both_21 : jv_at jm_M_both.2.2.2.2.2.2 21 = some (.aload_n 0, 1, 0, 0, 0, 0, 0) := rfl
set_option maxRecDepth 20000 in
theorem ja_M_both_22 : jv_at jm_M_both.2.2.2.2.2.2 22 = some (.invokevirtual 193, 3, 134, 0, 946, 12, 0) := rfl
set_option maxRecDepth 20000 in
theorem ja_M_both_25 : jv_at jm_M_both.2.2.2.2.2.2 25 = some (.aload_n 0, 1, 0, 0, 0, 0, 0) := rfl
set_option maxRecDepth 20000 in
theorem ja_M_both_26 : jv_at jm_M_both.2.2.2.2.2.2 26 = some (.invokevirtual 218, 3, 145, 0, 988, 12, 0) := rfl
set_option maxRecDepth 20000 in
theorem ja_M_both_29 : jv_at jm_M_both.2.2.2.2.2.2 29 = some (.aload_n 0, 1, 0, 0, 0, 0, 0) := rfl
set_option maxRecDepth 20000 in
theorem ja_M_both_30 : jv_at jm_M_both.2.2.2.2.2.2 30 = some (.iconst 3, 1, 0, 0, 0, 0, 3) := rfl
set_option maxRecDepth 20000 in
theorem ja_M_both_31 : jv_at jm_M_both.2.2.2.2.2.2 31 = some (.iconst 0, 1, 0, 0, 0, 0, 0) := rfl
set_option maxRecDepth 20000 in
theorem ja_M_both_32 : jv_at jm_M_both.2.2.2.2.2.2 32 = some (.invokevirtual 214, 3, 147, 0, 996, 12, 2) := rfl
set_option maxRecDepth 20000 in
theorem ja_M_both_35 : jv_at jm_M_both.2.2.2.2.2.2 35 = some (.goto (-31), 3, 4, 0, 0, 0, 0) := rfl
set_option maxRecDepth 20000 in
theorem ja_M_both_38 : jv_at jm_M_both.2.2.2.2.2.2 38 = some (.return_, 1, 0, 0, 0, 0, 0) := rfl
set_option maxRecDepth 20000 in
theorem ja_M_not_0 : jv_at jm_M_not.2.2.2.2.2.2 0 = some (.aload_n 0, 1, 0, 0, 0, 0, 0) := rfl
set_option maxRecDepth 20000 in
theorem ja_M_not_1 : jv_at jm_M_not.2.2.2.2.2.2 1 = some (.invokevirtual 186, 3, 141, 0, 972, 12, 0) := rfl
set_option maxRecDepth 20000 in
theorem ja_M_not_4 : jv_at jm_M_not.2.2.2.2.2.2 4 = some (.ifCond .eq 4, 3, 8, 0, 0, 0, 0) := rfl
set_option maxRecDepth 20000 in
theorem ja_M_not_7 : jv_at jm_M_not.2.2.2.2.2.2 7 = some (.return_, 1, 0, 0, 0, 0, 0) := rfl
set_option maxRecDepth 20000 in
theorem ja_M_not_8 : jv_at jm_M_not.2.2.2.2.2.2 8 = some (.aload_n 0, 1, 0, 0, 0, 0, 0) := rfl
set_option maxRecDepth 20000 in
theorem ja_M_not_9 : jv_at jm_M_not.2.2.2.2.2.2 9 = some (.getfield 165, 3, 12, 42, 1054, 0, 0) := rfl
set_option maxRecDepth 20000 in
theorem ja_M_not_12 : jv_at jm_M_not.2.2.2.2.2.2 12 = some (.sipush 306, 3, 0, 0, 0, 0, 306) := rfl
set_option maxRecDepth 20000 in
theorem ja_M_not_15 : jv_at jm_M_not.2.2.2.2.2.2 15 = some (.if_icmp .ne 28, 3, 43, 0, 0, 0, 0) := rfl
set_option maxRecDepth 20000 in
theorem ja_M_not_18 : jv_at jm_M_not.2.2.2.2.2.2 18 = some (.aload_n 0, 1, 0, 0, 0, 0, 0) := rfl
set_option maxRecDepth 20000 in
theorem ja_M_not_19 : jv_at jm_M_not.2.2.2.2.2.2 19 = some (.invokevirtual 221, 3, 146, 0, 992, 12, 0) := rfl
set_option maxRecDepth 20000 in
theorem ja_M_not_22 : jv_at jm_M_not.2.2.2.2.2.2 22 = some (.aload_n 0, 1, 0, 0, 0, 0, 0) := rfl
set_option maxRecDepth 20000 in
theorem ja_M_not_23 : jv_at jm_M_not.2.2.2.2.2.2 23 = some (.invokevirtual 218, 3, 145, 0, 988, 12, 0) := rfl
set_option maxRecDepth 20000 in
theorem ja_M_not_26 : jv_at jm_M_not.2.2.2.2.2.2 26 = some (.aload_n 0, 1, 0, 0, 0, 0, 0) := rfl
set_option maxRecDepth 20000 in
theorem ja_M_not_27 : jv_at jm_M_not.2.2.2.2.2.2 27 = some (.dup, 1, 0, 0, 0, 0, 0) := rfl
set_option maxRecDepth 20000 in
theorem ja_M_not_28 : jv_at jm_M_not.2.2.2.2.2.2 28 = some (.getfield 196, 3, 12, 45, 1057, 0, 0) := rfl
set_option maxRecDepth 20000 in
theorem ja_M_not_31 : jv_at jm_M_not.2.2.2.2.2.2 31 = some (.iconst 1, 1, 0, 0, 0, 0, 1) := rfl
set_option maxRecDepth 20000 in
theorem ja_M_not_32 : jv_at jm_M_not.2.2.2.2.2.2 32 = some (.isub, 1, 0, 0, 0, 0, 0) := rfl
set_option maxRecDepth 20000 in
theorem ja_M_not_33 : jv_at jm_M_not.2.2.2.2.2.2 33 = some (.putfield 196, 3, 12, 45, 1057, 0, 0) := rfl
set_option maxRecDepth 20000 in
theorem ja_M_not_36 : jv_at jm_M_not.2.2.2.2.2.2 36 = some (.aload_n 0, 1, 0, 0, 0, 0, 0) := rfl
set_option maxRecDepth 20000 in
theorem ja_M_not_37 : jv_at jm_M_not.2.2.2.2.2.2 37 = some (.iconst 4, 1, 0, 0, 0, 0, 4) := rfl
set_option maxRecDepth 20000 in
theorem ja_M_not_38 : jv_at jm_M_not.2.2.2.2.2.2 38 = some (.iconst 0, 1, 0, 0, 0, 0, 0) := rfl
set_option maxRecDepth 20000 in
theorem ja_M_not_39 : jv_at jm_M_not.2.2.2.2.2.2 39 = some (.invokevirtual 214, 3, 147, 0, 996, 12, 2) := rfl
set_option maxRecDepth 20000 in
theorem ja_M_not_42 : jv_at jm_M_not.2.2.2.2.2.2 42 = some (.return_, 1, 0, 0, 0, 0, 0) := rfl
set_option maxRecDepth 20000 in
theorem ja_M_not_43 : jv_at jm_M_not.2.2.2.2.2.2 43 = some (.aload_n 0, 1, 0, 0, 0, 0, 0) := rfl
set_option maxRecDepth 20000 in
theorem ja_M_not_44 : jv_at jm_M_not.2.2.2.2.2.2 44 = some (.invokevirtual 224, 3, 148, 0, 1000, 12, 0) := rfl
set_option maxRecDepth 20000 in
theorem ja_M_not_47 : jv_at jm_M_not.2.2.2.2.2.2 47 = some (.aload_n 0, 1, 0, 0, 0, 0, 0) := rfl
set_option maxRecDepth 20000 in
theorem ja_M_not_48 : jv_at jm_M_not.2.2.2.2.2.2 48 = some (.invokevirtual 186, 3, 141, 0, 972, 12, 0) := rfl
set_option maxRecDepth 20000 in
theorem ja_M_not_51 : jv_at jm_M_not.2.2.2.2.2.2 51 = some (.ifCond .ne 51, 3, 102, 0, 0, 0, 0) := rfl
set_option maxRecDepth 20000 in
theorem ja_M_not_54 : jv_at jm_M_not.2.2.2.2.2.2 54 = some (.aload_n 0, 1, 0, 0, 0, 0, 0) := rfl
set_option maxRecDepth 20000 in
theorem ja_M_not_55 : jv_at jm_M_not.2.2.2.2.2.2 55 = some (.getfield 165, 3, 12, 42, 1054, 0, 0) := rfl
set_option maxRecDepth 20000 in
theorem ja_M_not_58 : jv_at jm_M_not.2.2.2.2.2.2 58 = some (.bipush 60, 2, 0, 0, 0, 0, 60) := rfl
set_option maxRecDepth 20000 in
theorem ja_M_not_60 : jv_at jm_M_not.2.2.2.2.2.2 60 = some (.if_icmp .eq 12, 3, 72, 0, 0, 0, 0) := rfl
set_option maxRecDepth 20000 in
theorem ja_M_not_63 : jv_at jm_M_not.2.2.2.2.2.2 63 = some (.aload_n 0, 1, 0, 0, 0, 0, 0) := rfl
set_option maxRecDepth 20000 in
theorem ja_M_not_64 : jv_at jm_M_not.2.2.2.2.2.2 64 = some (.getfield 165, 3, 12, 42, 1054, 0, 0) := rfl
set_option maxRecDepth 20000 in
theorem ja_M_not_67 : jv_at jm_M_not.2.2.2.2.2.2 67 = some (.bipush 61, 2, 0, 0, 0, 0, 61) := rfl
set_option maxRecDepth 20000 in
theorem ja_M_not_69 : jv_at jm_M_not.2.2.2.2.2.2 69 = some (.if_icmp .ne 33, 3, 102, 0, 0, 0, 0) := rfl
set_option maxRecDepth 20000 in
theorem ja_M_not_72 : jv_at jm_M_not.2.2.2.2.2.2 72 = some (.aload_n 0, 1, 0, 0, 0, 0, 0) := rfl
set_option maxRecDepth 20000 in
theorem ja_M_not_73 : jv_at jm_M_not.2.2.2.2.2.2 73 = some (.getfield 165, 3, 12, 42, 1054, 0, 0) := rfl
set_option maxRecDepth 20000 in
theorem ja_M_not_76 : jv_at jm_M_not.2.2.2.2.2.2 76 = some (.bipush 60, 2, 0, 0, 0, 0, 60) := rfl
set_option maxRecDepth 20000 in
theorem ja_M_not_78 : jv_at jm_M_not.2.2.2.2.2.2 78 = some (.if_icmp .ne 7, 3, 85, 0, 0, 0, 0) := rfl
set_option maxRecDepth 20000 in
theorem ja_M_not_81 : jv_at jm_M_not.2.2.2.2.2.2 81 = some (.iconst 5, 1, 0, 0, 0, 0, 5) := rfl
set_option maxRecDepth 20000 in
theorem ja_M_not_82 : jv_at jm_M_not.2.2.2.2.2.2 82 = some (.goto 5, 3, 87, 0, 0, 0, 0) := rfl
set_option maxRecDepth 20000 in
theorem ja_M_not_85 : jv_at jm_M_not.2.2.2.2.2.2 85 = some (.bipush 6, 2, 0, 0, 0, 0, 6) := rfl
set_option maxRecDepth 20000 in
theorem ja_M_not_87 : jv_at jm_M_not.2.2.2.2.2.2 87 = some (.istore_n 1, 1, 0, 0, 0, 0, 0) := rfl
set_option maxRecDepth 20000 in
theorem ja_M_not_88 : jv_at jm_M_not.2.2.2.2.2.2 88 = some (.aload_n 0, 1, 0, 0, 0, 0, 0) := rfl
set_option maxRecDepth 20000 in
theorem ja_M_not_89 : jv_at jm_M_not.2.2.2.2.2.2 89 = some (.invokevirtual 193, 3, 134, 0, 946, 12, 0) := rfl
set_option maxRecDepth 20000 in
theorem ja_M_not_92 : jv_at jm_M_not.2.2.2.2.2.2 92 = some (.aload_n 0, 1, 0, 0, 0, 0, 0) := rfl
set_option maxRecDepth 20000 in
theorem ja_M_not_93 : jv_at jm_M_not.2.2.2.2.2.2 93 = some (.invokevirtual 224, 3, 148, 0, 1000, 12, 0) := rfl
set_option maxRecDepth 20000 in
theorem ja_M_not_96 : jv_at jm_M_not.2.2.2.2.2.2 96 = some (.aload_n 0, 1, 0, 0, 0, 0, 0) := rfl
set_option maxRecDepth 20000 in
theorem ja_M_not_97 : jv_at jm_M_not.2.2.2.2.2.2 97 = some (.iload_n 1, 1, 0, 0, 0, 0, 0) := rfl
set_option maxRecDepth 20000 in
theorem ja_M_not_98 : jv_at jm_M_not.2.2.2.2.2.2 98 = some (.iconst 0, 1, 0, 0, 0, 0, 0) := rfl
set_option maxRecDepth 20000 in
theorem ja_M_not_99 : jv_at jm_M_not.2.2.2.2.2.2 99 = some (.invokevirtual 214, 3, 147, 0, 996, 12, 2) := rfl
set_option maxRecDepth 20000 in
theorem ja_M_not_102 : jv_at jm_M_not.2.2.2.2.2.2 102 = some (.return_, 1, 0, 0, 0, 0, 0) := rfl
set_option maxRecDepth 20000 in
theorem ja_M_opens_0 : jv_at jm_M_opens.2.2.2.2.2.2 0 = some (.aload_n 0, 1, 0, 0, 0, 0, 0) := rfl
set_option maxRecDepth 20000 in
theorem ja_M_opens_1 : jv_at jm_M_opens.2.2.2.2.2.2 1 = some (.getfield 196, 3, 12, 45, 1057, 0, 0) := rfl
set_option maxRecDepth 20000 in
theorem ja_M_opens_4 : jv_at jm_M_opens.2.2.2.2.2.2 4 = some (.iconst 5, 1, 0, 0, 0, 0, 5) := rfl
set_option maxRecDepth 20000 in
theorem ja_M_opens_5 : jv_at jm_M_opens.2.2.2.2.2.2 5 = some (.if_icmp .ne 7, 3, 12, 0, 0, 0, 0) := rfl
set_option maxRecDepth 20000 in
theorem ja_M_opens_8 : jv_at jm_M_opens.2.2.2.2.2.2 8 = some (.aload_n 0, 1, 0, 0, 0, 0, 0) := rfl
set_option maxRecDepth 20000 in
theorem ja_M_opens_9 : jv_at jm_M_opens.2.2.2.2.2.2 9 = some (.invokevirtual 190, 3, 142, 0, 976, 12, 0) := rfl
set_option maxRecDepth 20000 in
theorem ja_M_opens_12 : jv_at jm_M_opens.2.2.2.2.2.2 12 = some (.aload_n 0, 1, 0, 0, 0, 0, 0) := rfl
set_option maxRecDepth 20000 in
theorem ja_M_opens_13 : jv_at jm_M_opens.2.2.2.2.2.2 13 = some (.dup, 1, 0, 0, 0, 0, 0) := rfl
set_option maxRecDepth 20000 in
theorem ja_M_opens_14 : jv_at jm_M_opens.2.2.2.2.2.2 14 = some (.getfield 196, 3, 12, 45, 1057, 0, 0) := rfl
set_option maxRecDepth 20000 in
theorem ja_M_opens_17 : jv_at jm_M_opens.2.2.2.2.2.2 17 = some (.iconst 1, 1, 0, 0, 0, 0, 1) := rfl
set_option maxRecDepth 20000 in
theorem ja_M_opens_18 : jv_at jm_M_opens.2.2.2.2.2.2 18 = some (.iadd, 1, 0, 0, 0, 0, 0) := rfl
set_option maxRecDepth 20000 in
theorem ja_M_opens_19 : jv_at jm_M_opens.2.2.2.2.2.2 19 = some (.putfield 196, 3, 12, 45, 1057, 0, 0) := rfl
set_option maxRecDepth 20000 in
theorem ja_M_opens_22 : jv_at jm_M_opens.2.2.2.2.2.2 22 = some (.aload_n 0, 1, 0, 0, 0, 0, 0) := rfl
set_option maxRecDepth 20000 in
theorem ja_M_opens_23 : jv_at jm_M_opens.2.2.2.2.2.2 23 = some (.invokevirtual 186, 3, 141, 0, 972, 12, 0) := rfl
set_option maxRecDepth 20000 in
theorem ja_M_opens_26 : jv_at jm_M_opens.2.2.2.2.2.2 26 = some (.ifCond .ne 7, 3, 33, 0, 0, 0, 0) := rfl
set_option maxRecDepth 20000 in
theorem ja_M_opens_29 : jv_at jm_M_opens.2.2.2.2.2.2 29 = some (.aload_n 0, 1, 0, 0, 0, 0, 0) := rfl
set_option maxRecDepth 20000 in
theorem ja_M_opens_30 : jv_at jm_M_opens.2.2.2.2.2.2 30 = some (.invokevirtual 193, 3, 134, 0, 946, 12, 0) := rfl
set_option maxRecDepth 20000 in
theorem ja_M_opens_33 : jv_at jm_M_opens.2.2.2.2.2.2 33 = some (.return_, 1, 0, 0, 0, 0, 0) := rfl
set_option maxRecDepth 20000 in
theorem ja_M_emit_0 : jv_at jm_M_emit.2.2.2.2.2.2 0 = some (.aload_n 0, 1, 0, 0, 0, 0, 0) := rfl
set_option maxRecDepth 20000 in
theorem ja_M_emit_1 : jv_at jm_M_emit.2.2.2.2.2.2 1 = some (.getfield 66, 3, 12, 31, 1043, 0, 0) := rfl
set_option maxRecDepth 20000 in
theorem ja_M_emit_4 : jv_at jm_M_emit.2.2.2.2.2.2 4 = some (.sipush 200, 3, 0, 0, 0, 0, 200) := rfl
set_option maxRecDepth 20000 in
theorem ja_M_emit_7 : jv_at jm_M_emit.2.2.2.2.2.2 7 = some (.aload_n 0, 1, 0, 0, 0, 0, 0) := rfl
set_option maxRecDepth 20000 in
theorem ja_M_emit_8 : jv_at jm_M_emit.2.2.2.2.2.2 8 = some (.getfield 199, 3, 12, 39, 1051, 0, 0) := rfl
set_option maxRecDepth 20000 in
theorem ja_M_emit_11 : jv_at jm_M_emit.2.2.2.2.2.2 11 = some (.imul, 1, 0, 0, 0, 0, 0) := rfl
set_option maxRecDepth 20000 in
theorem ja_M_emit_12 : jv_at jm_M_emit.2.2.2.2.2.2 12 = some (.aload_n 0, 1, 0, 0, 0, 0, 0) := rfl
set_option maxRecDepth 20000 in
theorem ja_M_emit_13 : jv_at jm_M_emit.2.2.2.2.2.2 13 = some (.getfield 202, 3, 12, 46, 1058, 0, 0) := rfl
set_option maxRecDepth 20000 in
theorem ja_M_emit_16 : jv_at jm_M_emit.2.2.2.2.2.2 16 = some (.iadd, 1, 0, 0, 0, 0, 0) := rfl
set_option maxRecDepth 20000 in
theorem ja_M_emit_17 : jv_at jm_M_emit.2.2.2.2.2.2 17 = some (.iload_n 1, 1, 0, 0, 0, 0, 0) := rfl
set_option maxRecDepth 20000 in
theorem ja_M_emit_18 : jv_at jm_M_emit.2.2.2.2.2.2 18 = some (.iastore, 1, 0, 0, 0, 0, 0) := rfl
set_option maxRecDepth 20000 in
theorem ja_M_emit_19 : jv_at jm_M_emit.2.2.2.2.2.2 19 = some (.aload_n 0, 1, 0, 0, 0, 0, 0) := rfl
set_option maxRecDepth 20000 in
theorem ja_M_emit_20 : jv_at jm_M_emit.2.2.2.2.2.2 20 = some (.getfield 69, 3, 12, 32, 1044, 0, 0) := rfl
set_option maxRecDepth 20000 in
theorem ja_M_emit_23 : jv_at jm_M_emit.2.2.2.2.2.2 23 = some (.sipush 200, 3, 0, 0, 0, 0, 200) := rfl
set_option maxRecDepth 20000 in
theorem ja_M_emit_26 : jv_at jm_M_emit.2.2.2.2.2.2 26 = some (.aload_n 0, 1, 0, 0, 0, 0, 0) := rfl
set_option maxRecDepth 20000 in
theorem ja_M_emit_27 : jv_at jm_M_emit.2.2.2.2.2.2 27 = some (.getfield 199, 3, 12, 39, 1051, 0, 0) := rfl
set_option maxRecDepth 20000 in
theorem ja_M_emit_30 : jv_at jm_M_emit.2.2.2.2.2.2 30 = some (.imul, 1, 0, 0, 0, 0, 0) := rfl
set_option maxRecDepth 20000 in
theorem ja_M_emit_31 : jv_at jm_M_emit.2.2.2.2.2.2 31 = some (.aload_n 0, 1, 0, 0, 0, 0, 0) := rfl
set_option maxRecDepth 20000 in
theorem ja_M_emit_32 : jv_at jm_M_emit.2.2.2.2.2.2 32 = some (.getfield 202, 3, 12, 46, 1058, 0, 0) := rfl
set_option maxRecDepth 20000 in
theorem ja_M_emit_35 : jv_at jm_M_emit.2.2.2.2.2.2 35 = some (.iadd, 1, 0, 0, 0, 0, 0) := rfl
set_option maxRecDepth 20000 in
theorem ja_M_emit_36 : jv_at jm_M_emit.2.2.2.2.2.2 36 = some (.iload_n 2, 1, 0, 0, 0, 0, 0) := rfl
set_option maxRecDepth 20000 in
theorem ja_M_emit_37 : jv_at jm_M_emit.2.2.2.2.2.2 37 = some (.iastore, 1, 0, 0, 0, 0, 0) := rfl
set_option maxRecDepth 20000 in
theorem ja_M_emit_38 : jv_at jm_M_emit.2.2.2.2.2.2 38 = some (.aload_n 0, 1, 0, 0, 0, 0, 0) := rfl
set_option maxRecDepth 20000 in
theorem ja_M_emit_39 : jv_at jm_M_emit.2.2.2.2.2.2 39 = some (.dup, 1, 0, 0, 0, 0, 0) := rfl
set_option maxRecDepth 20000 in
theorem ja_M_emit_40 : jv_at jm_M_emit.2.2.2.2.2.2 40 = some (.getfield 202, 3, 12, 46, 1058, 0, 0) := rfl
set_option maxRecDepth 20000 in
theorem ja_M_emit_43 : jv_at jm_M_emit.2.2.2.2.2.2 43 = some (.iconst 1, 1, 0, 0, 0, 0, 1) := rfl
set_option maxRecDepth 20000 in
theorem ja_M_emit_44 : jv_at jm_M_emit.2.2.2.2.2.2 44 = some (.iadd, 1, 0, 0, 0, 0, 0) := rfl
set_option maxRecDepth 20000 in
theorem ja_M_emit_45 : jv_at jm_M_emit.2.2.2.2.2.2 45 = some (.putfield 202, 3, 12, 46, 1058, 0, 0) := rfl
set_option maxRecDepth 20000 in
theorem ja_M_emit_48 : jv_at jm_M_emit.2.2.2.2.2.2 48 = some (.return_, 1, 0, 0, 0, 0, 0) := rfl
set_option maxRecDepth 20000 in
theorem ja_M_added_0 : jv_at jm_M_added.2.2.2.2.2.2 0 = some (.aload_n 0, 1, 0, 0, 0, 0, 0) := rfl
set_option maxRecDepth 20000 in
theorem ja_M_added_1 : jv_at jm_M_added.2.2.2.2.2.2 1 = some (.invokevirtual 227, 3, 149, 0, 1004, 12, 0) := rfl
set_option maxRecDepth 20000 in
theorem ja_M_added_4 : jv_at jm_M_added.2.2.2.2.2.2 4 = some (.aload_n 0, 1, 0, 0, 0, 0, 0) := rfl
set_option maxRecDepth 20000 in
theorem ja_M_added_5 : jv_at jm_M_added.2.2.2.2.2.2 5 = some (.invokevirtual 186, 3, 141, 0, 972, 12, 0) := rfl
set_option maxRecDepth 20000 in
theorem ja_M_added_8 : jv_at jm_M_added.2.2.2.2.2.2 8 = some (.ifCond .ne 55, 3, 63, 0, 0, 0, 0) := rfl
set_option maxRecDepth 20000 in
theorem ja_M_added_11 : jv_at jm_M_added.2.2.2.2.2.2 11 = some (.aload_n 0, 1, 0, 0, 0, 0, 0) := rfl
set_option maxRecDepth 20000 in
theorem ja_M_added_12 : jv_at jm_M_added.2.2.2.2.2.2 12 = some (.getfield 165, 3, 12, 42, 1054, 0, 0) := rfl
set_option maxRecDepth 20000 in
theorem ja_M_added_15 : jv_at jm_M_added.2.2.2.2.2.2 15 = some (.bipush 43, 2, 0, 0, 0, 0, 43) := rfl
set_option maxRecDepth 20000 in
theorem ja_M_added_17 : jv_at jm_M_added.2.2.2.2.2.2 17 = some (.if_icmp .eq 12, 3, 29, 0, 0, 0, 0) := rfl
set_option maxRecDepth 20000 in
theorem ja_M_added_20 : jv_at jm_M_added.2.2.2.2.2.2 20 = some (.aload_n 0, 1, 0, 0, 0, 0, 0) := rfl
set_option maxRecDepth 20000 in
theorem ja_M_added_21 : jv_at jm_M_added.2.2.2.2.2.2 21 = some (.getfield 165, 3, 12, 42, 1054, 0, 0) := rfl
set_option maxRecDepth 20000 in
theorem ja_M_added_24 : jv_at jm_M_added.2.2.2.2.2.2 24 = some (.bipush 45, 2, 0, 0, 0, 0, 45) := rfl
set_option maxRecDepth 20000 in
theorem ja_M_added_26 : jv_at jm_M_added.2.2.2.2.2.2 26 = some (.if_icmp .ne 37, 3, 63, 0, 0, 0, 0) := rfl
set_option maxRecDepth 20000 in
theorem ja_M_added_29 : jv_at jm_M_added.2.2.2.2.2.2 29 = some (.aload_n 0, 1, 0, 0, 0, 0, 0) := rfl
set_option maxRecDepth 20000 in
theorem ja_M_added_30 : jv_at jm_M_added.2.2.2.2.2.2 30 = some (.getfield 165, 3, 12, 42, 1054, 0, 0) := rfl
set_option maxRecDepth 20000 in
theorem ja_M_added_33 : jv_at jm_M_added.2.2.2.2.2.2 33 = some (.bipush 43, 2, 0, 0, 0, 0, 43) := rfl
set_option maxRecDepth 20000 in
theorem ja_M_added_35 : jv_at jm_M_added.2.2.2.2.2.2 35 = some (.if_icmp .ne 8, 3, 43, 0, 0, 0, 0) := rfl
set_option maxRecDepth 20000 in
theorem ja_M_added_38 : jv_at jm_M_added.2.2.2.2.2.2 38 = some (.bipush 7, 2, 0, 0, 0, 0, 7) := rfl
set_option maxRecDepth 20000 in
theorem ja_M_added_40 : jv_at jm_M_added.2.2.2.2.2.2 40 = some (.goto 5, 3, 45, 0, 0, 0, 0) := rfl
set_option maxRecDepth 20000 in
theorem ja_M_added_43 : jv_at jm_M_added.2.2.2.2.2.2 43 = some (.bipush 8, 2, 0, 0, 0, 0, 8) := rfl
set_option maxRecDepth 20000 in
theorem ja_M_added_45 : jv_at jm_M_added.2.2.2.2.2.2 45 = some (.istore_n 1, 1, 0, 0, 0, 0, 0) := rfl
set_option maxRecDepth 20000 in
theorem ja_M_added_46 : jv_at jm_M_added.2.2.2.2.2.2 46 = some (.aload_n 0, 1, 0, 0, 0, 0, 0) := rfl
set_option maxRecDepth 20000 in
theorem ja_M_added_47 : jv_at jm_M_added.2.2.2.2.2.2 47 = some (.invokevirtual 193, 3, 134, 0, 946, 12, 0) := rfl
set_option maxRecDepth 20000 in
theorem ja_M_added_50 : jv_at jm_M_added.2.2.2.2.2.2 50 = some (.aload_n 0, 1, 0, 0, 0, 0, 0) := rfl
set_option maxRecDepth 20000 in
theorem ja_M_added_51 : jv_at jm_M_added.2.2.2.2.2.2 51 = some (.invokevirtual 227, 3, 149, 0, 1004, 12, 0) := rfl
set_option maxRecDepth 20000 in
theorem ja_M_added_54 : jv_at jm_M_added.2.2.2.2.2.2 54 = some (.aload_n 0, 1, 0, 0, 0, 0, 0) := rfl
set_option maxRecDepth 20000 in
theorem ja_M_added_55 : jv_at jm_M_added.2.2.2.2.2.2 55 = some (.iload_n 1, 1, 0, 0, 0, 0, 0) := rfl
set_option maxRecDepth 20000 in
theorem ja_M_added_56 : jv_at jm_M_added.2.2.2.2.2.2 56 = some (.iconst 0, 1, 0, 0, 0, 0, 0) := rfl
set_option maxRecDepth 20000 in
theorem ja_M_added_57 : jv_at jm_M_added.2.2.2.2.2.2 57 = some (.invokevirtual 214, 3, 147, 0, 996, 12, 2) := rfl
set_option maxRecDepth 20000 in
theorem ja_M_added_60 : jv_at jm_M_added.2.2.2.2.2.2 60 = some (.goto (-56), 3, 4, 0, 0, 0, 0) := rfl
set_option maxRecDepth 20000 in
theorem ja_M_added_63 : jv_at jm_M_added.2.2.2.2.2.2 63 = some (.return_, 1, 0, 0, 0, 0, 0) := rfl
set_option maxRecDepth 20000 in
theorem ja_M_term_0 : jv_at jm_M_term.2.2.2.2.2.2 0 = some (.aload_n 0, 1, 0, 0, 0, 0, 0) := rfl
set_option maxRecDepth 20000 in
theorem ja_M_term_1 : jv_at jm_M_term.2.2.2.2.2.2 1 = some (.invokevirtual 230, 3, 150, 0, 1008, 12, 0) := rfl
set_option maxRecDepth 20000 in
theorem ja_M_term_4 : jv_at jm_M_term.2.2.2.2.2.2 4 = some (.aload_n 0, 1, 0, 0, 0, 0, 0) := rfl
set_option maxRecDepth 20000 in
theorem ja_M_term_5 : jv_at jm_M_term.2.2.2.2.2.2 5 = some (.invokevirtual 186, 3, 141, 0, 972, 12, 0) := rfl
set_option maxRecDepth 20000 in
theorem ja_M_term_8 : jv_at jm_M_term.2.2.2.2.2.2 8 = some (.ifCond .ne 30, 3, 38, 0, 0, 0, 0) := rfl
set_option maxRecDepth 20000 in
theorem ja_M_term_11 : jv_at jm_M_term.2.2.2.2.2.2 11 = some (.aload_n 0, 1, 0, 0, 0, 0, 0) := rfl
set_option maxRecDepth 20000 in
theorem ja_M_term_12 : jv_at jm_M_term.2.2.2.2.2.2 12 = some (.getfield 165, 3, 12, 42, 1054, 0, 0) := rfl
set_option maxRecDepth 20000 in
theorem ja_M_term_15 : jv_at jm_M_term.2.2.2.2.2.2 15 = some (.bipush 42, 2, 0, 0, 0, 0, 42) := rfl
set_option maxRecDepth 20000 in
theorem ja_M_term_17 : jv_at jm_M_term.2.2.2.2.2.2 17 = some (.if_icmp .ne 21, 3, 38, 0, 0, 0, 0) := rfl
set_option maxRecDepth 20000 in
theorem ja_M_term_20 : jv_at jm_M_term.2.2.2.2.2.2 20 = some (.aload_n 0, 1, 0, 0, 0, 0, 0) := rfl
set_option maxRecDepth 20000 in
theorem ja_M_term_21 : jv_at jm_M_term.2.2.2.2.2.2 21 = some (.invokevirtual 193, 3, 134, 0, 946, 12, 0) := rfl
set_option maxRecDepth 20000 in
theorem ja_M_term_24 : jv_at jm_M_term.2.2.2.2.2.2 24 = some (.aload_n 0, 1, 0, 0, 0, 0, 0) := rfl
set_option maxRecDepth 20000 in
theorem ja_M_term_25 : jv_at jm_M_term.2.2.2.2.2.2 25 = some (.invokevirtual 230, 3, 150, 0, 1008, 12, 0) := rfl
set_option maxRecDepth 20000 in
theorem ja_M_term_28 : jv_at jm_M_term.2.2.2.2.2.2 28 = some (.aload_n 0, 1, 0, 0, 0, 0, 0) := rfl
set_option maxRecDepth 20000 in
theorem ja_M_term_29 : jv_at jm_M_term.2.2.2.2.2.2 29 = some (.bipush 9, 2, 0, 0, 0, 0, 9) := rfl
set_option maxRecDepth 20000 in
theorem ja_M_term_31 : jv_at jm_M_term.2.2.2.2.2.2 31 = some (.iconst 0, 1, 0, 0, 0, 0, 0) := rfl
set_option maxRecDepth 20000 in
theorem ja_M_term_32 : jv_at jm_M_term.2.2.2.2.2.2 32 = some (.invokevirtual 214, 3, 147, 0, 996, 12, 2) := rfl
set_option maxRecDepth 20000 in
theorem ja_M_term_35 : jv_at jm_M_term.2.2.2.2.2.2 35 = some (.goto (-31), 3, 4, 0, 0, 0, 0) := rfl
set_option maxRecDepth 20000 in
theorem ja_M_term_38 : jv_at jm_M_term.2.2.2.2.2.2 38 = some (.return_, 1, 0, 0, 0, 0, 0) := rfl
set_option maxRecDepth 20000 in
theorem ja_M_one_0 : jv_at jm_M_one.2.2.2.2.2.2 0 = some (.aload_n 0, 1, 0, 0, 0, 0, 0) := rfl
set_option maxRecDepth 20000 in
theorem ja_M_one_1 : jv_at jm_M_one.2.2.2.2.2.2 1 = some (.invokevirtual 186, 3, 141, 0, 972, 12, 0) := rfl
set_option maxRecDepth 20000 in
theorem ja_M_one_4 : jv_at jm_M_one.2.2.2.2.2.2 4 = some (.ifCond .eq 4, 3, 8, 0, 0, 0, 0) := rfl
set_option maxRecDepth 20000 in
theorem ja_M_one_7 : jv_at jm_M_one.2.2.2.2.2.2 7 = some (.return_, 1, 0, 0, 0, 0, 0) := rfl
set_option maxRecDepth 20000 in
theorem ja_M_one_8 : jv_at jm_M_one.2.2.2.2.2.2 8 = some (.aload_n 0, 1, 0, 0, 0, 0, 0) := rfl
set_option maxRecDepth 20000 in
theorem ja_M_one_9 : jv_at jm_M_one.2.2.2.2.2.2 9 = some (.getfield 165, 3, 12, 42, 1054, 0, 0) := rfl
set_option maxRecDepth 20000 in
theorem ja_M_one_12 : jv_at jm_M_one.2.2.2.2.2.2 12 = some (.iconst 1, 1, 0, 0, 0, 0, 1) := rfl
set_option maxRecDepth 20000 in
theorem ja_M_one_13 : jv_at jm_M_one.2.2.2.2.2.2 13 = some (.if_icmp .eq 11, 3, 24, 0, 0, 0, 0) := rfl
set_option maxRecDepth 20000 in
theorem ja_M_one_16 : jv_at jm_M_one.2.2.2.2.2.2 16 = some (.aload_n 0, 1, 0, 0, 0, 0, 0) := rfl
set_option maxRecDepth 20000 in
theorem ja_M_one_17 : jv_at jm_M_one.2.2.2.2.2.2 17 = some (.getfield 165, 3, 12, 42, 1054, 0, 0) := rfl
set_option maxRecDepth 20000 in
theorem ja_M_one_20 : jv_at jm_M_one.2.2.2.2.2.2 20 = some (.iconst 3, 1, 0, 0, 0, 0, 3) := rfl
set_option maxRecDepth 20000 in
theorem ja_M_one_21 : jv_at jm_M_one.2.2.2.2.2.2 21 = some (.if_icmp .ne 31, 3, 52, 0, 0, 0, 0) := rfl
set_option maxRecDepth 20000 in
theorem ja_M_one_24 : jv_at jm_M_one.2.2.2.2.2.2 24 = some (.aload_n 0, 1, 0, 0, 0, 0, 0) := rfl
set_option maxRecDepth 20000 in
theorem ja_M_one_25 : jv_at jm_M_one.2.2.2.2.2.2 25 = some (.aload_n 0, 1, 0, 0, 0, 0, 0) := rfl
set_option maxRecDepth 20000 in
theorem ja_M_one_26 : jv_at jm_M_one.2.2.2.2.2.2 26 = some (.getfield 165, 3, 12, 42, 1054, 0, 0) := rfl
set_option maxRecDepth 20000 in
theorem ja_M_one_29 : jv_at jm_M_one.2.2.2.2.2.2 29 = some (.iconst 1, 1, 0, 0, 0, 0, 1) := rfl
set_option maxRecDepth 20000 in
theorem ja_M_one_30 : jv_at jm_M_one.2.2.2.2.2.2 30 = some (.if_icmp .ne 7, 3, 37, 0, 0, 0, 0) := rfl
set_option maxRecDepth 20000 in
theorem ja_M_one_33 : jv_at jm_M_one.2.2.2.2.2.2 33 = some (.iconst 0, 1, 0, 0, 0, 0, 0) := rfl
set_option maxRecDepth 20000 in
theorem ja_M_one_34 : jv_at jm_M_one.2.2.2.2.2.2 34 = some (.goto 4, 3, 38, 0, 0, 0, 0) := rfl
set_option maxRecDepth 20000 in
theorem ja_M_one_37 : jv_at jm_M_one.2.2.2.2.2.2 37 = some (.iconst 1, 1, 0, 0, 0, 0, 1) := rfl
set_option maxRecDepth 20000 in
theorem ja_M_one_38 : jv_at jm_M_one.2.2.2.2.2.2 38 = some (.aload_n 0, 1, 0, 0, 0, 0, 0) := rfl
set_option maxRecDepth 20000 in
theorem ja_M_one_39 : jv_at jm_M_one.2.2.2.2.2.2 39 = some (.getfield 180, 3, 12, 43, 1055, 0, 0) := rfl
set_option maxRecDepth 20000 in
theorem ja_M_one_42 : jv_at jm_M_one.2.2.2.2.2.2 42 = some (.invokevirtual 214, 3, 147, 0, 996, 12, 2) := rfl
set_option maxRecDepth 20000 in
theorem ja_M_one_45 : jv_at jm_M_one.2.2.2.2.2.2 45 = some (.aload_n 0, 1, 0, 0, 0, 0, 0) := rfl
set_option maxRecDepth 20000 in
theorem ja_M_one_46 : jv_at jm_M_one.2.2.2.2.2.2 46 = some (.invokevirtual 193, 3, 134, 0, 946, 12, 0) := rfl
set_option maxRecDepth 20000 in
theorem ja_M_one_49 : jv_at jm_M_one.2.2.2.2.2.2 49 = some (.goto 80, 3, 129, 0, 0, 0, 0) := rfl
set_option maxRecDepth 20000 in
theorem ja_M_one_52 : jv_at jm_M_one.2.2.2.2.2.2 52 = some (.aload_n 0, 1, 0, 0, 0, 0, 0) := rfl
set_option maxRecDepth 20000 in
theorem ja_M_one_53 : jv_at jm_M_one.2.2.2.2.2.2 53 = some (.getfield 165, 3, 12, 42, 1054, 0, 0) := rfl
set_option maxRecDepth 20000 in
theorem ja_M_one_56 : jv_at jm_M_one.2.2.2.2.2.2 56 = some (.bipush 45, 2, 0, 0, 0, 0, 45) := rfl
set_option maxRecDepth 20000 in
theorem ja_M_one_58 : jv_at jm_M_one.2.2.2.2.2.2 58 = some (.if_icmp .ne 31, 3, 89, 0, 0, 0, 0) := rfl
set_option maxRecDepth 20000 in
theorem ja_M_one_61 : jv_at jm_M_one.2.2.2.2.2.2 61 = some (.aload_n 0, 1, 0, 0, 0, 0, 0) := rfl
set_option maxRecDepth 20000 in
theorem ja_M_one_62 : jv_at jm_M_one.2.2.2.2.2.2 62 = some (.invokevirtual 221, 3, 146, 0, 992, 12, 0) := rfl
set_option maxRecDepth 20000 in
theorem ja_M_one_65 : jv_at jm_M_one.2.2.2.2.2.2 65 = some (.aload_n 0, 1, 0, 0, 0, 0, 0) := rfl
set_option maxRecDepth 20000 in
theorem ja_M_one_66 : jv_at jm_M_one.2.2.2.2.2.2 66 = some (.invokevirtual 230, 3, 150, 0, 1008, 12, 0) := rfl
set_option maxRecDepth 20000 in
theorem ja_M_one_69 : jv_at jm_M_one.2.2.2.2.2.2 69 = some (.aload_n 0, 1, 0, 0, 0, 0, 0) := rfl
set_option maxRecDepth 20000 in
theorem ja_M_one_70 : jv_at jm_M_one.2.2.2.2.2.2 70 = some (.dup, 1, 0, 0, 0, 0, 0) := rfl
set_option maxRecDepth 20000 in
theorem ja_M_one_71 : jv_at jm_M_one.2.2.2.2.2.2 71 = some (.getfield 196, 3, 12, 45, 1057, 0, 0) := rfl
set_option maxRecDepth 20000 in
theorem ja_M_one_74 : jv_at jm_M_one.2.2.2.2.2.2 74 = some (.iconst 1, 1, 0, 0, 0, 0, 1) := rfl
set_option maxRecDepth 20000 in
theorem ja_M_one_75 : jv_at jm_M_one.2.2.2.2.2.2 75 = some (.isub, 1, 0, 0, 0, 0, 0) := rfl
set_option maxRecDepth 20000 in
theorem ja_M_one_76 : jv_at jm_M_one.2.2.2.2.2.2 76 = some (.putfield 196, 3, 12, 45, 1057, 0, 0) := rfl
set_option maxRecDepth 20000 in
theorem ja_M_one_79 : jv_at jm_M_one.2.2.2.2.2.2 79 = some (.aload_n 0, 1, 0, 0, 0, 0, 0) := rfl
set_option maxRecDepth 20000 in
theorem ja_M_one_80 : jv_at jm_M_one.2.2.2.2.2.2 80 = some (.bipush 10, 2, 0, 0, 0, 0, 10) := rfl
set_option maxRecDepth 20000 in
theorem ja_M_one_82 : jv_at jm_M_one.2.2.2.2.2.2 82 = some (.iconst 0, 1, 0, 0, 0, 0, 0) := rfl
set_option maxRecDepth 20000 in
theorem ja_M_one_83 : jv_at jm_M_one.2.2.2.2.2.2 83 = some (.invokevirtual 214, 3, 147, 0, 996, 12, 2) := rfl
set_option maxRecDepth 20000 in
theorem ja_M_one_86 : jv_at jm_M_one.2.2.2.2.2.2 86 = some (.goto 43, 3, 129, 0, 0, 0, 0) := rfl
set_option maxRecDepth 20000 in
theorem ja_M_one_89 : jv_at jm_M_one.2.2.2.2.2.2 89 = some (.aload_n 0, 1, 0, 0, 0, 0, 0) := rfl
set_option maxRecDepth 20000 in
theorem ja_M_one_90 : jv_at jm_M_one.2.2.2.2.2.2 90 = some (.getfield 165, 3, 12, 42, 1054, 0, 0) := rfl
set_option maxRecDepth 20000 in
theorem ja_M_one_93 : jv_at jm_M_one.2.2.2.2.2.2 93 = some (.bipush 40, 2, 0, 0, 0, 0, 40) := rfl
set_option maxRecDepth 20000 in
theorem ja_M_one_95 : jv_at jm_M_one.2.2.2.2.2.2 95 = some (.if_icmp .ne 30, 3, 125, 0, 0, 0, 0) := rfl
set_option maxRecDepth 20000 in
theorem ja_M_one_98 : jv_at jm_M_one.2.2.2.2.2.2 98 = some (.aload_n 0, 1, 0, 0, 0, 0, 0) := rfl
set_option maxRecDepth 20000 in
theorem ja_M_one_99 : jv_at jm_M_one.2.2.2.2.2.2 99 = some (.invokevirtual 221, 3, 146, 0, 992, 12, 0) := rfl
set_option maxRecDepth 20000 in
theorem ja_M_one_102 : jv_at jm_M_one.2.2.2.2.2.2 102 = some (.aload_n 0, 1, 0, 0, 0, 0, 0) := rfl
set_option maxRecDepth 20000 in
theorem ja_M_one_103 : jv_at jm_M_one.2.2.2.2.2.2 103 = some (.invokevirtual 208, 3, 143, 0, 980, 12, 0) := rfl
set_option maxRecDepth 20000 in
theorem ja_M_one_106 : jv_at jm_M_one.2.2.2.2.2.2 106 = some (.aload_n 0, 1, 0, 0, 0, 0, 0) := rfl
set_option maxRecDepth 20000 in
theorem ja_M_one_107 : jv_at jm_M_one.2.2.2.2.2.2 107 = some (.bipush 41, 2, 0, 0, 0, 0, 41) := rfl
set_option maxRecDepth 20000 in
theorem ja_M_one_109 : jv_at jm_M_one.2.2.2.2.2.2 109 = some (.invokevirtual 205, 3, 140, 0, 968, 12, 1) := rfl
set_option maxRecDepth 20000 in
theorem ja_M_one_112 : jv_at jm_M_one.2.2.2.2.2.2 112 = some (.aload_n 0, 1, 0, 0, 0, 0, 0) := rfl
set_option maxRecDepth 20000 in
theorem ja_M_one_113 : jv_at jm_M_one.2.2.2.2.2.2 113 = some (.dup, 1, 0, 0, 0, 0, 0) := rfl
set_option maxRecDepth 20000 in
theorem ja_M_one_114 : jv_at jm_M_one.2.2.2.2.2.2 114 = some (.getfield 196, 3, 12, 45, 1057, 0, 0) := rfl
set_option maxRecDepth 20000 in
theorem ja_M_one_117 : jv_at jm_M_one.2.2.2.2.2.2 117 = some (.iconst 1, 1, 0, 0, 0, 0, 1) := rfl
set_option maxRecDepth 20000 in
theorem ja_M_one_118 : jv_at jm_M_one.2.2.2.2.2.2 118 = some (.isub, 1, 0, 0, 0, 0, 0) := rfl
set_option maxRecDepth 20000 in
theorem ja_M_one_119 : jv_at jm_M_one.2.2.2.2.2.2 119 = some (.putfield 196, 3, 12, 45, 1057, 0, 0) := rfl
set_option maxRecDepth 20000 in
theorem ja_M_one_122 : jv_at jm_M_one.2.2.2.2.2.2 122 = some (.goto 7, 3, 129, 0, 0, 0, 0) := rfl
set_option maxRecDepth 20000 in
theorem ja_M_one_125 : jv_at jm_M_one.2.2.2.2.2.2 125 = some (.aload_n 0, 1, 0, 0, 0, 0, 0) := rfl
set_option maxRecDepth 20000 in
theorem ja_M_one_126 : jv_at jm_M_one.2.2.2.2.2.2 126 = some (.invokevirtual 190, 3, 142, 0, 976, 12, 0) := rfl
set_option maxRecDepth 20000 in
theorem ja_M_one_129 : jv_at jm_M_one.2.2.2.2.2.2 129 = some (.return_, 1, 0, 0, 0, 0, 0) := rfl
set_option maxRecDepth 20000 in
theorem ja_M_member_0 : jv_at jm_M_member.2.2.2.2.2.2 0 = some (.iload_n 1, 1, 0, 0, 0, 0, 0) := rfl
set_option maxRecDepth 20000 in
theorem ja_M_member_1 : jv_at jm_M_member.2.2.2.2.2.2 1 = some (.iconst 0, 1, 0, 0, 0, 0, 0) := rfl
set_option maxRecDepth 20000 in
theorem ja_M_member_2 : jv_at jm_M_member.2.2.2.2.2.2 2 = some (.iconst 3, 1, 0, 0, 0, 0, 3) := rfl
set_option maxRecDepth 20000 in
theorem ja_M_member_3 : jv_at jm_M_member.2.2.2.2.2.2 3 = some (.invokestatic 118, 3, 152, 1, 1195, 12, 3) := rfl
set_option maxRecDepth 20000 in
theorem ja_M_member_6 : jv_at jm_M_member.2.2.2.2.2.2 6 = some (.ifCond .ne 6, 3, 12, 0, 0, 0, 0) := rfl
set_option maxRecDepth 20000 in
theorem ja_M_member_9 : jv_at jm_M_member.2.2.2.2.2.2 9 = some (.bipush (-2), 2, 0, 0, 0, 0, -2) := rfl
set_option maxRecDepth 20000 in
theorem ja_M_member_11 : jv_at jm_M_member.2.2.2.2.2.2 11 = some (.ireturn, 1, 0, 0, 0, 0, 0) := rfl
set_option maxRecDepth 20000 in
theorem ja_M_member_12 : jv_at jm_M_member.2.2.2.2.2.2 12 = some (.aload_n 0, 1, 0, 0, 0, 0, 0) := rfl
set_option maxRecDepth 20000 in
theorem ja_M_member_13 : jv_at jm_M_member.2.2.2.2.2.2 13 = some (.getfield 115, 3, 12, 0, 1012, 0, 0) := rfl
set_option maxRecDepth 20000 in
theorem ja_M_member_16 : jv_at jm_M_member.2.2.2.2.2.2 16 = some (.bipush 15, 2, 0, 0, 0, 0, 15) := rfl
set_option maxRecDepth 20000 in
theorem ja_M_member_18 : jv_at jm_M_member.2.2.2.2.2.2 18 = some (.if_icmp .ne 6, 3, 24, 0, 0, 0, 0) := rfl
set_option maxRecDepth 20000 in
theorem ja_M_member_21 : jv_at jm_M_member.2.2.2.2.2.2 21 = some (.bipush (-4), 2, 0, 0, 0, 0, -4) := rfl
set_option maxRecDepth 20000 in
theorem ja_M_member_23 : jv_at jm_M_member.2.2.2.2.2.2 23 = some (.ireturn, 1, 0, 0, 0, 0, 0) := rfl
set_option maxRecDepth 20000 in
theorem ja_M_member_24 : jv_at jm_M_member.2.2.2.2.2.2 24 = some (.aload_n 0, 1, 0, 0, 0, 0, 0) := rfl
set_option maxRecDepth 20000 in
theorem ja_M_member_25 : jv_at jm_M_member.2.2.2.2.2.2 25 = some (.getfield 7, 3, 12, 1, 1013, 0, 0) := rfl
set_option maxRecDepth 20000 in
theorem ja_M_member_28 : jv_at jm_M_member.2.2.2.2.2.2 28 = some (.aload_n 0, 1, 0, 0, 0, 0, 0) := rfl
set_option maxRecDepth 20000 in
theorem ja_M_member_29 : jv_at jm_M_member.2.2.2.2.2.2 29 = some (.getfield 115, 3, 12, 0, 1012, 0, 0) := rfl
set_option maxRecDepth 20000 in
theorem ja_M_member_32 : jv_at jm_M_member.2.2.2.2.2.2 32 = some (.iload_n 1, 1, 0, 0, 0, 0, 0) := rfl
set_option maxRecDepth 20000 in
theorem ja_M_member_33 : jv_at jm_M_member.2.2.2.2.2.2 33 = some (.iastore, 1, 0, 0, 0, 0, 0) := rfl
set_option maxRecDepth 20000 in
theorem ja_M_member_34 : jv_at jm_M_member.2.2.2.2.2.2 34 = some (.aload_n 0, 1, 0, 0, 0, 0, 0) := rfl
set_option maxRecDepth 20000 in
theorem ja_M_member_35 : jv_at jm_M_member.2.2.2.2.2.2 35 = some (.getfield 16, 3, 12, 3, 1015, 0, 0) := rfl
set_option maxRecDepth 20000 in
theorem ja_M_member_38 : jv_at jm_M_member.2.2.2.2.2.2 38 = some (.aload_n 0, 1, 0, 0, 0, 0, 0) := rfl
set_option maxRecDepth 20000 in
theorem ja_M_member_39 : jv_at jm_M_member.2.2.2.2.2.2 39 = some (.getfield 115, 3, 12, 0, 1012, 0, 0) := rfl
set_option maxRecDepth 20000 in
theorem ja_M_member_42 : jv_at jm_M_member.2.2.2.2.2.2 42 = some (.iconst (-1), 1, 0, 0, 0, 0, -1) := rfl
set_option maxRecDepth 20000 in
theorem ja_M_member_43 : jv_at jm_M_member.2.2.2.2.2.2 43 = some (.iastore, 1, 0, 0, 0, 0, 0) := rfl
set_option maxRecDepth 20000 in
theorem ja_M_member_44 : jv_at jm_M_member.2.2.2.2.2.2 44 = some (.aload_n 0, 1, 0, 0, 0, 0, 0) := rfl
set_option maxRecDepth 20000 in
theorem ja_M_member_45 : jv_at jm_M_member.2.2.2.2.2.2 45 = some (.getfield 22, 3, 12, 5, 1017, 0, 0) := rfl
set_option maxRecDepth 20000 in
theorem ja_M_member_48 : jv_at jm_M_member.2.2.2.2.2.2 48 = some (.aload_n 0, 1, 0, 0, 0, 0, 0) := rfl
set_option maxRecDepth 20000 in
theorem ja_M_member_49 : jv_at jm_M_member.2.2.2.2.2.2 49 = some (.getfield 115, 3, 12, 0, 1012, 0, 0) := rfl
set_option maxRecDepth 20000 in
theorem ja_M_member_52 : jv_at jm_M_member.2.2.2.2.2.2 52 = some (.iconst 1, 1, 0, 0, 0, 0, 1) := rfl
set_option maxRecDepth 20000 in
theorem ja_M_member_53 : jv_at jm_M_member.2.2.2.2.2.2 53 = some (.bastore, 1, 0, 0, 0, 0, 0) := rfl
set_option maxRecDepth 20000 in
theorem ja_M_member_54 : jv_at jm_M_member.2.2.2.2.2.2 54 = some (.aload_n 0, 1, 0, 0, 0, 0, 0) := rfl
set_option maxRecDepth 20000 in
theorem ja_M_member_55 : jv_at jm_M_member.2.2.2.2.2.2 55 = some (.dup, 1, 0, 0, 0, 0, 0) := rfl
set_option maxRecDepth 20000 in
theorem ja_M_member_56 : jv_at jm_M_member.2.2.2.2.2.2 56 = some (.getfield 115, 3, 12, 0, 1012, 0, 0) := rfl
set_option maxRecDepth 20000 in
theorem ja_M_member_59 : jv_at jm_M_member.2.2.2.2.2.2 59 = some (.iconst 1, 1, 0, 0, 0, 0, 1) := rfl
set_option maxRecDepth 20000 in
theorem ja_M_member_60 : jv_at jm_M_member.2.2.2.2.2.2 60 = some (.iadd, 1, 0, 0, 0, 0, 0) := rfl
set_option maxRecDepth 20000 in
theorem ja_M_member_61 : jv_at jm_M_member.2.2.2.2.2.2 61 = some (.putfield 115, 3, 12, 0, 1012, 0, 0) := rfl
set_option maxRecDepth 20000 in
theorem ja_M_member_64 : jv_at jm_M_member.2.2.2.2.2.2 64 = some (.aload_n 0, 1, 0, 0, 0, 0, 0) := rfl
set_option maxRecDepth 20000 in
theorem ja_M_member_65 : jv_at jm_M_member.2.2.2.2.2.2 65 = some (.getfield 115, 3, 12, 0, 1012, 0, 0) := rfl
set_option maxRecDepth 20000 in
theorem ja_M_member_68 : jv_at jm_M_member.2.2.2.2.2.2 68 = some (.iconst 1, 1, 0, 0, 0, 0, 1) := rfl
set_option maxRecDepth 20000 in
theorem ja_M_member_69 : jv_at jm_M_member.2.2.2.2.2.2 69 = some (.isub, 1, 0, 0, 0, 0, 0) := rfl
set_option maxRecDepth 20000 in
theorem ja_M_member_70 : jv_at jm_M_member.2.2.2.2.2.2 70 = some (.ireturn, 1, 0, 0, 0, 0, 0) := rfl
set_option maxRecDepth 20000 in
theorem ja_M_in_0 : jv_at jm_M_in.2.2.2.2.2.2 0 = some (.iload_n 0, 1, 0, 0, 0, 0, 0) := rfl
set_option maxRecDepth 20000 in
theorem ja_M_in_1 : jv_at jm_M_in.2.2.2.2.2.2 1 = some (.iload_n 1, 1, 0, 0, 0, 0, 0) := rfl
set_option maxRecDepth 20000 in
theorem ja_M_in_2 : jv_at jm_M_in.2.2.2.2.2.2 2 = some (.if_icmp .lt 12, 3, 14, 0, 0, 0, 0) := rfl
set_option maxRecDepth 20000 in
theorem ja_M_in_5 : jv_at jm_M_in.2.2.2.2.2.2 5 = some (.iload_n 0, 1, 0, 0, 0, 0, 0) := rfl
set_option maxRecDepth 20000 in
theorem ja_M_in_6 : jv_at jm_M_in.2.2.2.2.2.2 6 = some (.iload_n 2, 1, 0, 0, 0, 0, 0) := rfl
set_option maxRecDepth 20000 in
theorem ja_M_in_7 : jv_at jm_M_in.2.2.2.2.2.2 7 = some (.if_icmp .gt 7, 3, 14, 0, 0, 0, 0) := rfl
set_option maxRecDepth 20000 in
theorem ja_M_in_10 : jv_at jm_M_in.2.2.2.2.2.2 10 = some (.iconst 1, 1, 0, 0, 0, 0, 1) := rfl
set_option maxRecDepth 20000 in
theorem ja_M_in_11 : jv_at jm_M_in.2.2.2.2.2.2 11 = some (.goto 4, 3, 15, 0, 0, 0, 0) := rfl
set_option maxRecDepth 20000 in
theorem ja_M_in_14 : jv_at jm_M_in.2.2.2.2.2.2 14 = some (.iconst 0, 1, 0, 0, 0, 0, 0) := rfl
set_option maxRecDepth 20000 in
theorem ja_M_in_15 : jv_at jm_M_in.2.2.2.2.2.2 15 = some (.ireturn, 1, 0, 0, 0, 0, 0) := rfl
set_option maxRecDepth 20000 in
theorem ja_M_like_0 : jv_at jm_M_like.2.2.2.2.2.2 0 = some (.aload_n 0, 1, 0, 0, 0, 0, 0) := rfl
set_option maxRecDepth 20000 in
theorem ja_M_like_1 : jv_at jm_M_like.2.2.2.2.2.2 1 = some (.iload_n 1, 1, 0, 0, 0, 0, 0) := rfl
set_option maxRecDepth 20000 in
theorem ja_M_like_2 : jv_at jm_M_like.2.2.2.2.2.2 2 = some (.invokevirtual 125, 3, 154, 0, 1202, 12, 1) := rfl
set_option maxRecDepth 20000 in
theorem ja_M_like_5 : jv_at jm_M_like.2.2.2.2.2.2 5 = some (.ifCond .eq 21, 3, 26, 0, 0, 0, 0) := rfl
set_option maxRecDepth 20000 in
theorem ja_M_like_8 : jv_at jm_M_like.2.2.2.2.2.2 8 = some (.iload_n 2, 1, 0, 0, 0, 0, 0) := rfl
set_option maxRecDepth 20000 in
theorem ja_M_like_9 : jv_at jm_M_like.2.2.2.2.2.2 9 = some (.invokestatic 129, 3, 155, 1, 1206, 12, 1) := rfl
set_option maxRecDepth 20000 in
theorem ja_M_like_12 : jv_at jm_M_like.2.2.2.2.2.2 12 = some (.ifCond .eq 14, 3, 26, 0, 0, 0, 0) := rfl
set_option maxRecDepth 20000 in
theorem ja_M_like_15 : jv_at jm_M_like.2.2.2.2.2.2 15 = some (.iload_n 3, 1, 0, 0, 0, 0, 0) := rfl
set_option maxRecDepth 20000 in
theorem ja_M_like_16 : jv_at jm_M_like.2.2.2.2.2.2 16 = some (.bipush (-9), 2, 0, 0, 0, 0, -9) := rfl
set_option maxRecDepth 20000 in
theorem ja_M_like_18 : jv_at jm_M_like.2.2.2.2.2.2 18 = some (.bipush 9, 2, 0, 0, 0, 0, 9) := rfl
set_option maxRecDepth 20000 in
theorem ja_M_like_20 : jv_at jm_M_like.2.2.2.2.2.2 20 = some (.invokestatic 118, 3, 152, 1, 1195, 12, 3) := rfl
set_option maxRecDepth 20000 in
theorem ja_M_like_23 : jv_at jm_M_like.2.2.2.2.2.2 23 = some (.ifCond .ne 6, 3, 29, 0, 0, 0, 0) := rfl
set_option maxRecDepth 20000 in
theorem ja_M_like_26 : jv_at jm_M_like.2.2.2.2.2.2 26 = some (.bipush (-100), 2, 0, 0, 0, 0, -100) := rfl
set_option maxRecDepth 20000 in
theorem ja_M_like_28 : jv_at jm_M_like.2.2.2.2.2.2 28 = some (.ireturn, 1, 0, 0, 0, 0, 0) := rfl
set_option maxRecDepth 20000 in
theorem ja_M_like_29 : jv_at jm_M_like.2.2.2.2.2.2 29 = some (.aload_n 0, 1, 0, 0, 0, 0, 0) := rfl
set_option maxRecDepth 20000 in
theorem ja_M_like_30 : jv_at jm_M_like.2.2.2.2.2.2 30 = some (.getfield 13, 3, 12, 2, 1014, 0, 0) := rfl
set_option maxRecDepth 20000 in
theorem ja_M_like_33 : jv_at jm_M_like.2.2.2.2.2.2 33 = some (.bipush 61, 2, 0, 0, 0, 0, 61) := rfl
set_option maxRecDepth 20000 in
theorem ja_M_like_35 : jv_at jm_M_like.2.2.2.2.2.2 35 = some (.iload_n 1, 1, 0, 0, 0, 0, 0) := rfl
set_option maxRecDepth 20000 in
theorem ja_M_like_36 : jv_at jm_M_like.2.2.2.2.2.2 36 = some (.imul, 1, 0, 0, 0, 0, 0) := rfl
set_option maxRecDepth 20000 in
theorem ja_M_like_37 : jv_at jm_M_like.2.2.2.2.2.2 37 = some (.iload_n 2, 1, 0, 0, 0, 0, 0) := rfl
set_option maxRecDepth 20000 in
theorem ja_M_like_38 : jv_at jm_M_like.2.2.2.2.2.2 38 = some (.iadd, 1, 0, 0, 0, 0, 0) := rfl
set_option maxRecDepth 20000 in
theorem ja_M_like_39 : jv_at jm_M_like.2.2.2.2.2.2 39 = some (.iaload, 1, 0, 0, 0, 0, 0) := rfl
set_option maxRecDepth 20000 in
theorem ja_M_like_40 : jv_at jm_M_like.2.2.2.2.2.2 40 = some (.istore 4, 2, 0, 0, 0, 0, 0) := rfl
set_option maxRecDepth 20000 in
theorem ja_M_like_42 : jv_at jm_M_like.2.2.2.2.2.2 42 = some (.aload_n 0, 1, 0, 0, 0, 0, 0) := rfl
set_option maxRecDepth 20000 in
theorem ja_M_like_43 : jv_at jm_M_like.2.2.2.2.2.2 43 = some (.getfield 13, 3, 12, 2, 1014, 0, 0) := rfl
set_option maxRecDepth 20000 in
theorem ja_M_like_46 : jv_at jm_M_like.2.2.2.2.2.2 46 = some (.bipush 61, 2, 0, 0, 0, 0, 61) := rfl
set_option maxRecDepth 20000 in
theorem ja_M_like_48 : jv_at jm_M_like.2.2.2.2.2.2 48 = some (.iload_n 1, 1, 0, 0, 0, 0, 0) := rfl
set_option maxRecDepth 20000 in
theorem ja_M_like_49 : jv_at jm_M_like.2.2.2.2.2.2 49 = some (.imul, 1, 0, 0, 0, 0, 0) := rfl
set_option maxRecDepth 20000 in
theorem ja_M_like_50 : jv_at jm_M_like.2.2.2.2.2.2 50 = some (.iload_n 2, 1, 0, 0, 0, 0, 0) := rfl
set_option maxRecDepth 20000 in
theorem ja_M_like_51 : jv_at jm_M_like.2.2.2.2.2.2 51 = some (.iadd, 1, 0, 0, 0, 0, 0) := rfl
set_option maxRecDepth 20000 in
theorem ja_M_like_52 : jv_at jm_M_like.2.2.2.2.2.2 52 = some (.iload_n 3, 1, 0, 0, 0, 0, 0) := rfl
set_option maxRecDepth 20000 in
theorem ja_M_like_53 : jv_at jm_M_like.2.2.2.2.2.2 53 = some (.iastore, 1, 0, 0, 0, 0, 0) := rfl
set_option maxRecDepth 20000 in
theorem ja_M_like_54 : jv_at jm_M_like.2.2.2.2.2.2 54 = some (.iload 4, 2, 0, 0, 0, 0, 0) := rfl
set_option maxRecDepth 20000 in
theorem ja_M_like_56 : jv_at jm_M_like.2.2.2.2.2.2 56 = some (.ireturn, 1, 0, 0, 0, 0, 0) := rfl
set_option maxRecDepth 20000 in
theorem ja_M_isMember_0 : jv_at jm_M_isMember.2.2.2.2.2.2 0 = some (.iload_n 1, 1, 0, 0, 0, 0, 0) := rfl
set_option maxRecDepth 20000 in
theorem ja_M_isMember_1 : jv_at jm_M_isMember.2.2.2.2.2.2 1 = some (.iconst 0, 1, 0, 0, 0, 0, 0) := rfl
set_option maxRecDepth 20000 in
theorem ja_M_isMember_2 : jv_at jm_M_isMember.2.2.2.2.2.2 2 = some (.aload_n 0, 1, 0, 0, 0, 0, 0) := rfl
set_option maxRecDepth 20000 in
theorem ja_M_isMember_3 : jv_at jm_M_isMember.2.2.2.2.2.2 3 = some (.getfield 115, 3, 12, 0, 1012, 0, 0) := rfl
set_option maxRecDepth 20000 in
theorem ja_M_isMember_6 : jv_at jm_M_isMember.2.2.2.2.2.2 6 = some (.iconst 1, 1, 0, 0, 0, 0, 1) := rfl
set_option maxRecDepth 20000 in
theorem ja_M_isMember_7 : jv_at jm_M_isMember.2.2.2.2.2.2 7 = some (.isub, 1, 0, 0, 0, 0, 0) := rfl
set_option maxRecDepth 20000 in
theorem ja_M_isMember_8 : jv_at jm_M_isMember.2.2.2.2.2.2 8 = some (.invokestatic 118, 3, 152, 1, 1195, 12, 3) := rfl
set_option maxRecDepth 20000 in
theorem ja_M_isMember_11 : jv_at jm_M_isMember.2.2.2.2.2.2 11 = some (.ireturn, 1, 0, 0, 0, 0, 0) := rfl
set_option maxRecDepth 20000 in
theorem ja_M_isWord_0 : jv_at jm_M_isWord.2.2.2.2.2.2 0 = some (.iload_n 0, 1, 0, 0, 0, 0, 0) := rfl
set_option maxRecDepth 20000 in
theorem ja_M_isWord_1 : jv_at jm_M_isWord.2.2.2.2.2.2 1 = some (.iconst 1, 1, 0, 0, 0, 0, 1) := rfl
set_option maxRecDepth 20000 in
theorem ja_M_isWord_2 : jv_at jm_M_isWord.2.2.2.2.2.2 2 = some (.bipush 60, 2, 0, 0, 0, 0, 60) := rfl
set_option maxRecDepth 20000 in
theorem ja_M_isWord_4 : jv_at jm_M_isWord.2.2.2.2.2.2 4 = some (.invokestatic 118, 3, 152, 1, 1195, 12, 3) := rfl
set_option maxRecDepth 20000 in
theorem ja_M_isWord_7 : jv_at jm_M_isWord.2.2.2.2.2.2 7 = some (.ireturn, 1, 0, 0, 0, 0, 0) := rfl
set_option maxRecDepth 20000 in
theorem ja_M_comes_0 : jv_at jm_M_comes.2.2.2.2.2.2 0 = some (.aload_n 0, 1, 0, 0, 0, 0, 0) := rfl
set_option maxRecDepth 20000 in
theorem ja_M_comes_1 : jv_at jm_M_comes.2.2.2.2.2.2 1 = some (.iload_n 1, 1, 0, 0, 0, 0, 0) := rfl
set_option maxRecDepth 20000 in
theorem ja_M_comes_2 : jv_at jm_M_comes.2.2.2.2.2.2 2 = some (.invokevirtual 125, 3, 154, 0, 1202, 12, 1) := rfl
set_option maxRecDepth 20000 in
theorem ja_M_comes_5 : jv_at jm_M_comes.2.2.2.2.2.2 5 = some (.ifCond .ne 6, 3, 11, 0, 0, 0, 0) := rfl
set_option maxRecDepth 20000 in
theorem ja_M_comes_8 : jv_at jm_M_comes.2.2.2.2.2.2 8 = some (.bipush (-2), 2, 0, 0, 0, 0, -2) := rfl
set_option maxRecDepth 20000 in
theorem ja_M_comes_10 : jv_at jm_M_comes.2.2.2.2.2.2 10 = some (.ireturn, 1, 0, 0, 0, 0, 0) := rfl
set_option maxRecDepth 20000 in
theorem ja_M_comes_11 : jv_at jm_M_comes.2.2.2.2.2.2 11 = some (.aload_n 0, 1, 0, 0, 0, 0, 0) := rfl
set_option maxRecDepth 20000 in
theorem ja_M_comes_12 : jv_at jm_M_comes.2.2.2.2.2.2 12 = some (.getfield 22, 3, 12, 5, 1017, 0, 0) := rfl
set_option maxRecDepth 20000 in
theorem ja_M_comes_15 : jv_at jm_M_comes.2.2.2.2.2.2 15 = some (.iload_n 1, 1, 0, 0, 0, 0, 0) := rfl
set_option maxRecDepth 20000 in
theorem ja_M_comes_16 : jv_at jm_M_comes.2.2.2.2.2.2 16 = some (.baload, 1, 0, 0, 0, 0, 0) := rfl
set_option maxRecDepth 20000 in
theorem ja_M_comes_17 : jv_at jm_M_comes.2.2.2.2.2.2 17 = some (.iload_n 2, 1, 0, 0, 0, 0, 0) := rfl
set_option maxRecDepth 20000 in
theorem ja_M_comes_18 : jv_at jm_M_comes.2.2.2.2.2.2 18 = some (.if_icmp .eq 7, 3, 25, 0, 0, 0, 0) := rfl
set_option maxRecDepth 20000 in
theorem ja_M_comes_21 : jv_at jm_M_comes.2.2.2.2.2.2 21 = some (.iconst 1, 1, 0, 0, 0, 0, 1) := rfl
set_option maxRecDepth 20000 in
theorem ja_M_comes_22 : jv_at jm_M_comes.2.2.2.2.2.2 22 = some (.goto 4, 3, 26, 0, 0, 0, 0) := rfl
set_option maxRecDepth 20000 in
theorem ja_M_comes_25 : jv_at jm_M_comes.2.2.2.2.2.2 25 = some (.iconst 0, 1, 0, 0, 0, 0, 0) := rfl
set_option maxRecDepth 20000 in
theorem ja_M_comes_26 : jv_at jm_M_comes.2.2.2.2.2.2 26 = some (.istore_n 3, 1, 0, 0, 0, 0, 0) := rfl
set_option maxRecDepth 20000 in
theorem ja_M_comes_27 : jv_at jm_M_comes.2.2.2.2.2.2 27 = some (.aload_n 0, 1, 0, 0, 0, 0, 0) := rfl
set_option maxRecDepth 20000 in
theorem ja_M_comes_28 : jv_at jm_M_comes.2.2.2.2.2.2 28 = some (.getfield 22, 3, 12, 5, 1017, 0, 0) := rfl
set_option maxRecDepth 20000 in
theorem ja_M_comes_31 : jv_at jm_M_comes.2.2.2.2.2.2 31 = some (.iload_n 1, 1, 0, 0, 0, 0, 0) := rfl
set_option maxRecDepth 20000 in
theorem ja_M_comes_32 : jv_at jm_M_comes.2.2.2.2.2.2 32 = some (.iload_n 2, 1, 0, 0, 0, 0, 0) := rfl
set_option maxRecDepth 20000 in
theorem ja_M_comes_33 : jv_at jm_M_comes.2.2.2.2.2.2 33 = some (.bastore, 1, 0, 0, 0, 0, 0) := rfl
set_option maxRecDepth 20000 in
theorem ja_M_comes_34 : jv_at jm_M_comes.2.2.2.2.2.2 34 = some (.iload_n 3, 1, 0, 0, 0, 0, 0) := rfl
set_option maxRecDepth 20000 in
theorem ja_M_comes_35 : jv_at jm_M_comes.2.2.2.2.2.2 35 = some (.ireturn, 1, 0, 0, 0, 0, 0) := rfl
set_option maxRecDepth 20000 in
theorem ja_M_pair_0 : jv_at jm_M_pair.2.2.2.2.2.2 0 = some (.aload_n 0, 1, 0, 0, 0, 0, 0) := rfl
set_option maxRecDepth 20000 in
theorem ja_M_pair_1 : jv_at jm_M_pair.2.2.2.2.2.2 1 = some (.iload_n 1, 1, 0, 0, 0, 0, 0) := rfl
set_option maxRecDepth 20000 in
theorem ja_M_pair_2 : jv_at jm_M_pair.2.2.2.2.2.2 2 = some (.invokevirtual 125, 3, 154, 0, 1202, 12, 1) := rfl
set_option maxRecDepth 20000 in
theorem ja_M_pair_5 : jv_at jm_M_pair.2.2.2.2.2.2 5 = some (.ifCond .eq 16, 3, 21, 0, 0, 0, 0) := rfl
set_option maxRecDepth 20000 in
theorem ja_M_pair_8 : jv_at jm_M_pair.2.2.2.2.2.2 8 = some (.aload_n 0, 1, 0, 0, 0, 0, 0) := rfl
set_option maxRecDepth 20000 in
theorem ja_M_pair_9 : jv_at jm_M_pair.2.2.2.2.2.2 9 = some (.iload_n 2, 1, 0, 0, 0, 0, 0) := rfl
set_option maxRecDepth 20000 in
theorem ja_M_pair_10 : jv_at jm_M_pair.2.2.2.2.2.2 10 = some (.invokevirtual 125, 3, 154, 0, 1202, 12, 1) := rfl
set_option maxRecDepth 20000 in
theorem ja_M_pair_13 : jv_at jm_M_pair.2.2.2.2.2.2 13 = some (.ifCond .eq 8, 3, 21, 0, 0, 0, 0) := rfl
set_option maxRecDepth 20000 in
theorem ja_M_pair_16 : jv_at jm_M_pair.2.2.2.2.2.2 16 = some (.iload_n 1, 1, 0, 0, 0, 0, 0) := rfl
set_option maxRecDepth 20000 in
theorem ja_M_pair_17 : jv_at jm_M_pair.2.2.2.2.2.2 17 = some (.iload_n 2, 1, 0, 0, 0, 0, 0) := rfl
set_option maxRecDepth 20000 in
theorem ja_M_pair_18 : jv_at jm_M_pair.2.2.2.2.2.2 18 = some (.if_icmp .ne 6, 3, 24, 0, 0, 0, 0) := rfl
set_option maxRecDepth 20000 in
theorem ja_M_pair_21 : jv_at jm_M_pair.2.2.2.2.2.2 21 = some (.bipush (-2), 2, 0, 0, 0, 0, -2) := rfl
set_option maxRecDepth 20000 in
theorem ja_M_pair_23 : jv_at jm_M_pair.2.2.2.2.2.2 23 = some (.ireturn, 1, 0, 0, 0, 0, 0) := rfl
set_option maxRecDepth 20000 in
theorem ja_M_pair_24 : jv_at jm_M_pair.2.2.2.2.2.2 24 = some (.aload_n 0, 1, 0, 0, 0, 0, 0) := rfl
set_option maxRecDepth 20000 in
theorem ja_M_pair_25 : jv_at jm_M_pair.2.2.2.2.2.2 25 = some (.getfield 16, 3, 12, 3, 1015, 0, 0) := rfl
set_option maxRecDepth 20000 in
theorem ja_M_pair_28 : jv_at jm_M_pair.2.2.2.2.2.2 28 = some (.iload_n 1, 1, 0, 0, 0, 0, 0) := rfl
set_option maxRecDepth 20000 in
theorem ja_M_pair_29 : jv_at jm_M_pair.2.2.2.2.2.2 29 = some (.iaload, 1, 0, 0, 0, 0, 0) := rfl
set_option maxRecDepth 20000 in
theorem ja_M_pair_30 : jv_at jm_M_pair.2.2.2.2.2.2 30 = some (.iconst (-1), 1, 0, 0, 0, 0, -1) := rfl
set_option maxRecDepth 20000 in
theorem ja_M_pair_31 : jv_at jm_M_pair.2.2.2.2.2.2 31 = some (.if_icmp .ne 13, 3, 44, 0, 0, 0, 0) := rfl
set_option maxRecDepth 20000 in
theorem ja_M_pair_34 : jv_at jm_M_pair.2.2.2.2.2.2 34 = some (.aload_n 0, 1, 0, 0, 0, 0, 0) := rfl
set_option maxRecDepth 20000 in
theorem ja_M_pair_35 : jv_at jm_M_pair.2.2.2.2.2.2 35 = some (.getfield 16, 3, 12, 3, 1015, 0, 0) := rfl
set_option maxRecDepth 20000 in
theorem ja_M_pair_38 : jv_at jm_M_pair.2.2.2.2.2.2 38 = some (.iload_n 2, 1, 0, 0, 0, 0, 0) := rfl
set_option maxRecDepth 20000 in
theorem ja_M_pair_39 : jv_at jm_M_pair.2.2.2.2.2.2 39 = some (.iaload, 1, 0, 0, 0, 0, 0) := rfl
set_option maxRecDepth 20000 in
theorem ja_M_pair_40 : jv_at jm_M_pair.2.2.2.2.2.2 40 = some (.iconst (-1), 1, 0, 0, 0, 0, -1) := rfl
set_option maxRecDepth 20000 in
theorem ja_M_pair_41 : jv_at jm_M_pair.2.2.2.2.2.2 41 = some (.if_icmp .eq 6, 3, 47, 0, 0, 0, 0) := rfl
set_option maxRecDepth 20000 in
theorem ja_M_pair_44 : jv_at jm_M_pair.2.2.2.2.2.2 44 = some (.bipush (-3), 2, 0, 0, 0, 0, -3) := rfl
set_option maxRecDepth 20000 in
theorem ja_M_pair_46 : jv_at jm_M_pair.2.2.2.2.2.2 46 = some (.ireturn, 1, 0, 0, 0, 0, 0) := rfl
set_option maxRecDepth 20000 in
theorem ja_M_pair_47 : jv_at jm_M_pair.2.2.2.2.2.2 47 = some (.aload_n 0, 1, 0, 0, 0, 0, 0) := rfl
set_option maxRecDepth 20000 in
theorem ja_M_pair_48 : jv_at jm_M_pair.2.2.2.2.2.2 48 = some (.getfield 16, 3, 12, 3, 1015, 0, 0) := rfl
set_option maxRecDepth 20000 in
theorem ja_M_pair_51 : jv_at jm_M_pair.2.2.2.2.2.2 51 = some (.iload_n 1, 1, 0, 0, 0, 0, 0) := rfl
set_option maxRecDepth 20000 in
theorem ja_M_pair_52 : jv_at jm_M_pair.2.2.2.2.2.2 52 = some (.iload_n 2, 1, 0, 0, 0, 0, 0) := rfl
set_option maxRecDepth 20000 in
theorem ja_M_pair_53 : jv_at jm_M_pair.2.2.2.2.2.2 53 = some (.iastore, 1, 0, 0, 0, 0, 0) := rfl
set_option maxRecDepth 20000 in
theorem ja_M_pair_54 : jv_at jm_M_pair.2.2.2.2.2.2 54 = some (.aload_n 0, 1, 0, 0, 0, 0, 0) := rfl
set_option maxRecDepth 20000 in
theorem ja_M_pair_55 : jv_at jm_M_pair.2.2.2.2.2.2 55 = some (.getfield 16, 3, 12, 3, 1015, 0, 0) := rfl
set_option maxRecDepth 20000 in
theorem ja_M_pair_58 : jv_at jm_M_pair.2.2.2.2.2.2 58 = some (.iload_n 2, 1, 0, 0, 0, 0, 0) := rfl
set_option maxRecDepth 20000 in
theorem ja_M_pair_59 : jv_at jm_M_pair.2.2.2.2.2.2 59 = some (.iload_n 1, 1, 0, 0, 0, 0, 0) := rfl
set_option maxRecDepth 20000 in
theorem ja_M_pair_60 : jv_at jm_M_pair.2.2.2.2.2.2 60 = some (.iastore, 1, 0, 0, 0, 0, 0) := rfl
set_option maxRecDepth 20000 in
theorem ja_M_pair_61 : jv_at jm_M_pair.2.2.2.2.2.2 61 = some (.iconst 1, 1, 0, 0, 0, 0, 1) := rfl
set_option maxRecDepth 20000 in
theorem ja_M_pair_62 : jv_at jm_M_pair.2.2.2.2.2.2 62 = some (.ireturn, 1, 0, 0, 0, 0, 0) := rfl
set_option maxRecDepth 20000 in
theorem ja_M_part_0 : jv_at jm_M_part.2.2.2.2.2.2 0 = some (.aload_n 0, 1, 0, 0, 0, 0, 0) := rfl
set_option maxRecDepth 20000 in
theorem ja_M_part_1 : jv_at jm_M_part.2.2.2.2.2.2 1 = some (.iload_n 1, 1, 0, 0, 0, 0, 0) := rfl
set_option maxRecDepth 20000 in
theorem ja_M_part_2 : jv_at jm_M_part.2.2.2.2.2.2 2 = some (.invokevirtual 125, 3, 154, 0, 1202, 12, 1) := rfl
set_option maxRecDepth 20000 in
theorem ja_M_part_5 : jv_at jm_M_part.2.2.2.2.2.2 5 = some (.ifCond .ne 6, 3, 11, 0, 0, 0, 0) := rfl
set_option maxRecDepth 20000 in
theorem ja_M_part_8 : jv_at jm_M_part.2.2.2.2.2.2 8 = some (.bipush (-2), 2, 0, 0, 0, 0, -2) := rfl
set_option maxRecDepth 20000 in
theorem ja_M_part_10 : jv_at jm_M_part.2.2.2.2.2.2 10 = some (.ireturn, 1, 0, 0, 0, 0, 0) := rfl
set_option maxRecDepth 20000 in
theorem ja_M_part_11 : jv_at jm_M_part.2.2.2.2.2.2 11 = some (.aload_n 0, 1, 0, 0, 0, 0, 0) := rfl
set_option maxRecDepth 20000 in
theorem ja_M_part_12 : jv_at jm_M_part.2.2.2.2.2.2 12 = some (.getfield 16, 3, 12, 3, 1015, 0, 0) := rfl
set_option maxRecDepth 20000 in
theorem ja_M_part_15 : jv_at jm_M_part.2.2.2.2.2.2 15 = some (.iload_n 1, 1, 0, 0, 0, 0, 0) := rfl
set_option maxRecDepth 20000 in
theorem ja_M_part_16 : jv_at jm_M_part.2.2.2.2.2.2 16 = some (.iaload, 1, 0, 0, 0, 0, 0) := rfl
set_option maxRecDepth 20000 in
theorem ja_M_part_17 : jv_at jm_M_part.2.2.2.2.2.2 17 = some (.istore_n 2, 1, 0, 0, 0, 0, 0) := rfl
set_option maxRecDepth 20000 in
theorem ja_M_part_18 : jv_at jm_M_part.2.2.2.2.2.2 18 = some (.iload_n 2, 1, 0, 0, 0, 0, 0) := rfl
set_option maxRecDepth 20000 in
theorem ja_M_part_19 : jv_at jm_M_part.2.2.2.2.2.2 19 = some (.iconst (-1), 1, 0, 0, 0, 0, -1) := rfl
set_option maxRecDepth 20000 in
theorem ja_M_part_20 : jv_at jm_M_part.2.2.2.2.2.2 20 = some (.if_icmp .ne 6, 3, 26, 0, 0, 0, 0) := rfl
set_option maxRecDepth 20000 in
theorem ja_M_part_23 : jv_at jm_M_part.2.2.2.2.2.2 23 = some (.bipush (-3), 2, 0, 0, 0, 0, -3) := rfl
set_option maxRecDepth 20000 in
theorem ja_M_part_25 : jv_at jm_M_part.2.2.2.2.2.2 25 = some (.ireturn, 1, 0, 0, 0, 0, 0) := rfl
set_option maxRecDepth 20000 in
theorem ja_M_part_26 : jv_at jm_M_part.2.2.2.2.2.2 26 = some (.aload_n 0, 1, 0, 0, 0, 0, 0) := rfl
set_option maxRecDepth 20000 in
theorem ja_M_part_27 : jv_at jm_M_part.2.2.2.2.2.2 27 = some (.getfield 16, 3, 12, 3, 1015, 0, 0) := rfl
set_option maxRecDepth 20000 in
theorem ja_M_part_30 : jv_at jm_M_part.2.2.2.2.2.2 30 = some (.iload_n 1, 1, 0, 0, 0, 0, 0) := rfl
set_option maxRecDepth 20000 in
theorem ja_M_part_31 : jv_at jm_M_part.2.2.2.2.2.2 31 = some (.iconst (-1), 1, 0, 0, 0, 0, -1) := rfl
set_option maxRecDepth 20000 in
theorem ja_M_part_32 : jv_at jm_M_part.2.2.2.2.2.2 32 = some (.iastore, 1, 0, 0, 0, 0, 0) := rfl
set_option maxRecDepth 20000 in
theorem ja_M_part_33 : jv_at jm_M_part.2.2.2.2.2.2 33 = some (.aload_n 0, 1, 0, 0, 0, 0, 0) := rfl
set_option maxRecDepth 20000 in
theorem ja_M_part_34 : jv_at jm_M_part.2.2.2.2.2.2 34 = some (.getfield 16, 3, 12, 3, 1015, 0, 0) := rfl
set_option maxRecDepth 20000 in
theorem ja_M_part_37 : jv_at jm_M_part.2.2.2.2.2.2 37 = some (.iload_n 2, 1, 0, 0, 0, 0, 0) := rfl
set_option maxRecDepth 20000 in
theorem ja_M_part_38 : jv_at jm_M_part.2.2.2.2.2.2 38 = some (.iconst (-1), 1, 0, 0, 0, 0, -1) := rfl
set_option maxRecDepth 20000 in
theorem ja_M_part_39 : jv_at jm_M_part.2.2.2.2.2.2 39 = some (.iastore, 1, 0, 0, 0, 0, 0) := rfl
set_option maxRecDepth 20000 in
theorem ja_M_part_40 : jv_at jm_M_part.2.2.2.2.2.2 40 = some (.iload_n 2, 1, 0, 0, 0, 0, 0) := rfl
set_option maxRecDepth 20000 in
theorem ja_M_part_41 : jv_at jm_M_part.2.2.2.2.2.2 41 = some (.ireturn, 1, 0, 0, 0, 0, 0) := rfl
set_option maxRecDepth 20000 in
theorem ja_M_ask_0 : jv_at jm_M_ask.2.2.2.2.2.2 0 = some (.aload_n 0, 1, 0, 0, 0, 0, 0) := rfl
set_option maxRecDepth 20000 in
theorem ja_M_ask_1 : jv_at jm_M_ask.2.2.2.2.2.2 1 = some (.iload_n 1, 1, 0, 0, 0, 0, 0) := rfl
set_option maxRecDepth 20000 in
theorem ja_M_ask_2 : jv_at jm_M_ask.2.2.2.2.2.2 2 = some (.invokevirtual 125, 3, 154, 0, 1202, 12, 1) := rfl
set_option maxRecDepth 20000 in
theorem ja_M_ask_5 : jv_at jm_M_ask.2.2.2.2.2.2 5 = some (.ifCond .eq 12, 3, 17, 0, 0, 0, 0) := rfl
set_option maxRecDepth 20000 in
theorem ja_M_ask_8 : jv_at jm_M_ask.2.2.2.2.2.2 8 = some (.iload_n 2, 1, 0, 0, 0, 0, 0) := rfl
set_option maxRecDepth 20000 in
theorem ja_M_ask_9 : jv_at jm_M_ask.2.2.2.2.2.2 9 = some (.iconst 0, 1, 0, 0, 0, 0, 0) := rfl
set_option maxRecDepth 20000 in
theorem ja_M_ask_10 : jv_at jm_M_ask.2.2.2.2.2.2 10 = some (.iconst 2, 1, 0, 0, 0, 0, 2) := rfl
set_option maxRecDepth 20000 in
theorem ja_M_ask_11 : jv_at jm_M_ask.2.2.2.2.2.2 11 = some (.invokestatic 118, 3, 152, 1, 1195, 12, 3) := rfl
set_option maxRecDepth 20000 in
theorem ja_M_ask_14 : jv_at jm_M_ask.2.2.2.2.2.2 14 = some (.ifCond .ne 6, 3, 20, 0, 0, 0, 0) := rfl
set_option maxRecDepth 20000 in
theorem ja_M_ask_17 : jv_at jm_M_ask.2.2.2.2.2.2 17 = some (.bipush (-2), 2, 0, 0, 0, 0, -2) := rfl
set_option maxRecDepth 20000 in
theorem ja_M_ask_19 : jv_at jm_M_ask.2.2.2.2.2.2 19 = some (.ireturn, 1, 0, 0, 0, 0, 0) := rfl
set_option maxRecDepth 20000 in
theorem ja_M_ask_20 : jv_at jm_M_ask.2.2.2.2.2.2 20 = some (.aload_n 0, 1, 0, 0, 0, 0, 0) := rfl
set_option maxRecDepth 20000 in
theorem ja_M_ask_21 : jv_at jm_M_ask.2.2.2.2.2.2 21 = some (.getfield 19, 3, 12, 4, 1016, 0, 0) := rfl
set_option maxRecDepth 20000 in
theorem ja_M_ask_24 : jv_at jm_M_ask.2.2.2.2.2.2 24 = some (.iload_n 1, 1, 0, 0, 0, 0, 0) := rfl
set_option maxRecDepth 20000 in
theorem ja_M_ask_25 : jv_at jm_M_ask.2.2.2.2.2.2 25 = some (.iaload, 1, 0, 0, 0, 0, 0) := rfl
set_option maxRecDepth 20000 in
theorem ja_M_ask_26 : jv_at jm_M_ask.2.2.2.2.2.2 26 = some (.istore_n 3, 1, 0, 0, 0, 0, 0) := rfl
set_option maxRecDepth 20000 in
theorem ja_M_ask_27 : jv_at jm_M_ask.2.2.2.2.2.2 27 = some (.aload_n 0, 1, 0, 0, 0, 0, 0) := rfl
set_option maxRecDepth 20000 in
theorem ja_M_ask_28 : jv_at jm_M_ask.2.2.2.2.2.2 28 = some (.getfield 19, 3, 12, 4, 1016, 0, 0) := rfl
set_option maxRecDepth 20000 in
theorem ja_M_ask_31 : jv_at jm_M_ask.2.2.2.2.2.2 31 = some (.iload_n 1, 1, 0, 0, 0, 0, 0) := rfl
set_option maxRecDepth 20000 in
theorem ja_M_ask_32 : jv_at jm_M_ask.2.2.2.2.2.2 32 = some (.iload_n 2, 1, 0, 0, 0, 0, 0) := rfl
set_option maxRecDepth 20000 in
theorem ja_M_ask_33 : jv_at jm_M_ask.2.2.2.2.2.2 33 = some (.iastore, 1, 0, 0, 0, 0, 0) := rfl
set_option maxRecDepth 20000 in
theorem ja_M_ask_34 : jv_at jm_M_ask.2.2.2.2.2.2 34 = some (.iload_n 3, 1, 0, 0, 0, 0, 0) := rfl
set_option maxRecDepth 20000 in
theorem ja_M_ask_35 : jv_at jm_M_ask.2.2.2.2.2.2 35 = some (.ireturn, 1, 0, 0, 0, 0, 0) := rfl
set_option maxRecDepth 20000 in
theorem ja_M_memberTold_0 : jv_at jm_M_memberTold.2.2.2.2.2.2 0 = some (.aload_n 0, 1, 0, 0, 0, 0, 0) := rfl
set_option maxRecDepth 20000 in
theorem ja_M_memberTold_1 : jv_at jm_M_memberTold.2.2.2.2.2.2 1 = some (.iload_n 1, 1, 0, 0, 0, 0, 0) := rfl
set_option maxRecDepth 20000 in
theorem ja_M_memberTold_2 : jv_at jm_M_memberTold.2.2.2.2.2.2 2 = some (.invokevirtual 125, 3, 154, 0, 1202, 12, 1) := rfl
set_option maxRecDepth 20000 in
theorem ja_M_memberTold_5 : jv_at jm_M_memberTold.2.2.2.2.2.2 5 = some (.ifCond .eq 12, 3, 17, 0, 0, 0, 0) := rfl
set_option maxRecDepth 20000 in
theorem ja_M_memberTold_8 : jv_at jm_M_memberTold.2.2.2.2.2.2 8 = some (.iload_n 2, 1, 0, 0, 0, 0, 0) := rfl
set_option maxRecDepth 20000 in
theorem ja_M_memberTold_9 : jv_at jm_M_memberTold.2.2.2.2.2.2 9 = some (.iconst 0, 1, 0, 0, 0, 0, 0) := rfl
set_option maxRecDepth 20000 in
theorem ja_M_memberTold_10 : jv_at jm_M_memberTold.2.2.2.2.2.2 10 = some (.iconst 3, 1, 0, 0, 0, 0, 3) := rfl
set_option maxRecDepth 20000 in
theorem ja_M_memberTold_11 : jv_at jm_M_memberTold.2.2.2.2.2.2 11 = some (.invokestatic 118, 3, 152, 1, 1195, 12, 3) := rfl
set_option maxRecDepth 20000 in
theorem ja_M_memberTold_14 : jv_at jm_M_memberTold.2.2.2.2.2.2 14 = some (.ifCond .ne 6, 3, 20, 0, 0, 0, 0) := rfl
set_option maxRecDepth 20000 in
theorem ja_M_memberTold_17 : jv_at jm_M_memberTold.2.2.2.2.2.2 17 = some (.bipush (-2), 2, 0, 0, 0, 0, -2) := rfl
set_option maxRecDepth 20000 in
theorem ja_M_memberTold_19 : jv_at jm_M_memberTold.2.2.2.2.2.2 19 = some (.ireturn, 1, 0, 0, 0, 0, 0) := rfl
set_option maxRecDepth 20000 in
theorem ja_M_memberTold_20 : jv_at jm_M_memberTold.2.2.2.2.2.2 20 = some (.iload_n 2, 1, 0, 0, 0, 0, 0) := rfl
set_option maxRecDepth 20000 in
theorem ja_M_memberTold_21 : jv_at jm_M_memberTold.2.2.2.2.2.2 21 = some (.ifCond .ne 12, 3, 33, 0, 0, 0, 0) := rfl
set_option maxRecDepth 20000 in
theorem ja_M_memberTold_24 : jv_at jm_M_memberTold.2.2.2.2.2.2 24 = some (.aload_n 0, 1, 0, 0, 0, 0, 0) := rfl
set_option maxRecDepth 20000 in
theorem ja_M_memberTold_25 : jv_at jm_M_memberTold.2.2.2.2.2.2 25 = some (.getfield 7, 3, 12, 1, 1013, 0, 0) := rfl
set_option maxRecDepth 20000 in
theorem ja_M_memberTold_28 : jv_at jm_M_memberTold.2.2.2.2.2.2 28 = some (.iload_n 1, 1, 0, 0, 0, 0, 0) := rfl
set_option maxRecDepth 20000 in
theorem ja_M_memberTold_29 : jv_at jm_M_memberTold.2.2.2.2.2.2 29 = some (.iaload, 1, 0, 0, 0, 0, 0) := rfl
set_option maxRecDepth 20000 in
theorem ja_M_memberTold_30 : jv_at jm_M_memberTold.2.2.2.2.2.2 30 = some (.goto 45, 3, 75, 0, 0, 0, 0) := rfl
set_option maxRecDepth 20000 in
theorem ja_M_memberTold_33 : jv_at jm_M_memberTold.2.2.2.2.2.2 33 = some (.iload_n 2, 1, 0, 0, 0, 0, 0) := rfl
set_option maxRecDepth 20000 in
theorem ja_M_memberTold_34 : jv_at jm_M_memberTold.2.2.2.2.2.2 34 = some (.iconst 1, 1, 0, 0, 0, 0, 1) := rfl
set_option maxRecDepth 20000 in
theorem ja_M_memberTold_35 : jv_at jm_M_memberTold.2.2.2.2.2.2 35 = some (.if_icmp .ne 20, 3, 55, 0, 0, 0, 0) := rfl
set_option maxRecDepth 20000 in
theorem ja_M_memberTold_38 : jv_at jm_M_memberTold.2.2.2.2.2.2 38 = some (.aload_n 0, 1, 0, 0, 0, 0, 0) := rfl
set_option maxRecDepth 20000 in
theorem ja_M_memberTold_39 : jv_at jm_M_memberTold.2.2.2.2.2.2 39 = some (.getfield 22, 3, 12, 5, 1017, 0, 0) := rfl
set_option maxRecDepth 20000 in
theorem ja_M_memberTold_42 : jv_at jm_M_memberTold.2.2.2.2.2.2 42 = some (.iload_n 1, 1, 0, 0, 0, 0, 0) := rfl
set_option maxRecDepth 20000 in
theorem ja_M_memberTold_43 : jv_at jm_M_memberTold.2.2.2.2.2.2 43 = some (.baload, 1, 0, 0, 0, 0, 0) := rfl
set_option maxRecDepth 20000 in
theorem ja_M_memberTold_44 : jv_at jm_M_memberTold.2.2.2.2.2.2 44 = some (.ifCond .eq 7, 3, 51, 0, 0, 0, 0) := rfl
set_option maxRecDepth 20000 in
theorem ja_M_memberTold_47 : jv_at jm_M_memberTold.2.2.2.2.2.2 47 = some (.iconst 1, 1, 0, 0, 0, 0, 1) := rfl
set_option maxRecDepth 20000 in
theorem ja_M_memberTold_48 : jv_at jm_M_memberTold.2.2.2.2.2.2 48 = some (.goto 27, 3, 75, 0, 0, 0, 0) := rfl
set_option maxRecDepth 20000 in
theorem ja_M_memberTold_51 : jv_at jm_M_memberTold.2.2.2.2.2.2 51 = some (.iconst 0, 1, 0, 0, 0, 0, 0) := rfl
set_option maxRecDepth 20000 in
theorem ja_M_memberTold_52 : jv_at jm_M_memberTold.2.2.2.2.2.2 52 = some (.goto 23, 3, 75, 0, 0, 0, 0) := rfl
set_option maxRecDepth 20000 in
theorem ja_M_memberTold_55 : jv_at jm_M_memberTold.2.2.2.2.2.2 55 = some (.iload_n 2, 1, 0, 0, 0, 0, 0) := rfl
set_option maxRecDepth 20000 in
theorem ja_M_memberTold_56 : jv_at jm_M_memberTold.2.2.2.2.2.2 56 = some (.iconst 2, 1, 0, 0, 0, 0, 2) := rfl
set_option maxRecDepth 20000 in
theorem ja_M_memberTold_57 : jv_at jm_M_memberTold.2.2.2.2.2.2 57 = some (.if_icmp .ne 12, 3, 69, 0, 0, 0, 0) := rfl
set_option maxRecDepth 20000 in
theorem ja_M_memberTold_60 : jv_at jm_M_memberTold.2.2.2.2.2.2 60 = some (.aload_n 0, 1, 0, 0, 0, 0, 0) := rfl
set_option maxRecDepth 20000 in
theorem ja_M_memberTold_61 : jv_at jm_M_memberTold.2.2.2.2.2.2 61 = some (.getfield 16, 3, 12, 3, 1015, 0, 0) := rfl
set_option maxRecDepth 20000 in
theorem ja_M_memberTold_64 : jv_at jm_M_memberTold.2.2.2.2.2.2 64 = some (.iload_n 1, 1, 0, 0, 0, 0, 0) := rfl
set_option maxRecDepth 20000 in
theorem ja_M_memberTold_65 : jv_at jm_M_memberTold.2.2.2.2.2.2 65 = some (.iaload, 1, 0, 0, 0, 0, 0) := rfl
set_option maxRecDepth 20000 in
theorem ja_M_memberTold_66 : jv_at jm_M_memberTold.2.2.2.2.2.2 66 = some (.goto 9, 3, 75, 0, 0, 0, 0) := rfl
set_option maxRecDepth 20000 in
theorem ja_M_memberTold_69 : jv_at jm_M_memberTold.2.2.2.2.2.2 69 = some (.aload_n 0, 1, 0, 0, 0, 0, 0) := rfl
set_option maxRecDepth 20000 in
theorem ja_M_memberTold_70 : jv_at jm_M_memberTold.2.2.2.2.2.2 70 = some (.getfield 19, 3, 12, 4, 1016, 0, 0) := rfl
set_option maxRecDepth 20000 in
theorem ja_M_memberTold_73 : jv_at jm_M_memberTold.2.2.2.2.2.2 73 = some (.iload_n 1, 1, 0, 0, 0, 0, 0) := rfl
set_option maxRecDepth 20000 in
theorem ja_M_memberTold_74 : jv_at jm_M_memberTold.2.2.2.2.2.2 74 = some (.iaload, 1, 0, 0, 0, 0, 0) := rfl
set_option maxRecDepth 20000 in
theorem ja_M_memberTold_75 : jv_at jm_M_memberTold.2.2.2.2.2.2 75 = some (.ireturn, 1, 0, 0, 0, 0, 0) := rfl
set_option maxRecDepth 20000 in
theorem ja_M_bill_0 : jv_at jm_M_bill.2.2.2.2.2.2 0 = some (.aload_n 0, 1, 0, 0, 0, 0, 0) := rfl
set_option maxRecDepth 20000 in
theorem ja_M_bill_1 : jv_at jm_M_bill.2.2.2.2.2.2 1 = some (.getfield 122, 3, 12, 6, 1018, 0, 0) := rfl
set_option maxRecDepth 20000 in
theorem ja_M_bill_4 : jv_at jm_M_bill.2.2.2.2.2.2 4 = some (.bipush 8, 2, 0, 0, 0, 0, 8) := rfl
set_option maxRecDepth 20000 in
theorem ja_M_bill_6 : jv_at jm_M_bill.2.2.2.2.2.2 6 = some (.if_icmp .ne 6, 3, 12, 0, 0, 0, 0) := rfl
set_option maxRecDepth 20000 in
theorem ja_M_bill_9 : jv_at jm_M_bill.2.2.2.2.2.2 9 = some (.bipush (-4), 2, 0, 0, 0, 0, -4) := rfl
set_option maxRecDepth 20000 in
theorem ja_M_bill_11 : jv_at jm_M_bill.2.2.2.2.2.2 11 = some (.ireturn, 1, 0, 0, 0, 0, 0) := rfl
set_option maxRecDepth 20000 in
theorem ja_M_bill_12 : jv_at jm_M_bill.2.2.2.2.2.2 12 = some (.aload_n 0, 1, 0, 0, 0, 0, 0) := rfl
set_option maxRecDepth 20000 in
theorem ja_M_bill_13 : jv_at jm_M_bill.2.2.2.2.2.2 13 = some (.dup, 1, 0, 0, 0, 0, 0) := rfl
set_option maxRecDepth 20000 in
theorem ja_M_bill_14 : jv_at jm_M_bill.2.2.2.2.2.2 14 = some (.getfield 122, 3, 12, 6, 1018, 0, 0) := rfl
set_option maxRecDepth 20000 in
theorem ja_M_bill_17 : jv_at jm_M_bill.2.2.2.2.2.2 17 = some (.iconst 1, 1, 0, 0, 0, 0, 1) := rfl
set_option maxRecDepth 20000 in
theorem ja_M_bill_18 : jv_at jm_M_bill.2.2.2.2.2.2 18 = some (.iadd, 1, 0, 0, 0, 0, 0) := rfl
set_option maxRecDepth 20000 in
theorem ja_M_bill_19 : jv_at jm_M_bill.2.2.2.2.2.2 19 = some (.putfield 122, 3, 12, 6, 1018, 0, 0) := rfl
set_option maxRecDepth 20000 in
theorem ja_M_bill_22 : jv_at jm_M_bill.2.2.2.2.2.2 22 = some (.aload_n 0, 1, 0, 0, 0, 0, 0) := rfl
set_option maxRecDepth 20000 in
theorem ja_M_bill_23 : jv_at jm_M_bill.2.2.2.2.2.2 23 = some (.getfield 122, 3, 12, 6, 1018, 0, 0) := rfl
set_option maxRecDepth 20000 in
theorem ja_M_bill_26 : jv_at jm_M_bill.2.2.2.2.2.2 26 = some (.iconst 1, 1, 0, 0, 0, 0, 1) := rfl
set_option maxRecDepth 20000 in
theorem ja_M_bill_27 : jv_at jm_M_bill.2.2.2.2.2.2 27 = some (.isub, 1, 0, 0, 0, 0, 0) := rfl
set_option maxRecDepth 20000 in
theorem ja_M_bill_28 : jv_at jm_M_bill.2.2.2.2.2.2 28 = some (.ireturn, 1, 0, 0, 0, 0, 0) := rfl
set_option maxRecDepth 20000 in
theorem ja_M_section_0 : jv_at jm_M_section.2.2.2.2.2.2 0 = some (.aload_n 0, 1, 0, 0, 0, 0, 0) := rfl
set_option maxRecDepth 20000 in
theorem ja_M_section_1 : jv_at jm_M_section.2.2.2.2.2.2 1 = some (.iload_n 1, 1, 0, 0, 0, 0, 0) := rfl
set_option maxRecDepth 20000 in
theorem ja_M_section_2 : jv_at jm_M_section.2.2.2.2.2.2 2 = some (.invokevirtual 132, 3, 163, 0, 1237, 12, 1) := rfl
set_option maxRecDepth 20000 in
theorem ja_M_section_5 : jv_at jm_M_section.2.2.2.2.2.2 5 = some (.ifCond .eq 10, 3, 15, 0, 0, 0, 0) := rfl
set_option maxRecDepth 20000 in
theorem ja_M_section_8 : jv_at jm_M_section.2.2.2.2.2.2 8 = some (.iload_n 2, 1, 0, 0, 0, 0, 0) := rfl
set_option maxRecDepth 20000 in
theorem ja_M_section_9 : jv_at jm_M_section.2.2.2.2.2.2 9 = some (.invokestatic 129, 3, 155, 1, 1206, 12, 1) := rfl
set_option maxRecDepth 20000 in
theorem ja_M_section_12 : jv_at jm_M_section.2.2.2.2.2.2 12 = some (.ifCond .ne 6, 3, 18, 0, 0, 0, 0) := rfl
set_option maxRecDepth 20000 in
theorem ja_M_section_15 : jv_at jm_M_section.2.2.2.2.2.2 15 = some (.bipush (-2), 2, 0, 0, 0, 0, -2) := rfl
set_option maxRecDepth 20000 in
theorem ja_M_section_17 : jv_at jm_M_section.2.2.2.2.2.2 17 = some (.ireturn, 1, 0, 0, 0, 0, 0) := rfl
set_option maxRecDepth 20000 in
theorem ja_M_section_18 : jv_at jm_M_section.2.2.2.2.2.2 18 = some (.aload_n 0, 1, 0, 0, 0, 0, 0) := rfl
set_option maxRecDepth 20000 in
theorem ja_M_section_19 : jv_at jm_M_section.2.2.2.2.2.2 19 = some (.getfield 26, 3, 12, 7, 1019, 0, 0) := rfl
set_option maxRecDepth 20000 in
theorem ja_M_section_22 : jv_at jm_M_section.2.2.2.2.2.2 22 = some (.iload_n 1, 1, 0, 0, 0, 0, 0) := rfl
set_option maxRecDepth 20000 in
theorem ja_M_section_23 : jv_at jm_M_section.2.2.2.2.2.2 23 = some (.iaload, 1, 0, 0, 0, 0, 0) := rfl
set_option maxRecDepth 20000 in
theorem ja_M_section_24 : jv_at jm_M_section.2.2.2.2.2.2 24 = some (.ifCond .eq 6, 3, 30, 0, 0, 0, 0) := rfl
set_option maxRecDepth 20000 in
theorem ja_M_section_27 : jv_at jm_M_section.2.2.2.2.2.2 27 = some (.bipush (-3), 2, 0, 0, 0, 0, -3) := rfl
set_option maxRecDepth 20000 in
theorem ja_M_section_29 : jv_at jm_M_section.2.2.2.2.2.2 29 = some (.ireturn, 1, 0, 0, 0, 0, 0) := rfl
set_option maxRecDepth 20000 in
theorem ja_M_section_30 : jv_at jm_M_section.2.2.2.2.2.2 30 = some (.aload_n 0, 1, 0, 0, 0, 0, 0) := rfl
set_option maxRecDepth 20000 in
theorem ja_M_section_31 : jv_at jm_M_section.2.2.2.2.2.2 31 = some (.getfield 29, 3, 12, 8, 1020, 0, 0) := rfl
set_option maxRecDepth 20000 in
theorem ja_M_section_34 : jv_at jm_M_section.2.2.2.2.2.2 34 = some (.iload_n 1, 1, 0, 0, 0, 0, 0) := rfl
set_option maxRecDepth 20000 in
theorem ja_M_section_35 : jv_at jm_M_section.2.2.2.2.2.2 35 = some (.iaload, 1, 0, 0, 0, 0, 0) := rfl
set_option maxRecDepth 20000 in
theorem ja_M_section_36 : jv_at jm_M_section.2.2.2.2.2.2 36 = some (.bipush 10, 2, 0, 0, 0, 0, 10) := rfl
set_option maxRecDepth 20000 in
theorem ja_M_section_38 : jv_at jm_M_section.2.2.2.2.2.2 38 = some (.if_icmp .ne 6, 3, 44, 0, 0, 0, 0) := rfl
set_option maxRecDepth 20000 in
theorem ja_M_section_41 : jv_at jm_M_section.2.2.2.2.2.2 41 = some (.bipush (-4), 2, 0, 0, 0, 0, -4) := rfl
set_option maxRecDepth 20000 in
theorem ja_M_section_43 : jv_at jm_M_section.2.2.2.2.2.2 43 = some (.ireturn, 1, 0, 0, 0, 0, 0) := rfl
set_option maxRecDepth 20000 in
theorem ja_M_section_44 : jv_at jm_M_section.2.2.2.2.2.2 44 = some (.aload_n 0, 1, 0, 0, 0, 0, 0) := rfl
set_option maxRecDepth 20000 in
theorem ja_M_section_45 : jv_at jm_M_section.2.2.2.2.2.2 45 = some (.getfield 32, 3, 12, 9, 1021, 0, 0) := rfl
set_option maxRecDepth 20000 in
theorem ja_M_section_48 : jv_at jm_M_section.2.2.2.2.2.2 48 = some (.bipush 10, 2, 0, 0, 0, 0, 10) := rfl
set_option maxRecDepth 20000 in
theorem ja_M_section_50 : jv_at jm_M_section.2.2.2.2.2.2 50 = some (.iload_n 1, 1, 0, 0, 0, 0, 0) := rfl
set_option maxRecDepth 20000 in
theorem ja_M_section_51 : jv_at jm_M_section.2.2.2.2.2.2 51 = some (.imul, 1, 0, 0, 0, 0, 0) := rfl
set_option maxRecDepth 20000 in
theorem ja_M_section_52 : jv_at jm_M_section.2.2.2.2.2.2 52 = some (.aload_n 0, 1, 0, 0, 0, 0, 0) := rfl
set_option maxRecDepth 20000 in
theorem ja_M_section_53 : jv_at jm_M_section.2.2.2.2.2.2 53 = some (.getfield 29, 3, 12, 8, 1020, 0, 0) := rfl
set_option maxRecDepth 20000 in
theorem ja_M_section_56 : jv_at jm_M_section.2.2.2.2.2.2 56 = some (.iload_n 1, 1, 0, 0, 0, 0, 0) := rfl
set_option maxRecDepth 20000 in
theorem ja_M_section_57 : jv_at jm_M_section.2.2.2.2.2.2 57 = some (.iaload, 1, 0, 0, 0, 0, 0) := rfl
set_option maxRecDepth 20000 in
theorem ja_M_section_58 : jv_at jm_M_section.2.2.2.2.2.2 58 = some (.iadd, 1, 0, 0, 0, 0, 0) := rfl
set_option maxRecDepth 20000 in
theorem ja_M_section_59 : jv_at jm_M_section.2.2.2.2.2.2 59 = some (.iload_n 2, 1, 0, 0, 0, 0, 0) := rfl
set_option maxRecDepth 20000 in
theorem ja_M_section_60 : jv_at jm_M_section.2.2.2.2.2.2 60 = some (.iastore, 1, 0, 0, 0, 0, 0) := rfl
set_option maxRecDepth 20000 in
theorem ja_M_section_61 : jv_at jm_M_section.2.2.2.2.2.2 61 = some (.aload_n 0, 1, 0, 0, 0, 0, 0) := rfl
set_option maxRecDepth 20000 in
theorem ja_M_section_62 : jv_at jm_M_section.2.2.2.2.2.2 62 = some (.getfield 29, 3, 12, 8, 1020, 0, 0) := rfl
set_option maxRecDepth 20000 in
theorem ja_M_section_65 : jv_at jm_M_section.2.2.2.2.2.2 65 = some (.iload_n 1, 1, 0, 0, 0, 0, 0) := rfl
set_option maxRecDepth 20000 in
theorem ja_M_section_66 : jv_at jm_M_section.2.2.2.2.2.2 66 = some (.dup2, 1, 0, 0, 0, 0, 0) := rfl
set_option maxRecDepth 20000 in
theorem ja_M_section_67 : jv_at jm_M_section.2.2.2.2.2.2 67 = some (.iaload, 1, 0, 0, 0, 0, 0) := rfl
set_option maxRecDepth 20000 in
theorem ja_M_section_68 : jv_at jm_M_section.2.2.2.2.2.2 68 = some (.iconst 1, 1, 0, 0, 0, 0, 1) := rfl
set_option maxRecDepth 20000 in
theorem ja_M_section_69 : jv_at jm_M_section.2.2.2.2.2.2 69 = some (.iadd, 1, 0, 0, 0, 0, 0) := rfl
set_option maxRecDepth 20000 in
theorem ja_M_section_70 : jv_at jm_M_section.2.2.2.2.2.2 70 = some (.iastore, 1, 0, 0, 0, 0, 0) := rfl
set_option maxRecDepth 20000 in
theorem ja_M_section_71 : jv_at jm_M_section.2.2.2.2.2.2 71 = some (.aload_n 0, 1, 0, 0, 0, 0, 0) := rfl
set_option maxRecDepth 20000 in
theorem ja_M_section_72 : jv_at jm_M_section.2.2.2.2.2.2 72 = some (.getfield 29, 3, 12, 8, 1020, 0, 0) := rfl
set_option maxRecDepth 20000 in
theorem ja_M_section_75 : jv_at jm_M_section.2.2.2.2.2.2 75 = some (.iload_n 1, 1, 0, 0, 0, 0, 0) := rfl
set_option maxRecDepth 20000 in
theorem ja_M_section_76 : jv_at jm_M_section.2.2.2.2.2.2 76 = some (.iaload, 1, 0, 0, 0, 0, 0) := rfl
set_option maxRecDepth 20000 in
theorem ja_M_section_77 : jv_at jm_M_section.2.2.2.2.2.2 77 = some (.ireturn, 1, 0, 0, 0, 0, 0) := rfl
set_option maxRecDepth 20000 in
theorem ja_M_isBill_0 : jv_at jm_M_isBill.2.2.2.2.2.2 0 = some (.iload_n 1, 1, 0, 0, 0, 0, 0) := rfl
set_option maxRecDepth 20000 in
theorem ja_M_isBill_1 : jv_at jm_M_isBill.2.2.2.2.2.2 1 = some (.iconst 0, 1, 0, 0, 0, 0, 0) := rfl
set_option maxRecDepth 20000 in
theorem ja_M_isBill_2 : jv_at jm_M_isBill.2.2.2.2.2.2 2 = some (.aload_n 0, 1, 0, 0, 0, 0, 0) := rfl
set_option maxRecDepth 20000 in
theorem ja_M_isBill_3 : jv_at jm_M_isBill.2.2.2.2.2.2 3 = some (.getfield 122, 3, 12, 6, 1018, 0, 0) := rfl
set_option maxRecDepth 20000 in
theorem ja_M_isBill_6 : jv_at jm_M_isBill.2.2.2.2.2.2 6 = some (.iconst 1, 1, 0, 0, 0, 0, 1) := rfl
set_option maxRecDepth 20000 in
theorem ja_M_isBill_7 : jv_at jm_M_isBill.2.2.2.2.2.2 7 = some (.isub, 1, 0, 0, 0, 0, 0) := rfl
set_option maxRecDepth 20000 in
theorem ja_M_isBill_8 : jv_at jm_M_isBill.2.2.2.2.2.2 8 = some (.invokestatic 118, 3, 152, 1, 1195, 12, 3) := rfl
set_option maxRecDepth 20000 in
theorem ja_M_isBill_11 : jv_at jm_M_isBill.2.2.2.2.2.2 11 = some (.ireturn, 1, 0, 0, 0, 0, 0) := rfl
set_option maxRecDepth 20000 in
theorem ja_M_billTold_0 : jv_at jm_M_billTold.2.2.2.2.2.2 0 = some (.aload_n 0, 1, 0, 0, 0, 0, 0) := rfl
set_option maxRecDepth 20000 in
theorem ja_M_billTold_1 : jv_at jm_M_billTold.2.2.2.2.2.2 1 = some (.iload_n 1, 1, 0, 0, 0, 0, 0) := rfl
set_option maxRecDepth 20000 in
theorem ja_M_billTold_2 : jv_at jm_M_billTold.2.2.2.2.2.2 2 = some (.invokevirtual 132, 3, 163, 0, 1237, 12, 1) := rfl
set_option maxRecDepth 20000 in
theorem ja_M_billTold_5 : jv_at jm_M_billTold.2.2.2.2.2.2 5 = some (.ifCond .eq 12, 3, 17, 0, 0, 0, 0) := rfl
set_option maxRecDepth 20000 in
theorem ja_M_billTold_8 : jv_at jm_M_billTold.2.2.2.2.2.2 8 = some (.iload_n 2, 1, 0, 0, 0, 0, 0) := rfl
set_option maxRecDepth 20000 in
theorem ja_M_billTold_9 : jv_at jm_M_billTold.2.2.2.2.2.2 9 = some (.iconst 0, 1, 0, 0, 0, 0, 0) := rfl
set_option maxRecDepth 20000 in
theorem ja_M_billTold_10 : jv_at jm_M_billTold.2.2.2.2.2.2 10 = some (.iconst 3, 1, 0, 0, 0, 0, 3) := rfl
set_option maxRecDepth 20000 in
theorem ja_M_billTold_11 : jv_at jm_M_billTold.2.2.2.2.2.2 11 = some (.invokestatic 118, 3, 152, 1, 1195, 12, 3) := rfl
set_option maxRecDepth 20000 in
theorem ja_M_billTold_14 : jv_at jm_M_billTold.2.2.2.2.2.2 14 = some (.ifCond .ne 6, 3, 20, 0, 0, 0, 0) := rfl
set_option maxRecDepth 20000 in
theorem ja_M_billTold_17 : jv_at jm_M_billTold.2.2.2.2.2.2 17 = some (.bipush (-2), 2, 0, 0, 0, 0, -2) := rfl
set_option maxRecDepth 20000 in
theorem ja_M_billTold_19 : jv_at jm_M_billTold.2.2.2.2.2.2 19 = some (.ireturn, 1, 0, 0, 0, 0, 0) := rfl
set_option maxRecDepth 20000 in
theorem ja_M_billTold_20 : jv_at jm_M_billTold.2.2.2.2.2.2 20 = some (.iload_n 2, 1, 0, 0, 0, 0, 0) := rfl
set_option maxRecDepth 20000 in
theorem ja_M_billTold_21 : jv_at jm_M_billTold.2.2.2.2.2.2 21 = some (.ifCond .ne 12, 3, 33, 0, 0, 0, 0) := rfl
set_option maxRecDepth 20000 in
theorem ja_M_billTold_24 : jv_at jm_M_billTold.2.2.2.2.2.2 24 = some (.aload_n 0, 1, 0, 0, 0, 0, 0) := rfl
set_option maxRecDepth 20000 in
theorem ja_M_billTold_25 : jv_at jm_M_billTold.2.2.2.2.2.2 25 = some (.getfield 26, 3, 12, 7, 1019, 0, 0) := rfl
set_option maxRecDepth 20000 in
theorem ja_M_billTold_28 : jv_at jm_M_billTold.2.2.2.2.2.2 28 = some (.iload_n 1, 1, 0, 0, 0, 0, 0) := rfl
set_option maxRecDepth 20000 in
theorem ja_M_billTold_29 : jv_at jm_M_billTold.2.2.2.2.2.2 29 = some (.iaload, 1, 0, 0, 0, 0, 0) := rfl
set_option maxRecDepth 20000 in
theorem ja_M_billTold_30 : jv_at jm_M_billTold.2.2.2.2.2.2 30 = some (.goto 39, 3, 69, 0, 0, 0, 0) := rfl
set_option maxRecDepth 20000 in
theorem ja_M_billTold_33 : jv_at jm_M_billTold.2.2.2.2.2.2 33 = some (.iload_n 2, 1, 0, 0, 0, 0, 0) := rfl
set_option maxRecDepth 20000 in
theorem ja_M_billTold_34 : jv_at jm_M_billTold.2.2.2.2.2.2 34 = some (.iconst 1, 1, 0, 0, 0, 0, 1) := rfl
set_option maxRecDepth 20000 in
theorem ja_M_billTold_35 : jv_at jm_M_billTold.2.2.2.2.2.2 35 = some (.if_icmp .ne 12, 3, 47, 0, 0, 0, 0) := rfl
set_option maxRecDepth 20000 in
theorem ja_M_billTold_38 : jv_at jm_M_billTold.2.2.2.2.2.2 38 = some (.aload_n 0, 1, 0, 0, 0, 0, 0) := rfl
set_option maxRecDepth 20000 in
theorem ja_M_billTold_39 : jv_at jm_M_billTold.2.2.2.2.2.2 39 = some (.getfield 29, 3, 12, 8, 1020, 0, 0) := rfl
set_option maxRecDepth 20000 in
theorem ja_M_billTold_42 : jv_at jm_M_billTold.2.2.2.2.2.2 42 = some (.iload_n 1, 1, 0, 0, 0, 0, 0) := rfl
set_option maxRecDepth 20000 in
theorem ja_M_billTold_43 : jv_at jm_M_billTold.2.2.2.2.2.2 43 = some (.iaload, 1, 0, 0, 0, 0, 0) := rfl
set_option maxRecDepth 20000 in
theorem ja_M_billTold_44 : jv_at jm_M_billTold.2.2.2.2.2.2 44 = some (.goto 25, 3, 69, 0, 0, 0, 0) := rfl
set_option maxRecDepth 20000 in
theorem ja_M_billTold_47 : jv_at jm_M_billTold.2.2.2.2.2.2 47 = some (.iload_n 2, 1, 0, 0, 0, 0, 0) := rfl
set_option maxRecDepth 20000 in
theorem ja_M_billTold_48 : jv_at jm_M_billTold.2.2.2.2.2.2 48 = some (.iconst 2, 1, 0, 0, 0, 0, 2) := rfl
set_option maxRecDepth 20000 in
theorem ja_M_billTold_49 : jv_at jm_M_billTold.2.2.2.2.2.2 49 = some (.if_icmp .ne 11, 3, 60, 0, 0, 0, 0) := rfl
set_option maxRecDepth 20000 in
theorem ja_M_billTold_52 : jv_at jm_M_billTold.2.2.2.2.2.2 52 = some (.aload_n 0, 1, 0, 0, 0, 0, 0) := rfl
set_option maxRecDepth 20000 in
theorem ja_M_billTold_53 : jv_at jm_M_billTold.2.2.2.2.2.2 53 = some (.iload_n 1, 1, 0, 0, 0, 0, 0) := rfl
set_option maxRecDepth 20000 in
theorem ja_M_billTold_54 : jv_at jm_M_billTold.2.2.2.2.2.2 54 = some (.invokevirtual 138, 3, 165, 0, 1245, 12, 1) := rfl
set_option maxRecDepth 20000 in
theorem ja_M_billTold_57 : jv_at jm_M_billTold.2.2.2.2.2.2 57 = some (.goto 12, 3, 69, 0, 0, 0, 0) := rfl
set_option maxRecDepth 20000 in
theorem ja_M_billTold_60 : jv_at jm_M_billTold.2.2.2.2.2.2 60 = some (.aload_n 0, 1, 0, 0, 0, 0, 0) := rfl
set_option maxRecDepth 20000 in
theorem ja_M_billTold_61 : jv_at jm_M_billTold.2.2.2.2.2.2 61 = some (.getfield 35, 3, 12, 10, 1022, 0, 0) := rfl
set_option maxRecDepth 20000 in
theorem ja_M_billTold_64 : jv_at jm_M_billTold.2.2.2.2.2.2 64 = some (.iload_n 1, 1, 0, 0, 0, 0, 0) := rfl
set_option maxRecDepth 20000 in
theorem ja_M_billTold_65 : jv_at jm_M_billTold.2.2.2.2.2.2 65 = some (.iaload, 1, 0, 0, 0, 0, 0) := rfl
set_option maxRecDepth 20000 in
theorem ja_M_billTold_66 : jv_at jm_M_billTold.2.2.2.2.2.2 66 = some (.invokestatic 142, 3, 166, 1, 1249, 12, 1) := rfl
set_option maxRecDepth 20000 in
theorem ja_M_billTold_69 : jv_at jm_M_billTold.2.2.2.2.2.2 69 = some (.ireturn, 1, 0, 0, 0, 0, 0) := rfl
set_option maxRecDepth 20000 in
theorem ja_M_placeOf_0 : jv_at jm_M_placeOf.2.2.2.2.2.2 0 = some (.iconst 0, 1, 0, 0, 0, 0, 0) := rfl
set_option maxRecDepth 20000 in
theorem ja_M_placeOf_1 : jv_at jm_M_placeOf.2.2.2.2.2.2 1 = some (.istore_n 2, 1, 0, 0, 0, 0, 0) := rfl
set_option maxRecDepth 20000 in
theorem ja_M_placeOf_2 : jv_at jm_M_placeOf.2.2.2.2.2.2 2 = some (.iload_n 2, 1, 0, 0, 0, 0, 0) := rfl
set_option maxRecDepth 20000 in
theorem ja_M_placeOf_3 : jv_at jm_M_placeOf.2.2.2.2.2.2 3 = some (.aload_n 0, 1, 0, 0, 0, 0, 0) := rfl
set_option maxRecDepth 20000 in
theorem ja_M_placeOf_4 : jv_at jm_M_placeOf.2.2.2.2.2.2 4 = some (.getfield 135, 3, 12, 11, 1023, 0, 0) := rfl
set_option maxRecDepth 20000 in
theorem ja_M_placeOf_7 : jv_at jm_M_placeOf.2.2.2.2.2.2 7 = some (.if_icmp .ge 21, 3, 28, 0, 0, 0, 0) := rfl
set_option maxRecDepth 20000 in
theorem ja_M_placeOf_10 : jv_at jm_M_placeOf.2.2.2.2.2.2 10 = some (.aload_n 0, 1, 0, 0, 0, 0, 0) := rfl
set_option maxRecDepth 20000 in
theorem ja_M_placeOf_11 : jv_at jm_M_placeOf.2.2.2.2.2.2 11 = some (.getfield 38, 3, 12, 12, 1024, 0, 0) := rfl
set_option maxRecDepth 20000 in
theorem ja_M_placeOf_14 : jv_at jm_M_placeOf.2.2.2.2.2.2 14 = some (.iload_n 2, 1, 0, 0, 0, 0, 0) := rfl
set_option maxRecDepth 20000 in
theorem ja_M_placeOf_15 : jv_at jm_M_placeOf.2.2.2.2.2.2 15 = some (.iaload, 1, 0, 0, 0, 0, 0) := rfl
set_option maxRecDepth 20000 in
theorem ja_M_placeOf_16 : jv_at jm_M_placeOf.2.2.2.2.2.2 16 = some (.iload_n 1, 1, 0, 0, 0, 0, 0) := rfl
set_option maxRecDepth 20000 in
theorem ja_M_placeOf_17 : jv_at jm_M_placeOf.2.2.2.2.2.2 17 = some (.if_icmp .ne 5, 3, 22, 0, 0, 0, 0) := rfl
set_option maxRecDepth 20000 in
theorem ja_M_placeOf_20 : jv_at jm_M_placeOf.2.2.2.2.2.2 20 = some (.iload_n 2, 1, 0, 0, 0, 0, 0) := rfl
set_option maxRecDepth 20000 in
theorem ja_M_placeOf_21 : jv_at jm_M_placeOf.2.2.2.2.2.2 21 = some (.ireturn, 1, 0, 0, 0, 0, 0) := rfl
set_option maxRecDepth 20000 in
theorem ja_M_placeOf_22 : jv_at jm_M_placeOf.2.2.2.2.2.2 22 = some (.iinc 2 1, 3, 0, 0, 0, 0, 0) := rfl
set_option maxRecDepth 20000 in
theorem ja_M_placeOf_25 : jv_at jm_M_placeOf.2.2.2.2.2.2 25 = some (.goto (-23), 3, 2, 0, 0, 0, 0) := rfl
set_option maxRecDepth 20000 in
theorem ja_M_placeOf_28 : jv_at jm_M_placeOf.2.2.2.2.2.2 28 = some (.iconst (-1), 1, 0, 0, 0, 0, -1) := rfl
set_option maxRecDepth 20000 in
theorem ja_M_placeOf_29 : jv_at jm_M_placeOf.2.2.2.2.2.2 29 = some (.ireturn, 1, 0, 0, 0, 0, 0) := rfl
set_option maxRecDepth 20000 in
theorem ja_M_bits_0 : jv_at jm_M_bits.2.2.2.2.2.2 0 = some (.iconst 0, 1, 0, 0, 0, 0, 0) := rfl
set_option maxRecDepth 20000 in
theorem ja_M_bits_1 : jv_at jm_M_bits.2.2.2.2.2.2 1 = some (.istore_n 1, 1, 0, 0, 0, 0, 0) := rfl
set_option maxRecDepth 20000 in
theorem ja_M_bits_2 : jv_at jm_M_bits.2.2.2.2.2.2 2 = some (.iconst 0, 1, 0, 0, 0, 0, 0) := rfl
set_option maxRecDepth 20000 in
theorem ja_M_bits_3 : jv_at jm_M_bits.2.2.2.2.2.2 3 = some (.istore_n 2, 1, 0, 0, 0, 0, 0) := rfl
set_option maxRecDepth 20000 in
theorem ja_M_bits_4 : jv_at jm_M_bits.2.2.2.2.2.2 4 = some (.iload_n 2, 1, 0, 0, 0, 0, 0) := rfl
set_option maxRecDepth 20000 in
theorem ja_M_bits_5 : jv_at jm_M_bits.2.2.2.2.2.2 5 = some (.bipush 15, 2, 0, 0, 0, 0, 15) := rfl
set_option maxRecDepth 20000 in
theorem ja_M_bits_7 : jv_at jm_M_bits.2.2.2.2.2.2 7 = some (.if_icmp .ge 17, 3, 24, 0, 0, 0, 0) := rfl
set_option maxRecDepth 20000 in
theorem ja_M_bits_10 : jv_at jm_M_bits.2.2.2.2.2.2 10 = some (.iload_n 1, 1, 0, 0, 0, 0, 0) := rfl
set_option maxRecDepth 20000 in
theorem ja_M_bits_11 : jv_at jm_M_bits.2.2.2.2.2.2 11 = some (.iload_n 0, 1, 0, 0, 0, 0, 0) := rfl
set_option maxRecDepth 20000 in
theorem ja_M_bits_12 : jv_at jm_M_bits.2.2.2.2.2.2 12 = some (.iload_n 2, 1, 0, 0, 0, 0, 0) := rfl
set_option maxRecDepth 20000 in
theorem ja_M_bits_13 : jv_at jm_M_bits.2.2.2.2.2.2 13 = some (.ishr, 1, 0, 0, 0, 0, 0) := rfl
set_option maxRecDepth 20000 in
theorem ja_M_bits_14 : jv_at jm_M_bits.2.2.2.2.2.2 14 = some (.iconst 1, 1, 0, 0, 0, 0, 1) := rfl
set_option maxRecDepth 20000 in
theorem ja_M_bits_15 : jv_at jm_M_bits.2.2.2.2.2.2 15 = some (.iand, 1, 0, 0, 0, 0, 0) := rfl
set_option maxRecDepth 20000 in
theorem ja_M_bits_16 : jv_at jm_M_bits.2.2.2.2.2.2 16 = some (.iadd, 1, 0, 0, 0, 0, 0) := rfl
set_option maxRecDepth 20000 in
theorem ja_M_bits_17 : jv_at jm_M_bits.2.2.2.2.2.2 17 = some (.istore_n 1, 1, 0, 0, 0, 0, 0) := rfl
set_option maxRecDepth 20000 in
theorem ja_M_bits_18 : jv_at jm_M_bits.2.2.2.2.2.2 18 = some (.iinc 2 1, 3, 0, 0, 0, 0, 0) := rfl
set_option maxRecDepth 20000 in
theorem ja_M_bits_21 : jv_at jm_M_bits.2.2.2.2.2.2 21 = some (.goto (-17), 3, 4, 0, 0, 0, 0) := rfl
set_option maxRecDepth 20000 in
theorem ja_M_bits_24 : jv_at jm_M_bits.2.2.2.2.2.2 24 = some (.iload_n 1, 1, 0, 0, 0, 0, 0) := rfl
set_option maxRecDepth 20000 in
theorem ja_M_bits_25 : jv_at jm_M_bits.2.2.2.2.2.2 25 = some (.ireturn, 1, 0, 0, 0, 0, 0) := rfl
set_option maxRecDepth 20000 in
theorem ja_M_word_0 : jv_at jm_M_word.2.2.2.2.2.2 0 = some (.aload_n 0, 1, 0, 0, 0, 0, 0) := rfl
set_option maxRecDepth 20000 in
theorem ja_M_word_1 : jv_at jm_M_word.2.2.2.2.2.2 1 = some (.iload_n 1, 1, 0, 0, 0, 0, 0) := rfl
set_option maxRecDepth 20000 in
theorem ja_M_word_2 : jv_at jm_M_word.2.2.2.2.2.2 2 = some (.invokevirtual 132, 3, 163, 0, 1237, 12, 1) := rfl
set_option maxRecDepth 20000 in
theorem ja_M_word_5 : jv_at jm_M_word.2.2.2.2.2.2 5 = some (.ifCond .ne 6, 3, 11, 0, 0, 0, 0) := rfl
set_option maxRecDepth 20000 in
theorem ja_M_word_8 : jv_at jm_M_word.2.2.2.2.2.2 8 = some (.bipush (-2), 2, 0, 0, 0, 0, -2) := rfl
set_option maxRecDepth 20000 in
theorem ja_M_word_10 : jv_at jm_M_word.2.2.2.2.2.2 10 = some (.ireturn, 1, 0, 0, 0, 0, 0) := rfl
set_option maxRecDepth 20000 in
theorem ja_M_word_11 : jv_at jm_M_word.2.2.2.2.2.2 11 = some (.iload_n 2, 1, 0, 0, 0, 0, 0) := rfl
set_option maxRecDepth 20000 in
theorem ja_M_word_12 : jv_at jm_M_word.2.2.2.2.2.2 12 = some (.iconst 0, 1, 0, 0, 0, 0, 0) := rfl
set_option maxRecDepth 20000 in
theorem ja_M_word_13 : jv_at jm_M_word.2.2.2.2.2.2 13 = some (.aload_n 0, 1, 0, 0, 0, 0, 0) := rfl
set_option maxRecDepth 20000 in
theorem ja_M_word_14 : jv_at jm_M_word.2.2.2.2.2.2 14 = some (.getfield 29, 3, 12, 8, 1020, 0, 0) := rfl
set_option maxRecDepth 20000 in
theorem ja_M_word_17 : jv_at jm_M_word.2.2.2.2.2.2 17 = some (.iload_n 1, 1, 0, 0, 0, 0, 0) := rfl
set_option maxRecDepth 20000 in
theorem ja_M_word_18 : jv_at jm_M_word.2.2.2.2.2.2 18 = some (.iaload, 1, 0, 0, 0, 0, 0) := rfl
set_option maxRecDepth 20000 in
theorem ja_M_word_19 : jv_at jm_M_word.2.2.2.2.2.2 19 = some (.iconst 1, 1, 0, 0, 0, 0, 1) := rfl
set_option maxRecDepth 20000 in
theorem ja_M_word_20 : jv_at jm_M_word.2.2.2.2.2.2 20 = some (.isub, 1, 0, 0, 0, 0, 0) := rfl
set_option maxRecDepth 20000 in
theorem ja_M_word_21 : jv_at jm_M_word.2.2.2.2.2.2 21 = some (.invokestatic 118, 3, 152, 1, 1195, 12, 3) := rfl
set_option maxRecDepth 20000 in
theorem ja_M_word_24 : jv_at jm_M_word.2.2.2.2.2.2 24 = some (.ifCond .eq 17, 3, 41, 0, 0, 0, 0) := rfl
set_option maxRecDepth 20000 in
theorem ja_M_word_27 : jv_at jm_M_word.2.2.2.2.2.2 27 = some (.aload_n 0, 1, 0, 0, 0, 0, 0) := rfl
set_option maxRecDepth 20000 in
theorem ja_M_word_28 : jv_at jm_M_word.2.2.2.2.2.2 28 = some (.getfield 32, 3, 12, 9, 1021, 0, 0) := rfl
set_option maxRecDepth 20000 in
theorem ja_M_word_31 : jv_at jm_M_word.2.2.2.2.2.2 31 = some (.bipush 10, 2, 0, 0, 0, 0, 10) := rfl
set_option maxRecDepth 20000 in
theorem ja_M_word_33 : jv_at jm_M_word.2.2.2.2.2.2 33 = some (.iload_n 1, 1, 0, 0, 0, 0, 0) := rfl
set_option maxRecDepth 20000 in
theorem ja_M_word_34 : jv_at jm_M_word.2.2.2.2.2.2 34 = some (.imul, 1, 0, 0, 0, 0, 0) := rfl
set_option maxRecDepth 20000 in
theorem ja_M_word_35 : jv_at jm_M_word.2.2.2.2.2.2 35 = some (.iload_n 2, 1, 0, 0, 0, 0, 0) := rfl
set_option maxRecDepth 20000 in
theorem ja_M_word_36 : jv_at jm_M_word.2.2.2.2.2.2 36 = some (.iadd, 1, 0, 0, 0, 0, 0) := rfl
set_option maxRecDepth 20000 in
theorem ja_M_word_37 : jv_at jm_M_word.2.2.2.2.2.2 37 = some (.iaload, 1, 0, 0, 0, 0, 0) := rfl
set_option maxRecDepth 20000 in
theorem ja_M_word_38 : jv_at jm_M_word.2.2.2.2.2.2 38 = some (.goto 4, 3, 42, 0, 0, 0, 0) := rfl
set_option maxRecDepth 20000 in
theorem ja_M_word_41 : jv_at jm_M_word.2.2.2.2.2.2 41 = some (.iconst (-1), 1, 0, 0, 0, 0, -1) := rfl
set_option maxRecDepth 20000 in
theorem ja_M_word_42 : jv_at jm_M_word.2.2.2.2.2.2 42 = some (.ireturn, 1, 0, 0, 0, 0, 0) := rfl
set_option maxRecDepth 20000 in
theorem ja_M_worth_0 : jv_at jm_M_worth.2.2.2.2.2.2 0 = some (.aload_n 0, 1, 0, 0, 0, 0, 0) := rfl
set_option maxRecDepth 20000 in
theorem ja_M_worth_1 : jv_at jm_M_worth.2.2.2.2.2.2 1 = some (.iload_n 1, 1, 0, 0, 0, 0, 0) := rfl
set_option maxRecDepth 20000 in
theorem ja_M_worth_2 : jv_at jm_M_worth.2.2.2.2.2.2 2 = some (.invokevirtual 132, 3, 163, 0, 1237, 12, 1) := rfl
set_option maxRecDepth 20000 in
theorem ja_M_worth_5 : jv_at jm_M_worth.2.2.2.2.2.2 5 = some (.ifCond .eq 11, 3, 16, 0, 0, 0, 0) := rfl
set_option maxRecDepth 20000 in
theorem ja_M_worth_8 : jv_at jm_M_worth.2.2.2.2.2.2 8 = some (.aload_n 0, 1, 0, 0, 0, 0, 0) := rfl
set_option maxRecDepth 20000 in
theorem ja_M_worth_9 : jv_at jm_M_worth.2.2.2.2.2.2 9 = some (.iload_n 2, 1, 0, 0, 0, 0, 0) := rfl
set_option maxRecDepth 20000 in
theorem ja_M_worth_10 : jv_at jm_M_worth.2.2.2.2.2.2 10 = some (.invokevirtual 125, 3, 154, 0, 1202, 12, 1) := rfl
set_option maxRecDepth 20000 in
theorem ja_M_worth_13 : jv_at jm_M_worth.2.2.2.2.2.2 13 = some (.ifCond .ne 7, 3, 20, 0, 0, 0, 0) := rfl
set_option maxRecDepth 20000 in
theorem ja_M_worth_16 : jv_at jm_M_worth.2.2.2.2.2.2 16 = some (.ldc2_w 145, 3, 0, 0, 1260, 0, -4611686018427387904) := rfl
set_option maxRecDepth 20000 in
theorem ja_M_worth_19 : jv_at jm_M_worth.2.2.2.2.2.2 19 = some (.lreturn, 1, 0, 0, 0, 0, 0) := rfl
set_option maxRecDepth 20000 in
theorem ja_M_worth_20 : jv_at jm_M_worth.2.2.2.2.2.2 20 = some (.aload_n 0, 1, 0, 0, 0, 0, 0) := rfl
set_option maxRecDepth 20000 in
theorem ja_M_worth_21 : jv_at jm_M_worth.2.2.2.2.2.2 21 = some (.iload_n 1, 1, 0, 0, 0, 0, 0) := rfl
set_option maxRecDepth 20000 in
theorem ja_M_worth_22 : jv_at jm_M_worth.2.2.2.2.2.2 22 = some (.invokevirtual 147, 3, 169, 0, 1261, 12, 1) := rfl
set_option maxRecDepth 20000 in
theorem ja_M_worth_25 : jv_at jm_M_worth.2.2.2.2.2.2 25 = some (.aload_n 0, 1, 0, 0, 0, 0, 0) := rfl
set_option maxRecDepth 20000 in
theorem ja_M_worth_26 : jv_at jm_M_worth.2.2.2.2.2.2 26 = some (.iload_n 2, 1, 0, 0, 0, 0, 0) := rfl
set_option maxRecDepth 20000 in
theorem ja_M_worth_27 : jv_at jm_M_worth.2.2.2.2.2.2 27 = some (.invokevirtual 150, 3, 170, 0, 1265, 12, 1) := rfl
set_option maxRecDepth 20000 in
theorem ja_M_worth_30 : jv_at jm_M_worth.2.2.2.2.2.2 30 = some (.i2l, 1, 0, 0, 0, 0, 0) := rfl
set_option maxRecDepth 20000 in
theorem ja_M_worth_31 : jv_at jm_M_worth.2.2.2.2.2.2 31 = some (.lreturn, 1, 0, 0, 0, 0, 0) := rfl
set_option maxRecDepth 20000 in
theorem ja_M_takes_0 : jv_at jm_M_takes.2.2.2.2.2.2 0 = some (.aload_n 0, 1, 0, 0, 0, 0, 0) := rfl
set_option maxRecDepth 20000 in
theorem ja_M_takes_1 : jv_at jm_M_takes.2.2.2.2.2.2 1 = some (.aload_n 0, 1, 0, 0, 0, 0, 0) := rfl
set_option maxRecDepth 20000 in
theorem ja_M_takes_2 : jv_at jm_M_takes.2.2.2.2.2.2 2 = some (.getfield 29, 3, 12, 8, 1020, 0, 0) := rfl
set_option maxRecDepth 20000 in
theorem ja_M_takes_5 : jv_at jm_M_takes.2.2.2.2.2.2 5 = some (.iload_n 1, 1, 0, 0, 0, 0, 0) := rfl
set_option maxRecDepth 20000 in
theorem ja_M_takes_6 : jv_at jm_M_takes.2.2.2.2.2.2 6 = some (.iaload, 1, 0, 0, 0, 0, 0) := rfl
set_option maxRecDepth 20000 in
theorem ja_M_takes_7 : jv_at jm_M_takes.2.2.2.2.2.2 7 = some (.putfield 277, 3, 12, 53, 1065, 0, 0) := rfl
set_option maxRecDepth 20000 in
theorem ja_M_takes_10 : jv_at jm_M_takes.2.2.2.2.2.2 10 = some (.iconst 0, 1, 0, 0, 0, 0, 0) := rfl
set_option maxRecDepth 20000 in
theorem ja_M_takes_11 : jv_at jm_M_takes.2.2.2.2.2.2 11 = some (.istore_n 2, 1, 0, 0, 0, 0, 0) := rfl
set_option maxRecDepth 20000 in
theorem ja_M_takes_12 : jv_at jm_M_takes.2.2.2.2.2.2 12 = some (.iload_n 2, 1, 0, 0, 0, 0, 0) := rfl
set_option maxRecDepth 20000 in
theorem ja_M_takes_13 : jv_at jm_M_takes.2.2.2.2.2.2 13 = some (.aload_n 0, 1, 0, 0, 0, 0, 0) := rfl
set_option maxRecDepth 20000 in
theorem ja_M_takes_14 : jv_at jm_M_takes.2.2.2.2.2.2 14 = some (.getfield 277, 3, 12, 53, 1065, 0, 0) := rfl
set_option maxRecDepth 20000 in
theorem ja_M_takes_17 : jv_at jm_M_takes.2.2.2.2.2.2 17 = some (.if_icmp .ge 26, 3, 43, 0, 0, 0, 0) := rfl
set_option maxRecDepth 20000 in
theorem ja_M_takes_20 : jv_at jm_M_takes.2.2.2.2.2.2 20 = some (.aload_n 0, 1, 0, 0, 0, 0, 0) := rfl
set_option maxRecDepth 20000 in
theorem ja_M_takes_21 : jv_at jm_M_takes.2.2.2.2.2.2 21 = some (.getfield 90, 3, 12, 54, 1066, 0, 0) := rfl
set_option maxRecDepth 20000 in
theorem ja_M_takes_24 : jv_at jm_M_takes.2.2.2.2.2.2 24 = some (.iload_n 2, 1, 0, 0, 0, 0, 0) := rfl
set_option maxRecDepth 20000 in
theorem ja_M_takes_25 : jv_at jm_M_takes.2.2.2.2.2.2 25 = some (.aload_n 0, 1, 0, 0, 0, 0, 0) := rfl
set_option maxRecDepth 20000 in
theorem ja_M_takes_26 : jv_at jm_M_takes.2.2.2.2.2.2 26 = some (.getfield 32, 3, 12, 9, 1021, 0, 0) := rfl
set_option maxRecDepth 20000 in
theorem ja_M_takes_29 : jv_at jm_M_takes.2.2.2.2.2.2 29 = some (.bipush 10, 2, 0, 0, 0, 0, 10) := rfl
set_option maxRecDepth 20000 in
theorem ja_M_takes_31 : jv_at jm_M_takes.2.2.2.2.2.2 31 = some (.iload_n 1, 1, 0, 0, 0, 0, 0) := rfl
set_option maxRecDepth 20000 in
theorem ja_M_takes_32 : jv_at jm_M_takes.2.2.2.2.2.2 32 = some (.imul, 1, 0, 0, 0, 0, 0) := rfl
set_option maxRecDepth 20000 in
theorem ja_M_takes_33 : jv_at jm_M_takes.2.2.2.2.2.2 33 = some (.iload_n 2, 1, 0, 0, 0, 0, 0) := rfl
set_option maxRecDepth 20000 in
theorem ja_M_takes_34 : jv_at jm_M_takes.2.2.2.2.2.2 34 = some (.iadd, 1, 0, 0, 0, 0, 0) := rfl
set_option maxRecDepth 20000 in
theorem ja_M_takes_35 : jv_at jm_M_takes.2.2.2.2.2.2 35 = some (.iaload, 1, 0, 0, 0, 0, 0) := rfl
set_option maxRecDepth 20000 in
theorem ja_M_takes_36 : jv_at jm_M_takes.2.2.2.2.2.2 36 = some (.iastore, 1, 0, 0, 0, 0, 0) := rfl
set_option maxRecDepth 20000 in
theorem ja_M_takes_37 : jv_at jm_M_takes.2.2.2.2.2.2 37 = some (.iinc 2 1, 3, 0, 0, 0, 0, 0) := rfl
set_option maxRecDepth 20000 in
theorem ja_M_takes_40 : jv_at jm_M_takes.2.2.2.2.2.2 40 = some (.goto (-28), 3, 12, 0, 0, 0, 0) := rfl
set_option maxRecDepth 20000 in
theorem ja_M_takes_43 : jv_at jm_M_takes.2.2.2.2.2.2 43 = some (.return_, 1, 0, 0, 0, 0, 0) := rfl
set_option maxRecDepth 20000 in
theorem ja_M_valued_0 : jv_at jm_M_valued.2.2.2.2.2.2 0 = some (.iconst 0, 1, 0, 0, 0, 0, 0) := rfl
set_option maxRecDepth 20000 in
theorem ja_M_valued_1 : jv_at jm_M_valued.2.2.2.2.2.2 1 = some (.istore_n 2, 1, 0, 0, 0, 0, 0) := rfl
set_option maxRecDepth 20000 in
theorem ja_M_valued_2 : jv_at jm_M_valued.2.2.2.2.2.2 2 = some (.iconst 0, 1, 0, 0, 0, 0, 0) := rfl
set_option maxRecDepth 20000 in
theorem ja_M_valued_3 : jv_at jm_M_valued.2.2.2.2.2.2 3 = some (.istore_n 3, 1, 0, 0, 0, 0, 0) := rfl
set_option maxRecDepth 20000 in
theorem ja_M_valued_4 : jv_at jm_M_valued.2.2.2.2.2.2 4 = some (.iload_n 3, 1, 0, 0, 0, 0, 0) := rfl
set_option maxRecDepth 20000 in
theorem ja_M_valued_5 : jv_at jm_M_valued.2.2.2.2.2.2 5 = some (.aload_n 0, 1, 0, 0, 0, 0, 0) := rfl
set_option maxRecDepth 20000 in
theorem ja_M_valued_6 : jv_at jm_M_valued.2.2.2.2.2.2 6 = some (.getfield 277, 3, 12, 53, 1065, 0, 0) := rfl
set_option maxRecDepth 20000 in
theorem ja_M_valued_9 : jv_at jm_M_valued.2.2.2.2.2.2 9 = some (.if_icmp .ge 28, 3, 37, 0, 0, 0, 0) := rfl
set_option maxRecDepth 20000 in
theorem ja_M_valued_12 : jv_at jm_M_valued.2.2.2.2.2.2 12 = some (.iload_n 2, 1, 0, 0, 0, 0, 0) := rfl
set_option maxRecDepth 20000 in
theorem ja_M_valued_13 : jv_at jm_M_valued.2.2.2.2.2.2 13 = some (.aload_n 0, 1, 0, 0, 0, 0, 0) := rfl
set_option maxRecDepth 20000 in
theorem ja_M_valued_14 : jv_at jm_M_valued.2.2.2.2.2.2 14 = some (.getfield 13, 3, 12, 2, 1014, 0, 0) := rfl
set_option maxRecDepth 20000 in
theorem ja_M_valued_17 : jv_at jm_M_valued.2.2.2.2.2.2 17 = some (.bipush 61, 2, 0, 0, 0, 0, 61) := rfl
set_option maxRecDepth 20000 in
theorem ja_M_valued_19 : jv_at jm_M_valued.2.2.2.2.2.2 19 = some (.iload_n 1, 1, 0, 0, 0, 0, 0) := rfl
set_option maxRecDepth 20000 in
theorem ja_M_valued_20 : jv_at jm_M_valued.2.2.2.2.2.2 20 = some (.imul, 1, 0, 0, 0, 0, 0) := rfl
set_option maxRecDepth 20000 in
theorem ja_M_valued_21 : jv_at jm_M_valued.2.2.2.2.2.2 21 = some (.aload_n 0, 1, 0, 0, 0, 0, 0) := rfl
set_option maxRecDepth 20000 in
theorem ja_M_valued_22 : jv_at jm_M_valued.2.2.2.2.2.2 22 = some (.getfield 90, 3, 12, 54, 1066, 0, 0) := rfl
set_option maxRecDepth 20000 in
theorem ja_M_valued_25 : jv_at jm_M_valued.2.2.2.2.2.2 25 = some (.iload_n 3, 1, 0, 0, 0, 0, 0) := rfl
set_option maxRecDepth 20000 in
theorem ja_M_valued_26 : jv_at jm_M_valued.2.2.2.2.2.2 26 = some (.iaload, 1, 0, 0, 0, 0, 0) := rfl
set_option maxRecDepth 20000 in
theorem ja_M_valued_27 : jv_at jm_M_valued.2.2.2.2.2.2 27 = some (.iadd, 1, 0, 0, 0, 0, 0) := rfl
set_option maxRecDepth 20000 in
theorem ja_M_valued_28 : jv_at jm_M_valued.2.2.2.2.2.2 28 = some (.iaload, 1, 0, 0, 0, 0, 0) := rfl
set_option maxRecDepth 20000 in
theorem ja_M_valued_29 : jv_at jm_M_valued.2.2.2.2.2.2 29 = some (.iadd, 1, 0, 0, 0, 0, 0) := rfl
set_option maxRecDepth 20000 in
theorem ja_M_valued_30 : jv_at jm_M_valued.2.2.2.2.2.2 30 = some (.istore_n 2, 1, 0, 0, 0, 0, 0) := rfl
set_option maxRecDepth 20000 in
theorem ja_M_valued_31 : jv_at jm_M_valued.2.2.2.2.2.2 31 = some (.iinc 3 1, 3, 0, 0, 0, 0, 0) := rfl
set_option maxRecDepth 20000 in
theorem ja_M_valued_34 : jv_at jm_M_valued.2.2.2.2.2.2 34 = some (.goto (-30), 3, 4, 0, 0, 0, 0) := rfl
set_option maxRecDepth 20000 in
theorem ja_M_valued_37 : jv_at jm_M_valued.2.2.2.2.2.2 37 = some (.iload_n 2, 1, 0, 0, 0, 0, 0) := rfl
set_option maxRecDepth 20000 in
theorem ja_M_valued_38 : jv_at jm_M_valued.2.2.2.2.2.2 38 = some (.ireturn, 1, 0, 0, 0, 0, 0) := rfl
set_option maxRecDepth 20000 in
theorem ja_M_report_0 : jv_at jm_M_report.2.2.2.2.2.2 0 = some (.aload_n 0, 1, 0, 0, 0, 0, 0) := rfl
set_option maxRecDepth 20000 in
theorem ja_M_report_1 : jv_at jm_M_report.2.2.2.2.2.2 1 = some (.iload_n 1, 1, 0, 0, 0, 0, 0) := rfl
set_option maxRecDepth 20000 in
theorem ja_M_report_2 : jv_at jm_M_report.2.2.2.2.2.2 2 = some (.invokevirtual 132, 3, 163, 0, 1237, 12, 1) := rfl
set_option maxRecDepth 20000 in
theorem ja_M_report_5 : jv_at jm_M_report.2.2.2.2.2.2 5 = some (.ifCond .ne 6, 3, 11, 0, 0, 0, 0) := rfl
set_option maxRecDepth 20000 in
theorem ja_M_report_8 : jv_at jm_M_report.2.2.2.2.2.2 8 = some (.bipush (-2), 2, 0, 0, 0, 0, -2) := rfl
set_option maxRecDepth 20000 in
theorem ja_M_report_10 : jv_at jm_M_report.2.2.2.2.2.2 10 = some (.ireturn, 1, 0, 0, 0, 0, 0) := rfl
set_option maxRecDepth 20000 in
theorem ja_M_report_11 : jv_at jm_M_report.2.2.2.2.2.2 11 = some (.aload_n 0, 1, 0, 0, 0, 0, 0) := rfl
set_option maxRecDepth 20000 in
theorem ja_M_report_12 : jv_at jm_M_report.2.2.2.2.2.2 12 = some (.getfield 26, 3, 12, 7, 1019, 0, 0) := rfl
set_option maxRecDepth 20000 in
theorem ja_M_report_15 : jv_at jm_M_report.2.2.2.2.2.2 15 = some (.iload_n 1, 1, 0, 0, 0, 0, 0) := rfl
set_option maxRecDepth 20000 in
theorem ja_M_report_16 : jv_at jm_M_report.2.2.2.2.2.2 16 = some (.iaload, 1, 0, 0, 0, 0, 0) := rfl
set_option maxRecDepth 20000 in
theorem ja_M_report_17 : jv_at jm_M_report.2.2.2.2.2.2 17 = some (.ifCond .ne 11, 3, 28, 0, 0, 0, 0) := rfl
set_option maxRecDepth 20000 in
theorem ja_M_report_20 : jv_at jm_M_report.2.2.2.2.2.2 20 = some (.aload_n 0, 1, 0, 0, 0, 0, 0) := rfl
set_option maxRecDepth 20000 in
theorem ja_M_report_21 : jv_at jm_M_report.2.2.2.2.2.2 21 = some (.iload_n 1, 1, 0, 0, 0, 0, 0) := rfl
set_option maxRecDepth 20000 in
theorem ja_M_report_22 : jv_at jm_M_report.2.2.2.2.2.2 22 = some (.invokevirtual 153, 3, 172, 0, 1273, 12, 1) := rfl
set_option maxRecDepth 20000 in
theorem ja_M_report_25 : jv_at jm_M_report.2.2.2.2.2.2 25 = some (.goto 5, 3, 30, 0, 0, 0, 0) := rfl
set_option maxRecDepth 20000 in
theorem ja_M_report_28 : jv_at jm_M_report.2.2.2.2.2.2 28 = some (.bipush (-3), 2, 0, 0, 0, 0, -3) := rfl
set_option maxRecDepth 20000 in
theorem ja_M_report_30 : jv_at jm_M_report.2.2.2.2.2.2 30 = some (.ireturn, 1, 0, 0, 0, 0, 0) := rfl
set_option maxRecDepth 20000 in
theorem ja_M_lists_0 : jv_at jm_M_lists.2.2.2.2.2.2 0 = some (.aload_n 0, 1, 0, 0, 0, 0, 0) := rfl
set_option maxRecDepth 20000 in
theorem ja_M_lists_1 : jv_at jm_M_lists.2.2.2.2.2.2 1 = some (.getfield 26, 3, 12, 7, 1019, 0, 0) := rfl
set_option maxRecDepth 20000 in
theorem ja_M_lists_4 : jv_at jm_M_lists.2.2.2.2.2.2 4 = some (.iload_n 1, 1, 0, 0, 0, 0, 0) := rfl
set_option maxRecDepth 20000 in
theorem ja_M_lists_5 : jv_at jm_M_lists.2.2.2.2.2.2 5 = some (.iconst 1, 1, 0, 0, 0, 0, 1) := rfl
set_option maxRecDepth 20000 in
theorem ja_M_lists_6 : jv_at jm_M_lists.2.2.2.2.2.2 6 = some (.iastore, 1, 0, 0, 0, 0, 0) := rfl
set_option maxRecDepth 20000 in
theorem ja_M_lists_7 : jv_at jm_M_lists.2.2.2.2.2.2 7 = some (.aload_n 0, 1, 0, 0, 0, 0, 0) := rfl
set_option maxRecDepth 20000 in
theorem ja_M_lists_8 : jv_at jm_M_lists.2.2.2.2.2.2 8 = some (.getfield 38, 3, 12, 12, 1024, 0, 0) := rfl
set_option maxRecDepth 20000 in
theorem ja_M_lists_11 : jv_at jm_M_lists.2.2.2.2.2.2 11 = some (.aload_n 0, 1, 0, 0, 0, 0, 0) := rfl
set_option maxRecDepth 20000 in
theorem ja_M_lists_12 : jv_at jm_M_lists.2.2.2.2.2.2 12 = some (.getfield 135, 3, 12, 11, 1023, 0, 0) := rfl
set_option maxRecDepth 20000 in
theorem ja_M_lists_15 : jv_at jm_M_lists.2.2.2.2.2.2 15 = some (.iload_n 1, 1, 0, 0, 0, 0, 0) := rfl
set_option maxRecDepth 20000 in
theorem ja_M_lists_16 : jv_at jm_M_lists.2.2.2.2.2.2 16 = some (.iastore, 1, 0, 0, 0, 0, 0) := rfl
set_option maxRecDepth 20000 in
theorem ja_M_lists_17 : jv_at jm_M_lists.2.2.2.2.2.2 17 = some (.aload_n 0, 1, 0, 0, 0, 0, 0) := rfl
set_option maxRecDepth 20000 in
theorem ja_M_lists_18 : jv_at jm_M_lists.2.2.2.2.2.2 18 = some (.dup, 1, 0, 0, 0, 0, 0) := rfl
set_option maxRecDepth 20000 in
theorem ja_M_lists_19 : jv_at jm_M_lists.2.2.2.2.2.2 19 = some (.getfield 135, 3, 12, 11, 1023, 0, 0) := rfl
set_option maxRecDepth 20000 in
theorem ja_M_lists_22 : jv_at jm_M_lists.2.2.2.2.2.2 22 = some (.iconst 1, 1, 0, 0, 0, 0, 1) := rfl
set_option maxRecDepth 20000 in
theorem ja_M_lists_23 : jv_at jm_M_lists.2.2.2.2.2.2 23 = some (.iadd, 1, 0, 0, 0, 0, 0) := rfl
set_option maxRecDepth 20000 in
theorem ja_M_lists_24 : jv_at jm_M_lists.2.2.2.2.2.2 24 = some (.putfield 135, 3, 12, 11, 1023, 0, 0) := rfl
set_option maxRecDepth 20000 in
theorem ja_M_lists_27 : jv_at jm_M_lists.2.2.2.2.2.2 27 = some (.aload_n 0, 1, 0, 0, 0, 0, 0) := rfl
set_option maxRecDepth 20000 in
theorem ja_M_lists_28 : jv_at jm_M_lists.2.2.2.2.2.2 28 = some (.getfield 135, 3, 12, 11, 1023, 0, 0) := rfl
set_option maxRecDepth 20000 in
theorem ja_M_lists_31 : jv_at jm_M_lists.2.2.2.2.2.2 31 = some (.iconst 1, 1, 0, 0, 0, 0, 1) := rfl
set_option maxRecDepth 20000 in
theorem ja_M_lists_32 : jv_at jm_M_lists.2.2.2.2.2.2 32 = some (.isub, 1, 0, 0, 0, 0, 0) := rfl
set_option maxRecDepth 20000 in
theorem ja_M_lists_33 : jv_at jm_M_lists.2.2.2.2.2.2 33 = some (.ireturn, 1, 0, 0, 0, 0, 0) := rfl
set_option maxRecDepth 20000 in
theorem ja_M_sign_0 : jv_at jm_M_sign.2.2.2.2.2.2 0 = some (.aload_n 0, 1, 0, 0, 0, 0, 0) := rfl
set_option maxRecDepth 20000 in
theorem ja_M_sign_1 : jv_at jm_M_sign.2.2.2.2.2.2 1 = some (.iload_n 1, 1, 0, 0, 0, 0, 0) := rfl
set_option maxRecDepth 20000 in
theorem ja_M_sign_2 : jv_at jm_M_sign.2.2.2.2.2.2 2 = some (.invokevirtual 132, 3, 163, 0, 1237, 12, 1) := rfl
set_option maxRecDepth 20000 in
theorem ja_M_sign_5 : jv_at jm_M_sign.2.2.2.2.2.2 5 = some (.ifCond .eq 11, 3, 16, 0, 0, 0, 0) := rfl
set_option maxRecDepth 20000 in
theorem ja_M_sign_8 : jv_at jm_M_sign.2.2.2.2.2.2 8 = some (.aload_n 0, 1, 0, 0, 0, 0, 0) := rfl
set_option maxRecDepth 20000 in
theorem ja_M_sign_9 : jv_at jm_M_sign.2.2.2.2.2.2 9 = some (.iload_n 2, 1, 0, 0, 0, 0, 0) := rfl
set_option maxRecDepth 20000 in
theorem ja_M_sign_10 : jv_at jm_M_sign.2.2.2.2.2.2 10 = some (.invokevirtual 125, 3, 154, 0, 1202, 12, 1) := rfl
set_option maxRecDepth 20000 in
theorem ja_M_sign_13 : jv_at jm_M_sign.2.2.2.2.2.2 13 = some (.ifCond .ne 6, 3, 19, 0, 0, 0, 0) := rfl
set_option maxRecDepth 20000 in
theorem ja_M_sign_16 : jv_at jm_M_sign.2.2.2.2.2.2 16 = some (.bipush (-2), 2, 0, 0, 0, 0, -2) := rfl
set_option maxRecDepth 20000 in
theorem ja_M_sign_18 : jv_at jm_M_sign.2.2.2.2.2.2 18 = some (.ireturn, 1, 0, 0, 0, 0, 0) := rfl
set_option maxRecDepth 20000 in
theorem ja_M_sign_19 : jv_at jm_M_sign.2.2.2.2.2.2 19 = some (.aload_n 0, 1, 0, 0, 0, 0, 0) := rfl
set_option maxRecDepth 20000 in
theorem ja_M_sign_20 : jv_at jm_M_sign.2.2.2.2.2.2 20 = some (.getfield 26, 3, 12, 7, 1019, 0, 0) := rfl
set_option maxRecDepth 20000 in
theorem ja_M_sign_23 : jv_at jm_M_sign.2.2.2.2.2.2 23 = some (.iload_n 1, 1, 0, 0, 0, 0, 0) := rfl
set_option maxRecDepth 20000 in
theorem ja_M_sign_24 : jv_at jm_M_sign.2.2.2.2.2.2 24 = some (.iaload, 1, 0, 0, 0, 0, 0) := rfl
set_option maxRecDepth 20000 in
theorem ja_M_sign_25 : jv_at jm_M_sign.2.2.2.2.2.2 25 = some (.ifCond .ne 17, 3, 42, 0, 0, 0, 0) := rfl
set_option maxRecDepth 20000 in
theorem ja_M_sign_28 : jv_at jm_M_sign.2.2.2.2.2.2 28 = some (.aload_n 0, 1, 0, 0, 0, 0, 0) := rfl
set_option maxRecDepth 20000 in
theorem ja_M_sign_29 : jv_at jm_M_sign.2.2.2.2.2.2 29 = some (.getfield 35, 3, 12, 10, 1022, 0, 0) := rfl
set_option maxRecDepth 20000 in
theorem ja_M_sign_32 : jv_at jm_M_sign.2.2.2.2.2.2 32 = some (.iload_n 1, 1, 0, 0, 0, 0, 0) := rfl
set_option maxRecDepth 20000 in
theorem ja_M_sign_33 : jv_at jm_M_sign.2.2.2.2.2.2 33 = some (.iaload, 1, 0, 0, 0, 0, 0) := rfl
set_option maxRecDepth 20000 in
theorem ja_M_sign_34 : jv_at jm_M_sign.2.2.2.2.2.2 34 = some (.iload_n 2, 1, 0, 0, 0, 0, 0) := rfl
set_option maxRecDepth 20000 in
theorem ja_M_sign_35 : jv_at jm_M_sign.2.2.2.2.2.2 35 = some (.ishr, 1, 0, 0, 0, 0, 0) := rfl
set_option maxRecDepth 20000 in
theorem ja_M_sign_36 : jv_at jm_M_sign.2.2.2.2.2.2 36 = some (.iconst 1, 1, 0, 0, 0, 0, 1) := rfl
set_option maxRecDepth 20000 in
theorem ja_M_sign_37 : jv_at jm_M_sign.2.2.2.2.2.2 37 = some (.iand, 1, 0, 0, 0, 0, 0) := rfl
set_option maxRecDepth 20000 in
theorem ja_M_sign_38 : jv_at jm_M_sign.2.2.2.2.2.2 38 = some (.iconst 1, 1, 0, 0, 0, 0, 1) := rfl
set_option maxRecDepth 20000 in
theorem ja_M_sign_39 : jv_at jm_M_sign.2.2.2.2.2.2 39 = some (.if_icmp .ne 6, 3, 45, 0, 0, 0, 0) := rfl
set_option maxRecDepth 20000 in
theorem ja_M_sign_42 : jv_at jm_M_sign.2.2.2.2.2.2 42 = some (.bipush (-3), 2, 0, 0, 0, 0, -3) := rfl
set_option maxRecDepth 20000 in
theorem ja_M_sign_44 : jv_at jm_M_sign.2.2.2.2.2.2 44 = some (.ireturn, 1, 0, 0, 0, 0, 0) := rfl
set_option maxRecDepth 20000 in
theorem ja_M_sign_45 : jv_at jm_M_sign.2.2.2.2.2.2 45 = some (.aload_n 0, 1, 0, 0, 0, 0, 0) := rfl
set_option maxRecDepth 20000 in
theorem ja_M_sign_46 : jv_at jm_M_sign.2.2.2.2.2.2 46 = some (.getfield 35, 3, 12, 10, 1022, 0, 0) := rfl
set_option maxRecDepth 20000 in
theorem ja_M_sign_49 : jv_at jm_M_sign.2.2.2.2.2.2 49 = some (.iload_n 1, 1, 0, 0, 0, 0, 0) := rfl
set_option maxRecDepth 20000 in
theorem ja_M_sign_50 : jv_at jm_M_sign.2.2.2.2.2.2 50 = some (.dup2, 1, 0, 0, 0, 0, 0) := rfl
set_option maxRecDepth 20000 in
theorem ja_M_sign_51 : jv_at jm_M_sign.2.2.2.2.2.2 51 = some (.iaload, 1, 0, 0, 0, 0, 0) := rfl
set_option maxRecDepth 20000 in
theorem ja_M_sign_52 : jv_at jm_M_sign.2.2.2.2.2.2 52 = some (.iconst 1, 1, 0, 0, 0, 0, 1) := rfl
set_option maxRecDepth 20000 in
theorem ja_M_sign_53 : jv_at jm_M_sign.2.2.2.2.2.2 53 = some (.iload_n 2, 1, 0, 0, 0, 0, 0) := rfl
set_option maxRecDepth 20000 in
theorem ja_M_sign_54 : jv_at jm_M_sign.2.2.2.2.2.2 54 = some (.ishl, 1, 0, 0, 0, 0, 0) := rfl
set_option maxRecDepth 20000 in
theorem ja_M_sign_55 : jv_at jm_M_sign.2.2.2.2.2.2 55 = some (.ior, 1, 0, 0, 0, 0, 0) := rfl
set_option maxRecDepth 20000 in
theorem ja_M_sign_56 : jv_at jm_M_sign.2.2.2.2.2.2 56 = some (.iastore, 1, 0, 0, 0, 0, 0) := rfl
set_option maxRecDepth 20000 in
theorem ja_M_sign_57 : jv_at jm_M_sign.2.2.2.2.2.2 57 = some (.aload_n 0, 1, 0, 0, 0, 0, 0) := rfl
set_option maxRecDepth 20000 in
theorem ja_M_sign_58 : jv_at jm_M_sign.2.2.2.2.2.2 58 = some (.getfield 35, 3, 12, 10, 1022, 0, 0) := rfl
set_option maxRecDepth 20000 in
theorem ja_M_sign_61 : jv_at jm_M_sign.2.2.2.2.2.2 61 = some (.iload_n 1, 1, 0, 0, 0, 0, 0) := rfl
set_option maxRecDepth 20000 in
theorem ja_M_sign_62 : jv_at jm_M_sign.2.2.2.2.2.2 62 = some (.iaload, 1, 0, 0, 0, 0, 0) := rfl
set_option maxRecDepth 20000 in
theorem ja_M_sign_63 : jv_at jm_M_sign.2.2.2.2.2.2 63 = some (.invokestatic 142, 3, 166, 1, 1249, 12, 1) := rfl
set_option maxRecDepth 20000 in
theorem ja_M_sign_66 : jv_at jm_M_sign.2.2.2.2.2.2 66 = some (.istore_n 3, 1, 0, 0, 0, 0, 0) := rfl
set_option maxRecDepth 20000 in
theorem ja_M_sign_67 : jv_at jm_M_sign.2.2.2.2.2.2 67 = some (.iconst 2, 1, 0, 0, 0, 0, 2) := rfl
set_option maxRecDepth 20000 in
theorem ja_M_sign_68 : jv_at jm_M_sign.2.2.2.2.2.2 68 = some (.iload_n 3, 1, 0, 0, 0, 0, 0) := rfl
set_option maxRecDepth 20000 in
theorem ja_M_sign_69 : jv_at jm_M_sign.2.2.2.2.2.2 69 = some (.imul, 1, 0, 0, 0, 0, 0) := rfl
set_option maxRecDepth 20000 in
theorem ja_M_sign_70 : jv_at jm_M_sign.2.2.2.2.2.2 70 = some (.aload_n 0, 1, 0, 0, 0, 0, 0) := rfl
set_option maxRecDepth 20000 in
theorem ja_M_sign_71 : jv_at jm_M_sign.2.2.2.2.2.2 71 = some (.getfield 115, 3, 12, 0, 1012, 0, 0) := rfl
set_option maxRecDepth 20000 in
theorem ja_M_sign_74 : jv_at jm_M_sign.2.2.2.2.2.2 74 = some (.if_icmp .le 10, 3, 84, 0, 0, 0, 0) := rfl
set_option maxRecDepth 20000 in
theorem ja_M_sign_77 : jv_at jm_M_sign.2.2.2.2.2.2 77 = some (.aload_n 0, 1, 0, 0, 0, 0, 0) := rfl
set_option maxRecDepth 20000 in
theorem ja_M_sign_78 : jv_at jm_M_sign.2.2.2.2.2.2 78 = some (.iload_n 1, 1, 0, 0, 0, 0, 0) := rfl
set_option maxRecDepth 20000 in
theorem ja_M_sign_79 : jv_at jm_M_sign.2.2.2.2.2.2 79 = some (.invokevirtual 153, 3, 172, 0, 1273, 12, 1) := rfl
set_option maxRecDepth 20000 in
theorem ja_M_sign_82 : jv_at jm_M_sign.2.2.2.2.2.2 82 = some (.istore 4, 2, 0, 0, 0, 0, 0) := rfl
set_option maxRecDepth 20000 in
theorem ja_M_sign_84 : jv_at jm_M_sign.2.2.2.2.2.2 84 = some (.iload_n 3, 1, 0, 0, 0, 0, 0) := rfl
set_option maxRecDepth 20000 in
theorem ja_M_sign_85 : jv_at jm_M_sign.2.2.2.2.2.2 85 = some (.ireturn, 1, 0, 0, 0, 0, 0) := rfl
set_option maxRecDepth 20000 in
theorem ja_M_call_0 : jv_at jm_M_call.2.2.2.2.2.2 0 = some (.aload_n 0, 1, 0, 0, 0, 0, 0) := rfl
set_option maxRecDepth 20000 in
theorem ja_M_call_1 : jv_at jm_M_call.2.2.2.2.2.2 1 = some (.getfield 41, 3, 12, 13, 1025, 0, 0) := rfl
set_option maxRecDepth 20000 in
theorem ja_M_call_4 : jv_at jm_M_call.2.2.2.2.2.2 4 = some (.iconst (-1), 1, 0, 0, 0, 0, -1) := rfl
set_option maxRecDepth 20000 in
theorem ja_M_call_5 : jv_at jm_M_call.2.2.2.2.2.2 5 = some (.if_icmp .ne 10, 3, 15, 0, 0, 0, 0) := rfl
set_option maxRecDepth 20000 in
theorem ja_M_call_8 : jv_at jm_M_call.2.2.2.2.2.2 8 = some (.aload_n 0, 1, 0, 0, 0, 0, 0) := rfl
set_option maxRecDepth 20000 in
theorem ja_M_call_9 : jv_at jm_M_call.2.2.2.2.2.2 9 = some (.getfield 135, 3, 12, 11, 1023, 0, 0) := rfl
set_option maxRecDepth 20000 in
theorem ja_M_call_12 : jv_at jm_M_call.2.2.2.2.2.2 12 = some (.ifCond .ne 6, 3, 18, 0, 0, 0, 0) := rfl
set_option maxRecDepth 20000 in
theorem ja_M_call_15 : jv_at jm_M_call.2.2.2.2.2.2 15 = some (.bipush (-3), 2, 0, 0, 0, 0, -3) := rfl
set_option maxRecDepth 20000 in
theorem ja_M_call_17 : jv_at jm_M_call.2.2.2.2.2.2 17 = some (.ireturn, 1, 0, 0, 0, 0, 0) := rfl
set_option maxRecDepth 20000 in
theorem ja_M_call_18 : jv_at jm_M_call.2.2.2.2.2.2 18 = some (.aload_n 0, 1, 0, 0, 0, 0, 0) := rfl
set_option maxRecDepth 20000 in
theorem ja_M_call_19 : jv_at jm_M_call.2.2.2.2.2.2 19 = some (.aload_n 0, 1, 0, 0, 0, 0, 0) := rfl
set_option maxRecDepth 20000 in
theorem ja_M_call_20 : jv_at jm_M_call.2.2.2.2.2.2 20 = some (.getfield 38, 3, 12, 12, 1024, 0, 0) := rfl
set_option maxRecDepth 20000 in
theorem ja_M_call_23 : jv_at jm_M_call.2.2.2.2.2.2 23 = some (.iconst 0, 1, 0, 0, 0, 0, 0) := rfl
set_option maxRecDepth 20000 in
theorem ja_M_call_24 : jv_at jm_M_call.2.2.2.2.2.2 24 = some (.iaload, 1, 0, 0, 0, 0, 0) := rfl
set_option maxRecDepth 20000 in
theorem ja_M_call_25 : jv_at jm_M_call.2.2.2.2.2.2 25 = some (.putfield 41, 3, 12, 13, 1025, 0, 0) := rfl
set_option maxRecDepth 20000 in
theorem ja_M_call_28 : jv_at jm_M_call.2.2.2.2.2.2 28 = some (.aload_n 0, 1, 0, 0, 0, 0, 0) := rfl
set_option maxRecDepth 20000 in
theorem ja_M_call_29 : jv_at jm_M_call.2.2.2.2.2.2 29 = some (.getfield 26, 3, 12, 7, 1019, 0, 0) := rfl
set_option maxRecDepth 20000 in
theorem ja_M_call_32 : jv_at jm_M_call.2.2.2.2.2.2 32 = some (.aload_n 0, 1, 0, 0, 0, 0, 0) := rfl
set_option maxRecDepth 20000 in
theorem ja_M_call_33 : jv_at jm_M_call.2.2.2.2.2.2 33 = some (.getfield 41, 3, 12, 13, 1025, 0, 0) := rfl
set_option maxRecDepth 20000 in
theorem ja_M_call_36 : jv_at jm_M_call.2.2.2.2.2.2 36 = some (.iconst 2, 1, 0, 0, 0, 0, 2) := rfl
set_option maxRecDepth 20000 in
theorem ja_M_call_37 : jv_at jm_M_call.2.2.2.2.2.2 37 = some (.iastore, 1, 0, 0, 0, 0, 0) := rfl
set_option maxRecDepth 20000 in
theorem ja_M_call_38 : jv_at jm_M_call.2.2.2.2.2.2 38 = some (.aload_n 0, 1, 0, 0, 0, 0, 0) := rfl
set_option maxRecDepth 20000 in
theorem ja_M_call_39 : jv_at jm_M_call.2.2.2.2.2.2 39 = some (.dup, 1, 0, 0, 0, 0, 0) := rfl
set_option maxRecDepth 20000 in
theorem ja_M_call_40 : jv_at jm_M_call.2.2.2.2.2.2 40 = some (.getfield 135, 3, 12, 11, 1023, 0, 0) := rfl
set_option maxRecDepth 20000 in
theorem ja_M_call_43 : jv_at jm_M_call.2.2.2.2.2.2 43 = some (.iconst 1, 1, 0, 0, 0, 0, 1) := rfl
set_option maxRecDepth 20000 in
theorem ja_M_call_44 : jv_at jm_M_call.2.2.2.2.2.2 44 = some (.isub, 1, 0, 0, 0, 0, 0) := rfl
set_option maxRecDepth 20000 in
theorem ja_M_call_45 : jv_at jm_M_call.2.2.2.2.2.2 45 = some (.putfield 135, 3, 12, 11, 1023, 0, 0) := rfl
set_option maxRecDepth 20000 in
theorem ja_M_call_48 : jv_at jm_M_call.2.2.2.2.2.2 48 = some (.iconst 0, 1, 0, 0, 0, 0, 0) := rfl
set_option maxRecDepth 20000 in
theorem ja_M_call_49 : jv_at jm_M_call.2.2.2.2.2.2 49 = some (.istore_n 1, 1, 0, 0, 0, 0, 0) := rfl
set_option maxRecDepth 20000 in
theorem ja_M_call_50 : jv_at jm_M_call.2.2.2.2.2.2 50 = some (.iload_n 1, 1, 0, 0, 0, 0, 0) := rfl
set_option maxRecDepth 20000 in
theorem ja_M_call_51 : jv_at jm_M_call.2.2.2.2.2.2 51 = some (.aload_n 0, 1, 0, 0, 0, 0, 0) := rfl
set_option maxRecDepth 20000 in
theorem ja_M_call_52 : jv_at jm_M_call.2.2.2.2.2.2 52 = some (.getfield 135, 3, 12, 11, 1023, 0, 0) := rfl
set_option maxRecDepth 20000 in
theorem ja_M_call_55 : jv_at jm_M_call.2.2.2.2.2.2 55 = some (.if_icmp .ge 23, 3, 78, 0, 0, 0, 0) := rfl
set_option maxRecDepth 20000 in
theorem ja_M_call_58 : jv_at jm_M_call.2.2.2.2.2.2 58 = some (.aload_n 0, 1, 0, 0, 0, 0, 0) := rfl
set_option maxRecDepth 20000 in
theorem ja_M_call_59 : jv_at jm_M_call.2.2.2.2.2.2 59 = some (.getfield 38, 3, 12, 12, 1024, 0, 0) := rfl
set_option maxRecDepth 20000 in
theorem ja_M_call_62 : jv_at jm_M_call.2.2.2.2.2.2 62 = some (.iload_n 1, 1, 0, 0, 0, 0, 0) := rfl
set_option maxRecDepth 20000 in
theorem ja_M_call_63 : jv_at jm_M_call.2.2.2.2.2.2 63 = some (.aload_n 0, 1, 0, 0, 0, 0, 0) := rfl
set_option maxRecDepth 20000 in
theorem ja_M_call_64 : jv_at jm_M_call.2.2.2.2.2.2 64 = some (.getfield 38, 3, 12, 12, 1024, 0, 0) := rfl
set_option maxRecDepth 20000 in
theorem ja_M_call_67 : jv_at jm_M_call.2.2.2.2.2.2 67 = some (.iload_n 1, 1, 0, 0, 0, 0, 0) := rfl
set_option maxRecDepth 20000 in
theorem ja_M_call_68 : jv_at jm_M_call.2.2.2.2.2.2 68 = some (.iconst 1, 1, 0, 0, 0, 0, 1) := rfl
set_option maxRecDepth 20000 in
theorem ja_M_call_69 : jv_at jm_M_call.2.2.2.2.2.2 69 = some (.iadd, 1, 0, 0, 0, 0, 0) := rfl
set_option maxRecDepth 20000 in
theorem ja_M_call_70 : jv_at jm_M_call.2.2.2.2.2.2 70 = some (.iaload, 1, 0, 0, 0, 0, 0) := rfl
set_option maxRecDepth 20000 in
theorem ja_M_call_71 : jv_at jm_M_call.2.2.2.2.2.2 71 = some (.iastore, 1, 0, 0, 0, 0, 0) := rfl
set_option maxRecDepth 20000 in
theorem ja_M_call_72 : jv_at jm_M_call.2.2.2.2.2.2 72 = some (.iinc 1 1, 3, 0, 0, 0, 0, 0) := rfl
set_option maxRecDepth 20000 in
theorem ja_M_call_75 : jv_at jm_M_call.2.2.2.2.2.2 75 = some (.goto (-25), 3, 50, 0, 0, 0, 0) := rfl
set_option maxRecDepth 20000 in
theorem ja_M_call_78 : jv_at jm_M_call.2.2.2.2.2.2 78 = some (.aload_n 0, 1, 0, 0, 0, 0, 0) := rfl
set_option maxRecDepth 20000 in
theorem ja_M_call_79 : jv_at jm_M_call.2.2.2.2.2.2 79 = some (.getfield 41, 3, 12, 13, 1025, 0, 0) := rfl
set_option maxRecDepth 20000 in
theorem ja_M_call_82 : jv_at jm_M_call.2.2.2.2.2.2 82 = some (.ireturn, 1, 0, 0, 0, 0, 0) := rfl
set_option maxRecDepth 20000 in
theorem ja_M_feed_0 : jv_at jm_M_feed.2.2.2.2.2.2 0 = some (.iload_n 1, 1, 0, 0, 0, 0, 0) := rfl
set_option maxRecDepth 20000 in
theorem ja_M_feed_1 : jv_at jm_M_feed.2.2.2.2.2.2 1 = some (.iconst 1, 1, 0, 0, 0, 0, 1) := rfl
set_option maxRecDepth 20000 in
theorem ja_M_feed_2 : jv_at jm_M_feed.2.2.2.2.2.2 2 = some (.bipush 8, 2, 0, 0, 0, 0, 8) := rfl
set_option maxRecDepth 20000 in
theorem ja_M_feed_4 : jv_at jm_M_feed.2.2.2.2.2.2 4 = some (.invokestatic 118, 3, 152, 1, 1195, 12, 3) := rfl
set_option maxRecDepth 20000 in
theorem ja_M_feed_7 : jv_at jm_M_feed.2.2.2.2.2.2 7 = some (.ifCond .ne 6, 3, 13, 0, 0, 0, 0) := rfl
set_option maxRecDepth 20000 in
theorem ja_M_feed_10 : jv_at jm_M_feed.2.2.2.2.2.2 10 = some (.bipush (-2), 2, 0, 0, 0, 0, -2) := rfl
set_option maxRecDepth 20000 in
theorem ja_M_feed_12 : jv_at jm_M_feed.2.2.2.2.2.2 12 = some (.ireturn, 1, 0, 0, 0, 0, 0) := rfl
set_option maxRecDepth 20000 in
theorem ja_M_feed_13 : jv_at jm_M_feed.2.2.2.2.2.2 13 = some (.aload_n 0, 1, 0, 0, 0, 0, 0) := rfl
set_option maxRecDepth 20000 in
theorem ja_M_feed_14 : jv_at jm_M_feed.2.2.2.2.2.2 14 = some (.getfield 233, 3, 12, 30, 1042, 0, 0) := rfl
set_option maxRecDepth 20000 in
theorem ja_M_feed_17 : jv_at jm_M_feed.2.2.2.2.2.2 17 = some (.iload_n 1, 1, 0, 0, 0, 0, 0) := rfl
set_option maxRecDepth 20000 in
theorem ja_M_feed_18 : jv_at jm_M_feed.2.2.2.2.2.2 18 = some (.iadd, 1, 0, 0, 0, 0, 0) := rfl
set_option maxRecDepth 20000 in
theorem ja_M_feed_19 : jv_at jm_M_feed.2.2.2.2.2.2 19 = some (.sipush 200, 3, 0, 0, 0, 0, 200) := rfl
set_option maxRecDepth 20000 in
theorem ja_M_feed_22 : jv_at jm_M_feed.2.2.2.2.2.2 22 = some (.if_icmp .le 6, 3, 28, 0, 0, 0, 0) := rfl
set_option maxRecDepth 20000 in
theorem ja_M_feed_25 : jv_at jm_M_feed.2.2.2.2.2.2 25 = some (.bipush (-4), 2, 0, 0, 0, 0, -4) := rfl
set_option maxRecDepth 20000 in
theorem ja_M_feed_27 : jv_at jm_M_feed.2.2.2.2.2.2 27 = some (.ireturn, 1, 0, 0, 0, 0, 0) := rfl
set_option maxRecDepth 20000 in
theorem ja_M_feed_28 : jv_at jm_M_feed.2.2.2.2.2.2 28 = some (.iconst 0, 1, 0, 0, 0, 0, 0) := rfl
set_option maxRecDepth 20000 in
theorem ja_M_feed_29 : jv_at jm_M_feed.2.2.2.2.2.2 29 = some (.istore 4, 2, 0, 0, 0, 0, 0) := rfl
set_option maxRecDepth 20000 in
theorem ja_M_feed_31 : jv_at jm_M_feed.2.2.2.2.2.2 31 = some (.iload 4, 2, 0, 0, 0, 0, 0) := rfl
set_option maxRecDepth 20000 in
theorem ja_M_feed_33 : jv_at jm_M_feed.2.2.2.2.2.2 33 = some (.iload_n 1, 1, 0, 0, 0, 0, 0) := rfl
set_option maxRecDepth 20000 in
theorem ja_M_feed_34 : jv_at jm_M_feed.2.2.2.2.2.2 34 = some (.if_icmp .ge 40, 3, 74, 0, 0, 0, 0) := rfl
set_option maxRecDepth 20000 in
theorem ja_M_feed_37 : jv_at jm_M_feed.2.2.2.2.2.2 37 = some (.aload_n 0, 1, 0, 0, 0, 0, 0) := rfl
set_option maxRecDepth 20000 in
theorem ja_M_feed_38 : jv_at jm_M_feed.2.2.2.2.2.2 38 = some (.getfield 63, 3, 12, 29, 1041, 0, 0) := rfl
set_option maxRecDepth 20000 in
theorem ja_M_feed_41 : jv_at jm_M_feed.2.2.2.2.2.2 41 = some (.aload_n 0, 1, 0, 0, 0, 0, 0) := rfl
set_option maxRecDepth 20000 in
theorem ja_M_feed_42 : jv_at jm_M_feed.2.2.2.2.2.2 42 = some (.getfield 233, 3, 12, 30, 1042, 0, 0) := rfl
set_option maxRecDepth 20000 in
theorem ja_M_feed_45 : jv_at jm_M_feed.2.2.2.2.2.2 45 = some (.lload_n 2, 1, 0, 0, 0, 0, 0) := rfl
set_option maxRecDepth 20000 in
theorem ja_M_feed_46 : jv_at jm_M_feed.2.2.2.2.2.2 46 = some (.bipush 8, 2, 0, 0, 0, 0, 8) := rfl
set_option maxRecDepth 20000 in
theorem ja_M_feed_48 : jv_at jm_M_feed.2.2.2.2.2.2 48 = some (.iload 4, 2, 0, 0, 0, 0, 0) := rfl
set_option maxRecDepth 20000 in
theorem ja_M_feed_50 : jv_at jm_M_feed.2.2.2.2.2.2 50 = some (.imul, 1, 0, 0, 0, 0, 0) := rfl
set_option maxRecDepth 20000 in
theorem ja_M_feed_51 : jv_at jm_M_feed.2.2.2.2.2.2 51 = some (.lshr, 1, 0, 0, 0, 0, 0) := rfl
set_option maxRecDepth 20000 in
theorem ja_M_feed_52 : jv_at jm_M_feed.2.2.2.2.2.2 52 = some (.ldc2_w 236, 3, 0, 0, 1289, 0, 255) := rfl
set_option maxRecDepth 20000 in
theorem ja_M_feed_55 : jv_at jm_M_feed.2.2.2.2.2.2 55 = some (.land, 1, 0, 0, 0, 0, 0) := rfl
set_option maxRecDepth 20000 in
theorem ja_M_feed_56 : jv_at jm_M_feed.2.2.2.2.2.2 56 = some (.l2i, 1, 0, 0, 0, 0, 0) := rfl
set_option maxRecDepth 20000 in
theorem ja_M_feed_57 : jv_at jm_M_feed.2.2.2.2.2.2 57 = some (.iastore, 1, 0, 0, 0, 0, 0) := rfl
set_option maxRecDepth 20000 in
theorem ja_M_feed_58 : jv_at jm_M_feed.2.2.2.2.2.2 58 = some (.aload_n 0, 1, 0, 0, 0, 0, 0) := rfl
set_option maxRecDepth 20000 in
theorem ja_M_feed_59 : jv_at jm_M_feed.2.2.2.2.2.2 59 = some (.dup, 1, 0, 0, 0, 0, 0) := rfl
set_option maxRecDepth 20000 in
theorem ja_M_feed_60 : jv_at jm_M_feed.2.2.2.2.2.2 60 = some (.getfield 233, 3, 12, 30, 1042, 0, 0) := rfl
set_option maxRecDepth 20000 in
theorem ja_M_feed_63 : jv_at jm_M_feed.2.2.2.2.2.2 63 = some (.iconst 1, 1, 0, 0, 0, 0, 1) := rfl
set_option maxRecDepth 20000 in
theorem ja_M_feed_64 : jv_at jm_M_feed.2.2.2.2.2.2 64 = some (.iadd, 1, 0, 0, 0, 0, 0) := rfl
set_option maxRecDepth 20000 in
theorem ja_M_feed_65 : jv_at jm_M_feed.2.2.2.2.2.2 65 = some (.putfield 233, 3, 12, 30, 1042, 0, 0) := rfl
set_option maxRecDepth 20000 in
theorem ja_M_feed_68 : jv_at jm_M_feed.2.2.2.2.2.2 68 = some (.iinc 4 1, 3, 0, 0, 0, 0, 0) := rfl
set_option maxRecDepth 20000 in
theorem ja_M_feed_71 : jv_at jm_M_feed.2.2.2.2.2.2 71 = some (.goto (-40), 3, 31, 0, 0, 0, 0) := rfl
set_option maxRecDepth 20000 in
theorem ja_M_feed_74 : jv_at jm_M_feed.2.2.2.2.2.2 74 = some (.aload_n 0, 1, 0, 0, 0, 0, 0) := rfl
set_option maxRecDepth 20000 in
theorem ja_M_feed_75 : jv_at jm_M_feed.2.2.2.2.2.2 75 = some (.getfield 233, 3, 12, 30, 1042, 0, 0) := rfl
set_option maxRecDepth 20000 in
theorem ja_M_feed_78 : jv_at jm_M_feed.2.2.2.2.2.2 78 = some (.ireturn, 1, 0, 0, 0, 0, 0) := rfl
set_option maxRecDepth 20000 in
theorem ja_M_text_0 : jv_at jm_M_text.2.2.2.2.2.2 0 = some (.aload_n 0, 1, 0, 0, 0, 0, 0) := rfl
set_option maxRecDepth 20000 in
theorem ja_M_text_1 : jv_at jm_M_text.2.2.2.2.2.2 1 = some (.getfield 112, 3, 12, 14, 1026, 0, 0) := rfl
set_option maxRecDepth 20000 in
theorem ja_M_text_4 : jv_at jm_M_text.2.2.2.2.2.2 4 = some (.bipush 8, 2, 0, 0, 0, 0, 8) := rfl
set_option maxRecDepth 20000 in
theorem ja_M_text_6 : jv_at jm_M_text.2.2.2.2.2.2 6 = some (.if_icmp .ne 6, 3, 12, 0, 0, 0, 0) := rfl
set_option maxRecDepth 20000 in
theorem ja_M_text_9 : jv_at jm_M_text.2.2.2.2.2.2 9 = some (.bipush (-4), 2, 0, 0, 0, 0, -4) := rfl
set_option maxRecDepth 20000 in
theorem ja_M_text_11 : jv_at jm_M_text.2.2.2.2.2.2 11 = some (.ireturn, 1, 0, 0, 0, 0, 0) := rfl
set_option maxRecDepth 20000 in
theorem ja_M_text_12 : jv_at jm_M_text.2.2.2.2.2.2 12 = some (.aload_n 0, 1, 0, 0, 0, 0, 0) := rfl
set_option maxRecDepth 20000 in
theorem ja_M_text_13 : jv_at jm_M_text.2.2.2.2.2.2 13 = some (.aload_n 0, 1, 0, 0, 0, 0, 0) := rfl
set_option maxRecDepth 20000 in
theorem ja_M_text_14 : jv_at jm_M_text.2.2.2.2.2.2 14 = some (.getfield 233, 3, 12, 30, 1042, 0, 0) := rfl
set_option maxRecDepth 20000 in
theorem ja_M_text_17 : jv_at jm_M_text.2.2.2.2.2.2 17 = some (.putfield 105, 3, 12, 38, 1050, 0, 0) := rfl
set_option maxRecDepth 20000 in
theorem ja_M_text_20 : jv_at jm_M_text.2.2.2.2.2.2 20 = some (.aload_n 0, 1, 0, 0, 0, 0, 0) := rfl
set_option maxRecDepth 20000 in
theorem ja_M_text_21 : jv_at jm_M_text.2.2.2.2.2.2 21 = some (.iconst 0, 1, 0, 0, 0, 0, 0) := rfl
set_option maxRecDepth 20000 in
theorem ja_M_text_22 : jv_at jm_M_text.2.2.2.2.2.2 22 = some (.putfield 233, 3, 12, 30, 1042, 0, 0) := rfl
set_option maxRecDepth 20000 in
theorem ja_M_text_25 : jv_at jm_M_text.2.2.2.2.2.2 25 = some (.aload_n 0, 1, 0, 0, 0, 0, 0) := rfl
set_option maxRecDepth 20000 in
theorem ja_M_text_26 : jv_at jm_M_text.2.2.2.2.2.2 26 = some (.aload_n 0, 1, 0, 0, 0, 0, 0) := rfl
set_option maxRecDepth 20000 in
theorem ja_M_text_27 : jv_at jm_M_text.2.2.2.2.2.2 27 = some (.getfield 112, 3, 12, 14, 1026, 0, 0) := rfl
set_option maxRecDepth 20000 in
theorem ja_M_text_30 : jv_at jm_M_text.2.2.2.2.2.2 30 = some (.invokevirtual 108, 3, 133, 0, 942, 12, 1) := rfl
set_option maxRecDepth 20000 in
theorem ja_M_text_33 : jv_at jm_M_text.2.2.2.2.2.2 33 = some (.aload_n 0, 1, 0, 0, 0, 0, 0) := rfl
set_option maxRecDepth 20000 in
theorem ja_M_text_34 : jv_at jm_M_text.2.2.2.2.2.2 34 = some (.invokevirtual 186, 3, 141, 0, 972, 12, 0) := rfl
set_option maxRecDepth 20000 in
theorem ja_M_text_37 : jv_at jm_M_text.2.2.2.2.2.2 37 = some (.ifCond .eq 11, 3, 48, 0, 0, 0, 0) := rfl
set_option maxRecDepth 20000 in
theorem ja_M_text_40 : jv_at jm_M_text.2.2.2.2.2.2 40 = some (.bipush (-100), 2, 0, 0, 0, 0, -100) := rfl
set_option maxRecDepth 20000 in
theorem ja_M_text_42 : jv_at jm_M_text.2.2.2.2.2.2 42 = some (.aload_n 0, 1, 0, 0, 0, 0, 0) := rfl
set_option maxRecDepth 20000 in
theorem ja_M_text_43 : jv_at jm_M_text.2.2.2.2.2.2 43 = some (.getfield 183, 3, 12, 44, 1056, 0, 0) := rfl
set_option maxRecDepth 20000 in
theorem ja_M_text_46 : jv_at jm_M_text.2.2.2.2.2.2 46 = some (.isub, 1, 0, 0, 0, 0, 0) := rfl
set_option maxRecDepth 20000 in
theorem ja_M_text_47 : jv_at jm_M_text.2.2.2.2.2.2 47 = some (.ireturn, 1, 0, 0, 0, 0, 0) := rfl
set_option maxRecDepth 20000 in
theorem ja_M_text_48 : jv_at jm_M_text.2.2.2.2.2.2 48 = some (.aload_n 0, 1, 0, 0, 0, 0, 0) := rfl
set_option maxRecDepth 20000 in
theorem ja_M_text_49 : jv_at jm_M_text.2.2.2.2.2.2 49 = some (.dup, 1, 0, 0, 0, 0, 0) := rfl
set_option maxRecDepth 20000 in
theorem ja_M_text_50 : jv_at jm_M_text.2.2.2.2.2.2 50 = some (.getfield 112, 3, 12, 14, 1026, 0, 0) := rfl
set_option maxRecDepth 20000 in
theorem ja_M_text_53 : jv_at jm_M_text.2.2.2.2.2.2 53 = some (.iconst 1, 1, 0, 0, 0, 0, 1) := rfl
set_option maxRecDepth 20000 in
theorem ja_M_text_54 : jv_at jm_M_text.2.2.2.2.2.2 54 = some (.iadd, 1, 0, 0, 0, 0, 0) := rfl
set_option maxRecDepth 20000 in
theorem ja_M_text_55 : jv_at jm_M_text.2.2.2.2.2.2 55 = some (.putfield 112, 3, 12, 14, 1026, 0, 0) := rfl
set_option maxRecDepth 20000 in
theorem ja_M_text_58 : jv_at jm_M_text.2.2.2.2.2.2 58 = some (.aload_n 0, 1, 0, 0, 0, 0, 0) := rfl
set_option maxRecDepth 20000 in
theorem ja_M_text_59 : jv_at jm_M_text.2.2.2.2.2.2 59 = some (.getfield 112, 3, 12, 14, 1026, 0, 0) := rfl
set_option maxRecDepth 20000 in
theorem ja_M_text_62 : jv_at jm_M_text.2.2.2.2.2.2 62 = some (.iconst 1, 1, 0, 0, 0, 0, 1) := rfl
set_option maxRecDepth 20000 in
theorem ja_M_text_63 : jv_at jm_M_text.2.2.2.2.2.2 63 = some (.isub, 1, 0, 0, 0, 0, 0) := rfl
set_option maxRecDepth 20000 in
theorem ja_M_text_64 : jv_at jm_M_text.2.2.2.2.2.2 64 = some (.ireturn, 1, 0, 0, 0, 0, 0) := rfl
set_option maxRecDepth 20000 in
theorem ja_M_says_0 : jv_at jm_M_says.2.2.2.2.2.2 0 = some (.iload_n 1, 1, 0, 0, 0, 0, 0) := rfl
set_option maxRecDepth 20000 in
theorem ja_M_says_1 : jv_at jm_M_says.2.2.2.2.2.2 1 = some (.iconst 0, 1, 0, 0, 0, 0, 0) := rfl
set_option maxRecDepth 20000 in
theorem ja_M_says_2 : jv_at jm_M_says.2.2.2.2.2.2 2 = some (.aload_n 0, 1, 0, 0, 0, 0, 0) := rfl
set_option maxRecDepth 20000 in
theorem ja_M_says_3 : jv_at jm_M_says.2.2.2.2.2.2 3 = some (.getfield 112, 3, 12, 14, 1026, 0, 0) := rfl
set_option maxRecDepth 20000 in
theorem ja_M_says_6 : jv_at jm_M_says.2.2.2.2.2.2 6 = some (.iconst 1, 1, 0, 0, 0, 0, 1) := rfl
set_option maxRecDepth 20000 in
theorem ja_M_says_7 : jv_at jm_M_says.2.2.2.2.2.2 7 = some (.isub, 1, 0, 0, 0, 0, 0) := rfl
set_option maxRecDepth 20000 in
theorem ja_M_says_8 : jv_at jm_M_says.2.2.2.2.2.2 8 = some (.invokestatic 118, 3, 152, 1, 1195, 12, 3) := rfl
set_option maxRecDepth 20000 in
theorem ja_M_says_11 : jv_at jm_M_says.2.2.2.2.2.2 11 = some (.ifCond .eq 58, 3, 69, 0, 0, 0, 0) := rfl
set_option maxRecDepth 20000 in
theorem ja_M_says_14 : jv_at jm_M_says.2.2.2.2.2.2 14 = some (.iload_n 2, 1, 0, 0, 0, 0, 0) := rfl
set_option maxRecDepth 20000 in
theorem ja_M_says_15 : jv_at jm_M_says.2.2.2.2.2.2 15 = some (.iconst 0, 1, 0, 0, 0, 0, 0) := rfl
set_option maxRecDepth 20000 in
theorem ja_M_says_16 : jv_at jm_M_says.2.2.2.2.2.2 16 = some (.iconst 3, 1, 0, 0, 0, 0, 3) := rfl
set_option maxRecDepth 20000 in
theorem ja_M_says_17 : jv_at jm_M_says.2.2.2.2.2.2 17 = some (.invokestatic 118, 3, 152, 1, 1195, 12, 3) := rfl
set_option maxRecDepth 20000 in
theorem ja_M_says_20 : jv_at jm_M_says.2.2.2.2.2.2 20 = some (.ifCond .eq 49, 3, 69, 0, 0, 0, 0) := rfl
set_option maxRecDepth 20000 in
theorem ja_M_says_23 : jv_at jm_M_says.2.2.2.2.2.2 23 = some (.iload_n 3, 1, 0, 0, 0, 0, 0) := rfl
set_option maxRecDepth 20000 in
theorem ja_M_says_24 : jv_at jm_M_says.2.2.2.2.2.2 24 = some (.iconst 0, 1, 0, 0, 0, 0, 0) := rfl
set_option maxRecDepth 20000 in
theorem ja_M_says_25 : jv_at jm_M_says.2.2.2.2.2.2 25 = some (.bipush 6, 2, 0, 0, 0, 0, 6) := rfl
set_option maxRecDepth 20000 in
theorem ja_M_says_27 : jv_at jm_M_says.2.2.2.2.2.2 27 = some (.invokestatic 118, 3, 152, 1, 1195, 12, 3) := rfl
set_option maxRecDepth 20000 in
theorem ja_M_says_30 : jv_at jm_M_says.2.2.2.2.2.2 30 = some (.ifCond .eq 39, 3, 69, 0, 0, 0, 0) := rfl
set_option maxRecDepth 20000 in
theorem ja_M_says_33 : jv_at jm_M_says.2.2.2.2.2.2 33 = some (.iload 4, 2, 0, 0, 0, 0, 0) := rfl
set_option maxRecDepth 20000 in
theorem ja_M_says_35 : jv_at jm_M_says.2.2.2.2.2.2 35 = some (.iconst 0, 1, 0, 0, 0, 0, 0) := rfl
set_option maxRecDepth 20000 in
theorem ja_M_says_36 : jv_at jm_M_says.2.2.2.2.2.2 36 = some (.iconst 3, 1, 0, 0, 0, 0, 3) := rfl
set_option maxRecDepth 20000 in
theorem ja_M_says_37 : jv_at jm_M_says.2.2.2.2.2.2 37 = some (.invokestatic 118, 3, 152, 1, 1195, 12, 3) := rfl
set_option maxRecDepth 20000 in
theorem ja_M_says_40 : jv_at jm_M_says.2.2.2.2.2.2 40 = some (.ifCond .eq 29, 3, 69, 0, 0, 0, 0) := rfl
set_option maxRecDepth 20000 in
theorem ja_M_says_43 : jv_at jm_M_says.2.2.2.2.2.2 43 = some (.iload 5, 2, 0, 0, 0, 0, 0) := rfl
set_option maxRecDepth 20000 in
theorem ja_M_says_45 : jv_at jm_M_says.2.2.2.2.2.2 45 = some (.iconst 0, 1, 0, 0, 0, 0, 0) := rfl
set_option maxRecDepth 20000 in
theorem ja_M_says_46 : jv_at jm_M_says.2.2.2.2.2.2 46 = some (.bipush 15, 2, 0, 0, 0, 0, 15) := rfl
set_option maxRecDepth 20000 in
theorem ja_M_says_48 : jv_at jm_M_says.2.2.2.2.2.2 48 = some (.invokestatic 118, 3, 152, 1, 1195, 12, 3) := rfl
set_option maxRecDepth 20000 in
theorem ja_M_says_51 : jv_at jm_M_says.2.2.2.2.2.2 51 = some (.ifCond .eq 18, 3, 69, 0, 0, 0, 0) := rfl
set_option maxRecDepth 20000 in
theorem ja_M_says_54 : jv_at jm_M_says.2.2.2.2.2.2 54 = some (.iload 6, 2, 0, 0, 0, 0, 0) := rfl
set_option maxRecDepth 20000 in
theorem ja_M_says_56 : jv_at jm_M_says.2.2.2.2.2.2 56 = some (.iconst 0, 1, 0, 0, 0, 0, 0) := rfl
set_option maxRecDepth 20000 in
theorem ja_M_says_57 : jv_at jm_M_says.2.2.2.2.2.2 57 = some (.bipush 15, 2, 0, 0, 0, 0, 15) := rfl
set_option maxRecDepth 20000 in
theorem ja_M_says_59 : jv_at jm_M_says.2.2.2.2.2.2 59 = some (.invokestatic 118, 3, 152, 1, 1195, 12, 3) := rfl
set_option maxRecDepth 20000 in
theorem ja_M_says_62 : jv_at jm_M_says.2.2.2.2.2.2 62 = some (.ifCond .eq 7, 3, 69, 0, 0, 0, 0) := rfl
set_option maxRecDepth 20000 in
theorem ja_M_says_65 : jv_at jm_M_says.2.2.2.2.2.2 65 = some (.iconst 1, 1, 0, 0, 0, 0, 1) := rfl
set_option maxRecDepth 20000 in
theorem ja_M_says_66 : jv_at jm_M_says.2.2.2.2.2.2 66 = some (.goto 4, 3, 70, 0, 0, 0, 0) := rfl
set_option maxRecDepth 20000 in
theorem ja_M_says_69 : jv_at jm_M_says.2.2.2.2.2.2 69 = some (.iconst 0, 1, 0, 0, 0, 0, 0) := rfl
set_option maxRecDepth 20000 in
theorem ja_M_says_70 : jv_at jm_M_says.2.2.2.2.2.2 70 = some (.istore 7, 2, 0, 0, 0, 0, 0) := rfl
set_option maxRecDepth 20000 in
theorem ja_M_says_72 : jv_at jm_M_says.2.2.2.2.2.2 72 = some (.iload 7, 2, 0, 0, 0, 0, 0) := rfl
set_option maxRecDepth 20000 in
theorem ja_M_says_74 : jv_at jm_M_says.2.2.2.2.2.2 74 = some (.ifCond .eq 24, 3, 98, 0, 0, 0, 0) := rfl
set_option maxRecDepth 20000 in
theorem ja_M_says_77 : jv_at jm_M_says.2.2.2.2.2.2 77 = some (.aload_n 0, 1, 0, 0, 0, 0, 0) := rfl
set_option maxRecDepth 20000 in
theorem ja_M_says_78 : jv_at jm_M_says.2.2.2.2.2.2 78 = some (.iload_n 1, 1, 0, 0, 0, 0, 0) := rfl
set_option maxRecDepth 20000 in
theorem ja_M_says_79 : jv_at jm_M_says.2.2.2.2.2.2 79 = some (.iload_n 2, 1, 0, 0, 0, 0, 0) := rfl
set_option maxRecDepth 20000 in
theorem ja_M_says_80 : jv_at jm_M_says.2.2.2.2.2.2 80 = some (.iload_n 3, 1, 0, 0, 0, 0, 0) := rfl
set_option maxRecDepth 20000 in
theorem ja_M_says_81 : jv_at jm_M_says.2.2.2.2.2.2 81 = some (.iload 4, 2, 0, 0, 0, 0, 0) := rfl
set_option maxRecDepth 20000 in
theorem ja_M_says_83 : jv_at jm_M_says.2.2.2.2.2.2 83 = some (.aload_n 0, 1, 0, 0, 0, 0, 0) := rfl
set_option maxRecDepth 20000 in
theorem ja_M_says_84 : jv_at jm_M_says.2.2.2.2.2.2 84 = some (.getfield 267, 3, 12, 18, 1030, 0, 0) := rfl
set_option maxRecDepth 20000 in
theorem ja_M_says_87 : jv_at jm_M_says.2.2.2.2.2.2 87 = some (.iload 5, 2, 0, 0, 0, 0, 0) := rfl
set_option maxRecDepth 20000 in
theorem ja_M_says_89 : jv_at jm_M_says.2.2.2.2.2.2 89 = some (.iload 6, 2, 0, 0, 0, 0, 0) := rfl
set_option maxRecDepth 20000 in
theorem ja_M_says_91 : jv_at jm_M_says.2.2.2.2.2.2 91 = some (.invokevirtual 270, 3, 178, 0, 1298, 12, 7) := rfl
set_option maxRecDepth 20000 in
theorem ja_M_says_94 : jv_at jm_M_says.2.2.2.2.2.2 94 = some (.i2l, 1, 0, 0, 0, 0, 0) := rfl
set_option maxRecDepth 20000 in
theorem ja_M_says_95 : jv_at jm_M_says.2.2.2.2.2.2 95 = some (.goto 6, 3, 101, 0, 0, 0, 0) := rfl
set_option maxRecDepth 20000 in
theorem ja_M_says_98 : jv_at jm_M_says.2.2.2.2.2.2 98 = some (.ldc2_w 145, 3, 0, 0, 1260, 0, -4611686018427387904) := rfl
set_option maxRecDepth 20000 in
theorem ja_M_says_101 : jv_at jm_M_says.2.2.2.2.2.2 101 = some (.lreturn, 1, 0, 0, 0, 0, 0) := rfl
set_option maxRecDepth 20000 in
theorem ja_M_worked_0 : jv_at jm_M_worked.2.2.2.2.2.2 0 = some (.aload_n 0, 1, 0, 0, 0, 0, 0) := rfl
set_option maxRecDepth 20000 in
theorem ja_M_worked_1 : jv_at jm_M_worked.2.2.2.2.2.2 1 = some (.iload_n 3, 1, 0, 0, 0, 0, 0) := rfl
set_option maxRecDepth 20000 in
theorem ja_M_worked_2 : jv_at jm_M_worked.2.2.2.2.2.2 2 = some (.putfield 238, 3, 12, 48, 1060, 0, 0) := rfl
set_option maxRecDepth 20000 in
theorem ja_M_worked_5 : jv_at jm_M_worked.2.2.2.2.2.2 5 = some (.aload_n 0, 1, 0, 0, 0, 0, 0) := rfl
set_option maxRecDepth 20000 in
theorem ja_M_worked_6 : jv_at jm_M_worked.2.2.2.2.2.2 6 = some (.iload 4, 2, 0, 0, 0, 0, 0) := rfl
set_option maxRecDepth 20000 in
theorem ja_M_worked_8 : jv_at jm_M_worked.2.2.2.2.2.2 8 = some (.putfield 247, 3, 12, 49, 1061, 0, 0) := rfl
set_option maxRecDepth 20000 in
theorem ja_M_worked_11 : jv_at jm_M_worked.2.2.2.2.2.2 11 = some (.aload_n 0, 1, 0, 0, 0, 0, 0) := rfl
set_option maxRecDepth 20000 in
theorem ja_M_worked_12 : jv_at jm_M_worked.2.2.2.2.2.2 12 = some (.iload 5, 2, 0, 0, 0, 0, 0) := rfl
set_option maxRecDepth 20000 in
theorem ja_M_worked_14 : jv_at jm_M_worked.2.2.2.2.2.2 14 = some (.putfield 241, 3, 12, 50, 1062, 0, 0) := rfl
set_option maxRecDepth 20000 in
theorem ja_M_worked_17 : jv_at jm_M_worked.2.2.2.2.2.2 17 = some (.aload_n 0, 1, 0, 0, 0, 0, 0) := rfl
set_option maxRecDepth 20000 in
theorem ja_M_worked_18 : jv_at jm_M_worked.2.2.2.2.2.2 18 = some (.iload 6, 2, 0, 0, 0, 0, 0) := rfl
set_option maxRecDepth 20000 in
theorem ja_M_worked_20 : jv_at jm_M_worked.2.2.2.2.2.2 20 = some (.putfield 254, 3, 12, 51, 1063, 0, 0) := rfl
set_option maxRecDepth 20000 in
theorem ja_M_worked_23 : jv_at jm_M_worked.2.2.2.2.2.2 23 = some (.aload_n 0, 1, 0, 0, 0, 0, 0) := rfl
set_option maxRecDepth 20000 in
theorem ja_M_worked_24 : jv_at jm_M_worked.2.2.2.2.2.2 24 = some (.iload 7, 2, 0, 0, 0, 0, 0) := rfl
set_option maxRecDepth 20000 in
theorem ja_M_worked_26 : jv_at jm_M_worked.2.2.2.2.2.2 26 = some (.putfield 257, 3, 12, 52, 1064, 0, 0) := rfl
set_option maxRecDepth 20000 in
theorem ja_M_worked_29 : jv_at jm_M_worked.2.2.2.2.2.2 29 = some (.iconst 0, 1, 0, 0, 0, 0, 0) := rfl
set_option maxRecDepth 20000 in
theorem ja_M_worked_30 : jv_at jm_M_worked.2.2.2.2.2.2 30 = some (.istore 8, 2, 0, 0, 0, 0, 0) := rfl
set_option maxRecDepth 20000 in
theorem ja_M_worked_32 : jv_at jm_M_worked.2.2.2.2.2.2 32 = some (.sipush 200, 3, 0, 0, 0, 0, 200) := rfl
set_option maxRecDepth 20000 in
theorem ja_M_worked_35 : jv_at jm_M_worked.2.2.2.2.2.2 35 = some (.iload_n 1, 1, 0, 0, 0, 0, 0) := rfl
set_option maxRecDepth 20000 in
theorem ja_M_worked_36 : jv_at jm_M_worked.2.2.2.2.2.2 36 = some (.imul, 1, 0, 0, 0, 0, 0) := rfl
set_option maxRecDepth 20000 in
theorem ja_M_worked_37 : jv_at jm_M_worked.2.2.2.2.2.2 37 = some (.aload_n 0, 1, 0, 0, 0, 0, 0) := rfl
set_option maxRecDepth 20000 in
theorem ja_M_worked_38 : jv_at jm_M_worked.2.2.2.2.2.2 38 = some (.getfield 72, 3, 12, 33, 1045, 0, 0) := rfl
set_option maxRecDepth 20000 in
theorem ja_M_worked_41 : jv_at jm_M_worked.2.2.2.2.2.2 41 = some (.iconst 5, 1, 0, 0, 0, 0, 5) := rfl
set_option maxRecDepth 20000 in
theorem ja_M_worked_42 : jv_at jm_M_worked.2.2.2.2.2.2 42 = some (.iload_n 1, 1, 0, 0, 0, 0, 0) := rfl
set_option maxRecDepth 20000 in
theorem ja_M_worked_43 : jv_at jm_M_worked.2.2.2.2.2.2 43 = some (.imul, 1, 0, 0, 0, 0, 0) := rfl
set_option maxRecDepth 20000 in
theorem ja_M_worked_44 : jv_at jm_M_worked.2.2.2.2.2.2 44 = some (.iload_n 2, 1, 0, 0, 0, 0, 0) := rfl
set_option maxRecDepth 20000 in
theorem ja_M_worked_45 : jv_at jm_M_worked.2.2.2.2.2.2 45 = some (.iadd, 1, 0, 0, 0, 0, 0) := rfl
set_option maxRecDepth 20000 in
theorem ja_M_worked_46 : jv_at jm_M_worked.2.2.2.2.2.2 46 = some (.iaload, 1, 0, 0, 0, 0, 0) := rfl
set_option maxRecDepth 20000 in
theorem ja_M_worked_47 : jv_at jm_M_worked.2.2.2.2.2.2 47 = some (.iadd, 1, 0, 0, 0, 0, 0) := rfl
set_option maxRecDepth 20000 in
theorem ja_M_worked_48 : jv_at jm_M_worked.2.2.2.2.2.2 48 = some (.istore 9, 2, 0, 0, 0, 0, 0) := rfl
set_option maxRecDepth 20000 in
theorem ja_M_worked_50 : jv_at jm_M_worked.2.2.2.2.2.2 50 = some (.iload 9, 2, 0, 0, 0, 0, 0) := rfl
set_option maxRecDepth 20000 in
theorem ja_M_worked_52 : jv_at jm_M_worked.2.2.2.2.2.2 52 = some (.sipush 200, 3, 0, 0, 0, 0, 200) := rfl
set_option maxRecDepth 20000 in
theorem ja_M_worked_55 : jv_at jm_M_worked.2.2.2.2.2.2 55 = some (.iload_n 1, 1, 0, 0, 0, 0, 0) := rfl
set_option maxRecDepth 20000 in
theorem ja_M_worked_56 : jv_at jm_M_worked.2.2.2.2.2.2 56 = some (.imul, 1, 0, 0, 0, 0, 0) := rfl
set_option maxRecDepth 20000 in
theorem ja_M_worked_57 : jv_at jm_M_worked.2.2.2.2.2.2 57 = some (.aload_n 0, 1, 0, 0, 0, 0, 0) := rfl
set_option maxRecDepth 20000 in
theorem ja_M_worked_58 : jv_at jm_M_worked.2.2.2.2.2.2 58 = some (.getfield 72, 3, 12, 33, 1045, 0, 0) := rfl
set_option maxRecDepth 20000 in
theorem ja_M_worked_61 : jv_at jm_M_worked.2.2.2.2.2.2 61 = some (.iconst 5, 1, 0, 0, 0, 0, 5) := rfl
set_option maxRecDepth 20000 in
theorem ja_M_worked_62 : jv_at jm_M_worked.2.2.2.2.2.2 62 = some (.iload_n 1, 1, 0, 0, 0, 0, 0) := rfl
set_option maxRecDepth 20000 in
theorem ja_M_worked_63 : jv_at jm_M_worked.2.2.2.2.2.2 63 = some (.imul, 1, 0, 0, 0, 0, 0) := rfl
set_option maxRecDepth 20000 in
theorem ja_M_worked_64 : jv_at jm_M_worked.2.2.2.2.2.2 64 = some (.iload_n 2, 1, 0, 0, 0, 0, 0) := rfl
set_option maxRecDepth 20000 in
theorem ja_M_worked_65 : jv_at jm_M_worked.2.2.2.2.2.2 65 = some (.iadd, 1, 0, 0, 0, 0, 0) := rfl
set_option maxRecDepth 20000 in
theorem ja_M_worked_66 : jv_at jm_M_worked.2.2.2.2.2.2 66 = some (.iconst 1, 1, 0, 0, 0, 0, 1) := rfl
set_option maxRecDepth 20000 in
theorem ja_M_worked_67 : jv_at jm_M_worked.2.2.2.2.2.2 67 = some (.iadd, 1, 0, 0, 0, 0, 0) := rfl
set_option maxRecDepth 20000 in
theorem ja_M_worked_68 : jv_at jm_M_worked.2.2.2.2.2.2 68 = some (.iaload, 1, 0, 0, 0, 0, 0) := rfl
set_option maxRecDepth 20000 in
theorem ja_M_worked_69 : jv_at jm_M_worked.2.2.2.2.2.2 69 = some (.iadd, 1, 0, 0, 0, 0, 0) := rfl
set_option maxRecDepth 20000 in
theorem ja_M_worked_70 : jv_at jm_M_worked.2.2.2.2.2.2 70 = some (.if_icmp .ge 165, 3, 235, 0, 0, 0, 0) := rfl
set_option maxRecDepth 20000 in
theorem ja_M_worked_73 : jv_at jm_M_worked.2.2.2.2.2.2 73 = some (.aload_n 0, 1, 0, 0, 0, 0, 0) := rfl
set_option maxRecDepth 20000 in
theorem ja_M_worked_74 : jv_at jm_M_worked.2.2.2.2.2.2 74 = some (.getfield 66, 3, 12, 31, 1043, 0, 0) := rfl
set_option maxRecDepth 20000 in
theorem ja_M_worked_77 : jv_at jm_M_worked.2.2.2.2.2.2 77 = some (.iload 9, 2, 0, 0, 0, 0, 0) := rfl
set_option maxRecDepth 20000 in
theorem ja_M_worked_79 : jv_at jm_M_worked.2.2.2.2.2.2 79 = some (.iaload, 1, 0, 0, 0, 0, 0) := rfl
set_option maxRecDepth 20000 in
theorem ja_M_worked_80 : jv_at jm_M_worked.2.2.2.2.2.2 80 = some (.istore 10, 2, 0, 0, 0, 0, 0) := rfl
set_option maxRecDepth 20000 in
theorem ja_M_worked_82 : jv_at jm_M_worked.2.2.2.2.2.2 82 = some (.iload 10, 2, 0, 0, 0, 0, 0) := rfl
set_option maxRecDepth 20000 in
theorem ja_M_worked_84 : jv_at jm_M_worked.2.2.2.2.2.2 84 = some (.ifCond .eq 9, 3, 93, 0, 0, 0, 0) := rfl
set_option maxRecDepth 20000 in
theorem ja_M_worked_87 : jv_at jm_M_worked.2.2.2.2.2.2 87 = some (.iload 10, 2, 0, 0, 0, 0, 0) := rfl
set_option maxRecDepth 20000 in
theorem ja_M_worked_89 : jv_at jm_M_worked.2.2.2.2.2.2 89 = some (.iconst 1, 1, 0, 0, 0, 0, 1) := rfl
set_option maxRecDepth 20000 in
theorem ja_M_worked_90 : jv_at jm_M_worked.2.2.2.2.2.2 90 = some (.if_icmp .ne 42, 3, 132, 0, 0, 0, 0) := rfl
set_option maxRecDepth 20000 in
theorem ja_M_worked_93 : jv_at jm_M_worked.2.2.2.2.2.2 93 = some (.aload_n 0, 1, 0, 0, 0, 0, 0) := rfl
set_option maxRecDepth 20000 in
theorem ja_M_worked_94 : jv_at jm_M_worked.2.2.2.2.2.2 94 = some (.getfield 87, 3, 12, 47, 1059, 0, 0) := rfl
set_option maxRecDepth 20000 in
theorem ja_M_worked_97 : jv_at jm_M_worked.2.2.2.2.2.2 97 = some (.iload 8, 2, 0, 0, 0, 0, 0) := rfl
set_option maxRecDepth 20000 in
theorem ja_M_worked_99 : jv_at jm_M_worked.2.2.2.2.2.2 99 = some (.iload 10, 2, 0, 0, 0, 0, 0) := rfl
set_option maxRecDepth 20000 in
theorem ja_M_worked_101 : jv_at jm_M_worked.2.2.2.2.2.2 101 = some (.ifCond .ne 13, 3, 114, 0, 0, 0, 0) := rfl
set_option maxRecDepth 20000 in
theorem ja_M_worked_104 : jv_at jm_M_worked.2.2.2.2.2.2 104 = some (.aload_n 0, 1, 0, 0, 0, 0, 0) := rfl
set_option maxRecDepth 20000 in
theorem ja_M_worked_105 : jv_at jm_M_worked.2.2.2.2.2.2 105 = some (.getfield 69, 3, 12, 32, 1044, 0, 0) := rfl
set_option maxRecDepth 20000 in
theorem ja_M_worked_108 : jv_at jm_M_worked.2.2.2.2.2.2 108 = some (.iload 9, 2, 0, 0, 0, 0, 0) := rfl
set_option maxRecDepth 20000 in
theorem ja_M_worked_110 : jv_at jm_M_worked.2.2.2.2.2.2 110 = some (.iaload, 1, 0, 0, 0, 0, 0) := rfl
set_option maxRecDepth 20000 in
theorem ja_M_worked_111 : jv_at jm_M_worked.2.2.2.2.2.2 111 = some (.goto 14, 3, 125, 0, 0, 0, 0) := rfl
set_option maxRecDepth 20000 in
theorem ja_M_worked_114 : jv_at jm_M_worked.2.2.2.2.2.2 114 = some (.aload_n 0, 1, 0, 0, 0, 0, 0) := rfl
set_option maxRecDepth 20000 in
theorem ja_M_worked_115 : jv_at jm_M_worked.2.2.2.2.2.2 115 = some (.aload_n 0, 1, 0, 0, 0, 0, 0) := rfl
set_option maxRecDepth 20000 in
theorem ja_M_worked_116 : jv_at jm_M_worked.2.2.2.2.2.2 116 = some (.getfield 69, 3, 12, 32, 1044, 0, 0) := rfl
set_option maxRecDepth 20000 in
theorem ja_M_worked_119 : jv_at jm_M_worked.2.2.2.2.2.2 119 = some (.iload 9, 2, 0, 0, 0, 0, 0) := rfl
set_option maxRecDepth 20000 in
theorem ja_M_worked_121 : jv_at jm_M_worked.2.2.2.2.2.2 121 = some (.iaload, 1, 0, 0, 0, 0, 0) := rfl
set_option maxRecDepth 20000 in
theorem ja_M_worked_122 : jv_at jm_M_worked.2.2.2.2.2.2 122 = some (.invokevirtual 260, 3, 179, 0, 1302, 12, 1) := rfl
set_option maxRecDepth 20000 in
theorem ja_M_worked_125 : jv_at jm_M_worked.2.2.2.2.2.2 125 = some (.iastore, 1, 0, 0, 0, 0, 0) := rfl
set_option maxRecDepth 20000 in
theorem ja_M_worked_126 : jv_at jm_M_worked.2.2.2.2.2.2 126 = some (.iinc 8 1, 3, 0, 0, 0, 0, 0) := rfl
set_option maxRecDepth 20000 in
theorem ja_M_worked_129 : jv_at jm_M_worked.2.2.2.2.2.2 129 = some (.goto 100, 3, 229, 0, 0, 0, 0) := rfl
set_option maxRecDepth 20000 in
theorem ja_M_worked_132 : jv_at jm_M_worked.2.2.2.2.2.2 132 = some (.iload 10, 2, 0, 0, 0, 0, 0) := rfl
set_option maxRecDepth 20000 in
theorem ja_M_worked_134 : jv_at jm_M_worked.2.2.2.2.2.2 134 = some (.iconst 4, 1, 0, 0, 0, 0, 4) := rfl
set_option maxRecDepth 20000 in
theorem ja_M_worked_135 : jv_at jm_M_worked.2.2.2.2.2.2 135 = some (.if_icmp .ne 32, 3, 167, 0, 0, 0, 0) := rfl
set_option maxRecDepth 20000 in
theorem ja_M_worked_138 : jv_at jm_M_worked.2.2.2.2.2.2 138 = some (.aload_n 0, 1, 0, 0, 0, 0, 0) := rfl
set_option maxRecDepth 20000 in
theorem ja_M_worked_139 : jv_at jm_M_worked.2.2.2.2.2.2 139 = some (.getfield 87, 3, 12, 47, 1059, 0, 0) := rfl
set_option maxRecDepth 20000 in
theorem ja_M_worked_142 : jv_at jm_M_worked.2.2.2.2.2.2 142 = some (.iload 8, 2, 0, 0, 0, 0, 0) := rfl
set_option maxRecDepth 20000 in
theorem ja_M_worked_144 : jv_at jm_M_worked.2.2.2.2.2.2 144 = some (.iconst 1, 1, 0, 0, 0, 0, 1) := rfl
set_option maxRecDepth 20000 in
theorem ja_M_worked_145 : jv_at jm_M_worked.2.2.2.2.2.2 145 = some (.isub, 1, 0, 0, 0, 0, 0) := rfl
set_option maxRecDepth 20000 in
theorem ja_M_worked_146 : jv_at jm_M_worked.2.2.2.2.2.2 146 = some (.aload_n 0, 1, 0, 0, 0, 0, 0) := rfl
set_option maxRecDepth 20000 in
theorem ja_M_worked_147 : jv_at jm_M_worked.2.2.2.2.2.2 147 = some (.getfield 87, 3, 12, 47, 1059, 0, 0) := rfl
set_option maxRecDepth 20000 in
theorem ja_M_worked_150 : jv_at jm_M_worked.2.2.2.2.2.2 150 = some (.iload 8, 2, 0, 0, 0, 0, 0) := rfl
set_option maxRecDepth 20000 in
theorem ja_M_worked_152 : jv_at jm_M_worked.2.2.2.2.2.2 152 = some (.iconst 1, 1, 0, 0, 0, 0, 1) := rfl
set_option maxRecDepth 20000 in
theorem ja_M_worked_153 : jv_at jm_M_worked.2.2.2.2.2.2 153 = some (.isub, 1, 0, 0, 0, 0, 0) := rfl
set_option maxRecDepth 20000 in
theorem ja_M_worked_154 : jv_at jm_M_worked.2.2.2.2.2.2 154 = some (.iaload, 1, 0, 0, 0, 0, 0) := rfl
set_option maxRecDepth 20000 in
theorem ja_M_worked_155 : jv_at jm_M_worked.2.2.2.2.2.2 155 = some (.ifCond .ne 7, 3, 162, 0, 0, 0, 0) := rfl
set_option maxRecDepth 20000 in
theorem ja_M_worked_158 : jv_at jm_M_worked.2.2.2.2.2.2 158 = some (.iconst 1, 1, 0, 0, 0, 0, 1) := rfl
set_option maxRecDepth 20000 in
theorem ja_M_worked_159 : jv_at jm_M_worked.2.2.2.2.2.2 159 = some (.goto 4, 3, 163, 0, 0, 0, 0) := rfl
set_option maxRecDepth 20000 in
theorem ja_M_worked_162 : jv_at jm_M_worked.2.2.2.2.2.2 162 = some (.iconst 0, 1, 0, 0, 0, 0, 0) := rfl
set_option maxRecDepth 20000 in
theorem ja_M_worked_163 : jv_at jm_M_worked.2.2.2.2.2.2 163 = some (.iastore, 1, 0, 0, 0, 0, 0) := rfl
set_option maxRecDepth 20000 in
theorem ja_M_worked_164 : jv_at jm_M_worked.2.2.2.2.2.2 164 = some (.goto 65, 3, 229, 0, 0, 0, 0) := rfl
set_option maxRecDepth 20000 in
theorem ja_M_worked_167 : jv_at jm_M_worked.2.2.2.2.2.2 167 = some (.iload 10, 2, 0, 0, 0, 0, 0) := rfl
set_option maxRecDepth 20000 in
theorem ja_M_worked_169 : jv_at jm_M_worked.2.2.2.2.2.2 169 = some (.bipush 10, 2, 0, 0, 0, 0, 10) := rfl
set_option maxRecDepth 20000 in
theorem ja_M_worked_171 : jv_at jm_M_worked.2.2.2.2.2.2 171 = some (.if_icmp .ne 25, 3, 196, 0, 0, 0, 0) := rfl
set_option maxRecDepth 20000 in
theorem ja_M_worked_174 : jv_at jm_M_worked.2.2.2.2.2.2 174 = some (.aload_n 0, 1, 0, 0, 0, 0, 0) := rfl
set_option maxRecDepth 20000 in
theorem ja_M_worked_175 : jv_at jm_M_worked.2.2.2.2.2.2 175 = some (.getfield 87, 3, 12, 47, 1059, 0, 0) := rfl
set_option maxRecDepth 20000 in
theorem ja_M_worked_178 : jv_at jm_M_worked.2.2.2.2.2.2 178 = some (.iload 8, 2, 0, 0, 0, 0, 0) := rfl
set_option maxRecDepth 20000 in
theorem ja_M_worked_180 : jv_at jm_M_worked.2.2.2.2.2.2 180 = some (.iconst 1, 1, 0, 0, 0, 0, 1) := rfl
set_option maxRecDepth 20000 in
theorem ja_M_worked_181 : jv_at jm_M_worked.2.2.2.2.2.2 181 = some (.isub, 1, 0, 0, 0, 0, 0) := rfl
set_option maxRecDepth 20000 in
theorem ja_M_worked_182 : jv_at jm_M_worked.2.2.2.2.2.2 182 = some (.aload_n 0, 1, 0, 0, 0, 0, 0) := rfl
set_option maxRecDepth 20000 in
theorem ja_M_worked_183 : jv_at jm_M_worked.2.2.2.2.2.2 183 = some (.getfield 87, 3, 12, 47, 1059, 0, 0) := rfl
set_option maxRecDepth 20000 in
theorem ja_M_worked_186 : jv_at jm_M_worked.2.2.2.2.2.2 186 = some (.iload 8, 2, 0, 0, 0, 0, 0) := rfl
set_option maxRecDepth 20000 in
theorem ja_M_worked_188 : jv_at jm_M_worked.2.2.2.2.2.2 188 = some (.iconst 1, 1, 0, 0, 0, 0, 1) := rfl
set_option maxRecDepth 20000 in
theorem ja_M_worked_189 : jv_at jm_M_worked.2.2.2.2.2.2 189 = some (.isub, 1, 0, 0, 0, 0, 0) := rfl
set_option maxRecDepth 20000 in
theorem ja_M_worked_190 : jv_at jm_M_worked.2.2.2.2.2.2 190 = some (.iaload, 1, 0, 0, 0, 0, 0) := rfl
set_option maxRecDepth 20000 in
theorem ja_M_worked_191 : jv_at jm_M_worked.2.2.2.2.2.2 191 = some (.ineg, 1, 0, 0, 0, 0, 0) := rfl
set_option maxRecDepth 20000 in
theorem ja_M_worked_192 : jv_at jm_M_worked.2.2.2.2.2.2 192 = some (.iastore, 1, 0, 0, 0, 0, 0) := rfl
set_option maxRecDepth 20000 in
theorem ja_M_worked_193 : jv_at jm_M_worked.2.2.2.2.2.2 193 = some (.goto 36, 3, 229, 0, 0, 0, 0) := rfl
set_option maxRecDepth 20000 in
theorem ja_M_worked_196 : jv_at jm_M_worked.2.2.2.2.2.2 196 = some (.iinc 8 (-1), 3, 0, 0, 0, 0, 0) := rfl
set_option maxRecDepth 20000 in
theorem ja_M_worked_199 : jv_at jm_M_worked.2.2.2.2.2.2 199 = some (.aload_n 0, 1, 0, 0, 0, 0, 0) := rfl
set_option maxRecDepth 20000 in
theorem ja_M_worked_200 : jv_at jm_M_worked.2.2.2.2.2.2 200 = some (.getfield 87, 3, 12, 47, 1059, 0, 0) := rfl
set_option maxRecDepth 20000 in
theorem ja_M_worked_203 : jv_at jm_M_worked.2.2.2.2.2.2 203 = some (.iload 8, 2, 0, 0, 0, 0, 0) := rfl
set_option maxRecDepth 20000 in
theorem ja_M_worked_205 : jv_at jm_M_worked.2.2.2.2.2.2 205 = some (.iconst 1, 1, 0, 0, 0, 0, 1) := rfl
set_option maxRecDepth 20000 in
theorem ja_M_worked_206 : jv_at jm_M_worked.2.2.2.2.2.2 206 = some (.isub, 1, 0, 0, 0, 0, 0) := rfl
set_option maxRecDepth 20000 in
theorem ja_M_worked_207 : jv_at jm_M_worked.2.2.2.2.2.2 207 = some (.iload 10, 2, 0, 0, 0, 0, 0) := rfl
set_option maxRecDepth 20000 in
theorem ja_M_worked_209 : jv_at jm_M_worked.2.2.2.2.2.2 209 = some (.aload_n 0, 1, 0, 0, 0, 0, 0) := rfl
set_option maxRecDepth 20000 in
theorem ja_M_worked_210 : jv_at jm_M_worked.2.2.2.2.2.2 210 = some (.getfield 87, 3, 12, 47, 1059, 0, 0) := rfl
set_option maxRecDepth 20000 in
theorem ja_M_worked_213 : jv_at jm_M_worked.2.2.2.2.2.2 213 = some (.iload 8, 2, 0, 0, 0, 0, 0) := rfl
set_option maxRecDepth 20000 in
theorem ja_M_worked_215 : jv_at jm_M_worked.2.2.2.2.2.2 215 = some (.iconst 1, 1, 0, 0, 0, 0, 1) := rfl
set_option maxRecDepth 20000 in
theorem ja_M_worked_216 : jv_at jm_M_worked.2.2.2.2.2.2 216 = some (.isub, 1, 0, 0, 0, 0, 0) := rfl
set_option maxRecDepth 20000 in
theorem ja_M_worked_217 : jv_at jm_M_worked.2.2.2.2.2.2 217 = some (.iaload, 1, 0, 0, 0, 0, 0) := rfl
set_option maxRecDepth 20000 in
theorem ja_M_worked_218 : jv_at jm_M_worked.2.2.2.2.2.2 218 = some (.aload_n 0, 1, 0, 0, 0, 0, 0) := rfl
set_option maxRecDepth 20000 in
theorem ja_M_worked_219 : jv_at jm_M_worked.2.2.2.2.2.2 219 = some (.getfield 87, 3, 12, 47, 1059, 0, 0) := rfl
set_option maxRecDepth 20000 in
theorem ja_M_worked_222 : jv_at jm_M_worked.2.2.2.2.2.2 222 = some (.iload 8, 2, 0, 0, 0, 0, 0) := rfl
set_option maxRecDepth 20000 in
theorem ja_M_worked_224 : jv_at jm_M_worked.2.2.2.2.2.2 224 = some (.iaload, 1, 0, 0, 0, 0, 0) := rfl
set_option maxRecDepth 20000 in
theorem ja_M_worked_225 : jv_at jm_M_worked.2.2.2.2.2.2 225 = some (.invokestatic 263, 3, 181, 1, 1310, 12, 3) := rfl
set_option maxRecDepth 20000 in
theorem ja_M_worked_228 : jv_at jm_M_worked.2.2.2.2.2.2 228 = some (.iastore, 1, 0, 0, 0, 0, 0) := rfl
set_option maxRecDepth 20000 in
theorem ja_M_worked_229 : jv_at jm_M_worked.2.2.2.2.2.2 229 = some (.iinc 9 1, 3, 0, 0, 0, 0, 0) := rfl
set_option maxRecDepth 20000 in
theorem ja_M_worked_232 : jv_at jm_M_worked.2.2.2.2.2.2 232 = some (.goto (-182), 3, 50, 0, 0, 0, 0) := rfl
set_option maxRecDepth 20000 in
theorem ja_M_worked_235 : jv_at jm_M_worked.2.2.2.2.2.2 235 = some (.aload_n 0, 1, 0, 0, 0, 0, 0) := rfl
set_option maxRecDepth 20000 in
theorem ja_M_worked_236 : jv_at jm_M_worked.2.2.2.2.2.2 236 = some (.getfield 87, 3, 12, 47, 1059, 0, 0) := rfl
set_option maxRecDepth 20000 in
theorem ja_M_worked_239 : jv_at jm_M_worked.2.2.2.2.2.2 239 = some (.iconst 0, 1, 0, 0, 0, 0, 0) := rfl
set_option maxRecDepth 20000 in
theorem ja_M_worked_240 : jv_at jm_M_worked.2.2.2.2.2.2 240 = some (.iaload, 1, 0, 0, 0, 0, 0) := rfl
set_option maxRecDepth 20000 in
theorem ja_M_worked_241 : jv_at jm_M_worked.2.2.2.2.2.2 241 = some (.ireturn, 1, 0, 0, 0, 0, 0) := rfl
set_option maxRecDepth 20000 in
theorem ja_M_named_0 : jv_at jm_M_named.2.2.2.2.2.2 0 = some (.iload_n 1, 1, 0, 0, 0, 0, 0) := rfl
set_option maxRecDepth 20000 in
theorem ja_M_named_1 : jv_at jm_M_named.2.2.2.2.2.2 1 = some (.tableswitch 78 0 6 #[43, 48, 53, 58, 63, 68, 73], 43, 0, 0, 0, 0, 0) := rfl
set_option maxRecDepth 20000 in
theorem ja_M_named_44 : jv_at jm_M_named.2.2.2.2.2.2 44 = some (.aload_n 0, 1, 0, 0, 0, 0, 0) := rfl
set_option maxRecDepth 20000 in
theorem ja_M_named_45 : jv_at jm_M_named.2.2.2.2.2.2 45 = some (.getfield 238, 3, 12, 48, 1060, 0, 0) := rfl
set_option maxRecDepth 20000 in
theorem ja_M_named_48 : jv_at jm_M_named.2.2.2.2.2.2 48 = some (.ireturn, 1, 0, 0, 0, 0, 0) := rfl
set_option maxRecDepth 20000 in
theorem ja_M_named_49 : jv_at jm_M_named.2.2.2.2.2.2 49 = some (.aload_n 0, 1, 0, 0, 0, 0, 0) := rfl
set_option maxRecDepth 20000 in
theorem ja_M_named_50 : jv_at jm_M_named.2.2.2.2.2.2 50 = some (.getfield 241, 3, 12, 50, 1062, 0, 0) := rfl
set_option maxRecDepth 20000 in
theorem ja_M_named_53 : jv_at jm_M_named.2.2.2.2.2.2 53 = some (.ireturn, 1, 0, 0, 0, 0, 0) := rfl
set_option maxRecDepth 20000 in
theorem ja_M_named_54 : jv_at jm_M_named.2.2.2.2.2.2 54 = some (.aload_n 0, 1, 0, 0, 0, 0, 0) := rfl
set_option maxRecDepth 20000 in
theorem ja_M_named_55 : jv_at jm_M_named.2.2.2.2.2.2 55 = some (.getfield 244, 3, 12, 17, 1029, 0, 0) := rfl
set_option maxRecDepth 20000 in
theorem ja_M_named_58 : jv_at jm_M_named.2.2.2.2.2.2 58 = some (.ireturn, 1, 0, 0, 0, 0, 0) := rfl
set_option maxRecDepth 20000 in
theorem ja_M_named_59 : jv_at jm_M_named.2.2.2.2.2.2 59 = some (.aload_n 0, 1, 0, 0, 0, 0, 0) := rfl
set_option maxRecDepth 20000 in
theorem ja_M_named_60 : jv_at jm_M_named.2.2.2.2.2.2 60 = some (.getfield 247, 3, 12, 49, 1061, 0, 0) := rfl
set_option maxRecDepth 20000 in
theorem ja_M_named_63 : jv_at jm_M_named.2.2.2.2.2.2 63 = some (.ireturn, 1, 0, 0, 0, 0, 0) := rfl
set_option maxRecDepth 20000 in
theorem ja_M_named_64 : jv_at jm_M_named.2.2.2.2.2.2 64 = some (.aload_n 0, 1, 0, 0, 0, 0, 0) := rfl
set_option maxRecDepth 20000 in
theorem ja_M_named_65 : jv_at jm_M_named.2.2.2.2.2.2 65 = some (.invokevirtual 250, 3, 180, 0, 1306, 12, 0) := rfl
set_option maxRecDepth 20000 in
theorem ja_M_named_68 : jv_at jm_M_named.2.2.2.2.2.2 68 = some (.ireturn, 1, 0, 0, 0, 0, 0) := rfl
set_option maxRecDepth 20000 in
theorem ja_M_named_69 : jv_at jm_M_named.2.2.2.2.2.2 69 = some (.aload_n 0, 1, 0, 0, 0, 0, 0) := rfl
set_option maxRecDepth 20000 in
theorem ja_M_named_70 : jv_at jm_M_named.2.2.2.2.2.2 70 = some (.getfield 115, 3, 12, 0, 1012, 0, 0) := rfl
set_option maxRecDepth 20000 in
theorem ja_M_named_73 : jv_at jm_M_named.2.2.2.2.2.2 73 = some (.ireturn, 1, 0, 0, 0, 0, 0) := rfl
set_option maxRecDepth 20000 in
theorem ja_M_named_74 : jv_at jm_M_named.2.2.2.2.2.2 74 = some (.aload_n 0, 1, 0, 0, 0, 0, 0) := rfl
set_option maxRecDepth 20000 in
theorem ja_M_named_75 : jv_at jm_M_named.2.2.2.2.2.2 75 = some (.getfield 254, 3, 12, 51, 1063, 0, 0) := rfl
set_option maxRecDepth 20000 in
theorem ja_M_named_78 : jv_at jm_M_named.2.2.2.2.2.2 78 = some (.ireturn, 1, 0, 0, 0, 0, 0) := rfl
set_option maxRecDepth 20000 in
theorem ja_M_named_79 : jv_at jm_M_named.2.2.2.2.2.2 79 = some (.aload_n 0, 1, 0, 0, 0, 0, 0) := rfl
set_option maxRecDepth 20000 in
theorem ja_M_named_80 : jv_at jm_M_named.2.2.2.2.2.2 80 = some (.getfield 257, 3, 12, 52, 1064, 0, 0) := rfl
set_option maxRecDepth 20000 in
theorem ja_M_named_83 : jv_at jm_M_named.2.2.2.2.2.2 83 = some (.ireturn, 1, 0, 0, 0, 0, 0) := rfl
set_option maxRecDepth 20000 in
theorem ja_M_there_0 : jv_at jm_M_there.2.2.2.2.2.2 0 = some (.iconst 0, 1, 0, 0, 0, 0, 0) := rfl
set_option maxRecDepth 20000 in
theorem ja_M_there_1 : jv_at jm_M_there.2.2.2.2.2.2 1 = some (.istore_n 1, 1, 0, 0, 0, 0, 0) := rfl
set_option maxRecDepth 20000 in
theorem ja_M_there_2 : jv_at jm_M_there.2.2.2.2.2.2 2 = some (.iconst 0, 1, 0, 0, 0, 0, 0) := rfl
set_option maxRecDepth 20000 in
theorem ja_M_there_3 : jv_at jm_M_there.2.2.2.2.2.2 3 = some (.istore_n 2, 1, 0, 0, 0, 0, 0) := rfl
set_option maxRecDepth 20000 in
theorem ja_M_there_4 : jv_at jm_M_there.2.2.2.2.2.2 4 = some (.iload_n 2, 1, 0, 0, 0, 0, 0) := rfl
set_option maxRecDepth 20000 in
theorem ja_M_there_5 : jv_at jm_M_there.2.2.2.2.2.2 5 = some (.aload_n 0, 1, 0, 0, 0, 0, 0) := rfl
set_option maxRecDepth 20000 in
theorem ja_M_there_6 : jv_at jm_M_there.2.2.2.2.2.2 6 = some (.getfield 115, 3, 12, 0, 1012, 0, 0) := rfl
set_option maxRecDepth 20000 in
theorem ja_M_there_9 : jv_at jm_M_there.2.2.2.2.2.2 9 = some (.if_icmp .ge 26, 3, 35, 0, 0, 0, 0) := rfl
set_option maxRecDepth 20000 in
theorem ja_M_there_12 : jv_at jm_M_there.2.2.2.2.2.2 12 = some (.iload_n 1, 1, 0, 0, 0, 0, 0) := rfl
set_option maxRecDepth 20000 in
theorem ja_M_there_13 : jv_at jm_M_there.2.2.2.2.2.2 13 = some (.aload_n 0, 1, 0, 0, 0, 0, 0) := rfl
set_option maxRecDepth 20000 in
theorem ja_M_there_14 : jv_at jm_M_there.2.2.2.2.2.2 14 = some (.getfield 22, 3, 12, 5, 1017, 0, 0) := rfl
set_option maxRecDepth 20000 in
theorem ja_M_there_17 : jv_at jm_M_there.2.2.2.2.2.2 17 = some (.iload_n 2, 1, 0, 0, 0, 0, 0) := rfl
set_option maxRecDepth 20000 in
theorem ja_M_there_18 : jv_at jm_M_there.2.2.2.2.2.2 18 = some (.baload, 1, 0, 0, 0, 0, 0) := rfl
set_option maxRecDepth 20000 in
theorem ja_M_there_19 : jv_at jm_M_there.2.2.2.2.2.2 19 = some (.ifCond .eq 7, 3, 26, 0, 0, 0, 0) := rfl
set_option maxRecDepth 20000 in
theorem ja_M_there_22 : jv_at jm_M_there.2.2.2.2.2.2 22 = some (.iconst 1, 1, 0, 0, 0, 0, 1) := rfl
set_option maxRecDepth 20000 in
theorem ja_M_there_23 : jv_at jm_M_there.2.2.2.2.2.2 23 = some (.goto 4, 3, 27, 0, 0, 0, 0) := rfl
set_option maxRecDepth 20000 in
theorem ja_M_there_26 : jv_at jm_M_there.2.2.2.2.2.2 26 = some (.iconst 0, 1, 0, 0, 0, 0, 0) := rfl
set_option maxRecDepth 20000 in
theorem ja_M_there_27 : jv_at jm_M_there.2.2.2.2.2.2 27 = some (.iadd, 1, 0, 0, 0, 0, 0) := rfl
set_option maxRecDepth 20000 in
theorem ja_M_there_28 : jv_at jm_M_there.2.2.2.2.2.2 28 = some (.istore_n 1, 1, 0, 0, 0, 0, 0) := rfl
set_option maxRecDepth 20000 in
theorem ja_M_there_29 : jv_at jm_M_there.2.2.2.2.2.2 29 = some (.iinc 2 1, 3, 0, 0, 0, 0, 0) := rfl
set_option maxRecDepth 20000 in
theorem ja_M_there_32 : jv_at jm_M_there.2.2.2.2.2.2 32 = some (.goto (-28), 3, 4, 0, 0, 0, 0) := rfl
set_option maxRecDepth 20000 in
theorem ja_M_there_35 : jv_at jm_M_there.2.2.2.2.2.2 35 = some (.iload_n 1, 1, 0, 0, 0, 0, 0) := rfl
set_option maxRecDepth 20000 in
theorem ja_M_there_36 : jv_at jm_M_there.2.2.2.2.2.2 36 = some (.ireturn, 1, 0, 0, 0, 0, 0) := rfl
set_option maxRecDepth 20000 in
theorem ja_M_two_0 : jv_at jm_M_two.2.2.2.2.2.2 0 = some (.iload_n 0, 1, 0, 0, 0, 0, 0) := rfl
set_option maxRecDepth 20000 in
theorem ja_M_two_1 : jv_at jm_M_two.2.2.2.2.2.2 1 = some (.tableswitch 101 2 8 #[43, 57, 101, 71, 82, 93, 97], 43, 0, 0, 0, 0, 0) := rfl
set_option maxRecDepth 20000 in
theorem ja_M_two_44 : jv_at jm_M_two.2.2.2.2.2.2 44 = some (.iload_n 1, 1, 0, 0, 0, 0, 0) := rfl
set_option maxRecDepth 20000 in
theorem ja_M_two_45 : jv_at jm_M_two.2.2.2.2.2.2 45 = some (.ifCond .ne 7, 3, 52, 0, 0, 0, 0) := rfl
set_option maxRecDepth 20000 in
theorem ja_M_two_48 : jv_at jm_M_two.2.2.2.2.2.2 48 = some (.iload_n 2, 1, 0, 0, 0, 0, 0) := rfl
set_option maxRecDepth 20000 in
theorem ja_M_two_49 : jv_at jm_M_two.2.2.2.2.2.2 49 = some (.ifCond .eq 7, 3, 56, 0, 0, 0, 0) := rfl
set_option maxRecDepth 20000 in
theorem ja_M_two_52 : jv_at jm_M_two.2.2.2.2.2.2 52 = some (.iconst 1, 1, 0, 0, 0, 0, 1) := rfl
set_option maxRecDepth 20000 in
theorem ja_M_two_53 : jv_at jm_M_two.2.2.2.2.2.2 53 = some (.goto 4, 3, 57, 0, 0, 0, 0) := rfl
set_option maxRecDepth 20000 in
theorem ja_M_two_56 : jv_at jm_M_two.2.2.2.2.2.2 56 = some (.iconst 0, 1, 0, 0, 0, 0, 0) := rfl
set_option maxRecDepth 20000 in
theorem ja_M_two_57 : jv_at jm_M_two.2.2.2.2.2.2 57 = some (.ireturn, 1, 0, 0, 0, 0, 0) := rfl
set_option maxRecDepth 20000 in
theorem ja_M_two_58 : jv_at jm_M_two.2.2.2.2.2.2 58 = some (.iload_n 1, 1, 0, 0, 0, 0, 0) := rfl
set_option maxRecDepth 20000 in
theorem ja_M_two_59 : jv_at jm_M_two.2.2.2.2.2.2 59 = some (.ifCond .eq 11, 3, 70, 0, 0, 0, 0) := rfl
set_option maxRecDepth 20000 in
theorem ja_M_two_62 : jv_at jm_M_two.2.2.2.2.2.2 62 = some (.iload_n 2, 1, 0, 0, 0, 0, 0) := rfl
set_option maxRecDepth 20000 in
theorem ja_M_two_63 : jv_at jm_M_two.2.2.2.2.2.2 63 = some (.ifCond .eq 7, 3, 70, 0, 0, 0, 0) := rfl
set_option maxRecDepth 20000 in
theorem ja_M_two_66 : jv_at jm_M_two.2.2.2.2.2.2 66 = some (.iconst 1, 1, 0, 0, 0, 0, 1) := rfl
set_option maxRecDepth 20000 in
theorem ja_M_two_67 : jv_at jm_M_two.2.2.2.2.2.2 67 = some (.goto 4, 3, 71, 0, 0, 0, 0) := rfl
set_option maxRecDepth 20000 in
theorem ja_M_two_70 : jv_at jm_M_two.2.2.2.2.2.2 70 = some (.iconst 0, 1, 0, 0, 0, 0, 0) := rfl
set_option maxRecDepth 20000 in
theorem ja_M_two_71 : jv_at jm_M_two.2.2.2.2.2.2 71 = some (.ireturn, 1, 0, 0, 0, 0, 0) := rfl
set_option maxRecDepth 20000 in
theorem ja_M_two_72 : jv_at jm_M_two.2.2.2.2.2.2 72 = some (.iload_n 1, 1, 0, 0, 0, 0, 0) := rfl
set_option maxRecDepth 20000 in
theorem ja_M_two_73 : jv_at jm_M_two.2.2.2.2.2.2 73 = some (.iload_n 2, 1, 0, 0, 0, 0, 0) := rfl
set_option maxRecDepth 20000 in
theorem ja_M_two_74 : jv_at jm_M_two.2.2.2.2.2.2 74 = some (.if_icmp .ge 7, 3, 81, 0, 0, 0, 0) := rfl
set_option maxRecDepth 20000 in
theorem ja_M_two_77 : jv_at jm_M_two.2.2.2.2.2.2 77 = some (.iconst 1, 1, 0, 0, 0, 0, 1) := rfl
set_option maxRecDepth 20000 in
theorem ja_M_two_78 : jv_at jm_M_two.2.2.2.2.2.2 78 = some (.goto 4, 3, 82, 0, 0, 0, 0) := rfl
set_option maxRecDepth 20000 in
theorem ja_M_two_81 : jv_at jm_M_two.2.2.2.2.2.2 81 = some (.iconst 0, 1, 0, 0, 0, 0, 0) := rfl
set_option maxRecDepth 20000 in
theorem ja_M_two_82 : jv_at jm_M_two.2.2.2.2.2.2 82 = some (.ireturn, 1, 0, 0, 0, 0, 0) := rfl
set_option maxRecDepth 20000 in
theorem ja_M_two_83 : jv_at jm_M_two.2.2.2.2.2.2 83 = some (.iload_n 1, 1, 0, 0, 0, 0, 0) := rfl
set_option maxRecDepth 20000 in
theorem ja_M_two_84 : jv_at jm_M_two.2.2.2.2.2.2 84 = some (.iload_n 2, 1, 0, 0, 0, 0, 0) := rfl
set_option maxRecDepth 20000 in
theorem ja_M_two_85 : jv_at jm_M_two.2.2.2.2.2.2 85 = some (.if_icmp .ne 7, 3, 92, 0, 0, 0, 0) := rfl
set_option maxRecDepth 20000 in
theorem ja_M_two_88 : jv_at jm_M_two.2.2.2.2.2.2 88 = some (.iconst 1, 1, 0, 0, 0, 0, 1) := rfl
set_option maxRecDepth 20000 in
theorem ja_M_two_89 : jv_at jm_M_two.2.2.2.2.2.2 89 = some (.goto 4, 3, 93, 0, 0, 0, 0) := rfl
set_option maxRecDepth 20000 in
theorem ja_M_two_92 : jv_at jm_M_two.2.2.2.2.2.2 92 = some (.iconst 0, 1, 0, 0, 0, 0, 0) := rfl
set_option maxRecDepth 20000 in
theorem ja_M_two_93 : jv_at jm_M_two.2.2.2.2.2.2 93 = some (.ireturn, 1, 0, 0, 0, 0, 0) := rfl
set_option maxRecDepth 20000 in
theorem ja_M_two_94 : jv_at jm_M_two.2.2.2.2.2.2 94 = some (.iload_n 1, 1, 0, 0, 0, 0, 0) := rfl
set_option maxRecDepth 20000 in
theorem ja_M_two_95 : jv_at jm_M_two.2.2.2.2.2.2 95 = some (.iload_n 2, 1, 0, 0, 0, 0, 0) := rfl
set_option maxRecDepth 20000 in
theorem ja_M_two_96 : jv_at jm_M_two.2.2.2.2.2.2 96 = some (.iadd, 1, 0, 0, 0, 0, 0) := rfl
set_option maxRecDepth 20000 in
theorem ja_M_two_97 : jv_at jm_M_two.2.2.2.2.2.2 97 = some (.ireturn, 1, 0, 0, 0, 0, 0) := rfl
set_option maxRecDepth 20000 in
theorem ja_M_two_98 : jv_at jm_M_two.2.2.2.2.2.2 98 = some (.iload_n 1, 1, 0, 0, 0, 0, 0) := rfl
set_option maxRecDepth 20000 in
theorem ja_M_two_99 : jv_at jm_M_two.2.2.2.2.2.2 99 = some (.iload_n 2, 1, 0, 0, 0, 0, 0) := rfl
set_option maxRecDepth 20000 in
theorem ja_M_two_100 : jv_at jm_M_two.2.2.2.2.2.2 100 = some (.isub, 1, 0, 0, 0, 0, 0) := rfl
set_option maxRecDepth 20000 in
theorem ja_M_two_101 : jv_at jm_M_two.2.2.2.2.2.2 101 = some (.ireturn, 1, 0, 0, 0, 0, 0) := rfl
set_option maxRecDepth 20000 in
theorem ja_M_two_102 : jv_at jm_M_two.2.2.2.2.2.2 102 = some (.iload_n 1, 1, 0, 0, 0, 0, 0) := rfl
set_option maxRecDepth 20000 in
theorem ja_M_two_103 : jv_at jm_M_two.2.2.2.2.2.2 103 = some (.iload_n 2, 1, 0, 0, 0, 0, 0) := rfl
set_option maxRecDepth 20000 in
theorem ja_M_two_104 : jv_at jm_M_two.2.2.2.2.2.2 104 = some (.imul, 1, 0, 0, 0, 0, 0) := rfl
set_option maxRecDepth 20000 in
theorem ja_M_two_105 : jv_at jm_M_two.2.2.2.2.2.2 105 = some (.ireturn, 1, 0, 0, 0, 0, 0) := rfl
set_option maxRecDepth 20000 in
theorem ja_M_why_0 : jv_at jm_M_why.2.2.2.2.2.2 0 = some (.aload_n 0, 1, 0, 0, 0, 0, 0) := rfl
set_option maxRecDepth 20000 in
theorem ja_M_why_1 : jv_at jm_M_why.2.2.2.2.2.2 1 = some (.iload_n 1, 1, 0, 0, 0, 0, 0) := rfl
set_option maxRecDepth 20000 in
theorem ja_M_why_2 : jv_at jm_M_why.2.2.2.2.2.2 2 = some (.iload_n 2, 1, 0, 0, 0, 0, 0) := rfl
set_option maxRecDepth 20000 in
theorem ja_M_why_3 : jv_at jm_M_why.2.2.2.2.2.2 3 = some (.iload_n 3, 1, 0, 0, 0, 0, 0) := rfl
set_option maxRecDepth 20000 in
theorem ja_M_why_4 : jv_at jm_M_why.2.2.2.2.2.2 4 = some (.iload 4, 2, 0, 0, 0, 0, 0) := rfl
set_option maxRecDepth 20000 in
theorem ja_M_why_6 : jv_at jm_M_why.2.2.2.2.2.2 6 = some (.invokevirtual 299, 3, 183, 0, 1317, 12, 4) := rfl
set_option maxRecDepth 20000 in
theorem ja_M_why_9 : jv_at jm_M_why.2.2.2.2.2.2 9 = some (.ifCond .eq 12, 3, 21, 0, 0, 0, 0) := rfl
set_option maxRecDepth 20000 in
theorem ja_M_why_12 : jv_at jm_M_why.2.2.2.2.2.2 12 = some (.aload_n 0, 1, 0, 0, 0, 0, 0) := rfl
set_option maxRecDepth 20000 in
theorem ja_M_why_13 : jv_at jm_M_why.2.2.2.2.2.2 13 = some (.iload_n 1, 1, 0, 0, 0, 0, 0) := rfl
set_option maxRecDepth 20000 in
theorem ja_M_why_14 : jv_at jm_M_why.2.2.2.2.2.2 14 = some (.iload_n 2, 1, 0, 0, 0, 0, 0) := rfl
set_option maxRecDepth 20000 in
theorem ja_M_why_15 : jv_at jm_M_why.2.2.2.2.2.2 15 = some (.invokevirtual 303, 3, 184, 0, 1321, 12, 2) := rfl
set_option maxRecDepth 20000 in
theorem ja_M_why_18 : jv_at jm_M_why.2.2.2.2.2.2 18 = some (.goto 5, 3, 23, 0, 0, 0, 0) := rfl
set_option maxRecDepth 20000 in
theorem ja_M_why_21 : jv_at jm_M_why.2.2.2.2.2.2 21 = some (.bipush (-2), 2, 0, 0, 0, 0, -2) := rfl
set_option maxRecDepth 20000 in
theorem ja_M_why_23 : jv_at jm_M_why.2.2.2.2.2.2 23 = some (.ireturn, 1, 0, 0, 0, 0, 0) := rfl
set_option maxRecDepth 20000 in
theorem ja_M_isAct_0 : jv_at jm_M_isAct.2.2.2.2.2.2 0 = some (.iload_n 1, 1, 0, 0, 0, 0, 0) := rfl
set_option maxRecDepth 20000 in
theorem ja_M_isAct_1 : jv_at jm_M_isAct.2.2.2.2.2.2 1 = some (.iconst 0, 1, 0, 0, 0, 0, 0) := rfl
set_option maxRecDepth 20000 in
theorem ja_M_isAct_2 : jv_at jm_M_isAct.2.2.2.2.2.2 2 = some (.bipush 6, 2, 0, 0, 0, 0, 6) := rfl
set_option maxRecDepth 20000 in
theorem ja_M_isAct_4 : jv_at jm_M_isAct.2.2.2.2.2.2 4 = some (.invokestatic 118, 3, 152, 1, 1195, 12, 3) := rfl
set_option maxRecDepth 20000 in
theorem ja_M_isAct_7 : jv_at jm_M_isAct.2.2.2.2.2.2 7 = some (.ifCond .eq 49, 3, 56, 0, 0, 0, 0) := rfl
set_option maxRecDepth 20000 in
theorem ja_M_isAct_10 : jv_at jm_M_isAct.2.2.2.2.2.2 10 = some (.aload_n 0, 1, 0, 0, 0, 0, 0) := rfl
set_option maxRecDepth 20000 in
theorem ja_M_isAct_11 : jv_at jm_M_isAct.2.2.2.2.2.2 11 = some (.iload_n 2, 1, 0, 0, 0, 0, 0) := rfl
set_option maxRecDepth 20000 in
theorem ja_M_isAct_12 : jv_at jm_M_isAct.2.2.2.2.2.2 12 = some (.invokevirtual 125, 3, 154, 0, 1202, 12, 1) := rfl
set_option maxRecDepth 20000 in
theorem ja_M_isAct_15 : jv_at jm_M_isAct.2.2.2.2.2.2 15 = some (.ifCond .eq 41, 3, 56, 0, 0, 0, 0) := rfl
set_option maxRecDepth 20000 in
theorem ja_M_isAct_18 : jv_at jm_M_isAct.2.2.2.2.2.2 18 = some (.iload_n 1, 1, 0, 0, 0, 0, 0) := rfl
set_option maxRecDepth 20000 in
theorem ja_M_isAct_19 : jv_at jm_M_isAct.2.2.2.2.2.2 19 = some (.iconst 2, 1, 0, 0, 0, 0, 2) := rfl
set_option maxRecDepth 20000 in
theorem ja_M_isAct_20 : jv_at jm_M_isAct.2.2.2.2.2.2 20 = some (.iconst 3, 1, 0, 0, 0, 0, 3) := rfl
set_option maxRecDepth 20000 in
theorem ja_M_isAct_21 : jv_at jm_M_isAct.2.2.2.2.2.2 21 = some (.invokestatic 118, 3, 152, 1, 1195, 12, 3) := rfl
set_option maxRecDepth 20000 in
theorem ja_M_isAct_24 : jv_at jm_M_isAct.2.2.2.2.2.2 24 = some (.ifCond .eq 11, 3, 35, 0, 0, 0, 0) := rfl
set_option maxRecDepth 20000 in
theorem ja_M_isAct_27 : jv_at jm_M_isAct.2.2.2.2.2.2 27 = some (.iload 4, 2, 0, 0, 0, 0, 0) := rfl
set_option maxRecDepth 20000 in
theorem ja_M_isAct_29 : jv_at jm_M_isAct.2.2.2.2.2.2 29 = some (.invokestatic 129, 3, 155, 1, 1206, 12, 1) := rfl
set_option maxRecDepth 20000 in
theorem ja_M_isAct_32 : jv_at jm_M_isAct.2.2.2.2.2.2 32 = some (.ifCond .eq 24, 3, 56, 0, 0, 0, 0) := rfl
set_option maxRecDepth 20000 in
theorem ja_M_isAct_35 : jv_at jm_M_isAct.2.2.2.2.2.2 35 = some (.iload_n 1, 1, 0, 0, 0, 0, 0) := rfl
set_option maxRecDepth 20000 in
theorem ja_M_isAct_36 : jv_at jm_M_isAct.2.2.2.2.2.2 36 = some (.bipush 6, 2, 0, 0, 0, 0, 6) := rfl
set_option maxRecDepth 20000 in
theorem ja_M_isAct_38 : jv_at jm_M_isAct.2.2.2.2.2.2 38 = some (.if_icmp .ne 20, 3, 58, 0, 0, 0, 0) := rfl
set_option maxRecDepth 20000 in
theorem ja_M_isAct_41 : jv_at jm_M_isAct.2.2.2.2.2.2 41 = some (.iload 4, 2, 0, 0, 0, 0, 0) := rfl
set_option maxRecDepth 20000 in
theorem ja_M_isAct_43 : jv_at jm_M_isAct.2.2.2.2.2.2 43 = some (.iconst 0, 1, 0, 0, 0, 0, 0) := rfl
set_option maxRecDepth 20000 in
theorem ja_M_isAct_44 : jv_at jm_M_isAct.2.2.2.2.2.2 44 = some (.aload_n 0, 1, 0, 0, 0, 0, 0) := rfl
set_option maxRecDepth 20000 in
theorem ja_M_isAct_45 : jv_at jm_M_isAct.2.2.2.2.2.2 45 = some (.getfield 112, 3, 12, 14, 1026, 0, 0) := rfl
set_option maxRecDepth 20000 in
theorem ja_M_isAct_48 : jv_at jm_M_isAct.2.2.2.2.2.2 48 = some (.iconst 1, 1, 0, 0, 0, 0, 1) := rfl
set_option maxRecDepth 20000 in
theorem ja_M_isAct_49 : jv_at jm_M_isAct.2.2.2.2.2.2 49 = some (.isub, 1, 0, 0, 0, 0, 0) := rfl
set_option maxRecDepth 20000 in
theorem ja_M_isAct_50 : jv_at jm_M_isAct.2.2.2.2.2.2 50 = some (.invokestatic 118, 3, 152, 1, 1195, 12, 3) := rfl
set_option maxRecDepth 20000 in
theorem ja_M_isAct_53 : jv_at jm_M_isAct.2.2.2.2.2.2 53 = some (.ifCond .ne 5, 3, 58, 0, 0, 0, 0) := rfl
set_option maxRecDepth 20000 in
theorem ja_M_isAct_56 : jv_at jm_M_isAct.2.2.2.2.2.2 56 = some (.iconst 0, 1, 0, 0, 0, 0, 0) := rfl
set_option maxRecDepth 20000 in
theorem ja_M_isAct_57 : jv_at jm_M_isAct.2.2.2.2.2.2 57 = some (.ireturn, 1, 0, 0, 0, 0, 0) := rfl
set_option maxRecDepth 20000 in
theorem ja_M_isAct_58 : jv_at jm_M_isAct.2.2.2.2.2.2 58 = some (.iload_n 1, 1, 0, 0, 0, 0, 0) := rfl
set_option maxRecDepth 20000 in
theorem ja_M_isAct_59 : jv_at jm_M_isAct.2.2.2.2.2.2 59 = some (.iconst 1, 1, 0, 0, 0, 0, 1) := rfl
set_option maxRecDepth 20000 in
theorem ja_M_isAct_60 : jv_at jm_M_isAct.2.2.2.2.2.2 60 = some (.iconst 3, 1, 0, 0, 0, 0, 3) := rfl
set_option maxRecDepth 20000 in
theorem ja_M_isAct_61 : jv_at jm_M_isAct.2.2.2.2.2.2 61 = some (.invokestatic 118, 3, 152, 1, 1195, 12, 3) := rfl
set_option maxRecDepth 20000 in
theorem ja_M_isAct_64 : jv_at jm_M_isAct.2.2.2.2.2.2 64 = some (.ifCond .eq 39, 3, 103, 0, 0, 0, 0) := rfl
set_option maxRecDepth 20000 in
theorem ja_M_isAct_67 : jv_at jm_M_isAct.2.2.2.2.2.2 67 = some (.aload_n 0, 1, 0, 0, 0, 0, 0) := rfl
set_option maxRecDepth 20000 in
theorem ja_M_isAct_68 : jv_at jm_M_isAct.2.2.2.2.2.2 68 = some (.getfield 41, 3, 12, 13, 1025, 0, 0) := rfl
set_option maxRecDepth 20000 in
theorem ja_M_isAct_71 : jv_at jm_M_isAct.2.2.2.2.2.2 71 = some (.iconst (-1), 1, 0, 0, 0, 0, -1) := rfl
set_option maxRecDepth 20000 in
theorem ja_M_isAct_72 : jv_at jm_M_isAct.2.2.2.2.2.2 72 = some (.if_icmp .eq 31, 3, 103, 0, 0, 0, 0) := rfl
set_option maxRecDepth 20000 in
theorem ja_M_isAct_75 : jv_at jm_M_isAct.2.2.2.2.2.2 75 = some (.iload_n 3, 1, 0, 0, 0, 0, 0) := rfl
set_option maxRecDepth 20000 in
theorem ja_M_isAct_76 : jv_at jm_M_isAct.2.2.2.2.2.2 76 = some (.iconst 0, 1, 0, 0, 0, 0, 0) := rfl
set_option maxRecDepth 20000 in
theorem ja_M_isAct_77 : jv_at jm_M_isAct.2.2.2.2.2.2 77 = some (.aload_n 0, 1, 0, 0, 0, 0, 0) := rfl
set_option maxRecDepth 20000 in
theorem ja_M_isAct_78 : jv_at jm_M_isAct.2.2.2.2.2.2 78 = some (.getfield 29, 3, 12, 8, 1020, 0, 0) := rfl
set_option maxRecDepth 20000 in
theorem ja_M_isAct_81 : jv_at jm_M_isAct.2.2.2.2.2.2 81 = some (.aload_n 0, 1, 0, 0, 0, 0, 0) := rfl
set_option maxRecDepth 20000 in
theorem ja_M_isAct_82 : jv_at jm_M_isAct.2.2.2.2.2.2 82 = some (.getfield 41, 3, 12, 13, 1025, 0, 0) := rfl
set_option maxRecDepth 20000 in
theorem ja_M_isAct_85 : jv_at jm_M_isAct.2.2.2.2.2.2 85 = some (.iaload, 1, 0, 0, 0, 0, 0) := rfl
set_option maxRecDepth 20000 in
theorem ja_M_isAct_86 : jv_at jm_M_isAct.2.2.2.2.2.2 86 = some (.iload_n 1, 1, 0, 0, 0, 0, 0) := rfl
set_option maxRecDepth 20000 in
theorem ja_M_isAct_87 : jv_at jm_M_isAct.2.2.2.2.2.2 87 = some (.iconst 2, 1, 0, 0, 0, 0, 2) := rfl
set_option maxRecDepth 20000 in
theorem ja_M_isAct_88 : jv_at jm_M_isAct.2.2.2.2.2.2 88 = some (.if_icmp .ne 7, 3, 95, 0, 0, 0, 0) := rfl
set_option maxRecDepth 20000 in
theorem ja_M_isAct_91 : jv_at jm_M_isAct.2.2.2.2.2.2 91 = some (.iconst 0, 1, 0, 0, 0, 0, 0) := rfl
set_option maxRecDepth 20000 in
theorem ja_M_isAct_92 : jv_at jm_M_isAct.2.2.2.2.2.2 92 = some (.goto 4, 3, 96, 0, 0, 0, 0) := rfl
set_option maxRecDepth 20000 in
theorem ja_M_isAct_95 : jv_at jm_M_isAct.2.2.2.2.2.2 95 = some (.iconst 1, 1, 0, 0, 0, 0, 1) := rfl
set_option maxRecDepth 20000 in
theorem ja_M_isAct_96 : jv_at jm_M_isAct.2.2.2.2.2.2 96 = some (.isub, 1, 0, 0, 0, 0, 0) := rfl
set_option maxRecDepth 20000 in
theorem ja_M_isAct_97 : jv_at jm_M_isAct.2.2.2.2.2.2 97 = some (.invokestatic 118, 3, 152, 1, 1195, 12, 3) := rfl
set_option maxRecDepth 20000 in
theorem ja_M_isAct_100 : jv_at jm_M_isAct.2.2.2.2.2.2 100 = some (.ifCond .eq 7, 3, 107, 0, 0, 0, 0) := rfl
set_option maxRecDepth 20000 in
theorem ja_M_isAct_103 : jv_at jm_M_isAct.2.2.2.2.2.2 103 = some (.iconst 1, 1, 0, 0, 0, 0, 1) := rfl
set_option maxRecDepth 20000 in
theorem ja_M_isAct_104 : jv_at jm_M_isAct.2.2.2.2.2.2 104 = some (.goto 4, 3, 108, 0, 0, 0, 0) := rfl
set_option maxRecDepth 20000 in
theorem ja_M_isAct_107 : jv_at jm_M_isAct.2.2.2.2.2.2 107 = some (.iconst 0, 1, 0, 0, 0, 0, 0) := rfl
set_option maxRecDepth 20000 in
theorem ja_M_isAct_108 : jv_at jm_M_isAct.2.2.2.2.2.2 108 = some (.ireturn, 1, 0, 0, 0, 0, 0) := rfl
set_option maxRecDepth 20000 in
theorem ja_M_hinders_0 : jv_at jm_M_hinders.2.2.2.2.2.2 0 = some (.aload_n 0, 1, 0, 0, 0, 0, 0) := rfl
set_option maxRecDepth 20000 in
theorem ja_M_hinders_1 : jv_at jm_M_hinders.2.2.2.2.2.2 1 = some (.getfield 41, 3, 12, 13, 1025, 0, 0) := rfl
set_option maxRecDepth 20000 in
theorem ja_M_hinders_4 : jv_at jm_M_hinders.2.2.2.2.2.2 4 = some (.iconst (-1), 1, 0, 0, 0, 0, -1) := rfl
set_option maxRecDepth 20000 in
theorem ja_M_hinders_5 : jv_at jm_M_hinders.2.2.2.2.2.2 5 = some (.if_icmp .ne 11, 3, 16, 0, 0, 0, 0) := rfl
set_option maxRecDepth 20000 in
theorem ja_M_hinders_8 : jv_at jm_M_hinders.2.2.2.2.2.2 8 = some (.iload_n 1, 1, 0, 0, 0, 0, 0) := rfl
set_option maxRecDepth 20000 in
theorem ja_M_hinders_9 : jv_at jm_M_hinders.2.2.2.2.2.2 9 = some (.bipush 6, 2, 0, 0, 0, 0, 6) := rfl
set_option maxRecDepth 20000 in
theorem ja_M_hinders_11 : jv_at jm_M_hinders.2.2.2.2.2.2 11 = some (.if_icmp .eq 5, 3, 16, 0, 0, 0, 0) := rfl
set_option maxRecDepth 20000 in
theorem ja_M_hinders_14 : jv_at jm_M_hinders.2.2.2.2.2.2 14 = some (.iconst 1, 1, 0, 0, 0, 0, 1) := rfl
set_option maxRecDepth 20000 in
theorem ja_M_hinders_15 : jv_at jm_M_hinders.2.2.2.2.2.2 15 = some (.ireturn, 1, 0, 0, 0, 0, 0) := rfl
set_option maxRecDepth 20000 in
theorem ja_M_hinders_16 : jv_at jm_M_hinders.2.2.2.2.2.2 16 = some (.aload_n 0, 1, 0, 0, 0, 0, 0) := rfl
set_option maxRecDepth 20000 in
theorem ja_M_hinders_17 : jv_at jm_M_hinders.2.2.2.2.2.2 17 = some (.getfield 244, 3, 12, 17, 1029, 0, 0) := rfl
set_option maxRecDepth 20000 in
theorem ja_M_hinders_20 : jv_at jm_M_hinders.2.2.2.2.2.2 20 = some (.bipush 100, 2, 0, 0, 0, 0, 100) := rfl
set_option maxRecDepth 20000 in
theorem ja_M_hinders_22 : jv_at jm_M_hinders.2.2.2.2.2.2 22 = some (.if_icmp .lt 5, 3, 27, 0, 0, 0, 0) := rfl
set_option maxRecDepth 20000 in
theorem ja_M_hinders_25 : jv_at jm_M_hinders.2.2.2.2.2.2 25 = some (.iconst 2, 1, 0, 0, 0, 0, 2) := rfl
set_option maxRecDepth 20000 in
theorem ja_M_hinders_26 : jv_at jm_M_hinders.2.2.2.2.2.2 26 = some (.ireturn, 1, 0, 0, 0, 0, 0) := rfl
set_option maxRecDepth 20000 in
theorem ja_M_hinders_27 : jv_at jm_M_hinders.2.2.2.2.2.2 27 = some (.aload_n 0, 1, 0, 0, 0, 0, 0) := rfl
set_option maxRecDepth 20000 in
theorem ja_M_hinders_28 : jv_at jm_M_hinders.2.2.2.2.2.2 28 = some (.getfield 22, 3, 12, 5, 1017, 0, 0) := rfl
set_option maxRecDepth 20000 in
theorem ja_M_hinders_31 : jv_at jm_M_hinders.2.2.2.2.2.2 31 = some (.iload_n 2, 1, 0, 0, 0, 0, 0) := rfl
set_option maxRecDepth 20000 in
theorem ja_M_hinders_32 : jv_at jm_M_hinders.2.2.2.2.2.2 32 = some (.baload, 1, 0, 0, 0, 0, 0) := rfl
set_option maxRecDepth 20000 in
theorem ja_M_hinders_33 : jv_at jm_M_hinders.2.2.2.2.2.2 33 = some (.ifCond .ne 5, 3, 38, 0, 0, 0, 0) := rfl
set_option maxRecDepth 20000 in
theorem ja_M_hinders_36 : jv_at jm_M_hinders.2.2.2.2.2.2 36 = some (.iconst 3, 1, 0, 0, 0, 0, 3) := rfl
set_option maxRecDepth 20000 in
theorem ja_M_hinders_37 : jv_at jm_M_hinders.2.2.2.2.2.2 37 = some (.ireturn, 1, 0, 0, 0, 0, 0) := rfl
set_option maxRecDepth 20000 in
theorem ja_M_hinders_38 : jv_at jm_M_hinders.2.2.2.2.2.2 38 = some (.iload_n 1, 1, 0, 0, 0, 0, 0) := rfl
set_option maxRecDepth 20000 in
theorem ja_M_hinders_39 : jv_at jm_M_hinders.2.2.2.2.2.2 39 = some (.ifCond .eq 9, 3, 48, 0, 0, 0, 0) := rfl
set_option maxRecDepth 20000 in
theorem ja_M_hinders_42 : jv_at jm_M_hinders.2.2.2.2.2.2 42 = some (.iload_n 1, 1, 0, 0, 0, 0, 0) := rfl
set_option maxRecDepth 20000 in
theorem ja_M_hinders_43 : jv_at jm_M_hinders.2.2.2.2.2.2 43 = some (.bipush 6, 2, 0, 0, 0, 0, 6) := rfl
set_option maxRecDepth 20000 in
theorem ja_M_hinders_45 : jv_at jm_M_hinders.2.2.2.2.2.2 45 = some (.if_icmp .ne 7, 3, 52, 0, 0, 0, 0) := rfl
set_option maxRecDepth 20000 in
theorem ja_M_hinders_48 : jv_at jm_M_hinders.2.2.2.2.2.2 48 = some (.iconst 1, 1, 0, 0, 0, 0, 1) := rfl
set_option maxRecDepth 20000 in
theorem ja_M_hinders_49 : jv_at jm_M_hinders.2.2.2.2.2.2 49 = some (.goto 4, 3, 53, 0, 0, 0, 0) := rfl
set_option maxRecDepth 20000 in
theorem ja_M_hinders_52 : jv_at jm_M_hinders.2.2.2.2.2.2 52 = some (.iconst 0, 1, 0, 0, 0, 0, 0) := rfl
set_option maxRecDepth 20000 in
theorem ja_M_hinders_53 : jv_at jm_M_hinders.2.2.2.2.2.2 53 = some (.istore_n 3, 1, 0, 0, 0, 0, 0) := rfl
set_option maxRecDepth 20000 in
theorem ja_M_hinders_54 : jv_at jm_M_hinders.2.2.2.2.2.2 54 = some (.iload_n 3, 1, 0, 0, 0, 0, 0) := rfl
set_option maxRecDepth 20000 in
theorem ja_M_hinders_55 : jv_at jm_M_hinders.2.2.2.2.2.2 55 = some (.aload_n 0, 1, 0, 0, 0, 0, 0) := rfl
set_option maxRecDepth 20000 in
theorem ja_M_hinders_56 : jv_at jm_M_hinders.2.2.2.2.2.2 56 = some (.getfield 267, 3, 12, 18, 1030, 0, 0) := rfl
set_option maxRecDepth 20000 in
theorem ja_M_hinders_59 : jv_at jm_M_hinders.2.2.2.2.2.2 59 = some (.ifCond .ne 7, 3, 66, 0, 0, 0, 0) := rfl
set_option maxRecDepth 20000 in
theorem ja_M_hinders_62 : jv_at jm_M_hinders.2.2.2.2.2.2 62 = some (.iconst 1, 1, 0, 0, 0, 0, 1) := rfl
set_option maxRecDepth 20000 in
theorem ja_M_hinders_63 : jv_at jm_M_hinders.2.2.2.2.2.2 63 = some (.goto 4, 3, 67, 0, 0, 0, 0) := rfl
set_option maxRecDepth 20000 in
theorem ja_M_hinders_66 : jv_at jm_M_hinders.2.2.2.2.2.2 66 = some (.iconst 0, 1, 0, 0, 0, 0, 0) := rfl
set_option maxRecDepth 20000 in
theorem ja_M_hinders_67 : jv_at jm_M_hinders.2.2.2.2.2.2 67 = some (.if_icmp .eq 5, 3, 72, 0, 0, 0, 0) := rfl
set_option maxRecDepth 20000 in
theorem ja_M_hinders_70 : jv_at jm_M_hinders.2.2.2.2.2.2 70 = some (.iconst 4, 1, 0, 0, 0, 0, 4) := rfl
set_option maxRecDepth 20000 in
theorem ja_M_hinders_71 : jv_at jm_M_hinders.2.2.2.2.2.2 71 = some (.ireturn, 1, 0, 0, 0, 0, 0) := rfl
set_option maxRecDepth 20000 in
theorem ja_M_hinders_72 : jv_at jm_M_hinders.2.2.2.2.2.2 72 = some (.aload_n 0, 1, 0, 0, 0, 0, 0) := rfl
set_option maxRecDepth 20000 in
theorem ja_M_hinders_73 : jv_at jm_M_hinders.2.2.2.2.2.2 73 = some (.getfield 267, 3, 12, 18, 1030, 0, 0) := rfl
set_option maxRecDepth 20000 in
theorem ja_M_hinders_76 : jv_at jm_M_hinders.2.2.2.2.2.2 76 = some (.ifCond .le 40, 3, 116, 0, 0, 0, 0) := rfl
set_option maxRecDepth 20000 in
theorem ja_M_hinders_79 : jv_at jm_M_hinders.2.2.2.2.2.2 79 = some (.aload_n 0, 1, 0, 0, 0, 0, 0) := rfl
set_option maxRecDepth 20000 in
theorem ja_M_hinders_80 : jv_at jm_M_hinders.2.2.2.2.2.2 80 = some (.iload_n 1, 1, 0, 0, 0, 0, 0) := rfl
set_option maxRecDepth 20000 in
theorem ja_M_hinders_81 : jv_at jm_M_hinders.2.2.2.2.2.2 81 = some (.iload_n 2, 1, 0, 0, 0, 0, 0) := rfl
set_option maxRecDepth 20000 in
theorem ja_M_hinders_82 : jv_at jm_M_hinders.2.2.2.2.2.2 82 = some (.invokevirtual 296, 3, 185, 0, 1325, 12, 2) := rfl
set_option maxRecDepth 20000 in
theorem ja_M_hinders_85 : jv_at jm_M_hinders.2.2.2.2.2.2 85 = some (.aload_n 0, 1, 0, 0, 0, 0, 0) := rfl
set_option maxRecDepth 20000 in
theorem ja_M_hinders_86 : jv_at jm_M_hinders.2.2.2.2.2.2 86 = some (.aload_n 0, 1, 0, 0, 0, 0, 0) := rfl
set_option maxRecDepth 20000 in
theorem ja_M_hinders_87 : jv_at jm_M_hinders.2.2.2.2.2.2 87 = some (.getfield 45, 3, 12, 20, 1032, 0, 0) := rfl
set_option maxRecDepth 20000 in
theorem ja_M_hinders_90 : jv_at jm_M_hinders.2.2.2.2.2.2 90 = some (.aload_n 0, 1, 0, 0, 0, 0, 0) := rfl
set_option maxRecDepth 20000 in
theorem ja_M_hinders_91 : jv_at jm_M_hinders.2.2.2.2.2.2 91 = some (.getfield 267, 3, 12, 18, 1030, 0, 0) := rfl
set_option maxRecDepth 20000 in
theorem ja_M_hinders_94 : jv_at jm_M_hinders.2.2.2.2.2.2 94 = some (.iconst 1, 1, 0, 0, 0, 0, 1) := rfl
set_option maxRecDepth 20000 in
theorem ja_M_hinders_95 : jv_at jm_M_hinders.2.2.2.2.2.2 95 = some (.isub, 1, 0, 0, 0, 0, 0) := rfl
set_option maxRecDepth 20000 in
theorem ja_M_hinders_96 : jv_at jm_M_hinders.2.2.2.2.2.2 96 = some (.iaload, 1, 0, 0, 0, 0, 0) := rfl
set_option maxRecDepth 20000 in
theorem ja_M_hinders_97 : jv_at jm_M_hinders.2.2.2.2.2.2 97 = some (.aload_n 0, 1, 0, 0, 0, 0, 0) := rfl
set_option maxRecDepth 20000 in
theorem ja_M_hinders_98 : jv_at jm_M_hinders.2.2.2.2.2.2 98 = some (.getfield 48, 3, 12, 21, 1033, 0, 0) := rfl
set_option maxRecDepth 20000 in
theorem ja_M_hinders_101 : jv_at jm_M_hinders.2.2.2.2.2.2 101 = some (.aload_n 0, 1, 0, 0, 0, 0, 0) := rfl
set_option maxRecDepth 20000 in
theorem ja_M_hinders_102 : jv_at jm_M_hinders.2.2.2.2.2.2 102 = some (.getfield 267, 3, 12, 18, 1030, 0, 0) := rfl
set_option maxRecDepth 20000 in
theorem ja_M_hinders_105 : jv_at jm_M_hinders.2.2.2.2.2.2 105 = some (.iconst 1, 1, 0, 0, 0, 0, 1) := rfl
set_option maxRecDepth 20000 in
theorem ja_M_hinders_106 : jv_at jm_M_hinders.2.2.2.2.2.2 106 = some (.isub, 1, 0, 0, 0, 0, 0) := rfl
set_option maxRecDepth 20000 in
theorem ja_M_hinders_107 : jv_at jm_M_hinders.2.2.2.2.2.2 107 = some (.iaload, 1, 0, 0, 0, 0, 0) := rfl
set_option maxRecDepth 20000 in
theorem ja_M_hinders_108 : jv_at jm_M_hinders.2.2.2.2.2.2 108 = some (.invokevirtual 296, 3, 185, 0, 1325, 12, 2) := rfl
set_option maxRecDepth 20000 in
theorem ja_M_hinders_111 : jv_at jm_M_hinders.2.2.2.2.2.2 111 = some (.if_icmp .gt 5, 3, 116, 0, 0, 0, 0) := rfl
set_option maxRecDepth 20000 in
theorem ja_M_hinders_114 : jv_at jm_M_hinders.2.2.2.2.2.2 114 = some (.iconst 5, 1, 0, 0, 0, 0, 5) := rfl
set_option maxRecDepth 20000 in
theorem ja_M_hinders_115 : jv_at jm_M_hinders.2.2.2.2.2.2 115 = some (.ireturn, 1, 0, 0, 0, 0, 0) := rfl
set_option maxRecDepth 20000 in
theorem ja_M_hinders_116 : jv_at jm_M_hinders.2.2.2.2.2.2 116 = some (.aload_n 0, 1, 0, 0, 0, 0, 0) := rfl
set_option maxRecDepth 20000 in
theorem ja_M_hinders_117 : jv_at jm_M_hinders.2.2.2.2.2.2 117 = some (.aload_n 0, 1, 0, 0, 0, 0, 0) := rfl
set_option maxRecDepth 20000 in
theorem ja_M_hinders_118 : jv_at jm_M_hinders.2.2.2.2.2.2 118 = some (.getfield 274, 3, 12, 15, 1027, 0, 0) := rfl
set_option maxRecDepth 20000 in
theorem ja_M_hinders_121 : jv_at jm_M_hinders.2.2.2.2.2.2 121 = some (.iconst 1, 1, 0, 0, 0, 0, 1) := rfl
set_option maxRecDepth 20000 in
theorem ja_M_hinders_122 : jv_at jm_M_hinders.2.2.2.2.2.2 122 = some (.iload_n 1, 1, 0, 0, 0, 0, 0) := rfl
set_option maxRecDepth 20000 in
theorem ja_M_hinders_123 : jv_at jm_M_hinders.2.2.2.2.2.2 123 = some (.aload_n 0, 1, 0, 0, 0, 0, 0) := rfl
set_option maxRecDepth 20000 in
theorem ja_M_hinders_124 : jv_at jm_M_hinders.2.2.2.2.2.2 124 = some (.getfield 7, 3, 12, 1, 1013, 0, 0) := rfl
set_option maxRecDepth 20000 in
theorem ja_M_hinders_127 : jv_at jm_M_hinders.2.2.2.2.2.2 127 = some (.iload_n 2, 1, 0, 0, 0, 0, 0) := rfl
set_option maxRecDepth 20000 in
theorem ja_M_hinders_128 : jv_at jm_M_hinders.2.2.2.2.2.2 128 = some (.iaload, 1, 0, 0, 0, 0, 0) := rfl
set_option maxRecDepth 20000 in
theorem ja_M_hinders_129 : jv_at jm_M_hinders.2.2.2.2.2.2 129 = some (.aload_n 0, 1, 0, 0, 0, 0, 0) := rfl
set_option maxRecDepth 20000 in
theorem ja_M_hinders_130 : jv_at jm_M_hinders.2.2.2.2.2.2 130 = some (.getfield 267, 3, 12, 18, 1030, 0, 0) := rfl
set_option maxRecDepth 20000 in
theorem ja_M_hinders_133 : jv_at jm_M_hinders.2.2.2.2.2.2 133 = some (.iconst 0, 1, 0, 0, 0, 0, 0) := rfl
set_option maxRecDepth 20000 in
theorem ja_M_hinders_134 : jv_at jm_M_hinders.2.2.2.2.2.2 134 = some (.iconst 0, 1, 0, 0, 0, 0, 0) := rfl
set_option maxRecDepth 20000 in
theorem ja_M_hinders_135 : jv_at jm_M_hinders.2.2.2.2.2.2 135 = some (.invokevirtual 270, 3, 178, 0, 1298, 12, 7) := rfl
set_option maxRecDepth 20000 in
theorem ja_M_hinders_138 : jv_at jm_M_hinders.2.2.2.2.2.2 138 = some (.ifCond .ne 6, 3, 144, 0, 0, 0, 0) := rfl
set_option maxRecDepth 20000 in
theorem ja_M_hinders_141 : jv_at jm_M_hinders.2.2.2.2.2.2 141 = some (.bipush 6, 2, 0, 0, 0, 0, 6) := rfl
set_option maxRecDepth 20000 in
theorem ja_M_hinders_143 : jv_at jm_M_hinders.2.2.2.2.2.2 143 = some (.ireturn, 1, 0, 0, 0, 0, 0) := rfl
set_option maxRecDepth 20000 in
theorem ja_M_hinders_144 : jv_at jm_M_hinders.2.2.2.2.2.2 144 = some (.aload_n 0, 1, 0, 0, 0, 0, 0) := rfl
set_option maxRecDepth 20000 in
theorem ja_M_hinders_145 : jv_at jm_M_hinders.2.2.2.2.2.2 145 = some (.getfield 267, 3, 12, 18, 1030, 0, 0) := rfl
set_option maxRecDepth 20000 in
theorem ja_M_hinders_148 : jv_at jm_M_hinders.2.2.2.2.2.2 148 = some (.bipush 8, 2, 0, 0, 0, 0, 8) := rfl
set_option maxRecDepth 20000 in
theorem ja_M_hinders_150 : jv_at jm_M_hinders.2.2.2.2.2.2 150 = some (.if_icmp .ne 8, 3, 158, 0, 0, 0, 0) := rfl
set_option maxRecDepth 20000 in
theorem ja_M_hinders_153 : jv_at jm_M_hinders.2.2.2.2.2.2 153 = some (.bipush 7, 2, 0, 0, 0, 0, 7) := rfl
set_option maxRecDepth 20000 in
theorem ja_M_hinders_155 : jv_at jm_M_hinders.2.2.2.2.2.2 155 = some (.goto 4, 3, 159, 0, 0, 0, 0) := rfl
set_option maxRecDepth 20000 in
theorem ja_M_hinders_158 : jv_at jm_M_hinders.2.2.2.2.2.2 158 = some (.iconst 0, 1, 0, 0, 0, 0, 0) := rfl
set_option maxRecDepth 20000 in
theorem ja_M_hinders_159 : jv_at jm_M_hinders.2.2.2.2.2.2 159 = some (.ireturn, 1, 0, 0, 0, 0, 0) := rfl
set_option maxRecDepth 20000 in
theorem ja_M_ranked_0 : jv_at jm_M_ranked.2.2.2.2.2.2 0 = some (.aload_n 0, 1, 0, 0, 0, 0, 0) := rfl
set_option maxRecDepth 20000 in
theorem ja_M_ranked_1 : jv_at jm_M_ranked.2.2.2.2.2.2 1 = some (.aload_n 0, 1, 0, 0, 0, 0, 0) := rfl
set_option maxRecDepth 20000 in
theorem ja_M_ranked_2 : jv_at jm_M_ranked.2.2.2.2.2.2 2 = some (.getfield 274, 3, 12, 15, 1027, 0, 0) := rfl
set_option maxRecDepth 20000 in
theorem ja_M_ranked_5 : jv_at jm_M_ranked.2.2.2.2.2.2 5 = some (.iconst 0, 1, 0, 0, 0, 0, 0) := rfl
set_option maxRecDepth 20000 in
theorem ja_M_ranked_6 : jv_at jm_M_ranked.2.2.2.2.2.2 6 = some (.iload_n 1, 1, 0, 0, 0, 0, 0) := rfl
set_option maxRecDepth 20000 in
theorem ja_M_ranked_7 : jv_at jm_M_ranked.2.2.2.2.2.2 7 = some (.aload_n 0, 1, 0, 0, 0, 0, 0) := rfl
set_option maxRecDepth 20000 in
theorem ja_M_ranked_8 : jv_at jm_M_ranked.2.2.2.2.2.2 8 = some (.getfield 7, 3, 12, 1, 1013, 0, 0) := rfl
set_option maxRecDepth 20000 in
theorem ja_M_ranked_11 : jv_at jm_M_ranked.2.2.2.2.2.2 11 = some (.iload_n 2, 1, 0, 0, 0, 0, 0) := rfl
set_option maxRecDepth 20000 in
theorem ja_M_ranked_12 : jv_at jm_M_ranked.2.2.2.2.2.2 12 = some (.iaload, 1, 0, 0, 0, 0, 0) := rfl
set_option maxRecDepth 20000 in
theorem ja_M_ranked_13 : jv_at jm_M_ranked.2.2.2.2.2.2 13 = some (.aload_n 0, 1, 0, 0, 0, 0, 0) := rfl
set_option maxRecDepth 20000 in
theorem ja_M_ranked_14 : jv_at jm_M_ranked.2.2.2.2.2.2 14 = some (.getfield 267, 3, 12, 18, 1030, 0, 0) := rfl
set_option maxRecDepth 20000 in
theorem ja_M_ranked_17 : jv_at jm_M_ranked.2.2.2.2.2.2 17 = some (.iconst 0, 1, 0, 0, 0, 0, 0) := rfl
set_option maxRecDepth 20000 in
theorem ja_M_ranked_18 : jv_at jm_M_ranked.2.2.2.2.2.2 18 = some (.iconst 0, 1, 0, 0, 0, 0, 0) := rfl
set_option maxRecDepth 20000 in
theorem ja_M_ranked_19 : jv_at jm_M_ranked.2.2.2.2.2.2 19 = some (.invokevirtual 270, 3, 178, 0, 1298, 12, 7) := rfl
set_option maxRecDepth 20000 in
theorem ja_M_ranked_22 : jv_at jm_M_ranked.2.2.2.2.2.2 22 = some (.ireturn, 1, 0, 0, 0, 0, 0) := rfl
set_option maxRecDepth 20000 in
theorem ja_M_act_0 : jv_at jm_M_act.2.2.2.2.2.2 0 = some (.aload_n 0, 1, 0, 0, 0, 0, 0) := rfl
set_option maxRecDepth 20000 in
theorem ja_M_act_1 : jv_at jm_M_act.2.2.2.2.2.2 1 = some (.iload_n 1, 1, 0, 0, 0, 0, 0) := rfl
set_option maxRecDepth 20000 in
theorem ja_M_act_2 : jv_at jm_M_act.2.2.2.2.2.2 2 = some (.iload_n 2, 1, 0, 0, 0, 0, 0) := rfl
set_option maxRecDepth 20000 in
theorem ja_M_act_3 : jv_at jm_M_act.2.2.2.2.2.2 3 = some (.iload_n 3, 1, 0, 0, 0, 0, 0) := rfl
set_option maxRecDepth 20000 in
theorem ja_M_act_4 : jv_at jm_M_act.2.2.2.2.2.2 4 = some (.iload 4, 2, 0, 0, 0, 0, 0) := rfl
set_option maxRecDepth 20000 in
theorem ja_M_act_6 : jv_at jm_M_act.2.2.2.2.2.2 6 = some (.invokevirtual 310, 3, 187, 0, 1333, 12, 4) := rfl
set_option maxRecDepth 20000 in
theorem ja_M_act_9 : jv_at jm_M_act.2.2.2.2.2.2 9 = some (.ireturn, 1, 0, 0, 0, 0, 0) := rfl
set_option maxRecDepth 20000 in
theorem ja_M_acts_0 : jv_at jm_M_acts.2.2.2.2.2.2 0 = some (.aload_n 0, 1, 0, 0, 0, 0, 0) := rfl
set_option maxRecDepth 20000 in
theorem ja_M_acts_1 : jv_at jm_M_acts.2.2.2.2.2.2 1 = some (.iload_n 1, 1, 0, 0, 0, 0, 0) := rfl
set_option maxRecDepth 20000 in
theorem ja_M_acts_2 : jv_at jm_M_acts.2.2.2.2.2.2 2 = some (.iload_n 2, 1, 0, 0, 0, 0, 0) := rfl
set_option maxRecDepth 20000 in
theorem ja_M_acts_3 : jv_at jm_M_acts.2.2.2.2.2.2 3 = some (.iload_n 3, 1, 0, 0, 0, 0, 0) := rfl
set_option maxRecDepth 20000 in
theorem ja_M_acts_4 : jv_at jm_M_acts.2.2.2.2.2.2 4 = some (.iload 4, 2, 0, 0, 0, 0, 0) := rfl
set_option maxRecDepth 20000 in
theorem ja_M_acts_6 : jv_at jm_M_acts.2.2.2.2.2.2 6 = some (.invokevirtual 299, 3, 183, 0, 1317, 12, 4) := rfl
set_option maxRecDepth 20000 in
theorem ja_M_acts_9 : jv_at jm_M_acts.2.2.2.2.2.2 9 = some (.ifCond .ne 6, 3, 15, 0, 0, 0, 0) := rfl
set_option maxRecDepth 20000 in
theorem ja_M_acts_12 : jv_at jm_M_acts.2.2.2.2.2.2 12 = some (.bipush (-2), 2, 0, 0, 0, 0, -2) := rfl
set_option maxRecDepth 20000 in
theorem ja_M_acts_14 : jv_at jm_M_acts.2.2.2.2.2.2 14 = some (.ireturn, 1, 0, 0, 0, 0, 0) := rfl
set_option maxRecDepth 20000 in
theorem ja_M_acts_15 : jv_at jm_M_acts.2.2.2.2.2.2 15 = some (.aload_n 0, 1, 0, 0, 0, 0, 0) := rfl
set_option maxRecDepth 20000 in
theorem ja_M_acts_16 : jv_at jm_M_acts.2.2.2.2.2.2 16 = some (.iload_n 1, 1, 0, 0, 0, 0, 0) := rfl
set_option maxRecDepth 20000 in
theorem ja_M_acts_17 : jv_at jm_M_acts.2.2.2.2.2.2 17 = some (.iload_n 2, 1, 0, 0, 0, 0, 0) := rfl
set_option maxRecDepth 20000 in
theorem ja_M_acts_18 : jv_at jm_M_acts.2.2.2.2.2.2 18 = some (.invokevirtual 303, 3, 184, 0, 1321, 12, 2) := rfl
set_option maxRecDepth 20000 in
theorem ja_M_acts_21 : jv_at jm_M_acts.2.2.2.2.2.2 21 = some (.istore 5, 2, 0, 0, 0, 0, 0) := rfl
set_option maxRecDepth 20000 in
theorem ja_M_acts_23 : jv_at jm_M_acts.2.2.2.2.2.2 23 = some (.iload 5, 2, 0, 0, 0, 0, 0) := rfl
set_option maxRecDepth 20000 in
theorem ja_M_acts_25 : jv_at jm_M_acts.2.2.2.2.2.2 25 = some (.ifCond .eq 9, 3, 34, 0, 0, 0, 0) := rfl
set_option maxRecDepth 20000 in
theorem ja_M_acts_28 : jv_at jm_M_acts.2.2.2.2.2.2 28 = some (.bipush (-20), 2, 0, 0, 0, 0, -20) := rfl
set_option maxRecDepth 20000 in
theorem ja_M_acts_30 : jv_at jm_M_acts.2.2.2.2.2.2 30 = some (.iload 5, 2, 0, 0, 0, 0, 0) := rfl
set_option maxRecDepth 20000 in
theorem ja_M_acts_32 : jv_at jm_M_acts.2.2.2.2.2.2 32 = some (.isub, 1, 0, 0, 0, 0, 0) := rfl
set_option maxRecDepth 20000 in
theorem ja_M_acts_33 : jv_at jm_M_acts.2.2.2.2.2.2 33 = some (.ireturn, 1, 0, 0, 0, 0, 0) := rfl
set_option maxRecDepth 20000 in
theorem ja_M_acts_34 : jv_at jm_M_acts.2.2.2.2.2.2 34 = some (.aload_n 0, 1, 0, 0, 0, 0, 0) := rfl
set_option maxRecDepth 20000 in
theorem ja_M_acts_35 : jv_at jm_M_acts.2.2.2.2.2.2 35 = some (.aload_n 0, 1, 0, 0, 0, 0, 0) := rfl
set_option maxRecDepth 20000 in
theorem ja_M_acts_36 : jv_at jm_M_acts.2.2.2.2.2.2 36 = some (.getfield 267, 3, 12, 18, 1030, 0, 0) := rfl
set_option maxRecDepth 20000 in
theorem ja_M_acts_39 : jv_at jm_M_acts.2.2.2.2.2.2 39 = some (.iload_n 1, 1, 0, 0, 0, 0, 0) := rfl
set_option maxRecDepth 20000 in
theorem ja_M_acts_40 : jv_at jm_M_acts.2.2.2.2.2.2 40 = some (.iload_n 2, 1, 0, 0, 0, 0, 0) := rfl
set_option maxRecDepth 20000 in
theorem ja_M_acts_41 : jv_at jm_M_acts.2.2.2.2.2.2 41 = some (.iload_n 3, 1, 0, 0, 0, 0, 0) := rfl
set_option maxRecDepth 20000 in
theorem ja_M_acts_42 : jv_at jm_M_acts.2.2.2.2.2.2 42 = some (.iload 4, 2, 0, 0, 0, 0, 0) := rfl
set_option maxRecDepth 20000 in
theorem ja_M_acts_44 : jv_at jm_M_acts.2.2.2.2.2.2 44 = some (.invokevirtual 306, 3, 188, 0, 1337, 12, 5) := rfl
set_option maxRecDepth 20000 in
theorem ja_M_acts_47 : jv_at jm_M_acts.2.2.2.2.2.2 47 = some (.aload_n 0, 1, 0, 0, 0, 0, 0) := rfl
set_option maxRecDepth 20000 in
theorem ja_M_acts_48 : jv_at jm_M_acts.2.2.2.2.2.2 48 = some (.dup, 1, 0, 0, 0, 0, 0) := rfl
set_option maxRecDepth 20000 in
theorem ja_M_acts_49 : jv_at jm_M_acts.2.2.2.2.2.2 49 = some (.getfield 267, 3, 12, 18, 1030, 0, 0) := rfl
set_option maxRecDepth 20000 in
theorem ja_M_acts_52 : jv_at jm_M_acts.2.2.2.2.2.2 52 = some (.iconst 1, 1, 0, 0, 0, 0, 1) := rfl
set_option maxRecDepth 20000 in
theorem ja_M_acts_53 : jv_at jm_M_acts.2.2.2.2.2.2 53 = some (.iadd, 1, 0, 0, 0, 0, 0) := rfl
set_option maxRecDepth 20000 in
theorem ja_M_acts_54 : jv_at jm_M_acts.2.2.2.2.2.2 54 = some (.putfield 267, 3, 12, 18, 1030, 0, 0) := rfl
set_option maxRecDepth 20000 in
theorem ja_M_acts_57 : jv_at jm_M_acts.2.2.2.2.2.2 57 = some (.aload_n 0, 1, 0, 0, 0, 0, 0) := rfl
set_option maxRecDepth 20000 in
theorem ja_M_acts_58 : jv_at jm_M_acts.2.2.2.2.2.2 58 = some (.dup, 1, 0, 0, 0, 0, 0) := rfl
set_option maxRecDepth 20000 in
theorem ja_M_acts_59 : jv_at jm_M_acts.2.2.2.2.2.2 59 = some (.getfield 244, 3, 12, 17, 1029, 0, 0) := rfl
set_option maxRecDepth 20000 in
theorem ja_M_acts_62 : jv_at jm_M_acts.2.2.2.2.2.2 62 = some (.iconst 1, 1, 0, 0, 0, 0, 1) := rfl
set_option maxRecDepth 20000 in
theorem ja_M_acts_63 : jv_at jm_M_acts.2.2.2.2.2.2 63 = some (.iadd, 1, 0, 0, 0, 0, 0) := rfl
set_option maxRecDepth 20000 in
theorem ja_M_acts_64 : jv_at jm_M_acts.2.2.2.2.2.2 64 = some (.putfield 244, 3, 12, 17, 1029, 0, 0) := rfl
set_option maxRecDepth 20000 in
theorem ja_M_acts_67 : jv_at jm_M_acts.2.2.2.2.2.2 67 = some (.aload_n 0, 1, 0, 0, 0, 0, 0) := rfl
set_option maxRecDepth 20000 in
theorem ja_M_acts_68 : jv_at jm_M_acts.2.2.2.2.2.2 68 = some (.getfield 267, 3, 12, 18, 1030, 0, 0) := rfl
set_option maxRecDepth 20000 in
theorem ja_M_acts_71 : jv_at jm_M_acts.2.2.2.2.2.2 71 = some (.ireturn, 1, 0, 0, 0, 0, 0) := rfl
set_option maxRecDepth 20000 in
theorem ja_M_sets_0 : jv_at jm_M_sets.2.2.2.2.2.2 0 = some (.aload_n 0, 1, 0, 0, 0, 0, 0) := rfl
set_option maxRecDepth 20000 in
theorem ja_M_sets_1 : jv_at jm_M_sets.2.2.2.2.2.2 1 = some (.getfield 45, 3, 12, 20, 1032, 0, 0) := rfl
set_option maxRecDepth 20000 in
theorem ja_M_sets_4 : jv_at jm_M_sets.2.2.2.2.2.2 4 = some (.iload_n 1, 1, 0, 0, 0, 0, 0) := rfl
set_option maxRecDepth 20000 in
theorem ja_M_sets_5 : jv_at jm_M_sets.2.2.2.2.2.2 5 = some (.iload_n 2, 1, 0, 0, 0, 0, 0) := rfl
set_option maxRecDepth 20000 in
theorem ja_M_sets_6 : jv_at jm_M_sets.2.2.2.2.2.2 6 = some (.iastore, 1, 0, 0, 0, 0, 0) := rfl
set_option maxRecDepth 20000 in
theorem ja_M_sets_7 : jv_at jm_M_sets.2.2.2.2.2.2 7 = some (.aload_n 0, 1, 0, 0, 0, 0, 0) := rfl
set_option maxRecDepth 20000 in
theorem ja_M_sets_8 : jv_at jm_M_sets.2.2.2.2.2.2 8 = some (.getfield 48, 3, 12, 21, 1033, 0, 0) := rfl
set_option maxRecDepth 20000 in
theorem ja_M_sets_11 : jv_at jm_M_sets.2.2.2.2.2.2 11 = some (.iload_n 1, 1, 0, 0, 0, 0, 0) := rfl
set_option maxRecDepth 20000 in
theorem ja_M_sets_12 : jv_at jm_M_sets.2.2.2.2.2.2 12 = some (.iload_n 3, 1, 0, 0, 0, 0, 0) := rfl
set_option maxRecDepth 20000 in
theorem ja_M_sets_13 : jv_at jm_M_sets.2.2.2.2.2.2 13 = some (.iastore, 1, 0, 0, 0, 0, 0) := rfl
set_option maxRecDepth 20000 in
theorem ja_M_sets_14 : jv_at jm_M_sets.2.2.2.2.2.2 14 = some (.aload_n 0, 1, 0, 0, 0, 0, 0) := rfl
set_option maxRecDepth 20000 in
theorem ja_M_sets_15 : jv_at jm_M_sets.2.2.2.2.2.2 15 = some (.getfield 57, 3, 12, 24, 1036, 0, 0) := rfl
set_option maxRecDepth 20000 in
theorem ja_M_sets_18 : jv_at jm_M_sets.2.2.2.2.2.2 18 = some (.iload_n 1, 1, 0, 0, 0, 0, 0) := rfl
set_option maxRecDepth 20000 in
theorem ja_M_sets_19 : jv_at jm_M_sets.2.2.2.2.2.2 19 = some (.iload_n 2, 1, 0, 0, 0, 0, 0) := rfl
set_option maxRecDepth 20000 in
theorem ja_M_sets_20 : jv_at jm_M_sets.2.2.2.2.2.2 20 = some (.iconst 2, 1, 0, 0, 0, 0, 2) := rfl
set_option maxRecDepth 20000 in
theorem ja_M_sets_21 : jv_at jm_M_sets.2.2.2.2.2.2 21 = some (.if_icmp .ne 21, 3, 42, 0, 0, 0, 0) := rfl
set_option maxRecDepth 20000 in
theorem ja_M_sets_24 : jv_at jm_M_sets.2.2.2.2.2.2 24 = some (.iload 4, 2, 0, 0, 0, 0, 0) := rfl
set_option maxRecDepth 20000 in
theorem ja_M_sets_26 : jv_at jm_M_sets.2.2.2.2.2.2 26 = some (.aload_n 0, 1, 0, 0, 0, 0, 0) := rfl
set_option maxRecDepth 20000 in
theorem ja_M_sets_27 : jv_at jm_M_sets.2.2.2.2.2.2 27 = some (.getfield 29, 3, 12, 8, 1020, 0, 0) := rfl
set_option maxRecDepth 20000 in
theorem ja_M_sets_30 : jv_at jm_M_sets.2.2.2.2.2.2 30 = some (.aload_n 0, 1, 0, 0, 0, 0, 0) := rfl
set_option maxRecDepth 20000 in
theorem ja_M_sets_31 : jv_at jm_M_sets.2.2.2.2.2.2 31 = some (.getfield 41, 3, 12, 13, 1025, 0, 0) := rfl
set_option maxRecDepth 20000 in
theorem ja_M_sets_34 : jv_at jm_M_sets.2.2.2.2.2.2 34 = some (.iaload, 1, 0, 0, 0, 0, 0) := rfl
set_option maxRecDepth 20000 in
theorem ja_M_sets_35 : jv_at jm_M_sets.2.2.2.2.2.2 35 = some (.if_icmp .ne 7, 3, 42, 0, 0, 0, 0) := rfl
set_option maxRecDepth 20000 in
theorem ja_M_sets_38 : jv_at jm_M_sets.2.2.2.2.2.2 38 = some (.iconst 1, 1, 0, 0, 0, 0, 1) := rfl
set_option maxRecDepth 20000 in
theorem ja_M_sets_39 : jv_at jm_M_sets.2.2.2.2.2.2 39 = some (.goto 4, 3, 43, 0, 0, 0, 0) := rfl
set_option maxRecDepth 20000 in
theorem ja_M_sets_42 : jv_at jm_M_sets.2.2.2.2.2.2 42 = some (.iconst 0, 1, 0, 0, 0, 0, 0) := rfl
set_option maxRecDepth 20000 in
theorem ja_M_sets_43 : jv_at jm_M_sets.2.2.2.2.2.2 43 = some (.bastore, 1, 0, 0, 0, 0, 0) := rfl
set_option maxRecDepth 20000 in
theorem ja_M_sets_44 : jv_at jm_M_sets.2.2.2.2.2.2 44 = some (.aload_n 0, 1, 0, 0, 0, 0, 0) := rfl
set_option maxRecDepth 20000 in
theorem ja_M_sets_45 : jv_at jm_M_sets.2.2.2.2.2.2 45 = some (.getfield 51, 3, 12, 22, 1034, 0, 0) := rfl
set_option maxRecDepth 20000 in
theorem ja_M_sets_48 : jv_at jm_M_sets.2.2.2.2.2.2 48 = some (.iload_n 1, 1, 0, 0, 0, 0, 0) := rfl
set_option maxRecDepth 20000 in
theorem ja_M_sets_49 : jv_at jm_M_sets.2.2.2.2.2.2 49 = some (.iload_n 2, 1, 0, 0, 0, 0, 0) := rfl
set_option maxRecDepth 20000 in
theorem ja_M_sets_50 : jv_at jm_M_sets.2.2.2.2.2.2 50 = some (.iconst 1, 1, 0, 0, 0, 0, 1) := rfl
set_option maxRecDepth 20000 in
theorem ja_M_sets_51 : jv_at jm_M_sets.2.2.2.2.2.2 51 = some (.iconst 3, 1, 0, 0, 0, 0, 3) := rfl
set_option maxRecDepth 20000 in
theorem ja_M_sets_52 : jv_at jm_M_sets.2.2.2.2.2.2 52 = some (.invokestatic 118, 3, 152, 1, 1195, 12, 3) := rfl
set_option maxRecDepth 20000 in
theorem ja_M_sets_55 : jv_at jm_M_sets.2.2.2.2.2.2 55 = some (.ifCond .eq 8, 3, 63, 0, 0, 0, 0) := rfl
set_option maxRecDepth 20000 in
theorem ja_M_sets_58 : jv_at jm_M_sets.2.2.2.2.2.2 58 = some (.iload 4, 2, 0, 0, 0, 0, 0) := rfl
set_option maxRecDepth 20000 in
theorem ja_M_sets_60 : jv_at jm_M_sets.2.2.2.2.2.2 60 = some (.goto 4, 3, 64, 0, 0, 0, 0) := rfl
set_option maxRecDepth 20000 in
theorem ja_M_sets_63 : jv_at jm_M_sets.2.2.2.2.2.2 63 = some (.iconst (-1), 1, 0, 0, 0, 0, -1) := rfl
set_option maxRecDepth 20000 in
theorem ja_M_sets_64 : jv_at jm_M_sets.2.2.2.2.2.2 64 = some (.iastore, 1, 0, 0, 0, 0, 0) := rfl
set_option maxRecDepth 20000 in
theorem ja_M_sets_65 : jv_at jm_M_sets.2.2.2.2.2.2 65 = some (.aload_n 0, 1, 0, 0, 0, 0, 0) := rfl
set_option maxRecDepth 20000 in
theorem ja_M_sets_66 : jv_at jm_M_sets.2.2.2.2.2.2 66 = some (.getfield 54, 3, 12, 23, 1035, 0, 0) := rfl
set_option maxRecDepth 20000 in
theorem ja_M_sets_69 : jv_at jm_M_sets.2.2.2.2.2.2 69 = some (.iload_n 1, 1, 0, 0, 0, 0, 0) := rfl
set_option maxRecDepth 20000 in
theorem ja_M_sets_70 : jv_at jm_M_sets.2.2.2.2.2.2 70 = some (.iload_n 2, 1, 0, 0, 0, 0, 0) := rfl
set_option maxRecDepth 20000 in
theorem ja_M_sets_71 : jv_at jm_M_sets.2.2.2.2.2.2 71 = some (.iconst 2, 1, 0, 0, 0, 0, 2) := rfl
set_option maxRecDepth 20000 in
theorem ja_M_sets_72 : jv_at jm_M_sets.2.2.2.2.2.2 72 = some (.iconst 3, 1, 0, 0, 0, 0, 3) := rfl
set_option maxRecDepth 20000 in
theorem ja_M_sets_73 : jv_at jm_M_sets.2.2.2.2.2.2 73 = some (.invokestatic 118, 3, 152, 1, 1195, 12, 3) := rfl
set_option maxRecDepth 20000 in
theorem ja_M_sets_76 : jv_at jm_M_sets.2.2.2.2.2.2 76 = some (.ifCond .ne 9, 3, 85, 0, 0, 0, 0) := rfl
set_option maxRecDepth 20000 in
theorem ja_M_sets_79 : jv_at jm_M_sets.2.2.2.2.2.2 79 = some (.iload_n 2, 1, 0, 0, 0, 0, 0) := rfl
set_option maxRecDepth 20000 in
theorem ja_M_sets_80 : jv_at jm_M_sets.2.2.2.2.2.2 80 = some (.bipush 6, 2, 0, 0, 0, 0, 6) := rfl
set_option maxRecDepth 20000 in
theorem ja_M_sets_82 : jv_at jm_M_sets.2.2.2.2.2.2 82 = some (.if_icmp .ne 8, 3, 90, 0, 0, 0, 0) := rfl
set_option maxRecDepth 20000 in
theorem ja_M_sets_85 : jv_at jm_M_sets.2.2.2.2.2.2 85 = some (.iload 5, 2, 0, 0, 0, 0, 0) := rfl
set_option maxRecDepth 20000 in
theorem ja_M_sets_87 : jv_at jm_M_sets.2.2.2.2.2.2 87 = some (.goto 4, 3, 91, 0, 0, 0, 0) := rfl
set_option maxRecDepth 20000 in
theorem ja_M_sets_90 : jv_at jm_M_sets.2.2.2.2.2.2 90 = some (.iconst (-1), 1, 0, 0, 0, 0, -1) := rfl
set_option maxRecDepth 20000 in
theorem ja_M_sets_91 : jv_at jm_M_sets.2.2.2.2.2.2 91 = some (.iastore, 1, 0, 0, 0, 0, 0) := rfl
set_option maxRecDepth 20000 in
theorem ja_M_sets_92 : jv_at jm_M_sets.2.2.2.2.2.2 92 = some (.return_, 1, 0, 0, 0, 0, 0) := rfl
set_option maxRecDepth 20000 in
theorem ja_M_vote_0 : jv_at jm_M_vote.2.2.2.2.2.2 0 = some (.aload_n 0, 1, 0, 0, 0, 0, 0) := rfl
set_option maxRecDepth 20000 in
theorem ja_M_vote_1 : jv_at jm_M_vote.2.2.2.2.2.2 1 = some (.getfield 267, 3, 12, 18, 1030, 0, 0) := rfl
set_option maxRecDepth 20000 in
theorem ja_M_vote_4 : jv_at jm_M_vote.2.2.2.2.2.2 4 = some (.ifCond .ne 6, 3, 10, 0, 0, 0, 0) := rfl
set_option maxRecDepth 20000 in
theorem ja_M_vote_7 : jv_at jm_M_vote.2.2.2.2.2.2 7 = some (.bipush (-21), 2, 0, 0, 0, 0, -21) := rfl
set_option maxRecDepth 20000 in
theorem ja_M_vote_9 : jv_at jm_M_vote.2.2.2.2.2.2 9 = some (.ireturn, 1, 0, 0, 0, 0, 0) := rfl
set_option maxRecDepth 20000 in
theorem ja_M_vote_10 : jv_at jm_M_vote.2.2.2.2.2.2 10 = some (.aload_n 0, 1, 0, 0, 0, 0, 0) := rfl
set_option maxRecDepth 20000 in
theorem ja_M_vote_11 : jv_at jm_M_vote.2.2.2.2.2.2 11 = some (.getfield 244, 3, 12, 17, 1029, 0, 0) := rfl
set_option maxRecDepth 20000 in
theorem ja_M_vote_14 : jv_at jm_M_vote.2.2.2.2.2.2 14 = some (.bipush 100, 2, 0, 0, 0, 0, 100) := rfl
set_option maxRecDepth 20000 in
theorem ja_M_vote_16 : jv_at jm_M_vote.2.2.2.2.2.2 16 = some (.if_icmp .lt 6, 3, 22, 0, 0, 0, 0) := rfl
set_option maxRecDepth 20000 in
theorem ja_M_vote_19 : jv_at jm_M_vote.2.2.2.2.2.2 19 = some (.bipush (-22), 2, 0, 0, 0, 0, -22) := rfl
set_option maxRecDepth 20000 in
theorem ja_M_vote_21 : jv_at jm_M_vote.2.2.2.2.2.2 21 = some (.ireturn, 1, 0, 0, 0, 0, 0) := rfl
set_option maxRecDepth 20000 in
theorem ja_M_vote_22 : jv_at jm_M_vote.2.2.2.2.2.2 22 = some (.aload_n 0, 1, 0, 0, 0, 0, 0) := rfl
set_option maxRecDepth 20000 in
theorem ja_M_vote_23 : jv_at jm_M_vote.2.2.2.2.2.2 23 = some (.getfield 267, 3, 12, 18, 1030, 0, 0) := rfl
set_option maxRecDepth 20000 in
theorem ja_M_vote_26 : jv_at jm_M_vote.2.2.2.2.2.2 26 = some (.iconst 1, 1, 0, 0, 0, 0, 1) := rfl
set_option maxRecDepth 20000 in
theorem ja_M_vote_27 : jv_at jm_M_vote.2.2.2.2.2.2 27 = some (.isub, 1, 0, 0, 0, 0, 0) := rfl
set_option maxRecDepth 20000 in
theorem ja_M_vote_28 : jv_at jm_M_vote.2.2.2.2.2.2 28 = some (.istore_n 1, 1, 0, 0, 0, 0, 0) := rfl
set_option maxRecDepth 20000 in
theorem ja_M_vote_29 : jv_at jm_M_vote.2.2.2.2.2.2 29 = some (.aload_n 0, 1, 0, 0, 0, 0, 0) := rfl
set_option maxRecDepth 20000 in
theorem ja_M_vote_30 : jv_at jm_M_vote.2.2.2.2.2.2 30 = some (.aload_n 0, 1, 0, 0, 0, 0, 0) := rfl
set_option maxRecDepth 20000 in
theorem ja_M_vote_31 : jv_at jm_M_vote.2.2.2.2.2.2 31 = some (.getfield 274, 3, 12, 15, 1027, 0, 0) := rfl
set_option maxRecDepth 20000 in
theorem ja_M_vote_34 : jv_at jm_M_vote.2.2.2.2.2.2 34 = some (.iconst 3, 1, 0, 0, 0, 0, 3) := rfl
set_option maxRecDepth 20000 in
theorem ja_M_vote_35 : jv_at jm_M_vote.2.2.2.2.2.2 35 = some (.aload_n 0, 1, 0, 0, 0, 0, 0) := rfl
set_option maxRecDepth 20000 in
theorem ja_M_vote_36 : jv_at jm_M_vote.2.2.2.2.2.2 36 = some (.getfield 45, 3, 12, 20, 1032, 0, 0) := rfl
set_option maxRecDepth 20000 in
theorem ja_M_vote_39 : jv_at jm_M_vote.2.2.2.2.2.2 39 = some (.iload_n 1, 1, 0, 0, 0, 0, 0) := rfl
set_option maxRecDepth 20000 in
theorem ja_M_vote_40 : jv_at jm_M_vote.2.2.2.2.2.2 40 = some (.iaload, 1, 0, 0, 0, 0, 0) := rfl
set_option maxRecDepth 20000 in
theorem ja_M_vote_41 : jv_at jm_M_vote.2.2.2.2.2.2 41 = some (.aload_n 0, 1, 0, 0, 0, 0, 0) := rfl
set_option maxRecDepth 20000 in
theorem ja_M_vote_42 : jv_at jm_M_vote.2.2.2.2.2.2 42 = some (.getfield 7, 3, 12, 1, 1013, 0, 0) := rfl
set_option maxRecDepth 20000 in
theorem ja_M_vote_45 : jv_at jm_M_vote.2.2.2.2.2.2 45 = some (.aload_n 0, 1, 0, 0, 0, 0, 0) := rfl
set_option maxRecDepth 20000 in
theorem ja_M_vote_46 : jv_at jm_M_vote.2.2.2.2.2.2 46 = some (.getfield 48, 3, 12, 21, 1033, 0, 0) := rfl
set_option maxRecDepth 20000 in
theorem ja_M_vote_49 : jv_at jm_M_vote.2.2.2.2.2.2 49 = some (.iload_n 1, 1, 0, 0, 0, 0, 0) := rfl
set_option maxRecDepth 20000 in
theorem ja_M_vote_50 : jv_at jm_M_vote.2.2.2.2.2.2 50 = some (.iaload, 1, 0, 0, 0, 0, 0) := rfl
set_option maxRecDepth 20000 in
theorem ja_M_vote_51 : jv_at jm_M_vote.2.2.2.2.2.2 51 = some (.iaload, 1, 0, 0, 0, 0, 0) := rfl
set_option maxRecDepth 20000 in
theorem ja_M_vote_52 : jv_at jm_M_vote.2.2.2.2.2.2 52 = some (.aload_n 0, 1, 0, 0, 0, 0, 0) := rfl
set_option maxRecDepth 20000 in
theorem ja_M_vote_53 : jv_at jm_M_vote.2.2.2.2.2.2 53 = some (.getfield 267, 3, 12, 18, 1030, 0, 0) := rfl
set_option maxRecDepth 20000 in
theorem ja_M_vote_56 : jv_at jm_M_vote.2.2.2.2.2.2 56 = some (.iconst 0, 1, 0, 0, 0, 0, 0) := rfl
set_option maxRecDepth 20000 in
theorem ja_M_vote_57 : jv_at jm_M_vote.2.2.2.2.2.2 57 = some (.iconst 0, 1, 0, 0, 0, 0, 0) := rfl
set_option maxRecDepth 20000 in
theorem ja_M_vote_58 : jv_at jm_M_vote.2.2.2.2.2.2 58 = some (.invokevirtual 270, 3, 178, 0, 1298, 12, 7) := rfl
set_option maxRecDepth 20000 in
theorem ja_M_vote_61 : jv_at jm_M_vote.2.2.2.2.2.2 61 = some (.ifCond .ne 6, 3, 67, 0, 0, 0, 0) := rfl
set_option maxRecDepth 20000 in
theorem ja_M_vote_64 : jv_at jm_M_vote.2.2.2.2.2.2 64 = some (.bipush (-23), 2, 0, 0, 0, 0, -23) := rfl
set_option maxRecDepth 20000 in
theorem ja_M_vote_66 : jv_at jm_M_vote.2.2.2.2.2.2 66 = some (.ireturn, 1, 0, 0, 0, 0, 0) := rfl
set_option maxRecDepth 20000 in
theorem ja_M_vote_67 : jv_at jm_M_vote.2.2.2.2.2.2 67 = some (.aload_n 0, 1, 0, 0, 0, 0, 0) := rfl
set_option maxRecDepth 20000 in
theorem ja_M_vote_68 : jv_at jm_M_vote.2.2.2.2.2.2 68 = some (.getfield 41, 3, 12, 13, 1025, 0, 0) := rfl
set_option maxRecDepth 20000 in
theorem ja_M_vote_71 : jv_at jm_M_vote.2.2.2.2.2.2 71 = some (.iconst (-1), 1, 0, 0, 0, 0, -1) := rfl
set_option maxRecDepth 20000 in
theorem ja_M_vote_72 : jv_at jm_M_vote.2.2.2.2.2.2 72 = some (.if_icmp .eq 11, 3, 83, 0, 0, 0, 0) := rfl
set_option maxRecDepth 20000 in
theorem ja_M_vote_75 : jv_at jm_M_vote.2.2.2.2.2.2 75 = some (.aload_n 0, 1, 0, 0, 0, 0, 0) := rfl
set_option maxRecDepth 20000 in
theorem ja_M_vote_76 : jv_at jm_M_vote.2.2.2.2.2.2 76 = some (.aload_n 0, 1, 0, 0, 0, 0, 0) := rfl
set_option maxRecDepth 20000 in
theorem ja_M_vote_77 : jv_at jm_M_vote.2.2.2.2.2.2 77 = some (.getfield 41, 3, 12, 13, 1025, 0, 0) := rfl
set_option maxRecDepth 20000 in
theorem ja_M_vote_80 : jv_at jm_M_vote.2.2.2.2.2.2 80 = some (.invokevirtual 147, 3, 169, 0, 1261, 12, 1) := rfl
set_option maxRecDepth 20000 in
theorem ja_M_vote_83 : jv_at jm_M_vote.2.2.2.2.2.2 83 = some (.aload_n 0, 1, 0, 0, 0, 0, 0) := rfl
set_option maxRecDepth 20000 in
theorem ja_M_vote_84 : jv_at jm_M_vote.2.2.2.2.2.2 84 = some (.aload_n 0, 1, 0, 0, 0, 0, 0) := rfl
set_option maxRecDepth 20000 in
theorem ja_M_vote_85 : jv_at jm_M_vote.2.2.2.2.2.2 85 = some (.iload_n 1, 1, 0, 0, 0, 0, 0) := rfl
set_option maxRecDepth 20000 in
theorem ja_M_vote_86 : jv_at jm_M_vote.2.2.2.2.2.2 86 = some (.iconst 1, 1, 0, 0, 0, 0, 1) := rfl
set_option maxRecDepth 20000 in
theorem ja_M_vote_87 : jv_at jm_M_vote.2.2.2.2.2.2 87 = some (.invokevirtual 327, 3, 190, 0, 1345, 12, 2) := rfl
set_option maxRecDepth 20000 in
theorem ja_M_vote_90 : jv_at jm_M_vote.2.2.2.2.2.2 90 = some (.putfield 330, 3, 12, 25, 1037, 0, 0) := rfl
set_option maxRecDepth 20000 in
theorem ja_M_vote_93 : jv_at jm_M_vote.2.2.2.2.2.2 93 = some (.aload_n 0, 1, 0, 0, 0, 0, 0) := rfl
set_option maxRecDepth 20000 in
theorem ja_M_vote_94 : jv_at jm_M_vote.2.2.2.2.2.2 94 = some (.aload_n 0, 1, 0, 0, 0, 0, 0) := rfl
set_option maxRecDepth 20000 in
theorem ja_M_vote_95 : jv_at jm_M_vote.2.2.2.2.2.2 95 = some (.iload_n 1, 1, 0, 0, 0, 0, 0) := rfl
set_option maxRecDepth 20000 in
theorem ja_M_vote_96 : jv_at jm_M_vote.2.2.2.2.2.2 96 = some (.iconst 2, 1, 0, 0, 0, 0, 2) := rfl
set_option maxRecDepth 20000 in
theorem ja_M_vote_97 : jv_at jm_M_vote.2.2.2.2.2.2 97 = some (.invokevirtual 327, 3, 190, 0, 1345, 12, 2) := rfl
set_option maxRecDepth 20000 in
theorem ja_M_vote_100 : jv_at jm_M_vote.2.2.2.2.2.2 100 = some (.putfield 333, 3, 12, 26, 1038, 0, 0) := rfl
set_option maxRecDepth 20000 in
theorem ja_M_vote_103 : jv_at jm_M_vote.2.2.2.2.2.2 103 = some (.aload_n 0, 1, 0, 0, 0, 0, 0) := rfl
set_option maxRecDepth 20000 in
theorem ja_M_vote_104 : jv_at jm_M_vote.2.2.2.2.2.2 104 = some (.aload_n 0, 1, 0, 0, 0, 0, 0) := rfl
set_option maxRecDepth 20000 in
theorem ja_M_vote_105 : jv_at jm_M_vote.2.2.2.2.2.2 105 = some (.getfield 45, 3, 12, 20, 1032, 0, 0) := rfl
set_option maxRecDepth 20000 in
theorem ja_M_vote_108 : jv_at jm_M_vote.2.2.2.2.2.2 108 = some (.iload_n 1, 1, 0, 0, 0, 0, 0) := rfl
set_option maxRecDepth 20000 in
theorem ja_M_vote_109 : jv_at jm_M_vote.2.2.2.2.2.2 109 = some (.iaload, 1, 0, 0, 0, 0, 0) := rfl
set_option maxRecDepth 20000 in
theorem ja_M_vote_110 : jv_at jm_M_vote.2.2.2.2.2.2 110 = some (.putfield 60, 3, 12, 27, 1039, 0, 0) := rfl
set_option maxRecDepth 20000 in
theorem ja_M_vote_113 : jv_at jm_M_vote.2.2.2.2.2.2 113 = some (.aload_n 0, 1, 0, 0, 0, 0, 0) := rfl
set_option maxRecDepth 20000 in
theorem ja_M_vote_114 : jv_at jm_M_vote.2.2.2.2.2.2 114 = some (.aload_n 0, 1, 0, 0, 0, 0, 0) := rfl
set_option maxRecDepth 20000 in
theorem ja_M_vote_115 : jv_at jm_M_vote.2.2.2.2.2.2 115 = some (.getfield 274, 3, 12, 15, 1027, 0, 0) := rfl
set_option maxRecDepth 20000 in
theorem ja_M_vote_118 : jv_at jm_M_vote.2.2.2.2.2.2 118 = some (.iconst 2, 1, 0, 0, 0, 0, 2) := rfl
set_option maxRecDepth 20000 in
theorem ja_M_vote_119 : jv_at jm_M_vote.2.2.2.2.2.2 119 = some (.aload_n 0, 1, 0, 0, 0, 0, 0) := rfl
set_option maxRecDepth 20000 in
theorem ja_M_vote_120 : jv_at jm_M_vote.2.2.2.2.2.2 120 = some (.getfield 45, 3, 12, 20, 1032, 0, 0) := rfl
set_option maxRecDepth 20000 in
theorem ja_M_vote_123 : jv_at jm_M_vote.2.2.2.2.2.2 123 = some (.iload_n 1, 1, 0, 0, 0, 0, 0) := rfl
set_option maxRecDepth 20000 in
theorem ja_M_vote_124 : jv_at jm_M_vote.2.2.2.2.2.2 124 = some (.iaload, 1, 0, 0, 0, 0, 0) := rfl
set_option maxRecDepth 20000 in
theorem ja_M_vote_125 : jv_at jm_M_vote.2.2.2.2.2.2 125 = some (.aload_n 0, 1, 0, 0, 0, 0, 0) := rfl
set_option maxRecDepth 20000 in
theorem ja_M_vote_126 : jv_at jm_M_vote.2.2.2.2.2.2 126 = some (.getfield 7, 3, 12, 1, 1013, 0, 0) := rfl
set_option maxRecDepth 20000 in
theorem ja_M_vote_129 : jv_at jm_M_vote.2.2.2.2.2.2 129 = some (.aload_n 0, 1, 0, 0, 0, 0, 0) := rfl
set_option maxRecDepth 20000 in
theorem ja_M_vote_130 : jv_at jm_M_vote.2.2.2.2.2.2 130 = some (.getfield 48, 3, 12, 21, 1033, 0, 0) := rfl
set_option maxRecDepth 20000 in
theorem ja_M_vote_133 : jv_at jm_M_vote.2.2.2.2.2.2 133 = some (.iload_n 1, 1, 0, 0, 0, 0, 0) := rfl
set_option maxRecDepth 20000 in
theorem ja_M_vote_134 : jv_at jm_M_vote.2.2.2.2.2.2 134 = some (.iaload, 1, 0, 0, 0, 0, 0) := rfl
set_option maxRecDepth 20000 in
theorem ja_M_vote_135 : jv_at jm_M_vote.2.2.2.2.2.2 135 = some (.iaload, 1, 0, 0, 0, 0, 0) := rfl
set_option maxRecDepth 20000 in
theorem ja_M_vote_136 : jv_at jm_M_vote.2.2.2.2.2.2 136 = some (.aload_n 0, 1, 0, 0, 0, 0, 0) := rfl
set_option maxRecDepth 20000 in
theorem ja_M_vote_137 : jv_at jm_M_vote.2.2.2.2.2.2 137 = some (.getfield 267, 3, 12, 18, 1030, 0, 0) := rfl
set_option maxRecDepth 20000 in
theorem ja_M_vote_140 : jv_at jm_M_vote.2.2.2.2.2.2 140 = some (.aload_n 0, 1, 0, 0, 0, 0, 0) := rfl
set_option maxRecDepth 20000 in
theorem ja_M_vote_141 : jv_at jm_M_vote.2.2.2.2.2.2 141 = some (.getfield 330, 3, 12, 25, 1037, 0, 0) := rfl
set_option maxRecDepth 20000 in
theorem ja_M_vote_144 : jv_at jm_M_vote.2.2.2.2.2.2 144 = some (.aload_n 0, 1, 0, 0, 0, 0, 0) := rfl
set_option maxRecDepth 20000 in
theorem ja_M_vote_145 : jv_at jm_M_vote.2.2.2.2.2.2 145 = some (.getfield 333, 3, 12, 26, 1038, 0, 0) := rfl
set_option maxRecDepth 20000 in
theorem ja_M_vote_148 : jv_at jm_M_vote.2.2.2.2.2.2 148 = some (.invokevirtual 270, 3, 178, 0, 1298, 12, 7) := rfl
set_option maxRecDepth 20000 in
theorem ja_M_vote_151 : jv_at jm_M_vote.2.2.2.2.2.2 151 = some (.ifCond .eq 7, 3, 158, 0, 0, 0, 0) := rfl
set_option maxRecDepth 20000 in
theorem ja_M_vote_154 : jv_at jm_M_vote.2.2.2.2.2.2 154 = some (.iconst 1, 1, 0, 0, 0, 0, 1) := rfl
set_option maxRecDepth 20000 in
theorem ja_M_vote_155 : jv_at jm_M_vote.2.2.2.2.2.2 155 = some (.goto 4, 3, 159, 0, 0, 0, 0) := rfl
set_option maxRecDepth 20000 in
theorem ja_M_vote_158 : jv_at jm_M_vote.2.2.2.2.2.2 158 = some (.iconst 0, 1, 0, 0, 0, 0, 0) := rfl
set_option maxRecDepth 20000 in
theorem ja_M_vote_159 : jv_at jm_M_vote.2.2.2.2.2.2 159 = some (.istore_n 2, 1, 0, 0, 0, 0, 0) := rfl
set_option maxRecDepth 20000 in
theorem ja_M_vote_160 : jv_at jm_M_vote.2.2.2.2.2.2 160 = some (.aload_n 0, 1, 0, 0, 0, 0, 0) := rfl
set_option maxRecDepth 20000 in
theorem ja_M_vote_161 : jv_at jm_M_vote.2.2.2.2.2.2 161 = some (.iload_n 2, 1, 0, 0, 0, 0, 0) := rfl
set_option maxRecDepth 20000 in
theorem ja_M_vote_162 : jv_at jm_M_vote.2.2.2.2.2.2 162 = some (.ifCond .eq 7, 3, 169, 0, 0, 0, 0) := rfl
set_option maxRecDepth 20000 in
theorem ja_M_vote_165 : jv_at jm_M_vote.2.2.2.2.2.2 165 = some (.iconst 1, 1, 0, 0, 0, 0, 1) := rfl
set_option maxRecDepth 20000 in
theorem ja_M_vote_166 : jv_at jm_M_vote.2.2.2.2.2.2 166 = some (.goto 4, 3, 170, 0, 0, 0, 0) := rfl
set_option maxRecDepth 20000 in
theorem ja_M_vote_169 : jv_at jm_M_vote.2.2.2.2.2.2 169 = some (.iconst 0, 1, 0, 0, 0, 0, 0) := rfl
set_option maxRecDepth 20000 in
theorem ja_M_vote_170 : jv_at jm_M_vote.2.2.2.2.2.2 170 = some (.putfield 336, 3, 12, 28, 1040, 0, 0) := rfl
set_option maxRecDepth 20000 in
theorem ja_M_vote_173 : jv_at jm_M_vote.2.2.2.2.2.2 173 = some (.aload_n 0, 1, 0, 0, 0, 0, 0) := rfl
set_option maxRecDepth 20000 in
theorem ja_M_vote_174 : jv_at jm_M_vote.2.2.2.2.2.2 174 = some (.dup, 1, 0, 0, 0, 0, 0) := rfl
set_option maxRecDepth 20000 in
theorem ja_M_vote_175 : jv_at jm_M_vote.2.2.2.2.2.2 175 = some (.getfield 267, 3, 12, 18, 1030, 0, 0) := rfl
set_option maxRecDepth 20000 in
theorem ja_M_vote_178 : jv_at jm_M_vote.2.2.2.2.2.2 178 = some (.iconst 1, 1, 0, 0, 0, 0, 1) := rfl
set_option maxRecDepth 20000 in
theorem ja_M_vote_179 : jv_at jm_M_vote.2.2.2.2.2.2 179 = some (.isub, 1, 0, 0, 0, 0, 0) := rfl
set_option maxRecDepth 20000 in
theorem ja_M_vote_180 : jv_at jm_M_vote.2.2.2.2.2.2 180 = some (.putfield 267, 3, 12, 18, 1030, 0, 0) := rfl
set_option maxRecDepth 20000 in
theorem ja_M_vote_183 : jv_at jm_M_vote.2.2.2.2.2.2 183 = some (.iload_n 2, 1, 0, 0, 0, 0, 0) := rfl
set_option maxRecDepth 20000 in
theorem ja_M_vote_184 : jv_at jm_M_vote.2.2.2.2.2.2 184 = some (.ifCond .eq 11, 3, 195, 0, 0, 0, 0) := rfl
set_option maxRecDepth 20000 in
theorem ja_M_vote_187 : jv_at jm_M_vote.2.2.2.2.2.2 187 = some (.aload_n 0, 1, 0, 0, 0, 0, 0) := rfl
set_option maxRecDepth 20000 in
theorem ja_M_vote_188 : jv_at jm_M_vote.2.2.2.2.2.2 188 = some (.iload_n 1, 1, 0, 0, 0, 0, 0) := rfl
set_option maxRecDepth 20000 in
theorem ja_M_vote_189 : jv_at jm_M_vote.2.2.2.2.2.2 189 = some (.invokevirtual 339, 3, 196, 0, 1369, 12, 1) := rfl
set_option maxRecDepth 20000 in
theorem ja_M_vote_192 : jv_at jm_M_vote.2.2.2.2.2.2 192 = some (.goto 15, 3, 207, 0, 0, 0, 0) := rfl
set_option maxRecDepth 20000 in
theorem ja_M_vote_195 : jv_at jm_M_vote.2.2.2.2.2.2 195 = some (.aload_n 0, 1, 0, 0, 0, 0, 0) := rfl
set_option maxRecDepth 20000 in
theorem ja_M_vote_196 : jv_at jm_M_vote.2.2.2.2.2.2 196 = some (.getfield 60, 3, 12, 27, 1039, 0, 0) := rfl
set_option maxRecDepth 20000 in
theorem ja_M_vote_199 : jv_at jm_M_vote.2.2.2.2.2.2 199 = some (.ifCond .ne 8, 3, 207, 0, 0, 0, 0) := rfl
set_option maxRecDepth 20000 in
theorem ja_M_vote_202 : jv_at jm_M_vote.2.2.2.2.2.2 202 = some (.aload_n 0, 1, 0, 0, 0, 0, 0) := rfl
set_option maxRecDepth 20000 in
theorem ja_M_vote_203 : jv_at jm_M_vote.2.2.2.2.2.2 203 = some (.iconst 4, 1, 0, 0, 0, 0, 4) := rfl
set_option maxRecDepth 20000 in
theorem ja_M_vote_204 : jv_at jm_M_vote.2.2.2.2.2.2 204 = some (.invokevirtual 317, 3, 197, 0, 1373, 12, 1) := rfl
set_option maxRecDepth 20000 in
theorem ja_M_vote_207 : jv_at jm_M_vote.2.2.2.2.2.2 207 = some (.aload_n 0, 1, 0, 0, 0, 0, 0) := rfl
set_option maxRecDepth 20000 in
theorem ja_M_vote_208 : jv_at jm_M_vote.2.2.2.2.2.2 208 = some (.dup, 1, 0, 0, 0, 0, 0) := rfl
set_option maxRecDepth 20000 in
theorem ja_M_vote_209 : jv_at jm_M_vote.2.2.2.2.2.2 209 = some (.getfield 244, 3, 12, 17, 1029, 0, 0) := rfl
set_option maxRecDepth 20000 in
theorem ja_M_vote_212 : jv_at jm_M_vote.2.2.2.2.2.2 212 = some (.iconst 1, 1, 0, 0, 0, 0, 1) := rfl
set_option maxRecDepth 20000 in
theorem ja_M_vote_213 : jv_at jm_M_vote.2.2.2.2.2.2 213 = some (.iadd, 1, 0, 0, 0, 0, 0) := rfl
set_option maxRecDepth 20000 in
theorem ja_M_vote_214 : jv_at jm_M_vote.2.2.2.2.2.2 214 = some (.putfield 244, 3, 12, 17, 1029, 0, 0) := rfl
set_option maxRecDepth 20000 in
theorem ja_M_vote_217 : jv_at jm_M_vote.2.2.2.2.2.2 217 = some (.aload_n 0, 1, 0, 0, 0, 0, 0) := rfl
set_option maxRecDepth 20000 in
theorem ja_M_vote_218 : jv_at jm_M_vote.2.2.2.2.2.2 218 = some (.getfield 336, 3, 12, 28, 1040, 0, 0) := rfl
set_option maxRecDepth 20000 in
theorem ja_M_vote_221 : jv_at jm_M_vote.2.2.2.2.2.2 221 = some (.ireturn, 1, 0, 0, 0, 0, 0) := rfl
set_option maxRecDepth 20000 in
theorem ja_M_counted_0 : jv_at jm_M_counted.2.2.2.2.2.2 0 = some (.iconst 0, 1, 0, 0, 0, 0, 0) := rfl
set_option maxRecDepth 20000 in
theorem ja_M_counted_1 : jv_at jm_M_counted.2.2.2.2.2.2 1 = some (.istore_n 3, 1, 0, 0, 0, 0, 0) := rfl
set_option maxRecDepth 20000 in
theorem ja_M_counted_2 : jv_at jm_M_counted.2.2.2.2.2.2 2 = some (.iconst 0, 1, 0, 0, 0, 0, 0) := rfl
set_option maxRecDepth 20000 in
theorem ja_M_counted_3 : jv_at jm_M_counted.2.2.2.2.2.2 3 = some (.istore 4, 2, 0, 0, 0, 0, 0) := rfl
set_option maxRecDepth 20000 in
theorem ja_M_counted_5 : jv_at jm_M_counted.2.2.2.2.2.2 5 = some (.iload 4, 2, 0, 0, 0, 0, 0) := rfl
set_option maxRecDepth 20000 in
theorem ja_M_counted_7 : jv_at jm_M_counted.2.2.2.2.2.2 7 = some (.aload_n 0, 1, 0, 0, 0, 0, 0) := rfl
set_option maxRecDepth 20000 in
theorem ja_M_counted_8 : jv_at jm_M_counted.2.2.2.2.2.2 8 = some (.getfield 115, 3, 12, 0, 1012, 0, 0) := rfl
set_option maxRecDepth 20000 in
theorem ja_M_counted_11 : jv_at jm_M_counted.2.2.2.2.2.2 11 = some (.if_icmp .ge 28, 3, 39, 0, 0, 0, 0) := rfl
set_option maxRecDepth 20000 in
theorem ja_M_counted_14 : jv_at jm_M_counted.2.2.2.2.2.2 14 = some (.iload_n 3, 1, 0, 0, 0, 0, 0) := rfl
set_option maxRecDepth 20000 in
theorem ja_M_counted_15 : jv_at jm_M_counted.2.2.2.2.2.2 15 = some (.aload_n 0, 1, 0, 0, 0, 0, 0) := rfl
set_option maxRecDepth 20000 in
theorem ja_M_counted_16 : jv_at jm_M_counted.2.2.2.2.2.2 16 = some (.iload_n 1, 1, 0, 0, 0, 0, 0) := rfl
set_option maxRecDepth 20000 in
theorem ja_M_counted_17 : jv_at jm_M_counted.2.2.2.2.2.2 17 = some (.iload 4, 2, 0, 0, 0, 0, 0) := rfl
set_option maxRecDepth 20000 in
theorem ja_M_counted_19 : jv_at jm_M_counted.2.2.2.2.2.2 19 = some (.invokevirtual 293, 3, 191, 0, 1349, 12, 2) := rfl
set_option maxRecDepth 20000 in
theorem ja_M_counted_22 : jv_at jm_M_counted.2.2.2.2.2.2 22 = some (.iload_n 2, 1, 0, 0, 0, 0, 0) := rfl
set_option maxRecDepth 20000 in
theorem ja_M_counted_23 : jv_at jm_M_counted.2.2.2.2.2.2 23 = some (.if_icmp .ne 7, 3, 30, 0, 0, 0, 0) := rfl
set_option maxRecDepth 20000 in
theorem ja_M_counted_26 : jv_at jm_M_counted.2.2.2.2.2.2 26 = some (.iconst 1, 1, 0, 0, 0, 0, 1) := rfl
set_option maxRecDepth 20000 in
theorem ja_M_counted_27 : jv_at jm_M_counted.2.2.2.2.2.2 27 = some (.goto 4, 3, 31, 0, 0, 0, 0) := rfl
set_option maxRecDepth 20000 in
theorem ja_M_counted_30 : jv_at jm_M_counted.2.2.2.2.2.2 30 = some (.iconst 0, 1, 0, 0, 0, 0, 0) := rfl
set_option maxRecDepth 20000 in
theorem ja_M_counted_31 : jv_at jm_M_counted.2.2.2.2.2.2 31 = some (.iadd, 1, 0, 0, 0, 0, 0) := rfl
set_option maxRecDepth 20000 in
theorem ja_M_counted_32 : jv_at jm_M_counted.2.2.2.2.2.2 32 = some (.istore_n 3, 1, 0, 0, 0, 0, 0) := rfl
set_option maxRecDepth 20000 in
theorem ja_M_counted_33 : jv_at jm_M_counted.2.2.2.2.2.2 33 = some (.iinc 4 1, 3, 0, 0, 0, 0, 0) := rfl
set_option maxRecDepth 20000 in
theorem ja_M_counted_36 : jv_at jm_M_counted.2.2.2.2.2.2 36 = some (.goto (-31), 3, 5, 0, 0, 0, 0) := rfl
set_option maxRecDepth 20000 in
theorem ja_M_counted_39 : jv_at jm_M_counted.2.2.2.2.2.2 39 = some (.iload_n 3, 1, 0, 0, 0, 0, 0) := rfl
set_option maxRecDepth 20000 in
theorem ja_M_counted_40 : jv_at jm_M_counted.2.2.2.2.2.2 40 = some (.ireturn, 1, 0, 0, 0, 0, 0) := rfl
set_option maxRecDepth 20000 in
theorem ja_M_votes_0 : jv_at jm_M_votes.2.2.2.2.2.2 0 = some (.aload_n 0, 1, 0, 0, 0, 0, 0) := rfl
set_option maxRecDepth 20000 in
theorem ja_M_votes_1 : jv_at jm_M_votes.2.2.2.2.2.2 1 = some (.getfield 22, 3, 12, 5, 1017, 0, 0) := rfl
set_option maxRecDepth 20000 in
theorem ja_M_votes_4 : jv_at jm_M_votes.2.2.2.2.2.2 4 = some (.iload_n 2, 1, 0, 0, 0, 0, 0) := rfl
set_option maxRecDepth 20000 in
theorem ja_M_votes_5 : jv_at jm_M_votes.2.2.2.2.2.2 5 = some (.baload, 1, 0, 0, 0, 0, 0) := rfl
set_option maxRecDepth 20000 in
theorem ja_M_votes_6 : jv_at jm_M_votes.2.2.2.2.2.2 6 = some (.ifCond .eq 13, 3, 19, 0, 0, 0, 0) := rfl
set_option maxRecDepth 20000 in
theorem ja_M_votes_9 : jv_at jm_M_votes.2.2.2.2.2.2 9 = some (.aload_n 0, 1, 0, 0, 0, 0, 0) := rfl
set_option maxRecDepth 20000 in
theorem ja_M_votes_10 : jv_at jm_M_votes.2.2.2.2.2.2 10 = some (.getfield 16, 3, 12, 3, 1015, 0, 0) := rfl
set_option maxRecDepth 20000 in
theorem ja_M_votes_13 : jv_at jm_M_votes.2.2.2.2.2.2 13 = some (.iload_n 2, 1, 0, 0, 0, 0, 0) := rfl
set_option maxRecDepth 20000 in
theorem ja_M_votes_14 : jv_at jm_M_votes.2.2.2.2.2.2 14 = some (.iaload, 1, 0, 0, 0, 0, 0) := rfl
set_option maxRecDepth 20000 in
theorem ja_M_votes_15 : jv_at jm_M_votes.2.2.2.2.2.2 15 = some (.iconst (-1), 1, 0, 0, 0, 0, -1) := rfl
set_option maxRecDepth 20000 in
theorem ja_M_votes_16 : jv_at jm_M_votes.2.2.2.2.2.2 16 = some (.if_icmp .eq 5, 3, 21, 0, 0, 0, 0) := rfl
set_option maxRecDepth 20000 in
theorem ja_M_votes_19 : jv_at jm_M_votes.2.2.2.2.2.2 19 = some (.iconst 0, 1, 0, 0, 0, 0, 0) := rfl
set_option maxRecDepth 20000 in
theorem ja_M_votes_20 : jv_at jm_M_votes.2.2.2.2.2.2 20 = some (.ireturn, 1, 0, 0, 0, 0, 0) := rfl
set_option maxRecDepth 20000 in
theorem ja_M_votes_21 : jv_at jm_M_votes.2.2.2.2.2.2 21 = some (.aload_n 0, 1, 0, 0, 0, 0, 0) := rfl
set_option maxRecDepth 20000 in
theorem ja_M_votes_22 : jv_at jm_M_votes.2.2.2.2.2.2 22 = some (.getfield 19, 3, 12, 4, 1016, 0, 0) := rfl
set_option maxRecDepth 20000 in
theorem ja_M_votes_25 : jv_at jm_M_votes.2.2.2.2.2.2 25 = some (.iload_n 2, 1, 0, 0, 0, 0, 0) := rfl
set_option maxRecDepth 20000 in
theorem ja_M_votes_26 : jv_at jm_M_votes.2.2.2.2.2.2 26 = some (.iaload, 1, 0, 0, 0, 0, 0) := rfl
set_option maxRecDepth 20000 in
theorem ja_M_votes_27 : jv_at jm_M_votes.2.2.2.2.2.2 27 = some (.ifCond .eq 10, 3, 37, 0, 0, 0, 0) := rfl
set_option maxRecDepth 20000 in
theorem ja_M_votes_30 : jv_at jm_M_votes.2.2.2.2.2.2 30 = some (.aload_n 0, 1, 0, 0, 0, 0, 0) := rfl
set_option maxRecDepth 20000 in
theorem ja_M_votes_31 : jv_at jm_M_votes.2.2.2.2.2.2 31 = some (.getfield 19, 3, 12, 4, 1016, 0, 0) := rfl
set_option maxRecDepth 20000 in
theorem ja_M_votes_34 : jv_at jm_M_votes.2.2.2.2.2.2 34 = some (.iload_n 2, 1, 0, 0, 0, 0, 0) := rfl
set_option maxRecDepth 20000 in
theorem ja_M_votes_35 : jv_at jm_M_votes.2.2.2.2.2.2 35 = some (.iaload, 1, 0, 0, 0, 0, 0) := rfl
set_option maxRecDepth 20000 in
theorem ja_M_votes_36 : jv_at jm_M_votes.2.2.2.2.2.2 36 = some (.ireturn, 1, 0, 0, 0, 0, 0) := rfl
set_option maxRecDepth 20000 in
theorem ja_M_votes_37 : jv_at jm_M_votes.2.2.2.2.2.2 37 = some (.aload_n 0, 1, 0, 0, 0, 0, 0) := rfl
set_option maxRecDepth 20000 in
theorem ja_M_votes_38 : jv_at jm_M_votes.2.2.2.2.2.2 38 = some (.iload_n 1, 1, 0, 0, 0, 0, 0) := rfl
set_option maxRecDepth 20000 in
theorem ja_M_votes_39 : jv_at jm_M_votes.2.2.2.2.2.2 39 = some (.iload_n 2, 1, 0, 0, 0, 0, 0) := rfl
set_option maxRecDepth 20000 in
theorem ja_M_votes_40 : jv_at jm_M_votes.2.2.2.2.2.2 40 = some (.invokevirtual 290, 3, 192, 0, 1353, 12, 2) := rfl
set_option maxRecDepth 20000 in
theorem ja_M_votes_43 : jv_at jm_M_votes.2.2.2.2.2.2 43 = some (.istore_n 3, 1, 0, 0, 0, 0, 0) := rfl
set_option maxRecDepth 20000 in
theorem ja_M_votes_44 : jv_at jm_M_votes.2.2.2.2.2.2 44 = some (.iload_n 3, 1, 0, 0, 0, 0, 0) := rfl
set_option maxRecDepth 20000 in
theorem ja_M_votes_45 : jv_at jm_M_votes.2.2.2.2.2.2 45 = some (.ifCond .le 7, 3, 52, 0, 0, 0, 0) := rfl
set_option maxRecDepth 20000 in
theorem ja_M_votes_48 : jv_at jm_M_votes.2.2.2.2.2.2 48 = some (.iconst 1, 1, 0, 0, 0, 0, 1) := rfl
set_option maxRecDepth 20000 in
theorem ja_M_votes_49 : jv_at jm_M_votes.2.2.2.2.2.2 49 = some (.goto 12, 3, 61, 0, 0, 0, 0) := rfl
set_option maxRecDepth 20000 in
theorem ja_M_votes_52 : jv_at jm_M_votes.2.2.2.2.2.2 52 = some (.iload_n 3, 1, 0, 0, 0, 0, 0) := rfl
set_option maxRecDepth 20000 in
theorem ja_M_votes_53 : jv_at jm_M_votes.2.2.2.2.2.2 53 = some (.ifCond .ge 7, 3, 60, 0, 0, 0, 0) := rfl
set_option maxRecDepth 20000 in
theorem ja_M_votes_56 : jv_at jm_M_votes.2.2.2.2.2.2 56 = some (.iconst 2, 1, 0, 0, 0, 0, 2) := rfl
set_option maxRecDepth 20000 in
theorem ja_M_votes_57 : jv_at jm_M_votes.2.2.2.2.2.2 57 = some (.goto 4, 3, 61, 0, 0, 0, 0) := rfl
set_option maxRecDepth 20000 in
theorem ja_M_votes_60 : jv_at jm_M_votes.2.2.2.2.2.2 60 = some (.iconst 0, 1, 0, 0, 0, 0, 0) := rfl
set_option maxRecDepth 20000 in
theorem ja_M_votes_61 : jv_at jm_M_votes.2.2.2.2.2.2 61 = some (.ireturn, 1, 0, 0, 0, 0, 0) := rfl
set_option maxRecDepth 20000 in
theorem ja_M_leans_0 : jv_at jm_M_leans.2.2.2.2.2.2 0 = some (.aload_n 0, 1, 0, 0, 0, 0, 0) := rfl
set_option maxRecDepth 20000 in
theorem ja_M_leans_1 : jv_at jm_M_leans.2.2.2.2.2.2 1 = some (.getfield 45, 3, 12, 20, 1032, 0, 0) := rfl
set_option maxRecDepth 20000 in
theorem ja_M_leans_4 : jv_at jm_M_leans.2.2.2.2.2.2 4 = some (.iload_n 1, 1, 0, 0, 0, 0, 0) := rfl
set_option maxRecDepth 20000 in
theorem ja_M_leans_5 : jv_at jm_M_leans.2.2.2.2.2.2 5 = some (.iaload, 1, 0, 0, 0, 0, 0) := rfl
set_option maxRecDepth 20000 in
theorem ja_M_leans_6 : jv_at jm_M_leans.2.2.2.2.2.2 6 = some (.tableswitch 95 0 6 #[42, 95, 95, 95, 48, 55, 69], 42, 0, 0, 0, 0, 0) := rfl
set_option maxRecDepth 20000 in
theorem ja_M_leans_48 : jv_at jm_M_leans.2.2.2.2.2.2 48 = some (.aload_n 0, 1, 0, 0, 0, 0, 0) := rfl
set_option maxRecDepth 20000 in
theorem ja_M_leans_49 : jv_at jm_M_leans.2.2.2.2.2.2 49 = some (.iload_n 2, 1, 0, 0, 0, 0, 0) := rfl
set_option maxRecDepth 20000 in
theorem ja_M_leans_50 : jv_at jm_M_leans.2.2.2.2.2.2 50 = some (.invokevirtual 150, 3, 170, 0, 1265, 12, 1) := rfl
set_option maxRecDepth 20000 in
theorem ja_M_leans_53 : jv_at jm_M_leans.2.2.2.2.2.2 53 = some (.ireturn, 1, 0, 0, 0, 0, 0) := rfl
set_option maxRecDepth 20000 in
theorem ja_M_leans_54 : jv_at jm_M_leans.2.2.2.2.2.2 54 = some (.aload_n 0, 1, 0, 0, 0, 0, 0) := rfl
set_option maxRecDepth 20000 in
theorem ja_M_leans_55 : jv_at jm_M_leans.2.2.2.2.2.2 55 = some (.iload_n 2, 1, 0, 0, 0, 0, 0) := rfl
set_option maxRecDepth 20000 in
theorem ja_M_leans_56 : jv_at jm_M_leans.2.2.2.2.2.2 56 = some (.invokevirtual 150, 3, 170, 0, 1265, 12, 1) := rfl
set_option maxRecDepth 20000 in
theorem ja_M_leans_59 : jv_at jm_M_leans.2.2.2.2.2.2 59 = some (.ineg, 1, 0, 0, 0, 0, 0) := rfl
set_option maxRecDepth 20000 in
theorem ja_M_leans_60 : jv_at jm_M_leans.2.2.2.2.2.2 60 = some (.ireturn, 1, 0, 0, 0, 0, 0) := rfl
set_option maxRecDepth 20000 in
theorem ja_M_leans_61 : jv_at jm_M_leans.2.2.2.2.2.2 61 = some (.aload_n 0, 1, 0, 0, 0, 0, 0) := rfl
set_option maxRecDepth 20000 in
theorem ja_M_leans_62 : jv_at jm_M_leans.2.2.2.2.2.2 62 = some (.iload_n 2, 1, 0, 0, 0, 0, 0) := rfl
set_option maxRecDepth 20000 in
theorem ja_M_leans_63 : jv_at jm_M_leans.2.2.2.2.2.2 63 = some (.invokevirtual 150, 3, 170, 0, 1265, 12, 1) := rfl
set_option maxRecDepth 20000 in
theorem ja_M_leans_66 : jv_at jm_M_leans.2.2.2.2.2.2 66 = some (.ifCond .ne 7, 3, 73, 0, 0, 0, 0) := rfl
set_option maxRecDepth 20000 in
theorem ja_M_leans_69 : jv_at jm_M_leans.2.2.2.2.2.2 69 = some (.iconst 1, 1, 0, 0, 0, 0, 1) := rfl
set_option maxRecDepth 20000 in
theorem ja_M_leans_70 : jv_at jm_M_leans.2.2.2.2.2.2 70 = some (.goto 4, 3, 74, 0, 0, 0, 0) := rfl
set_option maxRecDepth 20000 in
theorem ja_M_leans_73 : jv_at jm_M_leans.2.2.2.2.2.2 73 = some (.iconst (-1), 1, 0, 0, 0, 0, -1) := rfl
set_option maxRecDepth 20000 in
theorem ja_M_leans_74 : jv_at jm_M_leans.2.2.2.2.2.2 74 = some (.ireturn, 1, 0, 0, 0, 0, 0) := rfl
set_option maxRecDepth 20000 in
theorem ja_M_leans_75 : jv_at jm_M_leans.2.2.2.2.2.2 75 = some (.aload_n 0, 1, 0, 0, 0, 0, 0) := rfl
set_option maxRecDepth 20000 in
theorem ja_M_leans_76 : jv_at jm_M_leans.2.2.2.2.2.2 76 = some (.getfield 7, 3, 12, 1, 1013, 0, 0) := rfl
set_option maxRecDepth 20000 in
theorem ja_M_leans_79 : jv_at jm_M_leans.2.2.2.2.2.2 79 = some (.iload_n 2, 1, 0, 0, 0, 0, 0) := rfl
set_option maxRecDepth 20000 in
theorem ja_M_leans_80 : jv_at jm_M_leans.2.2.2.2.2.2 80 = some (.iaload, 1, 0, 0, 0, 0, 0) := rfl
set_option maxRecDepth 20000 in
theorem ja_M_leans_81 : jv_at jm_M_leans.2.2.2.2.2.2 81 = some (.aload_n 0, 1, 0, 0, 0, 0, 0) := rfl
set_option maxRecDepth 20000 in
theorem ja_M_leans_82 : jv_at jm_M_leans.2.2.2.2.2.2 82 = some (.getfield 7, 3, 12, 1, 1013, 0, 0) := rfl
set_option maxRecDepth 20000 in
theorem ja_M_leans_85 : jv_at jm_M_leans.2.2.2.2.2.2 85 = some (.aload_n 0, 1, 0, 0, 0, 0, 0) := rfl
set_option maxRecDepth 20000 in
theorem ja_M_leans_86 : jv_at jm_M_leans.2.2.2.2.2.2 86 = some (.getfield 48, 3, 12, 21, 1033, 0, 0) := rfl
set_option maxRecDepth 20000 in
theorem ja_M_leans_89 : jv_at jm_M_leans.2.2.2.2.2.2 89 = some (.iload_n 1, 1, 0, 0, 0, 0, 0) := rfl
set_option maxRecDepth 20000 in
theorem ja_M_leans_90 : jv_at jm_M_leans.2.2.2.2.2.2 90 = some (.iaload, 1, 0, 0, 0, 0, 0) := rfl
set_option maxRecDepth 20000 in
theorem ja_M_leans_91 : jv_at jm_M_leans.2.2.2.2.2.2 91 = some (.iaload, 1, 0, 0, 0, 0, 0) := rfl
set_option maxRecDepth 20000 in
theorem ja_M_leans_92 : jv_at jm_M_leans.2.2.2.2.2.2 92 = some (.if_icmp .ne 7, 3, 99, 0, 0, 0, 0) := rfl
set_option maxRecDepth 20000 in
theorem ja_M_leans_95 : jv_at jm_M_leans.2.2.2.2.2.2 95 = some (.iconst 1, 1, 0, 0, 0, 0, 1) := rfl
set_option maxRecDepth 20000 in
theorem ja_M_leans_96 : jv_at jm_M_leans.2.2.2.2.2.2 96 = some (.goto 4, 3, 100, 0, 0, 0, 0) := rfl
set_option maxRecDepth 20000 in
theorem ja_M_leans_99 : jv_at jm_M_leans.2.2.2.2.2.2 99 = some (.iconst (-1), 1, 0, 0, 0, 0, -1) := rfl
set_option maxRecDepth 20000 in
theorem ja_M_leans_100 : jv_at jm_M_leans.2.2.2.2.2.2 100 = some (.ireturn, 1, 0, 0, 0, 0, 0) := rfl
set_option maxRecDepth 20000 in
theorem ja_M_leans_101 : jv_at jm_M_leans.2.2.2.2.2.2 101 = some (.aload_n 0, 1, 0, 0, 0, 0, 0) := rfl
set_option maxRecDepth 20000 in
theorem ja_M_leans_102 : jv_at jm_M_leans.2.2.2.2.2.2 102 = some (.iload_n 1, 1, 0, 0, 0, 0, 0) := rfl
set_option maxRecDepth 20000 in
theorem ja_M_leans_103 : jv_at jm_M_leans.2.2.2.2.2.2 103 = some (.iload_n 2, 1, 0, 0, 0, 0, 0) := rfl
set_option maxRecDepth 20000 in
theorem ja_M_leans_104 : jv_at jm_M_leans.2.2.2.2.2.2 104 = some (.invokevirtual 286, 3, 193, 0, 1357, 12, 2) := rfl
set_option maxRecDepth 20000 in
theorem ja_M_leans_107 : jv_at jm_M_leans.2.2.2.2.2.2 107 = some (.ireturn, 1, 0, 0, 0, 0, 0) := rfl
set_option maxRecDepth 20000 in
theorem ja_M_gain_0 : jv_at jm_M_gain.2.2.2.2.2.2 0 = some (.aload_n 0, 1, 0, 0, 0, 0, 0) := rfl
set_option maxRecDepth 20000 in
theorem ja_M_gain_1 : jv_at jm_M_gain.2.2.2.2.2.2 1 = some (.iload_n 1, 1, 0, 0, 0, 0, 0) := rfl
set_option maxRecDepth 20000 in
theorem ja_M_gain_2 : jv_at jm_M_gain.2.2.2.2.2.2 2 = some (.invokevirtual 280, 3, 194, 0, 1361, 12, 1) := rfl
set_option maxRecDepth 20000 in
theorem ja_M_gain_5 : jv_at jm_M_gain.2.2.2.2.2.2 5 = some (.ifCond .ne 5, 3, 10, 0, 0, 0, 0) := rfl
set_option maxRecDepth 20000 in
theorem ja_M_gain_8 : jv_at jm_M_gain.2.2.2.2.2.2 8 = some (.iconst 0, 1, 0, 0, 0, 0, 0) := rfl
set_option maxRecDepth 20000 in
theorem ja_M_gain_9 : jv_at jm_M_gain.2.2.2.2.2.2 9 = some (.ireturn, 1, 0, 0, 0, 0, 0) := rfl
set_option maxRecDepth 20000 in
theorem ja_M_gain_10 : jv_at jm_M_gain.2.2.2.2.2.2 10 = some (.aload_n 0, 1, 0, 0, 0, 0, 0) := rfl
set_option maxRecDepth 20000 in
theorem ja_M_gain_11 : jv_at jm_M_gain.2.2.2.2.2.2 11 = some (.getfield 45, 3, 12, 20, 1032, 0, 0) := rfl
set_option maxRecDepth 20000 in
theorem ja_M_gain_14 : jv_at jm_M_gain.2.2.2.2.2.2 14 = some (.iload_n 1, 1, 0, 0, 0, 0, 0) := rfl
set_option maxRecDepth 20000 in
theorem ja_M_gain_15 : jv_at jm_M_gain.2.2.2.2.2.2 15 = some (.iaload, 1, 0, 0, 0, 0, 0) := rfl
set_option maxRecDepth 20000 in
theorem ja_M_gain_16 : jv_at jm_M_gain.2.2.2.2.2.2 16 = some (.iconst 2, 1, 0, 0, 0, 0, 2) := rfl
set_option maxRecDepth 20000 in
theorem ja_M_gain_17 : jv_at jm_M_gain.2.2.2.2.2.2 17 = some (.if_icmp .ne 7, 3, 24, 0, 0, 0, 0) := rfl
set_option maxRecDepth 20000 in
theorem ja_M_gain_20 : jv_at jm_M_gain.2.2.2.2.2.2 20 = some (.iconst 0, 1, 0, 0, 0, 0, 0) := rfl
set_option maxRecDepth 20000 in
theorem ja_M_gain_21 : jv_at jm_M_gain.2.2.2.2.2.2 21 = some (.goto 23, 3, 44, 0, 0, 0, 0) := rfl
set_option maxRecDepth 20000 in
theorem ja_M_gain_24 : jv_at jm_M_gain.2.2.2.2.2.2 24 = some (.aload_n 0, 1, 0, 0, 0, 0, 0) := rfl
set_option maxRecDepth 20000 in
theorem ja_M_gain_25 : jv_at jm_M_gain.2.2.2.2.2.2 25 = some (.getfield 13, 3, 12, 2, 1014, 0, 0) := rfl
set_option maxRecDepth 20000 in
theorem ja_M_gain_28 : jv_at jm_M_gain.2.2.2.2.2.2 28 = some (.bipush 61, 2, 0, 0, 0, 0, 61) := rfl
set_option maxRecDepth 20000 in
theorem ja_M_gain_30 : jv_at jm_M_gain.2.2.2.2.2.2 30 = some (.iload_n 2, 1, 0, 0, 0, 0, 0) := rfl
set_option maxRecDepth 20000 in
theorem ja_M_gain_31 : jv_at jm_M_gain.2.2.2.2.2.2 31 = some (.imul, 1, 0, 0, 0, 0, 0) := rfl
set_option maxRecDepth 20000 in
theorem ja_M_gain_32 : jv_at jm_M_gain.2.2.2.2.2.2 32 = some (.aload_n 0, 1, 0, 0, 0, 0, 0) := rfl
set_option maxRecDepth 20000 in
theorem ja_M_gain_33 : jv_at jm_M_gain.2.2.2.2.2.2 33 = some (.getfield 90, 3, 12, 54, 1066, 0, 0) := rfl
set_option maxRecDepth 20000 in
theorem ja_M_gain_36 : jv_at jm_M_gain.2.2.2.2.2.2 36 = some (.aload_n 0, 1, 0, 0, 0, 0, 0) := rfl
set_option maxRecDepth 20000 in
theorem ja_M_gain_37 : jv_at jm_M_gain.2.2.2.2.2.2 37 = some (.iload_n 1, 1, 0, 0, 0, 0, 0) := rfl
set_option maxRecDepth 20000 in
theorem ja_M_gain_38 : jv_at jm_M_gain.2.2.2.2.2.2 38 = some (.invokevirtual 283, 3, 195, 0, 1365, 12, 1) := rfl
set_option maxRecDepth 20000 in
theorem ja_M_gain_41 : jv_at jm_M_gain.2.2.2.2.2.2 41 = some (.iaload, 1, 0, 0, 0, 0, 0) := rfl
set_option maxRecDepth 20000 in
theorem ja_M_gain_42 : jv_at jm_M_gain.2.2.2.2.2.2 42 = some (.iadd, 1, 0, 0, 0, 0, 0) := rfl
set_option maxRecDepth 20000 in
theorem ja_M_gain_43 : jv_at jm_M_gain.2.2.2.2.2.2 43 = some (.iaload, 1, 0, 0, 0, 0, 0) := rfl
set_option maxRecDepth 20000 in
theorem ja_M_gain_44 : jv_at jm_M_gain.2.2.2.2.2.2 44 = some (.istore_n 3, 1, 0, 0, 0, 0, 0) := rfl
set_option maxRecDepth 20000 in
theorem ja_M_gain_45 : jv_at jm_M_gain.2.2.2.2.2.2 45 = some (.aload_n 0, 1, 0, 0, 0, 0, 0) := rfl
set_option maxRecDepth 20000 in
theorem ja_M_gain_46 : jv_at jm_M_gain.2.2.2.2.2.2 46 = some (.getfield 45, 3, 12, 20, 1032, 0, 0) := rfl
set_option maxRecDepth 20000 in
theorem ja_M_gain_49 : jv_at jm_M_gain.2.2.2.2.2.2 49 = some (.iload_n 1, 1, 0, 0, 0, 0, 0) := rfl
set_option maxRecDepth 20000 in
theorem ja_M_gain_50 : jv_at jm_M_gain.2.2.2.2.2.2 50 = some (.iaload, 1, 0, 0, 0, 0, 0) := rfl
set_option maxRecDepth 20000 in
theorem ja_M_gain_51 : jv_at jm_M_gain.2.2.2.2.2.2 51 = some (.iconst 1, 1, 0, 0, 0, 0, 1) := rfl
set_option maxRecDepth 20000 in
theorem ja_M_gain_52 : jv_at jm_M_gain.2.2.2.2.2.2 52 = some (.if_icmp .ne 7, 3, 59, 0, 0, 0, 0) := rfl
set_option maxRecDepth 20000 in
theorem ja_M_gain_55 : jv_at jm_M_gain.2.2.2.2.2.2 55 = some (.iconst 0, 1, 0, 0, 0, 0, 0) := rfl
set_option maxRecDepth 20000 in
theorem ja_M_gain_56 : jv_at jm_M_gain.2.2.2.2.2.2 56 = some (.goto 19, 3, 75, 0, 0, 0, 0) := rfl
set_option maxRecDepth 20000 in
theorem ja_M_gain_59 : jv_at jm_M_gain.2.2.2.2.2.2 59 = some (.aload_n 0, 1, 0, 0, 0, 0, 0) := rfl
set_option maxRecDepth 20000 in
theorem ja_M_gain_60 : jv_at jm_M_gain.2.2.2.2.2.2 60 = some (.getfield 13, 3, 12, 2, 1014, 0, 0) := rfl
set_option maxRecDepth 20000 in
theorem ja_M_gain_63 : jv_at jm_M_gain.2.2.2.2.2.2 63 = some (.bipush 61, 2, 0, 0, 0, 0, 61) := rfl
set_option maxRecDepth 20000 in
theorem ja_M_gain_65 : jv_at jm_M_gain.2.2.2.2.2.2 65 = some (.iload_n 2, 1, 0, 0, 0, 0, 0) := rfl
set_option maxRecDepth 20000 in
theorem ja_M_gain_66 : jv_at jm_M_gain.2.2.2.2.2.2 66 = some (.imul, 1, 0, 0, 0, 0, 0) := rfl
set_option maxRecDepth 20000 in
theorem ja_M_gain_67 : jv_at jm_M_gain.2.2.2.2.2.2 67 = some (.aload_n 0, 1, 0, 0, 0, 0, 0) := rfl
set_option maxRecDepth 20000 in
theorem ja_M_gain_68 : jv_at jm_M_gain.2.2.2.2.2.2 68 = some (.getfield 54, 3, 12, 23, 1035, 0, 0) := rfl
set_option maxRecDepth 20000 in
theorem ja_M_gain_71 : jv_at jm_M_gain.2.2.2.2.2.2 71 = some (.iload_n 1, 1, 0, 0, 0, 0, 0) := rfl
set_option maxRecDepth 20000 in
theorem ja_M_gain_72 : jv_at jm_M_gain.2.2.2.2.2.2 72 = some (.iaload, 1, 0, 0, 0, 0, 0) := rfl
set_option maxRecDepth 20000 in
theorem ja_M_gain_73 : jv_at jm_M_gain.2.2.2.2.2.2 73 = some (.iadd, 1, 0, 0, 0, 0, 0) := rfl
set_option maxRecDepth 20000 in
theorem ja_M_gain_74 : jv_at jm_M_gain.2.2.2.2.2.2 74 = some (.iaload, 1, 0, 0, 0, 0, 0) := rfl
set_option maxRecDepth 20000 in
theorem ja_M_gain_75 : jv_at jm_M_gain.2.2.2.2.2.2 75 = some (.istore 4, 2, 0, 0, 0, 0, 0) := rfl
set_option maxRecDepth 20000 in
theorem ja_M_gain_77 : jv_at jm_M_gain.2.2.2.2.2.2 77 = some (.iload 4, 2, 0, 0, 0, 0, 0) := rfl
set_option maxRecDepth 20000 in
theorem ja_M_gain_79 : jv_at jm_M_gain.2.2.2.2.2.2 79 = some (.iload_n 3, 1, 0, 0, 0, 0, 0) := rfl
set_option maxRecDepth 20000 in
theorem ja_M_gain_80 : jv_at jm_M_gain.2.2.2.2.2.2 80 = some (.isub, 1, 0, 0, 0, 0, 0) := rfl
set_option maxRecDepth 20000 in
theorem ja_M_gain_81 : jv_at jm_M_gain.2.2.2.2.2.2 81 = some (.ireturn, 1, 0, 0, 0, 0, 0) := rfl
set_option maxRecDepth 20000 in
theorem ja_M_isDoable_0 : jv_at jm_M_isDoable.2.2.2.2.2.2 0 = some (.aload_n 0, 1, 0, 0, 0, 0, 0) := rfl
set_option maxRecDepth 20000 in
theorem ja_M_isDoable_1 : jv_at jm_M_isDoable.2.2.2.2.2.2 1 = some (.getfield 51, 3, 12, 22, 1034, 0, 0) := rfl
set_option maxRecDepth 20000 in
theorem ja_M_isDoable_4 : jv_at jm_M_isDoable.2.2.2.2.2.2 4 = some (.iload_n 1, 1, 0, 0, 0, 0, 0) := rfl
set_option maxRecDepth 20000 in
theorem ja_M_isDoable_5 : jv_at jm_M_isDoable.2.2.2.2.2.2 5 = some (.iaload, 1, 0, 0, 0, 0, 0) := rfl
set_option maxRecDepth 20000 in
theorem ja_M_isDoable_6 : jv_at jm_M_isDoable.2.2.2.2.2.2 6 = some (.iconst (-1), 1, 0, 0, 0, 0, -1) := rfl
set_option maxRecDepth 20000 in
theorem ja_M_isDoable_7 : jv_at jm_M_isDoable.2.2.2.2.2.2 7 = some (.if_icmp .eq 26, 3, 33, 0, 0, 0, 0) := rfl
set_option maxRecDepth 20000 in
theorem ja_M_isDoable_10 : jv_at jm_M_isDoable.2.2.2.2.2.2 10 = some (.aload_n 0, 1, 0, 0, 0, 0, 0) := rfl
set_option maxRecDepth 20000 in
theorem ja_M_isDoable_11 : jv_at jm_M_isDoable.2.2.2.2.2.2 11 = some (.getfield 45, 3, 12, 20, 1032, 0, 0) := rfl
set_option maxRecDepth 20000 in
theorem ja_M_isDoable_14 : jv_at jm_M_isDoable.2.2.2.2.2.2 14 = some (.iload_n 1, 1, 0, 0, 0, 0, 0) := rfl
set_option maxRecDepth 20000 in
theorem ja_M_isDoable_15 : jv_at jm_M_isDoable.2.2.2.2.2.2 15 = some (.iaload, 1, 0, 0, 0, 0, 0) := rfl
set_option maxRecDepth 20000 in
theorem ja_M_isDoable_16 : jv_at jm_M_isDoable.2.2.2.2.2.2 16 = some (.iconst 2, 1, 0, 0, 0, 0, 2) := rfl
set_option maxRecDepth 20000 in
theorem ja_M_isDoable_17 : jv_at jm_M_isDoable.2.2.2.2.2.2 17 = some (.if_icmp .ne 12, 3, 29, 0, 0, 0, 0) := rfl
set_option maxRecDepth 20000 in
theorem ja_M_isDoable_20 : jv_at jm_M_isDoable.2.2.2.2.2.2 20 = some (.aload_n 0, 1, 0, 0, 0, 0, 0) := rfl
set_option maxRecDepth 20000 in
theorem ja_M_isDoable_21 : jv_at jm_M_isDoable.2.2.2.2.2.2 21 = some (.getfield 277, 3, 12, 53, 1065, 0, 0) := rfl
set_option maxRecDepth 20000 in
theorem ja_M_isDoable_24 : jv_at jm_M_isDoable.2.2.2.2.2.2 24 = some (.bipush 10, 2, 0, 0, 0, 0, 10) := rfl
set_option maxRecDepth 20000 in
theorem ja_M_isDoable_26 : jv_at jm_M_isDoable.2.2.2.2.2.2 26 = some (.if_icmp .ge 7, 3, 33, 0, 0, 0, 0) := rfl
set_option maxRecDepth 20000 in
theorem ja_M_isDoable_29 : jv_at jm_M_isDoable.2.2.2.2.2.2 29 = some (.iconst 1, 1, 0, 0, 0, 0, 1) := rfl
set_option maxRecDepth 20000 in
theorem ja_M_isDoable_30 : jv_at jm_M_isDoable.2.2.2.2.2.2 30 = some (.goto 4, 3, 34, 0, 0, 0, 0) := rfl
set_option maxRecDepth 20000 in
theorem ja_M_isDoable_33 : jv_at jm_M_isDoable.2.2.2.2.2.2 33 = some (.iconst 0, 1, 0, 0, 0, 0, 0) := rfl
set_option maxRecDepth 20000 in
theorem ja_M_isDoable_34 : jv_at jm_M_isDoable.2.2.2.2.2.2 34 = some (.ireturn, 1, 0, 0, 0, 0, 0) := rfl
set_option maxRecDepth 20000 in
theorem ja_M_sectionOf_0 : jv_at jm_M_sectionOf.2.2.2.2.2.2 0 = some (.aload_n 0, 1, 0, 0, 0, 0, 0) := rfl
set_option maxRecDepth 20000 in
theorem ja_M_sectionOf_1 : jv_at jm_M_sectionOf.2.2.2.2.2.2 1 = some (.getfield 57, 3, 12, 24, 1036, 0, 0) := rfl
set_option maxRecDepth 20000 in
theorem ja_M_sectionOf_4 : jv_at jm_M_sectionOf.2.2.2.2.2.2 4 = some (.iload_n 1, 1, 0, 0, 0, 0, 0) := rfl
set_option maxRecDepth 20000 in
theorem ja_M_sectionOf_5 : jv_at jm_M_sectionOf.2.2.2.2.2.2 5 = some (.baload, 1, 0, 0, 0, 0, 0) := rfl
set_option maxRecDepth 20000 in
theorem ja_M_sectionOf_6 : jv_at jm_M_sectionOf.2.2.2.2.2.2 6 = some (.ifCond .eq 10, 3, 16, 0, 0, 0, 0) := rfl
set_option maxRecDepth 20000 in
theorem ja_M_sectionOf_9 : jv_at jm_M_sectionOf.2.2.2.2.2.2 9 = some (.aload_n 0, 1, 0, 0, 0, 0, 0) := rfl
set_option maxRecDepth 20000 in
theorem ja_M_sectionOf_10 : jv_at jm_M_sectionOf.2.2.2.2.2.2 10 = some (.getfield 277, 3, 12, 53, 1065, 0, 0) := rfl
set_option maxRecDepth 20000 in
theorem ja_M_sectionOf_13 : jv_at jm_M_sectionOf.2.2.2.2.2.2 13 = some (.goto 9, 3, 22, 0, 0, 0, 0) := rfl
set_option maxRecDepth 20000 in
theorem ja_M_sectionOf_16 : jv_at jm_M_sectionOf.2.2.2.2.2.2 16 = some (.aload_n 0, 1, 0, 0, 0, 0, 0) := rfl
set_option maxRecDepth 20000 in
theorem ja_M_sectionOf_17 : jv_at jm_M_sectionOf.2.2.2.2.2.2 17 = some (.getfield 51, 3, 12, 22, 1034, 0, 0) := rfl
set_option maxRecDepth 20000 in
theorem ja_M_sectionOf_20 : jv_at jm_M_sectionOf.2.2.2.2.2.2 20 = some (.iload_n 1, 1, 0, 0, 0, 0, 0) := rfl
set_option maxRecDepth 20000 in
theorem ja_M_sectionOf_21 : jv_at jm_M_sectionOf.2.2.2.2.2.2 21 = some (.iaload, 1, 0, 0, 0, 0, 0) := rfl
set_option maxRecDepth 20000 in
theorem ja_M_sectionOf_22 : jv_at jm_M_sectionOf.2.2.2.2.2.2 22 = some (.ireturn, 1, 0, 0, 0, 0, 0) := rfl
set_option maxRecDepth 20000 in
theorem ja_M_carries_0 : jv_at jm_M_carries.2.2.2.2.2.2 0 = some (.aload_n 0, 1, 0, 0, 0, 0, 0) := rfl
set_option maxRecDepth 20000 in
theorem ja_M_carries_1 : jv_at jm_M_carries.2.2.2.2.2.2 1 = some (.getfield 45, 3, 12, 20, 1032, 0, 0) := rfl
set_option maxRecDepth 20000 in
theorem ja_M_carries_4 : jv_at jm_M_carries.2.2.2.2.2.2 4 = some (.iload_n 1, 1, 0, 0, 0, 0, 0) := rfl
set_option maxRecDepth 20000 in
theorem ja_M_carries_5 : jv_at jm_M_carries.2.2.2.2.2.2 5 = some (.iaload, 1, 0, 0, 0, 0, 0) := rfl
set_option maxRecDepth 20000 in
theorem ja_M_carries_6 : jv_at jm_M_carries.2.2.2.2.2.2 6 = some (.tableswitch 79 0 6 #[42, 79, 79, 79, 50, 58, 66], 42, 0, 0, 0, 0, 0) := rfl
set_option maxRecDepth 20000 in
theorem ja_M_carries_48 : jv_at jm_M_carries.2.2.2.2.2.2 48 = some (.aload_n 0, 1, 0, 0, 0, 0, 0) := rfl
set_option maxRecDepth 20000 in
theorem ja_M_carries_49 : jv_at jm_M_carries.2.2.2.2.2.2 49 = some (.iconst 3, 1, 0, 0, 0, 0, 3) := rfl
set_option maxRecDepth 20000 in
theorem ja_M_carries_50 : jv_at jm_M_carries.2.2.2.2.2.2 50 = some (.invokevirtual 317, 3, 197, 0, 1373, 12, 1) := rfl
set_option maxRecDepth 20000 in
theorem ja_M_carries_53 : jv_at jm_M_carries.2.2.2.2.2.2 53 = some (.goto 139, 3, 192, 0, 0, 0, 0) := rfl
set_option maxRecDepth 20000 in
theorem ja_M_carries_56 : jv_at jm_M_carries.2.2.2.2.2.2 56 = some (.aload_n 0, 1, 0, 0, 0, 0, 0) := rfl
set_option maxRecDepth 20000 in
theorem ja_M_carries_57 : jv_at jm_M_carries.2.2.2.2.2.2 57 = some (.iconst 4, 1, 0, 0, 0, 0, 4) := rfl
set_option maxRecDepth 20000 in
theorem ja_M_carries_58 : jv_at jm_M_carries.2.2.2.2.2.2 58 = some (.invokevirtual 317, 3, 197, 0, 1373, 12, 1) := rfl
set_option maxRecDepth 20000 in
theorem ja_M_carries_61 : jv_at jm_M_carries.2.2.2.2.2.2 61 = some (.goto 131, 3, 192, 0, 0, 0, 0) := rfl
set_option maxRecDepth 20000 in
theorem ja_M_carries_64 : jv_at jm_M_carries.2.2.2.2.2.2 64 = some (.aload_n 0, 1, 0, 0, 0, 0, 0) := rfl
set_option maxRecDepth 20000 in
theorem ja_M_carries_65 : jv_at jm_M_carries.2.2.2.2.2.2 65 = some (.iconst 0, 1, 0, 0, 0, 0, 0) := rfl
set_option maxRecDepth 20000 in
theorem ja_M_carries_66 : jv_at jm_M_carries.2.2.2.2.2.2 66 = some (.invokevirtual 317, 3, 197, 0, 1373, 12, 1) := rfl
set_option maxRecDepth 20000 in
theorem ja_M_carries_69 : jv_at jm_M_carries.2.2.2.2.2.2 69 = some (.goto 123, 3, 192, 0, 0, 0, 0) := rfl
set_option maxRecDepth 20000 in
theorem ja_M_carries_72 : jv_at jm_M_carries.2.2.2.2.2.2 72 = some (.aload_n 0, 1, 0, 0, 0, 0, 0) := rfl
set_option maxRecDepth 20000 in
theorem ja_M_carries_73 : jv_at jm_M_carries.2.2.2.2.2.2 73 = some (.aload_n 0, 1, 0, 0, 0, 0, 0) := rfl
set_option maxRecDepth 20000 in
theorem ja_M_carries_74 : jv_at jm_M_carries.2.2.2.2.2.2 74 = some (.getfield 54, 3, 12, 23, 1035, 0, 0) := rfl
set_option maxRecDepth 20000 in
theorem ja_M_carries_77 : jv_at jm_M_carries.2.2.2.2.2.2 77 = some (.iload_n 1, 1, 0, 0, 0, 0, 0) := rfl
set_option maxRecDepth 20000 in
theorem ja_M_carries_78 : jv_at jm_M_carries.2.2.2.2.2.2 78 = some (.iaload, 1, 0, 0, 0, 0, 0) := rfl
set_option maxRecDepth 20000 in
theorem ja_M_carries_79 : jv_at jm_M_carries.2.2.2.2.2.2 79 = some (.putfield 274, 3, 12, 15, 1027, 0, 0) := rfl
set_option maxRecDepth 20000 in
theorem ja_M_carries_82 : jv_at jm_M_carries.2.2.2.2.2.2 82 = some (.goto 110, 3, 192, 0, 0, 0, 0) := rfl
set_option maxRecDepth 20000 in
theorem ja_M_carries_85 : jv_at jm_M_carries.2.2.2.2.2.2 85 = some (.aload_n 0, 1, 0, 0, 0, 0, 0) := rfl
set_option maxRecDepth 20000 in
theorem ja_M_carries_86 : jv_at jm_M_carries.2.2.2.2.2.2 86 = some (.iload_n 1, 1, 0, 0, 0, 0, 0) := rfl
set_option maxRecDepth 20000 in
theorem ja_M_carries_87 : jv_at jm_M_carries.2.2.2.2.2.2 87 = some (.invokevirtual 280, 3, 194, 0, 1361, 12, 1) := rfl
set_option maxRecDepth 20000 in
theorem ja_M_carries_90 : jv_at jm_M_carries.2.2.2.2.2.2 90 = some (.ifCond .eq 102, 3, 192, 0, 0, 0, 0) := rfl
set_option maxRecDepth 20000 in
theorem ja_M_carries_93 : jv_at jm_M_carries.2.2.2.2.2.2 93 = some (.aload_n 0, 1, 0, 0, 0, 0, 0) := rfl
set_option maxRecDepth 20000 in
theorem ja_M_carries_94 : jv_at jm_M_carries.2.2.2.2.2.2 94 = some (.iload_n 1, 1, 0, 0, 0, 0, 0) := rfl
set_option maxRecDepth 20000 in
theorem ja_M_carries_95 : jv_at jm_M_carries.2.2.2.2.2.2 95 = some (.invokevirtual 283, 3, 195, 0, 1365, 12, 1) := rfl
set_option maxRecDepth 20000 in
theorem ja_M_carries_98 : jv_at jm_M_carries.2.2.2.2.2.2 98 = some (.istore_n 2, 1, 0, 0, 0, 0, 0) := rfl
set_option maxRecDepth 20000 in
theorem ja_M_carries_99 : jv_at jm_M_carries.2.2.2.2.2.2 99 = some (.aload_n 0, 1, 0, 0, 0, 0, 0) := rfl
set_option maxRecDepth 20000 in
theorem ja_M_carries_100 : jv_at jm_M_carries.2.2.2.2.2.2 100 = some (.iload_n 1, 1, 0, 0, 0, 0, 0) := rfl
set_option maxRecDepth 20000 in
theorem ja_M_carries_101 : jv_at jm_M_carries.2.2.2.2.2.2 101 = some (.invokevirtual 320, 3, 198, 0, 1377, 12, 1) := rfl
set_option maxRecDepth 20000 in
theorem ja_M_carries_104 : jv_at jm_M_carries.2.2.2.2.2.2 104 = some (.aload_n 0, 1, 0, 0, 0, 0, 0) := rfl
set_option maxRecDepth 20000 in
theorem ja_M_carries_105 : jv_at jm_M_carries.2.2.2.2.2.2 105 = some (.getfield 29, 3, 12, 8, 1020, 0, 0) := rfl
set_option maxRecDepth 20000 in
theorem ja_M_carries_108 : jv_at jm_M_carries.2.2.2.2.2.2 108 = some (.aload_n 0, 1, 0, 0, 0, 0, 0) := rfl
set_option maxRecDepth 20000 in
theorem ja_M_carries_109 : jv_at jm_M_carries.2.2.2.2.2.2 109 = some (.getfield 41, 3, 12, 13, 1025, 0, 0) := rfl
set_option maxRecDepth 20000 in
theorem ja_M_carries_112 : jv_at jm_M_carries.2.2.2.2.2.2 112 = some (.aload_n 0, 1, 0, 0, 0, 0, 0) := rfl
set_option maxRecDepth 20000 in
theorem ja_M_carries_113 : jv_at jm_M_carries.2.2.2.2.2.2 113 = some (.getfield 277, 3, 12, 53, 1065, 0, 0) := rfl
set_option maxRecDepth 20000 in
theorem ja_M_carries_116 : jv_at jm_M_carries.2.2.2.2.2.2 116 = some (.iastore, 1, 0, 0, 0, 0, 0) := rfl
set_option maxRecDepth 20000 in
theorem ja_M_carries_117 : jv_at jm_M_carries.2.2.2.2.2.2 117 = some (.iconst 0, 1, 0, 0, 0, 0, 0) := rfl
set_option maxRecDepth 20000 in
theorem ja_M_carries_118 : jv_at jm_M_carries.2.2.2.2.2.2 118 = some (.istore_n 3, 1, 0, 0, 0, 0, 0) := rfl
set_option maxRecDepth 20000 in
theorem ja_M_carries_119 : jv_at jm_M_carries.2.2.2.2.2.2 119 = some (.iload_n 3, 1, 0, 0, 0, 0, 0) := rfl
set_option maxRecDepth 20000 in
theorem ja_M_carries_120 : jv_at jm_M_carries.2.2.2.2.2.2 120 = some (.aload_n 0, 1, 0, 0, 0, 0, 0) := rfl
set_option maxRecDepth 20000 in
theorem ja_M_carries_121 : jv_at jm_M_carries.2.2.2.2.2.2 121 = some (.getfield 277, 3, 12, 53, 1065, 0, 0) := rfl
set_option maxRecDepth 20000 in
theorem ja_M_carries_124 : jv_at jm_M_carries.2.2.2.2.2.2 124 = some (.if_icmp .ge 29, 3, 153, 0, 0, 0, 0) := rfl
set_option maxRecDepth 20000 in
theorem ja_M_carries_127 : jv_at jm_M_carries.2.2.2.2.2.2 127 = some (.aload_n 0, 1, 0, 0, 0, 0, 0) := rfl
set_option maxRecDepth 20000 in
theorem ja_M_carries_128 : jv_at jm_M_carries.2.2.2.2.2.2 128 = some (.getfield 32, 3, 12, 9, 1021, 0, 0) := rfl
set_option maxRecDepth 20000 in
theorem ja_M_carries_131 : jv_at jm_M_carries.2.2.2.2.2.2 131 = some (.bipush 10, 2, 0, 0, 0, 0, 10) := rfl
set_option maxRecDepth 20000 in
theorem ja_M_carries_133 : jv_at jm_M_carries.2.2.2.2.2.2 133 = some (.aload_n 0, 1, 0, 0, 0, 0, 0) := rfl
set_option maxRecDepth 20000 in
theorem ja_M_carries_134 : jv_at jm_M_carries.2.2.2.2.2.2 134 = some (.getfield 41, 3, 12, 13, 1025, 0, 0) := rfl
set_option maxRecDepth 20000 in
theorem ja_M_carries_137 : jv_at jm_M_carries.2.2.2.2.2.2 137 = some (.imul, 1, 0, 0, 0, 0, 0) := rfl
set_option maxRecDepth 20000 in
theorem ja_M_carries_138 : jv_at jm_M_carries.2.2.2.2.2.2 138 = some (.iload_n 3, 1, 0, 0, 0, 0, 0) := rfl
set_option maxRecDepth 20000 in
theorem ja_M_carries_139 : jv_at jm_M_carries.2.2.2.2.2.2 139 = some (.iadd, 1, 0, 0, 0, 0, 0) := rfl
set_option maxRecDepth 20000 in
theorem ja_M_carries_140 : jv_at jm_M_carries.2.2.2.2.2.2 140 = some (.aload_n 0, 1, 0, 0, 0, 0, 0) := rfl
set_option maxRecDepth 20000 in
theorem ja_M_carries_141 : jv_at jm_M_carries.2.2.2.2.2.2 141 = some (.getfield 90, 3, 12, 54, 1066, 0, 0) := rfl
set_option maxRecDepth 20000 in
theorem ja_M_carries_144 : jv_at jm_M_carries.2.2.2.2.2.2 144 = some (.iload_n 3, 1, 0, 0, 0, 0, 0) := rfl
set_option maxRecDepth 20000 in
theorem ja_M_carries_145 : jv_at jm_M_carries.2.2.2.2.2.2 145 = some (.iaload, 1, 0, 0, 0, 0, 0) := rfl
set_option maxRecDepth 20000 in
theorem ja_M_carries_146 : jv_at jm_M_carries.2.2.2.2.2.2 146 = some (.iastore, 1, 0, 0, 0, 0, 0) := rfl
set_option maxRecDepth 20000 in
theorem ja_M_carries_147 : jv_at jm_M_carries.2.2.2.2.2.2 147 = some (.iinc 3 1, 3, 0, 0, 0, 0, 0) := rfl
set_option maxRecDepth 20000 in
theorem ja_M_carries_150 : jv_at jm_M_carries.2.2.2.2.2.2 150 = some (.goto (-31), 3, 119, 0, 0, 0, 0) := rfl
set_option maxRecDepth 20000 in
theorem ja_M_carries_153 : jv_at jm_M_carries.2.2.2.2.2.2 153 = some (.iconst 0, 1, 0, 0, 0, 0, 0) := rfl
set_option maxRecDepth 20000 in
theorem ja_M_carries_154 : jv_at jm_M_carries.2.2.2.2.2.2 154 = some (.istore_n 3, 1, 0, 0, 0, 0, 0) := rfl
set_option maxRecDepth 20000 in
theorem ja_M_carries_155 : jv_at jm_M_carries.2.2.2.2.2.2 155 = some (.iload_n 3, 1, 0, 0, 0, 0, 0) := rfl
set_option maxRecDepth 20000 in
theorem ja_M_carries_156 : jv_at jm_M_carries.2.2.2.2.2.2 156 = some (.aload_n 0, 1, 0, 0, 0, 0, 0) := rfl
set_option maxRecDepth 20000 in
theorem ja_M_carries_157 : jv_at jm_M_carries.2.2.2.2.2.2 157 = some (.getfield 267, 3, 12, 18, 1030, 0, 0) := rfl
set_option maxRecDepth 20000 in
theorem ja_M_carries_160 : jv_at jm_M_carries.2.2.2.2.2.2 160 = some (.if_icmp .ge 27, 3, 187, 0, 0, 0, 0) := rfl
set_option maxRecDepth 20000 in
theorem ja_M_carries_163 : jv_at jm_M_carries.2.2.2.2.2.2 163 = some (.aload_n 0, 1, 0, 0, 0, 0, 0) := rfl
set_option maxRecDepth 20000 in
theorem ja_M_carries_164 : jv_at jm_M_carries.2.2.2.2.2.2 164 = some (.iload_n 3, 1, 0, 0, 0, 0, 0) := rfl
set_option maxRecDepth 20000 in
theorem ja_M_carries_165 : jv_at jm_M_carries.2.2.2.2.2.2 165 = some (.aload_n 0, 1, 0, 0, 0, 0, 0) := rfl
set_option maxRecDepth 20000 in
theorem ja_M_carries_166 : jv_at jm_M_carries.2.2.2.2.2.2 166 = some (.getfield 45, 3, 12, 20, 1032, 0, 0) := rfl
set_option maxRecDepth 20000 in
theorem ja_M_carries_169 : jv_at jm_M_carries.2.2.2.2.2.2 169 = some (.iload_n 1, 1, 0, 0, 0, 0, 0) := rfl
set_option maxRecDepth 20000 in
theorem ja_M_carries_170 : jv_at jm_M_carries.2.2.2.2.2.2 170 = some (.iaload, 1, 0, 0, 0, 0, 0) := rfl
set_option maxRecDepth 20000 in
theorem ja_M_carries_171 : jv_at jm_M_carries.2.2.2.2.2.2 171 = some (.iload_n 2, 1, 0, 0, 0, 0, 0) := rfl
set_option maxRecDepth 20000 in
theorem ja_M_carries_172 : jv_at jm_M_carries.2.2.2.2.2.2 172 = some (.aload_n 0, 1, 0, 0, 0, 0, 0) := rfl
set_option maxRecDepth 20000 in
theorem ja_M_carries_173 : jv_at jm_M_carries.2.2.2.2.2.2 173 = some (.getfield 57, 3, 12, 24, 1036, 0, 0) := rfl
set_option maxRecDepth 20000 in
theorem ja_M_carries_176 : jv_at jm_M_carries.2.2.2.2.2.2 176 = some (.iload_n 1, 1, 0, 0, 0, 0, 0) := rfl
set_option maxRecDepth 20000 in
theorem ja_M_carries_177 : jv_at jm_M_carries.2.2.2.2.2.2 177 = some (.baload, 1, 0, 0, 0, 0, 0) := rfl
set_option maxRecDepth 20000 in
theorem ja_M_carries_178 : jv_at jm_M_carries.2.2.2.2.2.2 178 = some (.invokevirtual 323, 3, 199, 0, 1381, 12, 4) := rfl
set_option maxRecDepth 20000 in
theorem ja_M_carries_181 : jv_at jm_M_carries.2.2.2.2.2.2 181 = some (.iinc 3 1, 3, 0, 0, 0, 0, 0) := rfl
set_option maxRecDepth 20000 in
theorem ja_M_carries_184 : jv_at jm_M_carries.2.2.2.2.2.2 184 = some (.goto (-29), 3, 155, 0, 0, 0, 0) := rfl
set_option maxRecDepth 20000 in
theorem ja_M_carries_187 : jv_at jm_M_carries.2.2.2.2.2.2 187 = some (.aload_n 0, 1, 0, 0, 0, 0, 0) := rfl
set_option maxRecDepth 20000 in
theorem ja_M_carries_188 : jv_at jm_M_carries.2.2.2.2.2.2 188 = some (.iconst 0, 1, 0, 0, 0, 0, 0) := rfl
set_option maxRecDepth 20000 in
theorem ja_M_carries_189 : jv_at jm_M_carries.2.2.2.2.2.2 189 = some (.putfield 314, 3, 12, 19, 1031, 0, 0) := rfl
set_option maxRecDepth 20000 in
theorem ja_M_carries_192 : jv_at jm_M_carries.2.2.2.2.2.2 192 = some (.return_, 1, 0, 0, 0, 0, 0) := rfl
set_option maxRecDepth 20000 in
theorem ja_M_isUpNoMore_0 : jv_at jm_M_isUpNoMore.2.2.2.2.2.2 0 = some (.aload_n 0, 1, 0, 0, 0, 0, 0) := rfl
set_option maxRecDepth 20000 in
theorem ja_M_isUpNoMore_1 : jv_at jm_M_isUpNoMore.2.2.2.2.2.2 1 = some (.getfield 26, 3, 12, 7, 1019, 0, 0) := rfl
set_option maxRecDepth 20000 in
theorem ja_M_isUpNoMore_4 : jv_at jm_M_isUpNoMore.2.2.2.2.2.2 4 = some (.aload_n 0, 1, 0, 0, 0, 0, 0) := rfl
set_option maxRecDepth 20000 in
theorem ja_M_isUpNoMore_5 : jv_at jm_M_isUpNoMore.2.2.2.2.2.2 5 = some (.getfield 41, 3, 12, 13, 1025, 0, 0) := rfl
set_option maxRecDepth 20000 in
theorem ja_M_isUpNoMore_8 : jv_at jm_M_isUpNoMore.2.2.2.2.2.2 8 = some (.iload_n 1, 1, 0, 0, 0, 0, 0) := rfl
set_option maxRecDepth 20000 in
theorem ja_M_isUpNoMore_9 : jv_at jm_M_isUpNoMore.2.2.2.2.2.2 9 = some (.iastore, 1, 0, 0, 0, 0, 0) := rfl
set_option maxRecDepth 20000 in
theorem ja_M_isUpNoMore_10 : jv_at jm_M_isUpNoMore.2.2.2.2.2.2 10 = some (.aload_n 0, 1, 0, 0, 0, 0, 0) := rfl
set_option maxRecDepth 20000 in
theorem ja_M_isUpNoMore_11 : jv_at jm_M_isUpNoMore.2.2.2.2.2.2 11 = some (.getfield 35, 3, 12, 10, 1022, 0, 0) := rfl
set_option maxRecDepth 20000 in
theorem ja_M_isUpNoMore_14 : jv_at jm_M_isUpNoMore.2.2.2.2.2.2 14 = some (.aload_n 0, 1, 0, 0, 0, 0, 0) := rfl
set_option maxRecDepth 20000 in
theorem ja_M_isUpNoMore_15 : jv_at jm_M_isUpNoMore.2.2.2.2.2.2 15 = some (.getfield 41, 3, 12, 13, 1025, 0, 0) := rfl
set_option maxRecDepth 20000 in
theorem ja_M_isUpNoMore_18 : jv_at jm_M_isUpNoMore.2.2.2.2.2.2 18 = some (.iload_n 1, 1, 0, 0, 0, 0, 0) := rfl
set_option maxRecDepth 20000 in
theorem ja_M_isUpNoMore_19 : jv_at jm_M_isUpNoMore.2.2.2.2.2.2 19 = some (.ifCond .ne 7, 3, 26, 0, 0, 0, 0) := rfl
set_option maxRecDepth 20000 in
theorem ja_M_isUpNoMore_22 : jv_at jm_M_isUpNoMore.2.2.2.2.2.2 22 = some (.iconst 0, 1, 0, 0, 0, 0, 0) := rfl
set_option maxRecDepth 20000 in
theorem ja_M_isUpNoMore_23 : jv_at jm_M_isUpNoMore.2.2.2.2.2.2 23 = some (.goto 12, 3, 35, 0, 0, 0, 0) := rfl
set_option maxRecDepth 20000 in
theorem ja_M_isUpNoMore_26 : jv_at jm_M_isUpNoMore.2.2.2.2.2.2 26 = some (.aload_n 0, 1, 0, 0, 0, 0, 0) := rfl
set_option maxRecDepth 20000 in
theorem ja_M_isUpNoMore_27 : jv_at jm_M_isUpNoMore.2.2.2.2.2.2 27 = some (.getfield 35, 3, 12, 10, 1022, 0, 0) := rfl
set_option maxRecDepth 20000 in
theorem ja_M_isUpNoMore_30 : jv_at jm_M_isUpNoMore.2.2.2.2.2.2 30 = some (.aload_n 0, 1, 0, 0, 0, 0, 0) := rfl
set_option maxRecDepth 20000 in
theorem ja_M_isUpNoMore_31 : jv_at jm_M_isUpNoMore.2.2.2.2.2.2 31 = some (.getfield 41, 3, 12, 13, 1025, 0, 0) := rfl
set_option maxRecDepth 20000 in
theorem ja_M_isUpNoMore_34 : jv_at jm_M_isUpNoMore.2.2.2.2.2.2 34 = some (.iaload, 1, 0, 0, 0, 0, 0) := rfl
set_option maxRecDepth 20000 in
theorem ja_M_isUpNoMore_35 : jv_at jm_M_isUpNoMore.2.2.2.2.2.2 35 = some (.iastore, 1, 0, 0, 0, 0, 0) := rfl
set_option maxRecDepth 20000 in
theorem ja_M_isUpNoMore_36 : jv_at jm_M_isUpNoMore.2.2.2.2.2.2 36 = some (.aload_n 0, 1, 0, 0, 0, 0, 0) := rfl
set_option maxRecDepth 20000 in
theorem ja_M_isUpNoMore_37 : jv_at jm_M_isUpNoMore.2.2.2.2.2.2 37 = some (.iconst (-1), 1, 0, 0, 0, 0, -1) := rfl
set_option maxRecDepth 20000 in
theorem ja_M_isUpNoMore_38 : jv_at jm_M_isUpNoMore.2.2.2.2.2.2 38 = some (.putfield 41, 3, 12, 13, 1025, 0, 0) := rfl
set_option maxRecDepth 20000 in
theorem ja_M_isUpNoMore_41 : jv_at jm_M_isUpNoMore.2.2.2.2.2.2 41 = some (.aload_n 0, 1, 0, 0, 0, 0, 0) := rfl
set_option maxRecDepth 20000 in
theorem ja_M_isUpNoMore_42 : jv_at jm_M_isUpNoMore.2.2.2.2.2.2 42 = some (.iconst 0, 1, 0, 0, 0, 0, 0) := rfl
set_option maxRecDepth 20000 in
theorem ja_M_isUpNoMore_43 : jv_at jm_M_isUpNoMore.2.2.2.2.2.2 43 = some (.putfield 267, 3, 12, 18, 1030, 0, 0) := rfl
set_option maxRecDepth 20000 in
theorem ja_M_isUpNoMore_46 : jv_at jm_M_isUpNoMore.2.2.2.2.2.2 46 = some (.aload_n 0, 1, 0, 0, 0, 0, 0) := rfl
set_option maxRecDepth 20000 in
theorem ja_M_isUpNoMore_47 : jv_at jm_M_isUpNoMore.2.2.2.2.2.2 47 = some (.iconst 0, 1, 0, 0, 0, 0, 0) := rfl
set_option maxRecDepth 20000 in
theorem ja_M_isUpNoMore_48 : jv_at jm_M_isUpNoMore.2.2.2.2.2.2 48 = some (.putfield 314, 3, 12, 19, 1031, 0, 0) := rfl
set_option maxRecDepth 20000 in
theorem ja_M_isUpNoMore_51 : jv_at jm_M_isUpNoMore.2.2.2.2.2.2 51 = some (.return_, 1, 0, 0, 0, 0, 0) := rfl
set_option maxRecDepth 20000 in
theorem ja_M_does_0 : jv_at jm_M_does.2.2.2.2.2.2 0 = some (.aload_n 0, 1, 0, 0, 0, 0, 0) := rfl
set_option maxRecDepth 20000 in
theorem ja_M_does_1 : jv_at jm_M_does.2.2.2.2.2.2 1 = some (.iload_n 1, 1, 0, 0, 0, 0, 0) := rfl
set_option maxRecDepth 20000 in
theorem ja_M_does_2 : jv_at jm_M_does.2.2.2.2.2.2 2 = some (.invokevirtual 283, 3, 195, 0, 1365, 12, 1) := rfl
set_option maxRecDepth 20000 in
theorem ja_M_does_5 : jv_at jm_M_does.2.2.2.2.2.2 5 = some (.istore_n 2, 1, 0, 0, 0, 0, 0) := rfl
set_option maxRecDepth 20000 in
theorem ja_M_does_6 : jv_at jm_M_does.2.2.2.2.2.2 6 = some (.aload_n 0, 1, 0, 0, 0, 0, 0) := rfl
set_option maxRecDepth 20000 in
theorem ja_M_does_7 : jv_at jm_M_does.2.2.2.2.2.2 7 = some (.getfield 45, 3, 12, 20, 1032, 0, 0) := rfl
set_option maxRecDepth 20000 in
theorem ja_M_does_10 : jv_at jm_M_does.2.2.2.2.2.2 10 = some (.iload_n 1, 1, 0, 0, 0, 0, 0) := rfl
set_option maxRecDepth 20000 in
theorem ja_M_does_11 : jv_at jm_M_does.2.2.2.2.2.2 11 = some (.iaload, 1, 0, 0, 0, 0, 0) := rfl
set_option maxRecDepth 20000 in
theorem ja_M_does_12 : jv_at jm_M_does.2.2.2.2.2.2 12 = some (.iconst 3, 1, 0, 0, 0, 0, 3) := rfl
set_option maxRecDepth 20000 in
theorem ja_M_does_13 : jv_at jm_M_does.2.2.2.2.2.2 13 = some (.if_icmp .ne 18, 3, 31, 0, 0, 0, 0) := rfl
set_option maxRecDepth 20000 in
theorem ja_M_does_16 : jv_at jm_M_does.2.2.2.2.2.2 16 = some (.aload_n 0, 1, 0, 0, 0, 0, 0) := rfl
set_option maxRecDepth 20000 in
theorem ja_M_does_17 : jv_at jm_M_does.2.2.2.2.2.2 17 = some (.getfield 90, 3, 12, 54, 1066, 0, 0) := rfl
set_option maxRecDepth 20000 in
theorem ja_M_does_20 : jv_at jm_M_does.2.2.2.2.2.2 20 = some (.iload_n 2, 1, 0, 0, 0, 0, 0) := rfl
set_option maxRecDepth 20000 in
theorem ja_M_does_21 : jv_at jm_M_does.2.2.2.2.2.2 21 = some (.aload_n 0, 1, 0, 0, 0, 0, 0) := rfl
set_option maxRecDepth 20000 in
theorem ja_M_does_22 : jv_at jm_M_does.2.2.2.2.2.2 22 = some (.getfield 54, 3, 12, 23, 1035, 0, 0) := rfl
set_option maxRecDepth 20000 in
theorem ja_M_does_25 : jv_at jm_M_does.2.2.2.2.2.2 25 = some (.iload_n 1, 1, 0, 0, 0, 0, 0) := rfl
set_option maxRecDepth 20000 in
theorem ja_M_does_26 : jv_at jm_M_does.2.2.2.2.2.2 26 = some (.iaload, 1, 0, 0, 0, 0, 0) := rfl
set_option maxRecDepth 20000 in
theorem ja_M_does_27 : jv_at jm_M_does.2.2.2.2.2.2 27 = some (.iastore, 1, 0, 0, 0, 0, 0) := rfl
set_option maxRecDepth 20000 in
theorem ja_M_does_28 : jv_at jm_M_does.2.2.2.2.2.2 28 = some (.goto 108, 3, 136, 0, 0, 0, 0) := rfl
set_option maxRecDepth 20000 in
theorem ja_M_does_31 : jv_at jm_M_does.2.2.2.2.2.2 31 = some (.aload_n 0, 1, 0, 0, 0, 0, 0) := rfl
set_option maxRecDepth 20000 in
theorem ja_M_does_32 : jv_at jm_M_does.2.2.2.2.2.2 32 = some (.getfield 45, 3, 12, 20, 1032, 0, 0) := rfl
set_option maxRecDepth 20000 in
theorem ja_M_does_35 : jv_at jm_M_does.2.2.2.2.2.2 35 = some (.iload_n 1, 1, 0, 0, 0, 0, 0) := rfl
set_option maxRecDepth 20000 in
theorem ja_M_does_36 : jv_at jm_M_does.2.2.2.2.2.2 36 = some (.iaload, 1, 0, 0, 0, 0, 0) := rfl
set_option maxRecDepth 20000 in
theorem ja_M_does_37 : jv_at jm_M_does.2.2.2.2.2.2 37 = some (.iconst 1, 1, 0, 0, 0, 0, 1) := rfl
set_option maxRecDepth 20000 in
theorem ja_M_does_38 : jv_at jm_M_does.2.2.2.2.2.2 38 = some (.if_icmp .ne 46, 3, 84, 0, 0, 0, 0) := rfl
set_option maxRecDepth 20000 in
theorem ja_M_does_41 : jv_at jm_M_does.2.2.2.2.2.2 41 = some (.aload_n 0, 1, 0, 0, 0, 0, 0) := rfl
set_option maxRecDepth 20000 in
theorem ja_M_does_42 : jv_at jm_M_does.2.2.2.2.2.2 42 = some (.dup, 1, 0, 0, 0, 0, 0) := rfl
set_option maxRecDepth 20000 in
theorem ja_M_does_43 : jv_at jm_M_does.2.2.2.2.2.2 43 = some (.getfield 277, 3, 12, 53, 1065, 0, 0) := rfl
set_option maxRecDepth 20000 in
theorem ja_M_does_46 : jv_at jm_M_does.2.2.2.2.2.2 46 = some (.iconst 1, 1, 0, 0, 0, 0, 1) := rfl
set_option maxRecDepth 20000 in
theorem ja_M_does_47 : jv_at jm_M_does.2.2.2.2.2.2 47 = some (.isub, 1, 0, 0, 0, 0, 0) := rfl
set_option maxRecDepth 20000 in
theorem ja_M_does_48 : jv_at jm_M_does.2.2.2.2.2.2 48 = some (.putfield 277, 3, 12, 53, 1065, 0, 0) := rfl
set_option maxRecDepth 20000 in
theorem ja_M_does_51 : jv_at jm_M_does.2.2.2.2.2.2 51 = some (.iload_n 2, 1, 0, 0, 0, 0, 0) := rfl
set_option maxRecDepth 20000 in
theorem ja_M_does_52 : jv_at jm_M_does.2.2.2.2.2.2 52 = some (.istore_n 3, 1, 0, 0, 0, 0, 0) := rfl
set_option maxRecDepth 20000 in
theorem ja_M_does_53 : jv_at jm_M_does.2.2.2.2.2.2 53 = some (.iload_n 3, 1, 0, 0, 0, 0, 0) := rfl
set_option maxRecDepth 20000 in
theorem ja_M_does_54 : jv_at jm_M_does.2.2.2.2.2.2 54 = some (.aload_n 0, 1, 0, 0, 0, 0, 0) := rfl
set_option maxRecDepth 20000 in
theorem ja_M_does_55 : jv_at jm_M_does.2.2.2.2.2.2 55 = some (.getfield 277, 3, 12, 53, 1065, 0, 0) := rfl
set_option maxRecDepth 20000 in
theorem ja_M_does_58 : jv_at jm_M_does.2.2.2.2.2.2 58 = some (.if_icmp .ge 23, 3, 81, 0, 0, 0, 0) := rfl
set_option maxRecDepth 20000 in
theorem ja_M_does_61 : jv_at jm_M_does.2.2.2.2.2.2 61 = some (.aload_n 0, 1, 0, 0, 0, 0, 0) := rfl
set_option maxRecDepth 20000 in
theorem ja_M_does_62 : jv_at jm_M_does.2.2.2.2.2.2 62 = some (.getfield 90, 3, 12, 54, 1066, 0, 0) := rfl
set_option maxRecDepth 20000 in
theorem ja_M_does_65 : jv_at jm_M_does.2.2.2.2.2.2 65 = some (.iload_n 3, 1, 0, 0, 0, 0, 0) := rfl
set_option maxRecDepth 20000 in
theorem ja_M_does_66 : jv_at jm_M_does.2.2.2.2.2.2 66 = some (.aload_n 0, 1, 0, 0, 0, 0, 0) := rfl
set_option maxRecDepth 20000 in
theorem ja_M_does_67 : jv_at jm_M_does.2.2.2.2.2.2 67 = some (.getfield 90, 3, 12, 54, 1066, 0, 0) := rfl
set_option maxRecDepth 20000 in
theorem ja_M_does_70 : jv_at jm_M_does.2.2.2.2.2.2 70 = some (.iload_n 3, 1, 0, 0, 0, 0, 0) := rfl
set_option maxRecDepth 20000 in
theorem ja_M_does_71 : jv_at jm_M_does.2.2.2.2.2.2 71 = some (.iconst 1, 1, 0, 0, 0, 0, 1) := rfl
set_option maxRecDepth 20000 in
theorem ja_M_does_72 : jv_at jm_M_does.2.2.2.2.2.2 72 = some (.iadd, 1, 0, 0, 0, 0, 0) := rfl
set_option maxRecDepth 20000 in
theorem ja_M_does_73 : jv_at jm_M_does.2.2.2.2.2.2 73 = some (.iaload, 1, 0, 0, 0, 0, 0) := rfl
set_option maxRecDepth 20000 in
theorem ja_M_does_74 : jv_at jm_M_does.2.2.2.2.2.2 74 = some (.iastore, 1, 0, 0, 0, 0, 0) := rfl
set_option maxRecDepth 20000 in
theorem ja_M_does_75 : jv_at jm_M_does.2.2.2.2.2.2 75 = some (.iinc 3 1, 3, 0, 0, 0, 0, 0) := rfl
set_option maxRecDepth 20000 in
theorem ja_M_does_78 : jv_at jm_M_does.2.2.2.2.2.2 78 = some (.goto (-25), 3, 53, 0, 0, 0, 0) := rfl
set_option maxRecDepth 20000 in
theorem ja_M_does_81 : jv_at jm_M_does.2.2.2.2.2.2 81 = some (.goto 55, 3, 136, 0, 0, 0, 0) := rfl
set_option maxRecDepth 20000 in
theorem ja_M_does_84 : jv_at jm_M_does.2.2.2.2.2.2 84 = some (.aload_n 0, 1, 0, 0, 0, 0, 0) := rfl
set_option maxRecDepth 20000 in
theorem ja_M_does_85 : jv_at jm_M_does.2.2.2.2.2.2 85 = some (.getfield 277, 3, 12, 53, 1065, 0, 0) := rfl
set_option maxRecDepth 20000 in
theorem ja_M_does_88 : jv_at jm_M_does.2.2.2.2.2.2 88 = some (.istore_n 3, 1, 0, 0, 0, 0, 0) := rfl
set_option maxRecDepth 20000 in
theorem ja_M_does_89 : jv_at jm_M_does.2.2.2.2.2.2 89 = some (.iload_n 3, 1, 0, 0, 0, 0, 0) := rfl
set_option maxRecDepth 20000 in
theorem ja_M_does_90 : jv_at jm_M_does.2.2.2.2.2.2 90 = some (.iload_n 2, 1, 0, 0, 0, 0, 0) := rfl
set_option maxRecDepth 20000 in
theorem ja_M_does_91 : jv_at jm_M_does.2.2.2.2.2.2 91 = some (.if_icmp .le 23, 3, 114, 0, 0, 0, 0) := rfl
set_option maxRecDepth 20000 in
theorem ja_M_does_94 : jv_at jm_M_does.2.2.2.2.2.2 94 = some (.aload_n 0, 1, 0, 0, 0, 0, 0) := rfl
set_option maxRecDepth 20000 in
theorem ja_M_does_95 : jv_at jm_M_does.2.2.2.2.2.2 95 = some (.getfield 90, 3, 12, 54, 1066, 0, 0) := rfl
set_option maxRecDepth 20000 in
theorem ja_M_does_98 : jv_at jm_M_does.2.2.2.2.2.2 98 = some (.iload_n 3, 1, 0, 0, 0, 0, 0) := rfl
set_option maxRecDepth 20000 in
theorem ja_M_does_99 : jv_at jm_M_does.2.2.2.2.2.2 99 = some (.aload_n 0, 1, 0, 0, 0, 0, 0) := rfl
set_option maxRecDepth 20000 in
theorem ja_M_does_100 : jv_at jm_M_does.2.2.2.2.2.2 100 = some (.getfield 90, 3, 12, 54, 1066, 0, 0) := rfl
set_option maxRecDepth 20000 in
theorem ja_M_does_103 : jv_at jm_M_does.2.2.2.2.2.2 103 = some (.iload_n 3, 1, 0, 0, 0, 0, 0) := rfl
set_option maxRecDepth 20000 in
theorem ja_M_does_104 : jv_at jm_M_does.2.2.2.2.2.2 104 = some (.iconst 1, 1, 0, 0, 0, 0, 1) := rfl
set_option maxRecDepth 20000 in
theorem ja_M_does_105 : jv_at jm_M_does.2.2.2.2.2.2 105 = some (.isub, 1, 0, 0, 0, 0, 0) := rfl
set_option maxRecDepth 20000 in
theorem ja_M_does_106 : jv_at jm_M_does.2.2.2.2.2.2 106 = some (.iaload, 1, 0, 0, 0, 0, 0) := rfl
set_option maxRecDepth 20000 in
theorem ja_M_does_107 : jv_at jm_M_does.2.2.2.2.2.2 107 = some (.iastore, 1, 0, 0, 0, 0, 0) := rfl
set_option maxRecDepth 20000 in
theorem ja_M_does_108 : jv_at jm_M_does.2.2.2.2.2.2 108 = some (.iinc 3 (-1), 3, 0, 0, 0, 0, 0) := rfl
set_option maxRecDepth 20000 in
theorem ja_M_does_111 : jv_at jm_M_does.2.2.2.2.2.2 111 = some (.goto (-22), 3, 89, 0, 0, 0, 0) := rfl
set_option maxRecDepth 20000 in
theorem ja_M_does_114 : jv_at jm_M_does.2.2.2.2.2.2 114 = some (.aload_n 0, 1, 0, 0, 0, 0, 0) := rfl
set_option maxRecDepth 20000 in
theorem ja_M_does_115 : jv_at jm_M_does.2.2.2.2.2.2 115 = some (.getfield 90, 3, 12, 54, 1066, 0, 0) := rfl
set_option maxRecDepth 20000 in
theorem ja_M_does_118 : jv_at jm_M_does.2.2.2.2.2.2 118 = some (.iload_n 2, 1, 0, 0, 0, 0, 0) := rfl
set_option maxRecDepth 20000 in
theorem ja_M_does_119 : jv_at jm_M_does.2.2.2.2.2.2 119 = some (.aload_n 0, 1, 0, 0, 0, 0, 0) := rfl
set_option maxRecDepth 20000 in
theorem ja_M_does_120 : jv_at jm_M_does.2.2.2.2.2.2 120 = some (.getfield 54, 3, 12, 23, 1035, 0, 0) := rfl
set_option maxRecDepth 20000 in
theorem ja_M_does_123 : jv_at jm_M_does.2.2.2.2.2.2 123 = some (.iload_n 1, 1, 0, 0, 0, 0, 0) := rfl
set_option maxRecDepth 20000 in
theorem ja_M_does_124 : jv_at jm_M_does.2.2.2.2.2.2 124 = some (.iaload, 1, 0, 0, 0, 0, 0) := rfl
set_option maxRecDepth 20000 in
theorem ja_M_does_125 : jv_at jm_M_does.2.2.2.2.2.2 125 = some (.iastore, 1, 0, 0, 0, 0, 0) := rfl
set_option maxRecDepth 20000 in
theorem ja_M_does_126 : jv_at jm_M_does.2.2.2.2.2.2 126 = some (.aload_n 0, 1, 0, 0, 0, 0, 0) := rfl
set_option maxRecDepth 20000 in
theorem ja_M_does_127 : jv_at jm_M_does.2.2.2.2.2.2 127 = some (.dup, 1, 0, 0, 0, 0, 0) := rfl
set_option maxRecDepth 20000 in
theorem ja_M_does_128 : jv_at jm_M_does.2.2.2.2.2.2 128 = some (.getfield 277, 3, 12, 53, 1065, 0, 0) := rfl
set_option maxRecDepth 20000 in
theorem ja_M_does_131 : jv_at jm_M_does.2.2.2.2.2.2 131 = some (.iconst 1, 1, 0, 0, 0, 0, 1) := rfl
set_option maxRecDepth 20000 in
theorem ja_M_does_132 : jv_at jm_M_does.2.2.2.2.2.2 132 = some (.iadd, 1, 0, 0, 0, 0, 0) := rfl
set_option maxRecDepth 20000 in
theorem ja_M_does_133 : jv_at jm_M_does.2.2.2.2.2.2 133 = some (.putfield 277, 3, 12, 53, 1065, 0, 0) := rfl
set_option maxRecDepth 20000 in
theorem ja_M_does_136 : jv_at jm_M_does.2.2.2.2.2.2 136 = some (.return_, 1, 0, 0, 0, 0, 0) := rfl
set_option maxRecDepth 20000 in
theorem ja_M_follows_0 : jv_at jm_M_follows.2.2.2.2.2.2 0 = some (.aload_n 0, 1, 0, 0, 0, 0, 0) := rfl
set_option maxRecDepth 20000 in
theorem ja_M_follows_1 : jv_at jm_M_follows.2.2.2.2.2.2 1 = some (.getfield 45, 3, 12, 20, 1032, 0, 0) := rfl
set_option maxRecDepth 20000 in
theorem ja_M_follows_4 : jv_at jm_M_follows.2.2.2.2.2.2 4 = some (.iload_n 1, 1, 0, 0, 0, 0, 0) := rfl
set_option maxRecDepth 20000 in
theorem ja_M_follows_5 : jv_at jm_M_follows.2.2.2.2.2.2 5 = some (.iaload, 1, 0, 0, 0, 0, 0) := rfl
set_option maxRecDepth 20000 in
theorem ja_M_follows_6 : jv_at jm_M_follows.2.2.2.2.2.2 6 = some (.iconst 1, 1, 0, 0, 0, 0, 1) := rfl
set_option maxRecDepth 20000 in
theorem ja_M_follows_7 : jv_at jm_M_follows.2.2.2.2.2.2 7 = some (.iconst 3, 1, 0, 0, 0, 0, 3) := rfl
set_option maxRecDepth 20000 in
theorem ja_M_follows_8 : jv_at jm_M_follows.2.2.2.2.2.2 8 = some (.invokestatic 118, 3, 152, 1, 1195, 12, 3) := rfl
set_option maxRecDepth 20000 in
theorem ja_M_follows_11 : jv_at jm_M_follows.2.2.2.2.2.2 11 = some (.ifCond .eq 26, 3, 37, 0, 0, 0, 0) := rfl
set_option maxRecDepth 20000 in
theorem ja_M_follows_14 : jv_at jm_M_follows.2.2.2.2.2.2 14 = some (.aload_n 0, 1, 0, 0, 0, 0, 0) := rfl
set_option maxRecDepth 20000 in
theorem ja_M_follows_15 : jv_at jm_M_follows.2.2.2.2.2.2 15 = some (.getfield 57, 3, 12, 24, 1036, 0, 0) := rfl
set_option maxRecDepth 20000 in
theorem ja_M_follows_18 : jv_at jm_M_follows.2.2.2.2.2.2 18 = some (.iload_n 1, 1, 0, 0, 0, 0, 0) := rfl
set_option maxRecDepth 20000 in
theorem ja_M_follows_19 : jv_at jm_M_follows.2.2.2.2.2.2 19 = some (.baload, 1, 0, 0, 0, 0, 0) := rfl
set_option maxRecDepth 20000 in
theorem ja_M_follows_20 : jv_at jm_M_follows.2.2.2.2.2.2 20 = some (.ifCond .ne 17, 3, 37, 0, 0, 0, 0) := rfl
set_option maxRecDepth 20000 in
theorem ja_M_follows_23 : jv_at jm_M_follows.2.2.2.2.2.2 23 = some (.aload_n 0, 1, 0, 0, 0, 0, 0) := rfl
set_option maxRecDepth 20000 in
theorem ja_M_follows_24 : jv_at jm_M_follows.2.2.2.2.2.2 24 = some (.getfield 51, 3, 12, 22, 1034, 0, 0) := rfl
set_option maxRecDepth 20000 in
theorem ja_M_follows_27 : jv_at jm_M_follows.2.2.2.2.2.2 27 = some (.iload_n 1, 1, 0, 0, 0, 0, 0) := rfl
set_option maxRecDepth 20000 in
theorem ja_M_follows_28 : jv_at jm_M_follows.2.2.2.2.2.2 28 = some (.iaload, 1, 0, 0, 0, 0, 0) := rfl
set_option maxRecDepth 20000 in
theorem ja_M_follows_29 : jv_at jm_M_follows.2.2.2.2.2.2 29 = some (.iconst (-1), 1, 0, 0, 0, 0, -1) := rfl
set_option maxRecDepth 20000 in
theorem ja_M_follows_30 : jv_at jm_M_follows.2.2.2.2.2.2 30 = some (.if_icmp .eq 7, 3, 37, 0, 0, 0, 0) := rfl
set_option maxRecDepth 20000 in
theorem ja_M_follows_33 : jv_at jm_M_follows.2.2.2.2.2.2 33 = some (.iconst 1, 1, 0, 0, 0, 0, 1) := rfl
set_option maxRecDepth 20000 in
theorem ja_M_follows_34 : jv_at jm_M_follows.2.2.2.2.2.2 34 = some (.goto 4, 3, 38, 0, 0, 0, 0) := rfl
set_option maxRecDepth 20000 in
theorem ja_M_follows_37 : jv_at jm_M_follows.2.2.2.2.2.2 37 = some (.iconst 0, 1, 0, 0, 0, 0, 0) := rfl
set_option maxRecDepth 20000 in
theorem ja_M_follows_38 : jv_at jm_M_follows.2.2.2.2.2.2 38 = some (.istore 5, 2, 0, 0, 0, 0, 0) := rfl
set_option maxRecDepth 20000 in
theorem ja_M_follows_40 : jv_at jm_M_follows.2.2.2.2.2.2 40 = some (.iload 5, 2, 0, 0, 0, 0, 0) := rfl
set_option maxRecDepth 20000 in
theorem ja_M_follows_42 : jv_at jm_M_follows.2.2.2.2.2.2 42 = some (.ifCond .eq 13, 3, 55, 0, 0, 0, 0) := rfl
set_option maxRecDepth 20000 in
theorem ja_M_follows_45 : jv_at jm_M_follows.2.2.2.2.2.2 45 = some (.iload_n 2, 1, 0, 0, 0, 0, 0) := rfl
set_option maxRecDepth 20000 in
theorem ja_M_follows_46 : jv_at jm_M_follows.2.2.2.2.2.2 46 = some (.iconst 3, 1, 0, 0, 0, 0, 3) := rfl
set_option maxRecDepth 20000 in
theorem ja_M_follows_47 : jv_at jm_M_follows.2.2.2.2.2.2 47 = some (.if_icmp .eq 8, 3, 55, 0, 0, 0, 0) := rfl
set_option maxRecDepth 20000 in
theorem ja_M_follows_50 : jv_at jm_M_follows.2.2.2.2.2.2 50 = some (.iload 4, 2, 0, 0, 0, 0, 0) := rfl
set_option maxRecDepth 20000 in
theorem ja_M_follows_52 : jv_at jm_M_follows.2.2.2.2.2.2 52 = some (.ifCond .eq 4, 3, 56, 0, 0, 0, 0) := rfl
set_option maxRecDepth 20000 in
theorem ja_M_follows_55 : jv_at jm_M_follows.2.2.2.2.2.2 55 = some (.return_, 1, 0, 0, 0, 0, 0) := rfl
set_option maxRecDepth 20000 in
theorem ja_M_follows_56 : jv_at jm_M_follows.2.2.2.2.2.2 56 = some (.iload_n 2, 1, 0, 0, 0, 0, 0) := rfl
set_option maxRecDepth 20000 in
theorem ja_M_follows_57 : jv_at jm_M_follows.2.2.2.2.2.2 57 = some (.iconst 1, 1, 0, 0, 0, 0, 1) := rfl
set_option maxRecDepth 20000 in
theorem ja_M_follows_58 : jv_at jm_M_follows.2.2.2.2.2.2 58 = some (.if_icmp .ne 53, 3, 111, 0, 0, 0, 0) := rfl
set_option maxRecDepth 20000 in
theorem ja_M_follows_61 : jv_at jm_M_follows.2.2.2.2.2.2 61 = some (.aload_n 0, 1, 0, 0, 0, 0, 0) := rfl
set_option maxRecDepth 20000 in
theorem ja_M_follows_62 : jv_at jm_M_follows.2.2.2.2.2.2 62 = some (.getfield 51, 3, 12, 22, 1034, 0, 0) := rfl
set_option maxRecDepth 20000 in
theorem ja_M_follows_65 : jv_at jm_M_follows.2.2.2.2.2.2 65 = some (.iload_n 1, 1, 0, 0, 0, 0, 0) := rfl
set_option maxRecDepth 20000 in
theorem ja_M_follows_66 : jv_at jm_M_follows.2.2.2.2.2.2 66 = some (.aload_n 0, 1, 0, 0, 0, 0, 0) := rfl
set_option maxRecDepth 20000 in
theorem ja_M_follows_67 : jv_at jm_M_follows.2.2.2.2.2.2 67 = some (.getfield 51, 3, 12, 22, 1034, 0, 0) := rfl
set_option maxRecDepth 20000 in
theorem ja_M_follows_70 : jv_at jm_M_follows.2.2.2.2.2.2 70 = some (.iload_n 1, 1, 0, 0, 0, 0, 0) := rfl
set_option maxRecDepth 20000 in
theorem ja_M_follows_71 : jv_at jm_M_follows.2.2.2.2.2.2 71 = some (.iaload, 1, 0, 0, 0, 0, 0) := rfl
set_option maxRecDepth 20000 in
theorem ja_M_follows_72 : jv_at jm_M_follows.2.2.2.2.2.2 72 = some (.iload_n 3, 1, 0, 0, 0, 0, 0) := rfl
set_option maxRecDepth 20000 in
theorem ja_M_follows_73 : jv_at jm_M_follows.2.2.2.2.2.2 73 = some (.if_icmp .ne 7, 3, 80, 0, 0, 0, 0) := rfl
set_option maxRecDepth 20000 in
theorem ja_M_follows_76 : jv_at jm_M_follows.2.2.2.2.2.2 76 = some (.iconst (-1), 1, 0, 0, 0, 0, -1) := rfl
set_option maxRecDepth 20000 in
theorem ja_M_follows_77 : jv_at jm_M_follows.2.2.2.2.2.2 77 = some (.goto 30, 3, 107, 0, 0, 0, 0) := rfl
set_option maxRecDepth 20000 in
theorem ja_M_follows_80 : jv_at jm_M_follows.2.2.2.2.2.2 80 = some (.aload_n 0, 1, 0, 0, 0, 0, 0) := rfl
set_option maxRecDepth 20000 in
theorem ja_M_follows_81 : jv_at jm_M_follows.2.2.2.2.2.2 81 = some (.getfield 51, 3, 12, 22, 1034, 0, 0) := rfl
set_option maxRecDepth 20000 in
theorem ja_M_follows_84 : jv_at jm_M_follows.2.2.2.2.2.2 84 = some (.iload_n 1, 1, 0, 0, 0, 0, 0) := rfl
set_option maxRecDepth 20000 in
theorem ja_M_follows_85 : jv_at jm_M_follows.2.2.2.2.2.2 85 = some (.iaload, 1, 0, 0, 0, 0, 0) := rfl
set_option maxRecDepth 20000 in
theorem ja_M_follows_86 : jv_at jm_M_follows.2.2.2.2.2.2 86 = some (.iload_n 3, 1, 0, 0, 0, 0, 0) := rfl
set_option maxRecDepth 20000 in
theorem ja_M_follows_87 : jv_at jm_M_follows.2.2.2.2.2.2 87 = some (.if_icmp .le 14, 3, 101, 0, 0, 0, 0) := rfl
set_option maxRecDepth 20000 in
theorem ja_M_follows_90 : jv_at jm_M_follows.2.2.2.2.2.2 90 = some (.aload_n 0, 1, 0, 0, 0, 0, 0) := rfl
set_option maxRecDepth 20000 in
theorem ja_M_follows_91 : jv_at jm_M_follows.2.2.2.2.2.2 91 = some (.getfield 51, 3, 12, 22, 1034, 0, 0) := rfl
set_option maxRecDepth 20000 in
theorem ja_M_follows_94 : jv_at jm_M_follows.2.2.2.2.2.2 94 = some (.iload_n 1, 1, 0, 0, 0, 0, 0) := rfl
set_option maxRecDepth 20000 in
theorem ja_M_follows_95 : jv_at jm_M_follows.2.2.2.2.2.2 95 = some (.iaload, 1, 0, 0, 0, 0, 0) := rfl
set_option maxRecDepth 20000 in
theorem ja_M_follows_96 : jv_at jm_M_follows.2.2.2.2.2.2 96 = some (.iconst 1, 1, 0, 0, 0, 0, 1) := rfl
set_option maxRecDepth 20000 in
theorem ja_M_follows_97 : jv_at jm_M_follows.2.2.2.2.2.2 97 = some (.isub, 1, 0, 0, 0, 0, 0) := rfl
set_option maxRecDepth 20000 in
theorem ja_M_follows_98 : jv_at jm_M_follows.2.2.2.2.2.2 98 = some (.goto 9, 3, 107, 0, 0, 0, 0) := rfl
set_option maxRecDepth 20000 in
theorem ja_M_follows_101 : jv_at jm_M_follows.2.2.2.2.2.2 101 = some (.aload_n 0, 1, 0, 0, 0, 0, 0) := rfl
set_option maxRecDepth 20000 in
theorem ja_M_follows_102 : jv_at jm_M_follows.2.2.2.2.2.2 102 = some (.getfield 51, 3, 12, 22, 1034, 0, 0) := rfl
set_option maxRecDepth 20000 in
theorem ja_M_follows_105 : jv_at jm_M_follows.2.2.2.2.2.2 105 = some (.iload_n 1, 1, 0, 0, 0, 0, 0) := rfl
set_option maxRecDepth 20000 in
theorem ja_M_follows_106 : jv_at jm_M_follows.2.2.2.2.2.2 106 = some (.iaload, 1, 0, 0, 0, 0, 0) := rfl
set_option maxRecDepth 20000 in
theorem ja_M_follows_107 : jv_at jm_M_follows.2.2.2.2.2.2 107 = some (.iastore, 1, 0, 0, 0, 0, 0) := rfl
set_option maxRecDepth 20000 in
theorem ja_M_follows_108 : jv_at jm_M_follows.2.2.2.2.2.2 108 = some (.goto 27, 3, 135, 0, 0, 0, 0) := rfl
set_option maxRecDepth 20000 in
theorem ja_M_follows_111 : jv_at jm_M_follows.2.2.2.2.2.2 111 = some (.aload_n 0, 1, 0, 0, 0, 0, 0) := rfl
set_option maxRecDepth 20000 in
theorem ja_M_follows_112 : jv_at jm_M_follows.2.2.2.2.2.2 112 = some (.getfield 51, 3, 12, 22, 1034, 0, 0) := rfl
set_option maxRecDepth 20000 in
theorem ja_M_follows_115 : jv_at jm_M_follows.2.2.2.2.2.2 115 = some (.iload_n 1, 1, 0, 0, 0, 0, 0) := rfl
set_option maxRecDepth 20000 in
theorem ja_M_follows_116 : jv_at jm_M_follows.2.2.2.2.2.2 116 = some (.dup2, 1, 0, 0, 0, 0, 0) := rfl
set_option maxRecDepth 20000 in
theorem ja_M_follows_117 : jv_at jm_M_follows.2.2.2.2.2.2 117 = some (.iaload, 1, 0, 0, 0, 0, 0) := rfl
set_option maxRecDepth 20000 in
theorem ja_M_follows_118 : jv_at jm_M_follows.2.2.2.2.2.2 118 = some (.aload_n 0, 1, 0, 0, 0, 0, 0) := rfl
set_option maxRecDepth 20000 in
theorem ja_M_follows_119 : jv_at jm_M_follows.2.2.2.2.2.2 119 = some (.getfield 51, 3, 12, 22, 1034, 0, 0) := rfl
set_option maxRecDepth 20000 in
theorem ja_M_follows_122 : jv_at jm_M_follows.2.2.2.2.2.2 122 = some (.iload_n 1, 1, 0, 0, 0, 0, 0) := rfl
set_option maxRecDepth 20000 in
theorem ja_M_follows_123 : jv_at jm_M_follows.2.2.2.2.2.2 123 = some (.iaload, 1, 0, 0, 0, 0, 0) := rfl
set_option maxRecDepth 20000 in
theorem ja_M_follows_124 : jv_at jm_M_follows.2.2.2.2.2.2 124 = some (.iload_n 3, 1, 0, 0, 0, 0, 0) := rfl
set_option maxRecDepth 20000 in
theorem ja_M_follows_125 : jv_at jm_M_follows.2.2.2.2.2.2 125 = some (.if_icmp .lt 7, 3, 132, 0, 0, 0, 0) := rfl
set_option maxRecDepth 20000 in
theorem ja_M_follows_128 : jv_at jm_M_follows.2.2.2.2.2.2 128 = some (.iconst 1, 1, 0, 0, 0, 0, 1) := rfl
set_option maxRecDepth 20000 in
theorem ja_M_follows_129 : jv_at jm_M_follows.2.2.2.2.2.2 129 = some (.goto 4, 3, 133, 0, 0, 0, 0) := rfl
set_option maxRecDepth 20000 in
theorem ja_M_follows_132 : jv_at jm_M_follows.2.2.2.2.2.2 132 = some (.iconst 0, 1, 0, 0, 0, 0, 0) := rfl
set_option maxRecDepth 20000 in
theorem ja_M_follows_133 : jv_at jm_M_follows.2.2.2.2.2.2 133 = some (.iadd, 1, 0, 0, 0, 0, 0) := rfl
set_option maxRecDepth 20000 in
theorem ja_M_follows_134 : jv_at jm_M_follows.2.2.2.2.2.2 134 = some (.iastore, 1, 0, 0, 0, 0, 0) := rfl
set_option maxRecDepth 20000 in
theorem ja_M_follows_135 : jv_at jm_M_follows.2.2.2.2.2.2 135 = some (.return_, 1, 0, 0, 0, 0, 0) := rfl
set_option maxRecDepth 20000 in
theorem ja_M_voted_0 : jv_at jm_M_voted.2.2.2.2.2.2 0 = some (.iload_n 1, 1, 0, 0, 0, 0, 0) := rfl
set_option maxRecDepth 20000 in
theorem ja_M_voted_1 : jv_at jm_M_voted.2.2.2.2.2.2 1 = some (.ifCond .ne 10, 3, 11, 0, 0, 0, 0) := rfl
set_option maxRecDepth 20000 in
theorem ja_M_voted_4 : jv_at jm_M_voted.2.2.2.2.2.2 4 = some (.aload_n 0, 1, 0, 0, 0, 0, 0) := rfl
set_option maxRecDepth 20000 in
theorem ja_M_voted_5 : jv_at jm_M_voted.2.2.2.2.2.2 5 = some (.getfield 330, 3, 12, 25, 1037, 0, 0) := rfl
set_option maxRecDepth 20000 in
theorem ja_M_voted_8 : jv_at jm_M_voted.2.2.2.2.2.2 8 = some (.goto 41, 3, 49, 0, 0, 0, 0) := rfl
set_option maxRecDepth 20000 in
theorem ja_M_voted_11 : jv_at jm_M_voted.2.2.2.2.2.2 11 = some (.iload_n 1, 1, 0, 0, 0, 0, 0) := rfl
set_option maxRecDepth 20000 in
theorem ja_M_voted_12 : jv_at jm_M_voted.2.2.2.2.2.2 12 = some (.iconst 1, 1, 0, 0, 0, 0, 1) := rfl
set_option maxRecDepth 20000 in
theorem ja_M_voted_13 : jv_at jm_M_voted.2.2.2.2.2.2 13 = some (.if_icmp .ne 10, 3, 23, 0, 0, 0, 0) := rfl
set_option maxRecDepth 20000 in
theorem ja_M_voted_16 : jv_at jm_M_voted.2.2.2.2.2.2 16 = some (.aload_n 0, 1, 0, 0, 0, 0, 0) := rfl
set_option maxRecDepth 20000 in
theorem ja_M_voted_17 : jv_at jm_M_voted.2.2.2.2.2.2 17 = some (.getfield 333, 3, 12, 26, 1038, 0, 0) := rfl
set_option maxRecDepth 20000 in
theorem ja_M_voted_20 : jv_at jm_M_voted.2.2.2.2.2.2 20 = some (.goto 29, 3, 49, 0, 0, 0, 0) := rfl
set_option maxRecDepth 20000 in
theorem ja_M_voted_23 : jv_at jm_M_voted.2.2.2.2.2.2 23 = some (.iload_n 1, 1, 0, 0, 0, 0, 0) := rfl
set_option maxRecDepth 20000 in
theorem ja_M_voted_24 : jv_at jm_M_voted.2.2.2.2.2.2 24 = some (.iconst 2, 1, 0, 0, 0, 0, 2) := rfl
set_option maxRecDepth 20000 in
theorem ja_M_voted_25 : jv_at jm_M_voted.2.2.2.2.2.2 25 = some (.if_icmp .ne 10, 3, 35, 0, 0, 0, 0) := rfl
set_option maxRecDepth 20000 in
theorem ja_M_voted_28 : jv_at jm_M_voted.2.2.2.2.2.2 28 = some (.aload_n 0, 1, 0, 0, 0, 0, 0) := rfl
set_option maxRecDepth 20000 in
theorem ja_M_voted_29 : jv_at jm_M_voted.2.2.2.2.2.2 29 = some (.getfield 60, 3, 12, 27, 1039, 0, 0) := rfl
set_option maxRecDepth 20000 in
theorem ja_M_voted_32 : jv_at jm_M_voted.2.2.2.2.2.2 32 = some (.goto 17, 3, 49, 0, 0, 0, 0) := rfl
set_option maxRecDepth 20000 in
theorem ja_M_voted_35 : jv_at jm_M_voted.2.2.2.2.2.2 35 = some (.iload_n 1, 1, 0, 0, 0, 0, 0) := rfl
set_option maxRecDepth 20000 in
theorem ja_M_voted_36 : jv_at jm_M_voted.2.2.2.2.2.2 36 = some (.iconst 3, 1, 0, 0, 0, 0, 3) := rfl
set_option maxRecDepth 20000 in
theorem ja_M_voted_37 : jv_at jm_M_voted.2.2.2.2.2.2 37 = some (.if_icmp .ne 10, 3, 47, 0, 0, 0, 0) := rfl
set_option maxRecDepth 20000 in
theorem ja_M_voted_40 : jv_at jm_M_voted.2.2.2.2.2.2 40 = some (.aload_n 0, 1, 0, 0, 0, 0, 0) := rfl
set_option maxRecDepth 20000 in
theorem ja_M_voted_41 : jv_at jm_M_voted.2.2.2.2.2.2 41 = some (.getfield 336, 3, 12, 28, 1040, 0, 0) := rfl
set_option maxRecDepth 20000 in
theorem ja_M_voted_44 : jv_at jm_M_voted.2.2.2.2.2.2 44 = some (.goto 5, 3, 49, 0, 0, 0, 0) := rfl
set_option maxRecDepth 20000 in
theorem ja_M_voted_47 : jv_at jm_M_voted.2.2.2.2.2.2 47 = some (.bipush (-2), 2, 0, 0, 0, 0, -2) := rfl
set_option maxRecDepth 20000 in
theorem ja_M_voted_49 : jv_at jm_M_voted.2.2.2.2.2.2 49 = some (.ireturn, 1, 0, 0, 0, 0, 0) := rfl
set_option maxRecDepth 20000 in
theorem ja_M_would_0 : jv_at jm_M_would.2.2.2.2.2.2 0 = some (.aload_n 0, 1, 0, 0, 0, 0, 0) := rfl
set_option maxRecDepth 20000 in
theorem ja_M_would_1 : jv_at jm_M_would.2.2.2.2.2.2 1 = some (.iload_n 1, 1, 0, 0, 0, 0, 0) := rfl
set_option maxRecDepth 20000 in
theorem ja_M_would_2 : jv_at jm_M_would.2.2.2.2.2.2 2 = some (.invokevirtual 125, 3, 154, 0, 1202, 12, 1) := rfl
set_option maxRecDepth 20000 in
theorem ja_M_would_5 : jv_at jm_M_would.2.2.2.2.2.2 5 = some (.ifCond .ne 6, 3, 11, 0, 0, 0, 0) := rfl
set_option maxRecDepth 20000 in
theorem ja_M_would_8 : jv_at jm_M_would.2.2.2.2.2.2 8 = some (.bipush (-2), 2, 0, 0, 0, 0, -2) := rfl
set_option maxRecDepth 20000 in
theorem ja_M_would_10 : jv_at jm_M_would.2.2.2.2.2.2 10 = some (.ireturn, 1, 0, 0, 0, 0, 0) := rfl
set_option maxRecDepth 20000 in
theorem ja_M_would_11 : jv_at jm_M_would.2.2.2.2.2.2 11 = some (.aload_n 0, 1, 0, 0, 0, 0, 0) := rfl
set_option maxRecDepth 20000 in
theorem ja_M_would_12 : jv_at jm_M_would.2.2.2.2.2.2 12 = some (.getfield 267, 3, 12, 18, 1030, 0, 0) := rfl
set_option maxRecDepth 20000 in
theorem ja_M_would_15 : jv_at jm_M_would.2.2.2.2.2.2 15 = some (.ifCond .ne 5, 3, 20, 0, 0, 0, 0) := rfl
set_option maxRecDepth 20000 in
theorem ja_M_would_18 : jv_at jm_M_would.2.2.2.2.2.2 18 = some (.iconst (-1), 1, 0, 0, 0, 0, -1) := rfl
set_option maxRecDepth 20000 in
theorem ja_M_would_19 : jv_at jm_M_would.2.2.2.2.2.2 19 = some (.ireturn, 1, 0, 0, 0, 0, 0) := rfl
set_option maxRecDepth 20000 in
theorem ja_M_would_20 : jv_at jm_M_would.2.2.2.2.2.2 20 = some (.aload_n 0, 1, 0, 0, 0, 0, 0) := rfl
set_option maxRecDepth 20000 in
theorem ja_M_would_21 : jv_at jm_M_would.2.2.2.2.2.2 21 = some (.getfield 41, 3, 12, 13, 1025, 0, 0) := rfl
set_option maxRecDepth 20000 in
theorem ja_M_would_24 : jv_at jm_M_would.2.2.2.2.2.2 24 = some (.iconst (-1), 1, 0, 0, 0, 0, -1) := rfl
set_option maxRecDepth 20000 in
theorem ja_M_would_25 : jv_at jm_M_would.2.2.2.2.2.2 25 = some (.if_icmp .eq 11, 3, 36, 0, 0, 0, 0) := rfl
set_option maxRecDepth 20000 in
theorem ja_M_would_28 : jv_at jm_M_would.2.2.2.2.2.2 28 = some (.aload_n 0, 1, 0, 0, 0, 0, 0) := rfl
set_option maxRecDepth 20000 in
theorem ja_M_would_29 : jv_at jm_M_would.2.2.2.2.2.2 29 = some (.aload_n 0, 1, 0, 0, 0, 0, 0) := rfl
set_option maxRecDepth 20000 in
theorem ja_M_would_30 : jv_at jm_M_would.2.2.2.2.2.2 30 = some (.getfield 41, 3, 12, 13, 1025, 0, 0) := rfl
set_option maxRecDepth 20000 in
theorem ja_M_would_33 : jv_at jm_M_would.2.2.2.2.2.2 33 = some (.invokevirtual 147, 3, 169, 0, 1261, 12, 1) := rfl
set_option maxRecDepth 20000 in
theorem ja_M_would_36 : jv_at jm_M_would.2.2.2.2.2.2 36 = some (.aload_n 0, 1, 0, 0, 0, 0, 0) := rfl
set_option maxRecDepth 20000 in
theorem ja_M_would_37 : jv_at jm_M_would.2.2.2.2.2.2 37 = some (.aload_n 0, 1, 0, 0, 0, 0, 0) := rfl
set_option maxRecDepth 20000 in
theorem ja_M_would_38 : jv_at jm_M_would.2.2.2.2.2.2 38 = some (.getfield 267, 3, 12, 18, 1030, 0, 0) := rfl
set_option maxRecDepth 20000 in
theorem ja_M_would_41 : jv_at jm_M_would.2.2.2.2.2.2 41 = some (.iconst 1, 1, 0, 0, 0, 0, 1) := rfl
set_option maxRecDepth 20000 in
theorem ja_M_would_42 : jv_at jm_M_would.2.2.2.2.2.2 42 = some (.isub, 1, 0, 0, 0, 0, 0) := rfl
set_option maxRecDepth 20000 in
theorem ja_M_would_43 : jv_at jm_M_would.2.2.2.2.2.2 43 = some (.iload_n 1, 1, 0, 0, 0, 0, 0) := rfl
set_option maxRecDepth 20000 in
theorem ja_M_would_44 : jv_at jm_M_would.2.2.2.2.2.2 44 = some (.invokevirtual 293, 3, 191, 0, 1349, 12, 2) := rfl
set_option maxRecDepth 20000 in
theorem ja_M_would_47 : jv_at jm_M_would.2.2.2.2.2.2 47 = some (.ireturn, 1, 0, 0, 0, 0, 0) := rfl
set_option maxRecDepth 20000 in
theorem ja_M_motion_0 : jv_at jm_M_motion.2.2.2.2.2.2 0 = some (.iload_n 1, 1, 0, 0, 0, 0, 0) := rfl
set_option maxRecDepth 20000 in
theorem ja_M_motion_1 : jv_at jm_M_motion.2.2.2.2.2.2 1 = some (.iconst 0, 1, 0, 0, 0, 0, 0) := rfl
set_option maxRecDepth 20000 in
theorem ja_M_motion_2 : jv_at jm_M_motion.2.2.2.2.2.2 2 = some (.aload_n 0, 1, 0, 0, 0, 0, 0) := rfl
set_option maxRecDepth 20000 in
theorem ja_M_motion_3 : jv_at jm_M_motion.2.2.2.2.2.2 3 = some (.getfield 267, 3, 12, 18, 1030, 0, 0) := rfl
set_option maxRecDepth 20000 in
theorem ja_M_motion_6 : jv_at jm_M_motion.2.2.2.2.2.2 6 = some (.iconst 1, 1, 0, 0, 0, 0, 1) := rfl
set_option maxRecDepth 20000 in
theorem ja_M_motion_7 : jv_at jm_M_motion.2.2.2.2.2.2 7 = some (.isub, 1, 0, 0, 0, 0, 0) := rfl
set_option maxRecDepth 20000 in
theorem ja_M_motion_8 : jv_at jm_M_motion.2.2.2.2.2.2 8 = some (.invokestatic 118, 3, 152, 1, 1195, 12, 3) := rfl
set_option maxRecDepth 20000 in
theorem ja_M_motion_11 : jv_at jm_M_motion.2.2.2.2.2.2 11 = some (.ifCond .ne 7, 3, 18, 0, 0, 0, 0) := rfl
set_option maxRecDepth 20000 in
theorem ja_M_motion_14 : jv_at jm_M_motion.2.2.2.2.2.2 14 = some (.ldc_w 342, 3, 0, 0, 1397, 0, -100000) := rfl
set_option maxRecDepth 20000 in
theorem ja_M_motion_17 : jv_at jm_M_motion.2.2.2.2.2.2 17 = some (.ireturn, 1, 0, 0, 0, 0, 0) := rfl
set_option maxRecDepth 20000 in
theorem ja_M_motion_18 : jv_at jm_M_motion.2.2.2.2.2.2 18 = some (.iload_n 2, 1, 0, 0, 0, 0, 0) := rfl
set_option maxRecDepth 20000 in
theorem ja_M_motion_19 : jv_at jm_M_motion.2.2.2.2.2.2 19 = some (.tableswitch 99 0 4 #[33, 40, 47, 75, 82], 33, 0, 0, 0, 0, 0) := rfl
set_option maxRecDepth 20000 in
theorem ja_M_motion_52 : jv_at jm_M_motion.2.2.2.2.2.2 52 = some (.aload_n 0, 1, 0, 0, 0, 0, 0) := rfl
set_option maxRecDepth 20000 in
theorem ja_M_motion_53 : jv_at jm_M_motion.2.2.2.2.2.2 53 = some (.getfield 45, 3, 12, 20, 1032, 0, 0) := rfl
set_option maxRecDepth 20000 in
theorem ja_M_motion_56 : jv_at jm_M_motion.2.2.2.2.2.2 56 = some (.iload_n 1, 1, 0, 0, 0, 0, 0) := rfl
set_option maxRecDepth 20000 in
theorem ja_M_motion_57 : jv_at jm_M_motion.2.2.2.2.2.2 57 = some (.iaload, 1, 0, 0, 0, 0, 0) := rfl
set_option maxRecDepth 20000 in
theorem ja_M_motion_58 : jv_at jm_M_motion.2.2.2.2.2.2 58 = some (.ireturn, 1, 0, 0, 0, 0, 0) := rfl
set_option maxRecDepth 20000 in
theorem ja_M_motion_59 : jv_at jm_M_motion.2.2.2.2.2.2 59 = some (.aload_n 0, 1, 0, 0, 0, 0, 0) := rfl
set_option maxRecDepth 20000 in
theorem ja_M_motion_60 : jv_at jm_M_motion.2.2.2.2.2.2 60 = some (.getfield 48, 3, 12, 21, 1033, 0, 0) := rfl
set_option maxRecDepth 20000 in
theorem ja_M_motion_63 : jv_at jm_M_motion.2.2.2.2.2.2 63 = some (.iload_n 1, 1, 0, 0, 0, 0, 0) := rfl
set_option maxRecDepth 20000 in
theorem ja_M_motion_64 : jv_at jm_M_motion.2.2.2.2.2.2 64 = some (.iaload, 1, 0, 0, 0, 0, 0) := rfl
set_option maxRecDepth 20000 in
theorem ja_M_motion_65 : jv_at jm_M_motion.2.2.2.2.2.2 65 = some (.ireturn, 1, 0, 0, 0, 0, 0) := rfl
set_option maxRecDepth 20000 in
theorem ja_M_motion_66 : jv_at jm_M_motion.2.2.2.2.2.2 66 = some (.aload_n 0, 1, 0, 0, 0, 0, 0) := rfl
set_option maxRecDepth 20000 in
theorem ja_M_motion_67 : jv_at jm_M_motion.2.2.2.2.2.2 67 = some (.getfield 57, 3, 12, 24, 1036, 0, 0) := rfl
set_option maxRecDepth 20000 in
theorem ja_M_motion_70 : jv_at jm_M_motion.2.2.2.2.2.2 70 = some (.iload_n 1, 1, 0, 0, 0, 0, 0) := rfl
set_option maxRecDepth 20000 in
theorem ja_M_motion_71 : jv_at jm_M_motion.2.2.2.2.2.2 71 = some (.baload, 1, 0, 0, 0, 0, 0) := rfl
set_option maxRecDepth 20000 in
theorem ja_M_motion_72 : jv_at jm_M_motion.2.2.2.2.2.2 72 = some (.ifCond .eq 15, 3, 87, 0, 0, 0, 0) := rfl
set_option maxRecDepth 20000 in
theorem ja_M_motion_75 : jv_at jm_M_motion.2.2.2.2.2.2 75 = some (.aload_n 0, 1, 0, 0, 0, 0, 0) := rfl
set_option maxRecDepth 20000 in
theorem ja_M_motion_76 : jv_at jm_M_motion.2.2.2.2.2.2 76 = some (.getfield 29, 3, 12, 8, 1020, 0, 0) := rfl
set_option maxRecDepth 20000 in
theorem ja_M_motion_79 : jv_at jm_M_motion.2.2.2.2.2.2 79 = some (.aload_n 0, 1, 0, 0, 0, 0, 0) := rfl
set_option maxRecDepth 20000 in
theorem ja_M_motion_80 : jv_at jm_M_motion.2.2.2.2.2.2 80 = some (.getfield 41, 3, 12, 13, 1025, 0, 0) := rfl
set_option maxRecDepth 20000 in
theorem ja_M_motion_83 : jv_at jm_M_motion.2.2.2.2.2.2 83 = some (.iaload, 1, 0, 0, 0, 0, 0) := rfl
set_option maxRecDepth 20000 in
theorem ja_M_motion_84 : jv_at jm_M_motion.2.2.2.2.2.2 84 = some (.goto 9, 3, 93, 0, 0, 0, 0) := rfl
set_option maxRecDepth 20000 in
theorem ja_M_motion_87 : jv_at jm_M_motion.2.2.2.2.2.2 87 = some (.aload_n 0, 1, 0, 0, 0, 0, 0) := rfl
set_option maxRecDepth 20000 in
theorem ja_M_motion_88 : jv_at jm_M_motion.2.2.2.2.2.2 88 = some (.getfield 51, 3, 12, 22, 1034, 0, 0) := rfl
set_option maxRecDepth 20000 in
theorem ja_M_motion_91 : jv_at jm_M_motion.2.2.2.2.2.2 91 = some (.iload_n 1, 1, 0, 0, 0, 0, 0) := rfl
set_option maxRecDepth 20000 in
theorem ja_M_motion_92 : jv_at jm_M_motion.2.2.2.2.2.2 92 = some (.iaload, 1, 0, 0, 0, 0, 0) := rfl
set_option maxRecDepth 20000 in
theorem ja_M_motion_93 : jv_at jm_M_motion.2.2.2.2.2.2 93 = some (.ireturn, 1, 0, 0, 0, 0, 0) := rfl
set_option maxRecDepth 20000 in
theorem ja_M_motion_94 : jv_at jm_M_motion.2.2.2.2.2.2 94 = some (.aload_n 0, 1, 0, 0, 0, 0, 0) := rfl
set_option maxRecDepth 20000 in
theorem ja_M_motion_95 : jv_at jm_M_motion.2.2.2.2.2.2 95 = some (.getfield 54, 3, 12, 23, 1035, 0, 0) := rfl
set_option maxRecDepth 20000 in
theorem ja_M_motion_98 : jv_at jm_M_motion.2.2.2.2.2.2 98 = some (.iload_n 1, 1, 0, 0, 0, 0, 0) := rfl
set_option maxRecDepth 20000 in
theorem ja_M_motion_99 : jv_at jm_M_motion.2.2.2.2.2.2 99 = some (.iaload, 1, 0, 0, 0, 0, 0) := rfl
set_option maxRecDepth 20000 in
theorem ja_M_motion_100 : jv_at jm_M_motion.2.2.2.2.2.2 100 = some (.ireturn, 1, 0, 0, 0, 0, 0) := rfl
set_option maxRecDepth 20000 in
theorem ja_M_motion_101 : jv_at jm_M_motion.2.2.2.2.2.2 101 = some (.aload_n 0, 1, 0, 0, 0, 0, 0) := rfl
set_option maxRecDepth 20000 in
theorem ja_M_motion_102 : jv_at jm_M_motion.2.2.2.2.2.2 102 = some (.aload_n 0, 1, 0, 0, 0, 0, 0) := rfl
set_option maxRecDepth 20000 in
theorem ja_M_motion_103 : jv_at jm_M_motion.2.2.2.2.2.2 103 = some (.getfield 45, 3, 12, 20, 1032, 0, 0) := rfl
set_option maxRecDepth 20000 in
theorem ja_M_motion_106 : jv_at jm_M_motion.2.2.2.2.2.2 106 = some (.iload_n 1, 1, 0, 0, 0, 0, 0) := rfl
set_option maxRecDepth 20000 in
theorem ja_M_motion_107 : jv_at jm_M_motion.2.2.2.2.2.2 107 = some (.iaload, 1, 0, 0, 0, 0, 0) := rfl
set_option maxRecDepth 20000 in
theorem ja_M_motion_108 : jv_at jm_M_motion.2.2.2.2.2.2 108 = some (.aload_n 0, 1, 0, 0, 0, 0, 0) := rfl
set_option maxRecDepth 20000 in
theorem ja_M_motion_109 : jv_at jm_M_motion.2.2.2.2.2.2 109 = some (.getfield 48, 3, 12, 21, 1033, 0, 0) := rfl
set_option maxRecDepth 20000 in
theorem ja_M_motion_112 : jv_at jm_M_motion.2.2.2.2.2.2 112 = some (.iload_n 1, 1, 0, 0, 0, 0, 0) := rfl
set_option maxRecDepth 20000 in
theorem ja_M_motion_113 : jv_at jm_M_motion.2.2.2.2.2.2 113 = some (.iaload, 1, 0, 0, 0, 0, 0) := rfl
set_option maxRecDepth 20000 in
theorem ja_M_motion_114 : jv_at jm_M_motion.2.2.2.2.2.2 114 = some (.invokevirtual 296, 3, 185, 0, 1325, 12, 2) := rfl
set_option maxRecDepth 20000 in
theorem ja_M_motion_117 : jv_at jm_M_motion.2.2.2.2.2.2 117 = some (.ireturn, 1, 0, 0, 0, 0, 0) := rfl
set_option maxRecDepth 20000 in
theorem ja_M_motion_118 : jv_at jm_M_motion.2.2.2.2.2.2 118 = some (.ldc_w 342, 3, 0, 0, 1397, 0, -100000) := rfl
set_option maxRecDepth 20000 in
theorem ja_M_motion_121 : jv_at jm_M_motion.2.2.2.2.2.2 121 = some (.ireturn, 1, 0, 0, 0, 0, 0) := rfl
set_option maxRecDepth 20000 in
theorem ja_M_yield_0 : jv_at jm_M_yield.2.2.2.2.2.2 0 = some (.aload_n 0, 1, 0, 0, 0, 0, 0) := rfl
set_option maxRecDepth 20000 in
theorem ja_M_yield_1 : jv_at jm_M_yield.2.2.2.2.2.2 1 = some (.getfield 267, 3, 12, 18, 1030, 0, 0) := rfl
set_option maxRecDepth 20000 in
theorem ja_M_yield_4 : jv_at jm_M_yield.2.2.2.2.2.2 4 = some (.ifCond .ne 6, 3, 10, 0, 0, 0, 0) := rfl
set_option maxRecDepth 20000 in
theorem ja_M_yield_7 : jv_at jm_M_yield.2.2.2.2.2.2 7 = some (.bipush (-3), 2, 0, 0, 0, 0, -3) := rfl
set_option maxRecDepth 20000 in
theorem ja_M_yield_9 : jv_at jm_M_yield.2.2.2.2.2.2 9 = some (.ireturn, 1, 0, 0, 0, 0, 0) := rfl
set_option maxRecDepth 20000 in
theorem ja_M_yield_10 : jv_at jm_M_yield.2.2.2.2.2.2 10 = some (.aload_n 0, 1, 0, 0, 0, 0, 0) := rfl
set_option maxRecDepth 20000 in
theorem ja_M_yield_11 : jv_at jm_M_yield.2.2.2.2.2.2 11 = some (.dup, 1, 0, 0, 0, 0, 0) := rfl
set_option maxRecDepth 20000 in
theorem ja_M_yield_12 : jv_at jm_M_yield.2.2.2.2.2.2 12 = some (.getfield 267, 3, 12, 18, 1030, 0, 0) := rfl
set_option maxRecDepth 20000 in
theorem ja_M_yield_15 : jv_at jm_M_yield.2.2.2.2.2.2 15 = some (.iconst 1, 1, 0, 0, 0, 0, 1) := rfl
set_option maxRecDepth 20000 in
theorem ja_M_yield_16 : jv_at jm_M_yield.2.2.2.2.2.2 16 = some (.isub, 1, 0, 0, 0, 0, 0) := rfl
set_option maxRecDepth 20000 in
theorem ja_M_yield_17 : jv_at jm_M_yield.2.2.2.2.2.2 17 = some (.putfield 267, 3, 12, 18, 1030, 0, 0) := rfl
set_option maxRecDepth 20000 in
theorem ja_M_yield_20 : jv_at jm_M_yield.2.2.2.2.2.2 20 = some (.aload_n 0, 1, 0, 0, 0, 0, 0) := rfl
set_option maxRecDepth 20000 in
theorem ja_M_yield_21 : jv_at jm_M_yield.2.2.2.2.2.2 21 = some (.getfield 267, 3, 12, 18, 1030, 0, 0) := rfl
set_option maxRecDepth 20000 in
theorem ja_M_yield_24 : jv_at jm_M_yield.2.2.2.2.2.2 24 = some (.ireturn, 1, 0, 0, 0, 0, 0) := rfl
set_option maxRecDepth 20000 in
theorem ja_M_day_0 : jv_at jm_M_day.2.2.2.2.2.2 0 = some (.aload_n 0, 1, 0, 0, 0, 0, 0) := rfl
set_option maxRecDepth 20000 in
theorem ja_M_day_1 : jv_at jm_M_day.2.2.2.2.2.2 1 = some (.getfield 343, 3, 12, 16, 1028, 0, 0) := rfl
set_option maxRecDepth 20000 in
theorem ja_M_day_4 : jv_at jm_M_day.2.2.2.2.2.2 4 = some (.sipush 999, 3, 0, 0, 0, 0, 999) := rfl
set_option maxRecDepth 20000 in
theorem ja_M_day_7 : jv_at jm_M_day.2.2.2.2.2.2 7 = some (.if_icmp .ne 6, 3, 13, 0, 0, 0, 0) := rfl
set_option maxRecDepth 20000 in
theorem ja_M_day_10 : jv_at jm_M_day.2.2.2.2.2.2 10 = some (.bipush (-4), 2, 0, 0, 0, 0, -4) := rfl
set_option maxRecDepth 20000 in
theorem ja_M_day_12 : jv_at jm_M_day.2.2.2.2.2.2 12 = some (.ireturn, 1, 0, 0, 0, 0, 0) := rfl
set_option maxRecDepth 20000 in
theorem ja_M_day_13 : jv_at jm_M_day.2.2.2.2.2.2 13 = some (.aload_n 0, 1, 0, 0, 0, 0, 0) := rfl
set_option maxRecDepth 20000 in
theorem ja_M_day_14 : jv_at jm_M_day.2.2.2.2.2.2 14 = some (.dup, 1, 0, 0, 0, 0, 0) := rfl
set_option maxRecDepth 20000 in
theorem ja_M_day_15 : jv_at jm_M_day.2.2.2.2.2.2 15 = some (.getfield 343, 3, 12, 16, 1028, 0, 0) := rfl
set_option maxRecDepth 20000 in
theorem ja_M_day_18 : jv_at jm_M_day.2.2.2.2.2.2 18 = some (.iconst 1, 1, 0, 0, 0, 0, 1) := rfl
set_option maxRecDepth 20000 in
theorem ja_M_day_19 : jv_at jm_M_day.2.2.2.2.2.2 19 = some (.iadd, 1, 0, 0, 0, 0, 0) := rfl
set_option maxRecDepth 20000 in
theorem ja_M_day_20 : jv_at jm_M_day.2.2.2.2.2.2 20 = some (.putfield 343, 3, 12, 16, 1028, 0, 0) := rfl
set_option maxRecDepth 20000 in
theorem ja_M_day_23 : jv_at jm_M_day.2.2.2.2.2.2 23 = some (.aload_n 0, 1, 0, 0, 0, 0, 0) := rfl
set_option maxRecDepth 20000 in
theorem ja_M_day_24 : jv_at jm_M_day.2.2.2.2.2.2 24 = some (.iconst 0, 1, 0, 0, 0, 0, 0) := rfl
set_option maxRecDepth 20000 in
theorem ja_M_day_25 : jv_at jm_M_day.2.2.2.2.2.2 25 = some (.putfield 244, 3, 12, 17, 1029, 0, 0) := rfl
set_option maxRecDepth 20000 in
theorem ja_M_day_28 : jv_at jm_M_day.2.2.2.2.2.2 28 = some (.aload_n 0, 1, 0, 0, 0, 0, 0) := rfl
set_option maxRecDepth 20000 in
theorem ja_M_day_29 : jv_at jm_M_day.2.2.2.2.2.2 29 = some (.getfield 343, 3, 12, 16, 1028, 0, 0) := rfl
set_option maxRecDepth 20000 in
theorem ja_M_day_32 : jv_at jm_M_day.2.2.2.2.2.2 32 = some (.ireturn, 1, 0, 0, 0, 0, 0) := rfl
set_option maxRecDepth 20000 in
theorem ja_M_tell_0 : jv_at jm_M_tell.2.2.2.2.2.2 0 = some (.iload_n 1, 1, 0, 0, 0, 0, 0) := rfl
set_option maxRecDepth 20000 in
theorem ja_M_tell_1 : jv_at jm_M_tell.2.2.2.2.2.2 1 = some (.iconst 1, 1, 0, 0, 0, 0, 1) := rfl
set_option maxRecDepth 20000 in
theorem ja_M_tell_2 : jv_at jm_M_tell.2.2.2.2.2.2 2 = some (.iconst 3, 1, 0, 0, 0, 0, 3) := rfl
set_option maxRecDepth 20000 in
theorem ja_M_tell_3 : jv_at jm_M_tell.2.2.2.2.2.2 3 = some (.invokestatic 118, 3, 152, 1, 1195, 12, 3) := rfl
set_option maxRecDepth 20000 in
theorem ja_M_tell_6 : jv_at jm_M_tell.2.2.2.2.2.2 6 = some (.ifCond .eq 51, 3, 57, 0, 0, 0, 0) := rfl
set_option maxRecDepth 20000 in
theorem ja_M_tell_9 : jv_at jm_M_tell.2.2.2.2.2.2 9 = some (.iload_n 1, 1, 0, 0, 0, 0, 0) := rfl
set_option maxRecDepth 20000 in
theorem ja_M_tell_10 : jv_at jm_M_tell.2.2.2.2.2.2 10 = some (.iconst 1, 1, 0, 0, 0, 0, 1) := rfl
set_option maxRecDepth 20000 in
theorem ja_M_tell_11 : jv_at jm_M_tell.2.2.2.2.2.2 11 = some (.if_icmp .eq 10, 3, 21, 0, 0, 0, 0) := rfl
set_option maxRecDepth 20000 in
theorem ja_M_tell_14 : jv_at jm_M_tell.2.2.2.2.2.2 14 = some (.iload_n 3, 1, 0, 0, 0, 0, 0) := rfl
set_option maxRecDepth 20000 in
theorem ja_M_tell_15 : jv_at jm_M_tell.2.2.2.2.2.2 15 = some (.invokestatic 129, 3, 155, 1, 1206, 12, 1) := rfl
set_option maxRecDepth 20000 in
theorem ja_M_tell_18 : jv_at jm_M_tell.2.2.2.2.2.2 18 = some (.ifCond .eq 39, 3, 57, 0, 0, 0, 0) := rfl
set_option maxRecDepth 20000 in
theorem ja_M_tell_21 : jv_at jm_M_tell.2.2.2.2.2.2 21 = some (.aload_n 0, 1, 0, 0, 0, 0, 0) := rfl
set_option maxRecDepth 20000 in
theorem ja_M_tell_22 : jv_at jm_M_tell.2.2.2.2.2.2 22 = some (.getfield 41, 3, 12, 13, 1025, 0, 0) := rfl
set_option maxRecDepth 20000 in
theorem ja_M_tell_25 : jv_at jm_M_tell.2.2.2.2.2.2 25 = some (.iconst (-1), 1, 0, 0, 0, 0, -1) := rfl
set_option maxRecDepth 20000 in
theorem ja_M_tell_26 : jv_at jm_M_tell.2.2.2.2.2.2 26 = some (.if_icmp .eq 34, 3, 60, 0, 0, 0, 0) := rfl
set_option maxRecDepth 20000 in
theorem ja_M_tell_29 : jv_at jm_M_tell.2.2.2.2.2.2 29 = some (.iload_n 2, 1, 0, 0, 0, 0, 0) := rfl
set_option maxRecDepth 20000 in
theorem ja_M_tell_30 : jv_at jm_M_tell.2.2.2.2.2.2 30 = some (.iconst 0, 1, 0, 0, 0, 0, 0) := rfl
set_option maxRecDepth 20000 in
theorem ja_M_tell_31 : jv_at jm_M_tell.2.2.2.2.2.2 31 = some (.aload_n 0, 1, 0, 0, 0, 0, 0) := rfl
set_option maxRecDepth 20000 in
theorem ja_M_tell_32 : jv_at jm_M_tell.2.2.2.2.2.2 32 = some (.getfield 29, 3, 12, 8, 1020, 0, 0) := rfl
set_option maxRecDepth 20000 in
theorem ja_M_tell_35 : jv_at jm_M_tell.2.2.2.2.2.2 35 = some (.aload_n 0, 1, 0, 0, 0, 0, 0) := rfl
set_option maxRecDepth 20000 in
theorem ja_M_tell_36 : jv_at jm_M_tell.2.2.2.2.2.2 36 = some (.getfield 41, 3, 12, 13, 1025, 0, 0) := rfl
set_option maxRecDepth 20000 in
theorem ja_M_tell_39 : jv_at jm_M_tell.2.2.2.2.2.2 39 = some (.iaload, 1, 0, 0, 0, 0, 0) := rfl
set_option maxRecDepth 20000 in
theorem ja_M_tell_40 : jv_at jm_M_tell.2.2.2.2.2.2 40 = some (.iload_n 1, 1, 0, 0, 0, 0, 0) := rfl
set_option maxRecDepth 20000 in
theorem ja_M_tell_41 : jv_at jm_M_tell.2.2.2.2.2.2 41 = some (.iconst 2, 1, 0, 0, 0, 0, 2) := rfl
set_option maxRecDepth 20000 in
theorem ja_M_tell_42 : jv_at jm_M_tell.2.2.2.2.2.2 42 = some (.if_icmp .ne 7, 3, 49, 0, 0, 0, 0) := rfl
set_option maxRecDepth 20000 in
theorem ja_M_tell_45 : jv_at jm_M_tell.2.2.2.2.2.2 45 = some (.iconst 0, 1, 0, 0, 0, 0, 0) := rfl
set_option maxRecDepth 20000 in
theorem ja_M_tell_46 : jv_at jm_M_tell.2.2.2.2.2.2 46 = some (.goto 4, 3, 50, 0, 0, 0, 0) := rfl
set_option maxRecDepth 20000 in
theorem ja_M_tell_49 : jv_at jm_M_tell.2.2.2.2.2.2 49 = some (.iconst 1, 1, 0, 0, 0, 0, 1) := rfl
set_option maxRecDepth 20000 in
theorem ja_M_tell_50 : jv_at jm_M_tell.2.2.2.2.2.2 50 = some (.isub, 1, 0, 0, 0, 0, 0) := rfl
set_option maxRecDepth 20000 in
theorem ja_M_tell_51 : jv_at jm_M_tell.2.2.2.2.2.2 51 = some (.invokestatic 118, 3, 152, 1, 1195, 12, 3) := rfl
set_option maxRecDepth 20000 in
theorem ja_M_tell_54 : jv_at jm_M_tell.2.2.2.2.2.2 54 = some (.ifCond .ne 6, 3, 60, 0, 0, 0, 0) := rfl
set_option maxRecDepth 20000 in
theorem ja_M_tell_57 : jv_at jm_M_tell.2.2.2.2.2.2 57 = some (.bipush (-2), 2, 0, 0, 0, 0, -2) := rfl
set_option maxRecDepth 20000 in
theorem ja_M_tell_59 : jv_at jm_M_tell.2.2.2.2.2.2 59 = some (.ireturn, 1, 0, 0, 0, 0, 0) := rfl
set_option maxRecDepth 20000 in
theorem ja_M_tell_60 : jv_at jm_M_tell.2.2.2.2.2.2 60 = some (.aload_n 0, 1, 0, 0, 0, 0, 0) := rfl
set_option maxRecDepth 20000 in
theorem ja_M_tell_61 : jv_at jm_M_tell.2.2.2.2.2.2 61 = some (.getfield 41, 3, 12, 13, 1025, 0, 0) := rfl
set_option maxRecDepth 20000 in
theorem ja_M_tell_64 : jv_at jm_M_tell.2.2.2.2.2.2 64 = some (.iconst (-1), 1, 0, 0, 0, 0, -1) := rfl
set_option maxRecDepth 20000 in
theorem ja_M_tell_65 : jv_at jm_M_tell.2.2.2.2.2.2 65 = some (.if_icmp .ne 6, 3, 71, 0, 0, 0, 0) := rfl
set_option maxRecDepth 20000 in
theorem ja_M_tell_68 : jv_at jm_M_tell.2.2.2.2.2.2 68 = some (.bipush (-3), 2, 0, 0, 0, 0, -3) := rfl
set_option maxRecDepth 20000 in
theorem ja_M_tell_70 : jv_at jm_M_tell.2.2.2.2.2.2 70 = some (.ireturn, 1, 0, 0, 0, 0, 0) := rfl
set_option maxRecDepth 20000 in
theorem ja_M_tell_71 : jv_at jm_M_tell.2.2.2.2.2.2 71 = some (.aload_n 0, 1, 0, 0, 0, 0, 0) := rfl
set_option maxRecDepth 20000 in
theorem ja_M_tell_72 : jv_at jm_M_tell.2.2.2.2.2.2 72 = some (.getfield 314, 3, 12, 19, 1031, 0, 0) := rfl
set_option maxRecDepth 20000 in
theorem ja_M_tell_75 : jv_at jm_M_tell.2.2.2.2.2.2 75 = some (.iconst 5, 1, 0, 0, 0, 0, 5) := rfl
set_option maxRecDepth 20000 in
theorem ja_M_tell_76 : jv_at jm_M_tell.2.2.2.2.2.2 76 = some (.if_icmp .ne 6, 3, 82, 0, 0, 0, 0) := rfl
set_option maxRecDepth 20000 in
theorem ja_M_tell_79 : jv_at jm_M_tell.2.2.2.2.2.2 79 = some (.bipush (-4), 2, 0, 0, 0, 0, -4) := rfl
set_option maxRecDepth 20000 in
theorem ja_M_tell_81 : jv_at jm_M_tell.2.2.2.2.2.2 81 = some (.ireturn, 1, 0, 0, 0, 0, 0) := rfl
set_option maxRecDepth 20000 in
theorem ja_M_tell_82 : jv_at jm_M_tell.2.2.2.2.2.2 82 = some (.aload_n 0, 1, 0, 0, 0, 0, 0) := rfl
set_option maxRecDepth 20000 in
theorem ja_M_tell_83 : jv_at jm_M_tell.2.2.2.2.2.2 83 = some (.getfield 93, 3, 12, 55, 1067, 0, 0) := rfl
set_option maxRecDepth 20000 in
theorem ja_M_tell_86 : jv_at jm_M_tell.2.2.2.2.2.2 86 = some (.aload_n 0, 1, 0, 0, 0, 0, 0) := rfl
set_option maxRecDepth 20000 in
theorem ja_M_tell_87 : jv_at jm_M_tell.2.2.2.2.2.2 87 = some (.getfield 314, 3, 12, 19, 1031, 0, 0) := rfl
set_option maxRecDepth 20000 in
theorem ja_M_tell_90 : jv_at jm_M_tell.2.2.2.2.2.2 90 = some (.iload_n 1, 1, 0, 0, 0, 0, 0) := rfl
set_option maxRecDepth 20000 in
theorem ja_M_tell_91 : jv_at jm_M_tell.2.2.2.2.2.2 91 = some (.iastore, 1, 0, 0, 0, 0, 0) := rfl
set_option maxRecDepth 20000 in
theorem ja_M_tell_92 : jv_at jm_M_tell.2.2.2.2.2.2 92 = some (.aload_n 0, 1, 0, 0, 0, 0, 0) := rfl
set_option maxRecDepth 20000 in
theorem ja_M_tell_93 : jv_at jm_M_tell.2.2.2.2.2.2 93 = some (.getfield 96, 3, 12, 56, 1068, 0, 0) := rfl
set_option maxRecDepth 20000 in
theorem ja_M_tell_96 : jv_at jm_M_tell.2.2.2.2.2.2 96 = some (.aload_n 0, 1, 0, 0, 0, 0, 0) := rfl
set_option maxRecDepth 20000 in
theorem ja_M_tell_97 : jv_at jm_M_tell.2.2.2.2.2.2 97 = some (.getfield 314, 3, 12, 19, 1031, 0, 0) := rfl
set_option maxRecDepth 20000 in
theorem ja_M_tell_100 : jv_at jm_M_tell.2.2.2.2.2.2 100 = some (.iload_n 2, 1, 0, 0, 0, 0, 0) := rfl
set_option maxRecDepth 20000 in
theorem ja_M_tell_101 : jv_at jm_M_tell.2.2.2.2.2.2 101 = some (.iastore, 1, 0, 0, 0, 0, 0) := rfl
set_option maxRecDepth 20000 in
theorem ja_M_tell_102 : jv_at jm_M_tell.2.2.2.2.2.2 102 = some (.aload_n 0, 1, 0, 0, 0, 0, 0) := rfl
set_option maxRecDepth 20000 in
theorem ja_M_tell_103 : jv_at jm_M_tell.2.2.2.2.2.2 103 = some (.getfield 99, 3, 12, 57, 1069, 0, 0) := rfl
set_option maxRecDepth 20000 in
theorem ja_M_tell_106 : jv_at jm_M_tell.2.2.2.2.2.2 106 = some (.aload_n 0, 1, 0, 0, 0, 0, 0) := rfl
set_option maxRecDepth 20000 in
theorem ja_M_tell_107 : jv_at jm_M_tell.2.2.2.2.2.2 107 = some (.getfield 314, 3, 12, 19, 1031, 0, 0) := rfl
set_option maxRecDepth 20000 in
theorem ja_M_tell_110 : jv_at jm_M_tell.2.2.2.2.2.2 110 = some (.iload_n 3, 1, 0, 0, 0, 0, 0) := rfl
set_option maxRecDepth 20000 in
theorem ja_M_tell_111 : jv_at jm_M_tell.2.2.2.2.2.2 111 = some (.iastore, 1, 0, 0, 0, 0, 0) := rfl
set_option maxRecDepth 20000 in
theorem ja_M_tell_112 : jv_at jm_M_tell.2.2.2.2.2.2 112 = some (.aload_n 0, 1, 0, 0, 0, 0, 0) := rfl
set_option maxRecDepth 20000 in
theorem ja_M_tell_113 : jv_at jm_M_tell.2.2.2.2.2.2 113 = some (.dup, 1, 0, 0, 0, 0, 0) := rfl
set_option maxRecDepth 20000 in
theorem ja_M_tell_114 : jv_at jm_M_tell.2.2.2.2.2.2 114 = some (.getfield 314, 3, 12, 19, 1031, 0, 0) := rfl
set_option maxRecDepth 20000 in
theorem ja_M_tell_117 : jv_at jm_M_tell.2.2.2.2.2.2 117 = some (.iconst 1, 1, 0, 0, 0, 0, 1) := rfl
set_option maxRecDepth 20000 in
theorem ja_M_tell_118 : jv_at jm_M_tell.2.2.2.2.2.2 118 = some (.iadd, 1, 0, 0, 0, 0, 0) := rfl
set_option maxRecDepth 20000 in
theorem ja_M_tell_119 : jv_at jm_M_tell.2.2.2.2.2.2 119 = some (.putfield 314, 3, 12, 19, 1031, 0, 0) := rfl
set_option maxRecDepth 20000 in
theorem ja_M_tell_122 : jv_at jm_M_tell.2.2.2.2.2.2 122 = some (.aload_n 0, 1, 0, 0, 0, 0, 0) := rfl
set_option maxRecDepth 20000 in
theorem ja_M_tell_123 : jv_at jm_M_tell.2.2.2.2.2.2 123 = some (.getfield 314, 3, 12, 19, 1031, 0, 0) := rfl
set_option maxRecDepth 20000 in
theorem ja_M_tell_126 : jv_at jm_M_tell.2.2.2.2.2.2 126 = some (.ireturn, 1, 0, 0, 0, 0, 0) := rfl
set_option maxRecDepth 20000 in
theorem ja_M_foresee_0 : jv_at jm_M_foresee.2.2.2.2.2.2 0 = some (.aload_n 0, 1, 0, 0, 0, 0, 0) := rfl
set_option maxRecDepth 20000 in
theorem ja_M_foresee_1 : jv_at jm_M_foresee.2.2.2.2.2.2 1 = some (.iload_n 2, 1, 0, 0, 0, 0, 0) := rfl
set_option maxRecDepth 20000 in
theorem ja_M_foresee_2 : jv_at jm_M_foresee.2.2.2.2.2.2 2 = some (.invokevirtual 125, 3, 154, 0, 1202, 12, 1) := rfl
set_option maxRecDepth 20000 in
theorem ja_M_foresee_5 : jv_at jm_M_foresee.2.2.2.2.2.2 5 = some (.ifCond .eq 19, 3, 24, 0, 0, 0, 0) := rfl
set_option maxRecDepth 20000 in
theorem ja_M_foresee_8 : jv_at jm_M_foresee.2.2.2.2.2.2 8 = some (.aload_n 0, 1, 0, 0, 0, 0, 0) := rfl
set_option maxRecDepth 20000 in
theorem ja_M_foresee_9 : jv_at jm_M_foresee.2.2.2.2.2.2 9 = some (.getfield 41, 3, 12, 13, 1025, 0, 0) := rfl
set_option maxRecDepth 20000 in
theorem ja_M_foresee_12 : jv_at jm_M_foresee.2.2.2.2.2.2 12 = some (.iconst (-1), 1, 0, 0, 0, 0, -1) := rfl
set_option maxRecDepth 20000 in
theorem ja_M_foresee_13 : jv_at jm_M_foresee.2.2.2.2.2.2 13 = some (.if_icmp .eq 11, 3, 24, 0, 0, 0, 0) := rfl
set_option maxRecDepth 20000 in
theorem ja_M_foresee_16 : jv_at jm_M_foresee.2.2.2.2.2.2 16 = some (.aload_n 0, 1, 0, 0, 0, 0, 0) := rfl
set_option maxRecDepth 20000 in
theorem ja_M_foresee_17 : jv_at jm_M_foresee.2.2.2.2.2.2 17 = some (.iload_n 1, 1, 0, 0, 0, 0, 0) := rfl
set_option maxRecDepth 20000 in
theorem ja_M_foresee_18 : jv_at jm_M_foresee.2.2.2.2.2.2 18 = some (.invokevirtual 346, 3, 207, 0, 1414, 12, 1) := rfl
set_option maxRecDepth 20000 in
theorem ja_M_foresee_21 : jv_at jm_M_foresee.2.2.2.2.2.2 21 = some (.ifCond .ne 7, 3, 28, 0, 0, 0, 0) := rfl
set_option maxRecDepth 20000 in
theorem ja_M_foresee_24 : jv_at jm_M_foresee.2.2.2.2.2.2 24 = some (.ldc2_w 145, 3, 0, 0, 1260, 0, -4611686018427387904) := rfl
set_option maxRecDepth 20000 in
theorem ja_M_foresee_27 : jv_at jm_M_foresee.2.2.2.2.2.2 27 = some (.lreturn, 1, 0, 0, 0, 0, 0) := rfl
set_option maxRecDepth 20000 in
theorem ja_M_foresee_28 : jv_at jm_M_foresee.2.2.2.2.2.2 28 = some (.aload_n 0, 1, 0, 0, 0, 0, 0) := rfl
set_option maxRecDepth 20000 in
theorem ja_M_foresee_29 : jv_at jm_M_foresee.2.2.2.2.2.2 29 = some (.iload_n 1, 1, 0, 0, 0, 0, 0) := rfl
set_option maxRecDepth 20000 in
theorem ja_M_foresee_30 : jv_at jm_M_foresee.2.2.2.2.2.2 30 = some (.invokevirtual 349, 3, 208, 0, 1418, 12, 1) := rfl
set_option maxRecDepth 20000 in
theorem ja_M_foresee_33 : jv_at jm_M_foresee.2.2.2.2.2.2 33 = some (.aload_n 0, 1, 0, 0, 0, 0, 0) := rfl
set_option maxRecDepth 20000 in
theorem ja_M_foresee_34 : jv_at jm_M_foresee.2.2.2.2.2.2 34 = some (.iload_n 2, 1, 0, 0, 0, 0, 0) := rfl
set_option maxRecDepth 20000 in
theorem ja_M_foresee_35 : jv_at jm_M_foresee.2.2.2.2.2.2 35 = some (.invokevirtual 150, 3, 170, 0, 1265, 12, 1) := rfl
set_option maxRecDepth 20000 in
theorem ja_M_foresee_38 : jv_at jm_M_foresee.2.2.2.2.2.2 38 = some (.i2l, 1, 0, 0, 0, 0, 0) := rfl
set_option maxRecDepth 20000 in
theorem ja_M_foresee_39 : jv_at jm_M_foresee.2.2.2.2.2.2 39 = some (.lreturn, 1, 0, 0, 0, 0, 0) := rfl
set_option maxRecDepth 20000 in
theorem ja_M_isOrder_0 : jv_at jm_M_isOrder.2.2.2.2.2.2 0 = some (.iload_n 1, 1, 0, 0, 0, 0, 0) := rfl
set_option maxRecDepth 20000 in
theorem ja_M_isOrder_1 : jv_at jm_M_isOrder.2.2.2.2.2.2 1 = some (.istore_n 2, 1, 0, 0, 0, 0, 0) := rfl
set_option maxRecDepth 20000 in
theorem ja_M_isOrder_2 : jv_at jm_M_isOrder.2.2.2.2.2.2 2 = some (.iconst 0, 1, 0, 0, 0, 0, 0) := rfl
set_option maxRecDepth 20000 in
theorem ja_M_isOrder_3 : jv_at jm_M_isOrder.2.2.2.2.2.2 3 = some (.istore_n 3, 1, 0, 0, 0, 0, 0) := rfl
set_option maxRecDepth 20000 in
theorem ja_M_isOrder_4 : jv_at jm_M_isOrder.2.2.2.2.2.2 4 = some (.iconst 0, 1, 0, 0, 0, 0, 0) := rfl
set_option maxRecDepth 20000 in
theorem ja_M_isOrder_5 : jv_at jm_M_isOrder.2.2.2.2.2.2 5 = some (.istore 4, 2, 0, 0, 0, 0, 0) := rfl
set_option maxRecDepth 20000 in
theorem ja_M_isOrder_7 : jv_at jm_M_isOrder.2.2.2.2.2.2 7 = some (.iload 4, 2, 0, 0, 0, 0, 0) := rfl
set_option maxRecDepth 20000 in
theorem ja_M_isOrder_9 : jv_at jm_M_isOrder.2.2.2.2.2.2 9 = some (.aload_n 0, 1, 0, 0, 0, 0, 0) := rfl
set_option maxRecDepth 20000 in
theorem ja_M_isOrder_10 : jv_at jm_M_isOrder.2.2.2.2.2.2 10 = some (.getfield 314, 3, 12, 19, 1031, 0, 0) := rfl
set_option maxRecDepth 20000 in
theorem ja_M_isOrder_13 : jv_at jm_M_isOrder.2.2.2.2.2.2 13 = some (.if_icmp .ge 42, 3, 55, 0, 0, 0, 0) := rfl
set_option maxRecDepth 20000 in
theorem ja_M_isOrder_16 : jv_at jm_M_isOrder.2.2.2.2.2.2 16 = some (.iload_n 1, 1, 0, 0, 0, 0, 0) := rfl
set_option maxRecDepth 20000 in
theorem ja_M_isOrder_17 : jv_at jm_M_isOrder.2.2.2.2.2.2 17 = some (.ifCond .lt 38, 3, 55, 0, 0, 0, 0) := rfl
set_option maxRecDepth 20000 in
theorem ja_M_isOrder_20 : jv_at jm_M_isOrder.2.2.2.2.2.2 20 = some (.iload_n 3, 1, 0, 0, 0, 0, 0) := rfl
set_option maxRecDepth 20000 in
theorem ja_M_isOrder_21 : jv_at jm_M_isOrder.2.2.2.2.2.2 21 = some (.iload_n 2, 1, 0, 0, 0, 0, 0) := rfl
set_option maxRecDepth 20000 in
theorem ja_M_isOrder_22 : jv_at jm_M_isOrder.2.2.2.2.2.2 22 = some (.bipush 6, 2, 0, 0, 0, 0, 6) := rfl
set_option maxRecDepth 20000 in
theorem ja_M_isOrder_24 : jv_at jm_M_isOrder.2.2.2.2.2.2 24 = some (.irem, 1, 0, 0, 0, 0, 0) := rfl
set_option maxRecDepth 20000 in
theorem ja_M_isOrder_25 : jv_at jm_M_isOrder.2.2.2.2.2.2 25 = some (.aload_n 0, 1, 0, 0, 0, 0, 0) := rfl
set_option maxRecDepth 20000 in
theorem ja_M_isOrder_26 : jv_at jm_M_isOrder.2.2.2.2.2.2 26 = some (.getfield 314, 3, 12, 19, 1031, 0, 0) := rfl
set_option maxRecDepth 20000 in
theorem ja_M_isOrder_29 : jv_at jm_M_isOrder.2.2.2.2.2.2 29 = some (.if_icmp .ge 12, 3, 41, 0, 0, 0, 0) := rfl
set_option maxRecDepth 20000 in
theorem ja_M_isOrder_32 : jv_at jm_M_isOrder.2.2.2.2.2.2 32 = some (.iconst 1, 1, 0, 0, 0, 0, 1) := rfl
set_option maxRecDepth 20000 in
theorem ja_M_isOrder_33 : jv_at jm_M_isOrder.2.2.2.2.2.2 33 = some (.iload_n 2, 1, 0, 0, 0, 0, 0) := rfl
set_option maxRecDepth 20000 in
theorem ja_M_isOrder_34 : jv_at jm_M_isOrder.2.2.2.2.2.2 34 = some (.bipush 6, 2, 0, 0, 0, 0, 6) := rfl
set_option maxRecDepth 20000 in
theorem ja_M_isOrder_36 : jv_at jm_M_isOrder.2.2.2.2.2.2 36 = some (.irem, 1, 0, 0, 0, 0, 0) := rfl
set_option maxRecDepth 20000 in
theorem ja_M_isOrder_37 : jv_at jm_M_isOrder.2.2.2.2.2.2 37 = some (.ishl, 1, 0, 0, 0, 0, 0) := rfl
set_option maxRecDepth 20000 in
theorem ja_M_isOrder_38 : jv_at jm_M_isOrder.2.2.2.2.2.2 38 = some (.goto 4, 3, 42, 0, 0, 0, 0) := rfl
set_option maxRecDepth 20000 in
theorem ja_M_isOrder_41 : jv_at jm_M_isOrder.2.2.2.2.2.2 41 = some (.iconst 0, 1, 0, 0, 0, 0, 0) := rfl
set_option maxRecDepth 20000 in
theorem ja_M_isOrder_42 : jv_at jm_M_isOrder.2.2.2.2.2.2 42 = some (.ior, 1, 0, 0, 0, 0, 0) := rfl
set_option maxRecDepth 20000 in
theorem ja_M_isOrder_43 : jv_at jm_M_isOrder.2.2.2.2.2.2 43 = some (.istore_n 3, 1, 0, 0, 0, 0, 0) := rfl
set_option maxRecDepth 20000 in
theorem ja_M_isOrder_44 : jv_at jm_M_isOrder.2.2.2.2.2.2 44 = some (.iload_n 2, 1, 0, 0, 0, 0, 0) := rfl
set_option maxRecDepth 20000 in
theorem ja_M_isOrder_45 : jv_at jm_M_isOrder.2.2.2.2.2.2 45 = some (.bipush 6, 2, 0, 0, 0, 0, 6) := rfl
set_option maxRecDepth 20000 in
theorem ja_M_isOrder_47 : jv_at jm_M_isOrder.2.2.2.2.2.2 47 = some (.idiv, 1, 0, 0, 0, 0, 0) := rfl
set_option maxRecDepth 20000 in
theorem ja_M_isOrder_48 : jv_at jm_M_isOrder.2.2.2.2.2.2 48 = some (.istore_n 2, 1, 0, 0, 0, 0, 0) := rfl
set_option maxRecDepth 20000 in
theorem ja_M_isOrder_49 : jv_at jm_M_isOrder.2.2.2.2.2.2 49 = some (.iinc 4 1, 3, 0, 0, 0, 0, 0) := rfl
set_option maxRecDepth 20000 in
theorem ja_M_isOrder_52 : jv_at jm_M_isOrder.2.2.2.2.2.2 52 = some (.goto (-45), 3, 7, 0, 0, 0, 0) := rfl
set_option maxRecDepth 20000 in
theorem ja_M_isOrder_55 : jv_at jm_M_isOrder.2.2.2.2.2.2 55 = some (.iload_n 1, 1, 0, 0, 0, 0, 0) := rfl
set_option maxRecDepth 20000 in
theorem ja_M_isOrder_56 : jv_at jm_M_isOrder.2.2.2.2.2.2 56 = some (.ifCond .lt 23, 3, 79, 0, 0, 0, 0) := rfl
set_option maxRecDepth 20000 in
theorem ja_M_isOrder_59 : jv_at jm_M_isOrder.2.2.2.2.2.2 59 = some (.iload_n 2, 1, 0, 0, 0, 0, 0) := rfl
set_option maxRecDepth 20000 in
theorem ja_M_isOrder_60 : jv_at jm_M_isOrder.2.2.2.2.2.2 60 = some (.ifCond .ne 19, 3, 79, 0, 0, 0, 0) := rfl
set_option maxRecDepth 20000 in
theorem ja_M_isOrder_63 : jv_at jm_M_isOrder.2.2.2.2.2.2 63 = some (.iload_n 3, 1, 0, 0, 0, 0, 0) := rfl
set_option maxRecDepth 20000 in
theorem ja_M_isOrder_64 : jv_at jm_M_isOrder.2.2.2.2.2.2 64 = some (.iconst 1, 1, 0, 0, 0, 0, 1) := rfl
set_option maxRecDepth 20000 in
theorem ja_M_isOrder_65 : jv_at jm_M_isOrder.2.2.2.2.2.2 65 = some (.aload_n 0, 1, 0, 0, 0, 0, 0) := rfl
set_option maxRecDepth 20000 in
theorem ja_M_isOrder_66 : jv_at jm_M_isOrder.2.2.2.2.2.2 66 = some (.getfield 314, 3, 12, 19, 1031, 0, 0) := rfl
set_option maxRecDepth 20000 in
theorem ja_M_isOrder_69 : jv_at jm_M_isOrder.2.2.2.2.2.2 69 = some (.ishl, 1, 0, 0, 0, 0, 0) := rfl
set_option maxRecDepth 20000 in
theorem ja_M_isOrder_70 : jv_at jm_M_isOrder.2.2.2.2.2.2 70 = some (.iconst 1, 1, 0, 0, 0, 0, 1) := rfl
set_option maxRecDepth 20000 in
theorem ja_M_isOrder_71 : jv_at jm_M_isOrder.2.2.2.2.2.2 71 = some (.isub, 1, 0, 0, 0, 0, 0) := rfl
set_option maxRecDepth 20000 in
theorem ja_M_isOrder_72 : jv_at jm_M_isOrder.2.2.2.2.2.2 72 = some (.if_icmp .ne 7, 3, 79, 0, 0, 0, 0) := rfl
set_option maxRecDepth 20000 in
theorem ja_M_isOrder_75 : jv_at jm_M_isOrder.2.2.2.2.2.2 75 = some (.iconst 1, 1, 0, 0, 0, 0, 1) := rfl
set_option maxRecDepth 20000 in
theorem ja_M_isOrder_76 : jv_at jm_M_isOrder.2.2.2.2.2.2 76 = some (.goto 4, 3, 80, 0, 0, 0, 0) := rfl
set_option maxRecDepth 20000 in
theorem ja_M_isOrder_79 : jv_at jm_M_isOrder.2.2.2.2.2.2 79 = some (.iconst 0, 1, 0, 0, 0, 0, 0) := rfl
set_option maxRecDepth 20000 in
theorem ja_M_isOrder_80 : jv_at jm_M_isOrder.2.2.2.2.2.2 80 = some (.ireturn, 1, 0, 0, 0, 0, 0) := rfl
set_option maxRecDepth 20000 in
theorem ja_M_foresees_0 : jv_at jm_M_foresees.2.2.2.2.2.2 0 = some (.aload_n 0, 1, 0, 0, 0, 0, 0) := rfl
set_option maxRecDepth 20000 in
theorem ja_M_foresees_1 : jv_at jm_M_foresees.2.2.2.2.2.2 1 = some (.aload_n 0, 1, 0, 0, 0, 0, 0) := rfl
set_option maxRecDepth 20000 in
theorem ja_M_foresees_2 : jv_at jm_M_foresees.2.2.2.2.2.2 2 = some (.getfield 41, 3, 12, 13, 1025, 0, 0) := rfl
set_option maxRecDepth 20000 in
theorem ja_M_foresees_5 : jv_at jm_M_foresees.2.2.2.2.2.2 5 = some (.invokevirtual 147, 3, 169, 0, 1261, 12, 1) := rfl
set_option maxRecDepth 20000 in
theorem ja_M_foresees_8 : jv_at jm_M_foresees.2.2.2.2.2.2 8 = some (.iconst 0, 1, 0, 0, 0, 0, 0) := rfl
set_option maxRecDepth 20000 in
theorem ja_M_foresees_9 : jv_at jm_M_foresees.2.2.2.2.2.2 9 = some (.istore_n 2, 1, 0, 0, 0, 0, 0) := rfl
set_option maxRecDepth 20000 in
theorem ja_M_foresees_10 : jv_at jm_M_foresees.2.2.2.2.2.2 10 = some (.iload_n 2, 1, 0, 0, 0, 0, 0) := rfl
set_option maxRecDepth 20000 in
theorem ja_M_foresees_11 : jv_at jm_M_foresees.2.2.2.2.2.2 11 = some (.aload_n 0, 1, 0, 0, 0, 0, 0) := rfl
set_option maxRecDepth 20000 in
theorem ja_M_foresees_12 : jv_at jm_M_foresees.2.2.2.2.2.2 12 = some (.getfield 314, 3, 12, 19, 1031, 0, 0) := rfl
set_option maxRecDepth 20000 in
theorem ja_M_foresees_15 : jv_at jm_M_foresees.2.2.2.2.2.2 15 = some (.if_icmp .ge 84, 3, 99, 0, 0, 0, 0) := rfl
set_option maxRecDepth 20000 in
theorem ja_M_foresees_18 : jv_at jm_M_foresees.2.2.2.2.2.2 18 = some (.bipush 8, 2, 0, 0, 0, 0, 8) := rfl
set_option maxRecDepth 20000 in
theorem ja_M_foresees_20 : jv_at jm_M_foresees.2.2.2.2.2.2 20 = some (.iload_n 2, 1, 0, 0, 0, 0, 0) := rfl
set_option maxRecDepth 20000 in
theorem ja_M_foresees_21 : jv_at jm_M_foresees.2.2.2.2.2.2 21 = some (.iadd, 1, 0, 0, 0, 0, 0) := rfl
set_option maxRecDepth 20000 in
theorem ja_M_foresees_22 : jv_at jm_M_foresees.2.2.2.2.2.2 22 = some (.istore_n 3, 1, 0, 0, 0, 0, 0) := rfl
set_option maxRecDepth 20000 in
theorem ja_M_foresees_23 : jv_at jm_M_foresees.2.2.2.2.2.2 23 = some (.aload_n 0, 1, 0, 0, 0, 0, 0) := rfl
set_option maxRecDepth 20000 in
theorem ja_M_foresees_24 : jv_at jm_M_foresees.2.2.2.2.2.2 24 = some (.getfield 45, 3, 12, 20, 1032, 0, 0) := rfl
set_option maxRecDepth 20000 in
theorem ja_M_foresees_27 : jv_at jm_M_foresees.2.2.2.2.2.2 27 = some (.iload_n 3, 1, 0, 0, 0, 0, 0) := rfl
set_option maxRecDepth 20000 in
theorem ja_M_foresees_28 : jv_at jm_M_foresees.2.2.2.2.2.2 28 = some (.aload_n 0, 1, 0, 0, 0, 0, 0) := rfl
set_option maxRecDepth 20000 in
theorem ja_M_foresees_29 : jv_at jm_M_foresees.2.2.2.2.2.2 29 = some (.getfield 93, 3, 12, 55, 1067, 0, 0) := rfl
set_option maxRecDepth 20000 in
theorem ja_M_foresees_32 : jv_at jm_M_foresees.2.2.2.2.2.2 32 = some (.iload_n 2, 1, 0, 0, 0, 0, 0) := rfl
set_option maxRecDepth 20000 in
theorem ja_M_foresees_33 : jv_at jm_M_foresees.2.2.2.2.2.2 33 = some (.iaload, 1, 0, 0, 0, 0, 0) := rfl
set_option maxRecDepth 20000 in
theorem ja_M_foresees_34 : jv_at jm_M_foresees.2.2.2.2.2.2 34 = some (.iastore, 1, 0, 0, 0, 0, 0) := rfl
set_option maxRecDepth 20000 in
theorem ja_M_foresees_35 : jv_at jm_M_foresees.2.2.2.2.2.2 35 = some (.aload_n 0, 1, 0, 0, 0, 0, 0) := rfl
set_option maxRecDepth 20000 in
theorem ja_M_foresees_36 : jv_at jm_M_foresees.2.2.2.2.2.2 36 = some (.getfield 51, 3, 12, 22, 1034, 0, 0) := rfl
set_option maxRecDepth 20000 in
theorem ja_M_foresees_39 : jv_at jm_M_foresees.2.2.2.2.2.2 39 = some (.iload_n 3, 1, 0, 0, 0, 0, 0) := rfl
set_option maxRecDepth 20000 in
theorem ja_M_foresees_40 : jv_at jm_M_foresees.2.2.2.2.2.2 40 = some (.aload_n 0, 1, 0, 0, 0, 0, 0) := rfl
set_option maxRecDepth 20000 in
theorem ja_M_foresees_41 : jv_at jm_M_foresees.2.2.2.2.2.2 41 = some (.getfield 96, 3, 12, 56, 1068, 0, 0) := rfl
set_option maxRecDepth 20000 in
theorem ja_M_foresees_44 : jv_at jm_M_foresees.2.2.2.2.2.2 44 = some (.iload_n 2, 1, 0, 0, 0, 0, 0) := rfl
set_option maxRecDepth 20000 in
theorem ja_M_foresees_45 : jv_at jm_M_foresees.2.2.2.2.2.2 45 = some (.iaload, 1, 0, 0, 0, 0, 0) := rfl
set_option maxRecDepth 20000 in
theorem ja_M_foresees_46 : jv_at jm_M_foresees.2.2.2.2.2.2 46 = some (.iastore, 1, 0, 0, 0, 0, 0) := rfl
set_option maxRecDepth 20000 in
theorem ja_M_foresees_47 : jv_at jm_M_foresees.2.2.2.2.2.2 47 = some (.aload_n 0, 1, 0, 0, 0, 0, 0) := rfl
set_option maxRecDepth 20000 in
theorem ja_M_foresees_48 : jv_at jm_M_foresees.2.2.2.2.2.2 48 = some (.getfield 54, 3, 12, 23, 1035, 0, 0) := rfl
set_option maxRecDepth 20000 in
theorem ja_M_foresees_51 : jv_at jm_M_foresees.2.2.2.2.2.2 51 = some (.iload_n 3, 1, 0, 0, 0, 0, 0) := rfl
set_option maxRecDepth 20000 in
theorem ja_M_foresees_52 : jv_at jm_M_foresees.2.2.2.2.2.2 52 = some (.aload_n 0, 1, 0, 0, 0, 0, 0) := rfl
set_option maxRecDepth 20000 in
theorem ja_M_foresees_53 : jv_at jm_M_foresees.2.2.2.2.2.2 53 = some (.getfield 99, 3, 12, 57, 1069, 0, 0) := rfl
set_option maxRecDepth 20000 in
theorem ja_M_foresees_56 : jv_at jm_M_foresees.2.2.2.2.2.2 56 = some (.iload_n 2, 1, 0, 0, 0, 0, 0) := rfl
set_option maxRecDepth 20000 in
theorem ja_M_foresees_57 : jv_at jm_M_foresees.2.2.2.2.2.2 57 = some (.iaload, 1, 0, 0, 0, 0, 0) := rfl
set_option maxRecDepth 20000 in
theorem ja_M_foresees_58 : jv_at jm_M_foresees.2.2.2.2.2.2 58 = some (.iastore, 1, 0, 0, 0, 0, 0) := rfl
set_option maxRecDepth 20000 in
theorem ja_M_foresees_59 : jv_at jm_M_foresees.2.2.2.2.2.2 59 = some (.aload_n 0, 1, 0, 0, 0, 0, 0) := rfl
set_option maxRecDepth 20000 in
theorem ja_M_foresees_60 : jv_at jm_M_foresees.2.2.2.2.2.2 60 = some (.getfield 57, 3, 12, 24, 1036, 0, 0) := rfl
set_option maxRecDepth 20000 in
theorem ja_M_foresees_63 : jv_at jm_M_foresees.2.2.2.2.2.2 63 = some (.iload_n 3, 1, 0, 0, 0, 0, 0) := rfl
set_option maxRecDepth 20000 in
theorem ja_M_foresees_64 : jv_at jm_M_foresees.2.2.2.2.2.2 64 = some (.aload_n 0, 1, 0, 0, 0, 0, 0) := rfl
set_option maxRecDepth 20000 in
theorem ja_M_foresees_65 : jv_at jm_M_foresees.2.2.2.2.2.2 65 = some (.getfield 45, 3, 12, 20, 1032, 0, 0) := rfl
set_option maxRecDepth 20000 in
theorem ja_M_foresees_68 : jv_at jm_M_foresees.2.2.2.2.2.2 68 = some (.iload_n 3, 1, 0, 0, 0, 0, 0) := rfl
set_option maxRecDepth 20000 in
theorem ja_M_foresees_69 : jv_at jm_M_foresees.2.2.2.2.2.2 69 = some (.iaload, 1, 0, 0, 0, 0, 0) := rfl
set_option maxRecDepth 20000 in
theorem ja_M_foresees_70 : jv_at jm_M_foresees.2.2.2.2.2.2 70 = some (.iconst 2, 1, 0, 0, 0, 0, 2) := rfl
set_option maxRecDepth 20000 in
theorem ja_M_foresees_71 : jv_at jm_M_foresees.2.2.2.2.2.2 71 = some (.if_icmp .ne 20, 3, 91, 0, 0, 0, 0) := rfl
set_option maxRecDepth 20000 in
theorem ja_M_foresees_74 : jv_at jm_M_foresees.2.2.2.2.2.2 74 = some (.aload_n 0, 1, 0, 0, 0, 0, 0) := rfl
set_option maxRecDepth 20000 in
theorem ja_M_foresees_75 : jv_at jm_M_foresees.2.2.2.2.2.2 75 = some (.getfield 51, 3, 12, 22, 1034, 0, 0) := rfl
set_option maxRecDepth 20000 in
theorem ja_M_foresees_78 : jv_at jm_M_foresees.2.2.2.2.2.2 78 = some (.iload_n 3, 1, 0, 0, 0, 0, 0) := rfl
set_option maxRecDepth 20000 in
theorem ja_M_foresees_79 : jv_at jm_M_foresees.2.2.2.2.2.2 79 = some (.iaload, 1, 0, 0, 0, 0, 0) := rfl
set_option maxRecDepth 20000 in
theorem ja_M_foresees_80 : jv_at jm_M_foresees.2.2.2.2.2.2 80 = some (.aload_n 0, 1, 0, 0, 0, 0, 0) := rfl
set_option maxRecDepth 20000 in
theorem ja_M_foresees_81 : jv_at jm_M_foresees.2.2.2.2.2.2 81 = some (.getfield 277, 3, 12, 53, 1065, 0, 0) := rfl
set_option maxRecDepth 20000 in
theorem ja_M_foresees_84 : jv_at jm_M_foresees.2.2.2.2.2.2 84 = some (.if_icmp .ne 7, 3, 91, 0, 0, 0, 0) := rfl
set_option maxRecDepth 20000 in
theorem ja_M_foresees_87 : jv_at jm_M_foresees.2.2.2.2.2.2 87 = some (.iconst 1, 1, 0, 0, 0, 0, 1) := rfl
set_option maxRecDepth 20000 in
theorem ja_M_foresees_88 : jv_at jm_M_foresees.2.2.2.2.2.2 88 = some (.goto 4, 3, 92, 0, 0, 0, 0) := rfl
set_option maxRecDepth 20000 in
theorem ja_M_foresees_91 : jv_at jm_M_foresees.2.2.2.2.2.2 91 = some (.iconst 0, 1, 0, 0, 0, 0, 0) := rfl
set_option maxRecDepth 20000 in
theorem ja_M_foresees_92 : jv_at jm_M_foresees.2.2.2.2.2.2 92 = some (.bastore, 1, 0, 0, 0, 0, 0) := rfl
set_option maxRecDepth 20000 in
theorem ja_M_foresees_93 : jv_at jm_M_foresees.2.2.2.2.2.2 93 = some (.iinc 2 1, 3, 0, 0, 0, 0, 0) := rfl
set_option maxRecDepth 20000 in
theorem ja_M_foresees_96 : jv_at jm_M_foresees.2.2.2.2.2.2 96 = some (.goto (-86), 3, 10, 0, 0, 0, 0) := rfl
set_option maxRecDepth 20000 in
theorem ja_M_foresees_99 : jv_at jm_M_foresees.2.2.2.2.2.2 99 = some (.iload_n 1, 1, 0, 0, 0, 0, 0) := rfl
set_option maxRecDepth 20000 in
theorem ja_M_foresees_100 : jv_at jm_M_foresees.2.2.2.2.2.2 100 = some (.istore_n 2, 1, 0, 0, 0, 0, 0) := rfl
set_option maxRecDepth 20000 in
theorem ja_M_foresees_101 : jv_at jm_M_foresees.2.2.2.2.2.2 101 = some (.iconst 0, 1, 0, 0, 0, 0, 0) := rfl
set_option maxRecDepth 20000 in
theorem ja_M_foresees_102 : jv_at jm_M_foresees.2.2.2.2.2.2 102 = some (.istore_n 3, 1, 0, 0, 0, 0, 0) := rfl
set_option maxRecDepth 20000 in
theorem ja_M_foresees_103 : jv_at jm_M_foresees.2.2.2.2.2.2 103 = some (.iload_n 3, 1, 0, 0, 0, 0, 0) := rfl
set_option maxRecDepth 20000 in
theorem ja_M_foresees_104 : jv_at jm_M_foresees.2.2.2.2.2.2 104 = some (.aload_n 0, 1, 0, 0, 0, 0, 0) := rfl
set_option maxRecDepth 20000 in
theorem ja_M_foresees_105 : jv_at jm_M_foresees.2.2.2.2.2.2 105 = some (.getfield 314, 3, 12, 19, 1031, 0, 0) := rfl
set_option maxRecDepth 20000 in
theorem ja_M_foresees_108 : jv_at jm_M_foresees.2.2.2.2.2.2 108 = some (.if_icmp .ge 137, 3, 245, 0, 0, 0, 0) := rfl
set_option maxRecDepth 20000 in
theorem ja_M_foresees_111 : jv_at jm_M_foresees.2.2.2.2.2.2 111 = some (.bipush 8, 2, 0, 0, 0, 0, 8) := rfl
set_option maxRecDepth 20000 in
theorem ja_M_foresees_113 : jv_at jm_M_foresees.2.2.2.2.2.2 113 = some (.iload_n 2, 1, 0, 0, 0, 0, 0) := rfl
set_option maxRecDepth 20000 in
theorem ja_M_foresees_114 : jv_at jm_M_foresees.2.2.2.2.2.2 114 = some (.bipush 6, 2, 0, 0, 0, 0, 6) := rfl
set_option maxRecDepth 20000 in
theorem ja_M_foresees_116 : jv_at jm_M_foresees.2.2.2.2.2.2 116 = some (.irem, 1, 0, 0, 0, 0, 0) := rfl
set_option maxRecDepth 20000 in
theorem ja_M_foresees_117 : jv_at jm_M_foresees.2.2.2.2.2.2 117 = some (.iadd, 1, 0, 0, 0, 0, 0) := rfl
set_option maxRecDepth 20000 in
theorem ja_M_foresees_118 : jv_at jm_M_foresees.2.2.2.2.2.2 118 = some (.istore 4, 2, 0, 0, 0, 0, 0) := rfl
set_option maxRecDepth 20000 in
theorem ja_M_foresees_120 : jv_at jm_M_foresees.2.2.2.2.2.2 120 = some (.iload_n 2, 1, 0, 0, 0, 0, 0) := rfl
set_option maxRecDepth 20000 in
theorem ja_M_foresees_121 : jv_at jm_M_foresees.2.2.2.2.2.2 121 = some (.bipush 6, 2, 0, 0, 0, 0, 6) := rfl
set_option maxRecDepth 20000 in
theorem ja_M_foresees_123 : jv_at jm_M_foresees.2.2.2.2.2.2 123 = some (.idiv, 1, 0, 0, 0, 0, 0) := rfl
set_option maxRecDepth 20000 in
theorem ja_M_foresees_124 : jv_at jm_M_foresees.2.2.2.2.2.2 124 = some (.istore_n 2, 1, 0, 0, 0, 0, 0) := rfl
set_option maxRecDepth 20000 in
theorem ja_M_foresees_125 : jv_at jm_M_foresees.2.2.2.2.2.2 125 = some (.aload_n 0, 1, 0, 0, 0, 0, 0) := rfl
set_option maxRecDepth 20000 in
theorem ja_M_foresees_126 : jv_at jm_M_foresees.2.2.2.2.2.2 126 = some (.aload_n 0, 1, 0, 0, 0, 0, 0) := rfl
set_option maxRecDepth 20000 in
theorem ja_M_foresees_127 : jv_at jm_M_foresees.2.2.2.2.2.2 127 = some (.getfield 274, 3, 12, 15, 1027, 0, 0) := rfl
set_option maxRecDepth 20000 in
theorem ja_M_foresees_130 : jv_at jm_M_foresees.2.2.2.2.2.2 130 = some (.iconst 2, 1, 0, 0, 0, 0, 2) := rfl
set_option maxRecDepth 20000 in
theorem ja_M_foresees_131 : jv_at jm_M_foresees.2.2.2.2.2.2 131 = some (.aload_n 0, 1, 0, 0, 0, 0, 0) := rfl
set_option maxRecDepth 20000 in
theorem ja_M_foresees_132 : jv_at jm_M_foresees.2.2.2.2.2.2 132 = some (.getfield 45, 3, 12, 20, 1032, 0, 0) := rfl
set_option maxRecDepth 20000 in
theorem ja_M_foresees_135 : jv_at jm_M_foresees.2.2.2.2.2.2 135 = some (.iload 4, 2, 0, 0, 0, 0, 0) := rfl
set_option maxRecDepth 20000 in
theorem ja_M_foresees_137 : jv_at jm_M_foresees.2.2.2.2.2.2 137 = some (.iaload, 1, 0, 0, 0, 0, 0) := rfl
set_option maxRecDepth 20000 in
theorem ja_M_foresees_138 : jv_at jm_M_foresees.2.2.2.2.2.2 138 = some (.iconst 0, 1, 0, 0, 0, 0, 0) := rfl
set_option maxRecDepth 20000 in
theorem ja_M_foresees_139 : jv_at jm_M_foresees.2.2.2.2.2.2 139 = some (.iconst 0, 1, 0, 0, 0, 0, 0) := rfl
set_option maxRecDepth 20000 in
theorem ja_M_foresees_140 : jv_at jm_M_foresees.2.2.2.2.2.2 140 = some (.aload_n 0, 1, 0, 0, 0, 0, 0) := rfl
set_option maxRecDepth 20000 in
theorem ja_M_foresees_141 : jv_at jm_M_foresees.2.2.2.2.2.2 141 = some (.iload 4, 2, 0, 0, 0, 0, 0) := rfl
set_option maxRecDepth 20000 in
theorem ja_M_foresees_143 : jv_at jm_M_foresees.2.2.2.2.2.2 143 = some (.iconst 1, 1, 0, 0, 0, 0, 1) := rfl
set_option maxRecDepth 20000 in
theorem ja_M_foresees_144 : jv_at jm_M_foresees.2.2.2.2.2.2 144 = some (.invokevirtual 327, 3, 190, 0, 1345, 12, 2) := rfl
set_option maxRecDepth 20000 in
theorem ja_M_foresees_147 : jv_at jm_M_foresees.2.2.2.2.2.2 147 = some (.aload_n 0, 1, 0, 0, 0, 0, 0) := rfl
set_option maxRecDepth 20000 in
theorem ja_M_foresees_148 : jv_at jm_M_foresees.2.2.2.2.2.2 148 = some (.iload 4, 2, 0, 0, 0, 0, 0) := rfl
set_option maxRecDepth 20000 in
theorem ja_M_foresees_150 : jv_at jm_M_foresees.2.2.2.2.2.2 150 = some (.iconst 2, 1, 0, 0, 0, 0, 2) := rfl
set_option maxRecDepth 20000 in
theorem ja_M_foresees_151 : jv_at jm_M_foresees.2.2.2.2.2.2 151 = some (.invokevirtual 327, 3, 190, 0, 1345, 12, 2) := rfl
set_option maxRecDepth 20000 in
theorem ja_M_foresees_154 : jv_at jm_M_foresees.2.2.2.2.2.2 154 = some (.invokevirtual 270, 3, 178, 0, 1298, 12, 7) := rfl
set_option maxRecDepth 20000 in
theorem ja_M_foresees_157 : jv_at jm_M_foresees.2.2.2.2.2.2 157 = some (.ifCond .eq 7, 3, 164, 0, 0, 0, 0) := rfl
set_option maxRecDepth 20000 in
theorem ja_M_foresees_160 : jv_at jm_M_foresees.2.2.2.2.2.2 160 = some (.iconst 1, 1, 0, 0, 0, 0, 1) := rfl
set_option maxRecDepth 20000 in
theorem ja_M_foresees_161 : jv_at jm_M_foresees.2.2.2.2.2.2 161 = some (.goto 4, 3, 165, 0, 0, 0, 0) := rfl
set_option maxRecDepth 20000 in
theorem ja_M_foresees_164 : jv_at jm_M_foresees.2.2.2.2.2.2 164 = some (.iconst 0, 1, 0, 0, 0, 0, 0) := rfl
set_option maxRecDepth 20000 in
theorem ja_M_foresees_165 : jv_at jm_M_foresees.2.2.2.2.2.2 165 = some (.istore 5, 2, 0, 0, 0, 0, 0) := rfl
set_option maxRecDepth 20000 in
theorem ja_M_foresees_167 : jv_at jm_M_foresees.2.2.2.2.2.2 167 = some (.iload 5, 2, 0, 0, 0, 0, 0) := rfl
set_option maxRecDepth 20000 in
theorem ja_M_foresees_169 : jv_at jm_M_foresees.2.2.2.2.2.2 169 = some (.ifCond .eq 70, 3, 239, 0, 0, 0, 0) := rfl
set_option maxRecDepth 20000 in
theorem ja_M_foresees_172 : jv_at jm_M_foresees.2.2.2.2.2.2 172 = some (.aload_n 0, 1, 0, 0, 0, 0, 0) := rfl
set_option maxRecDepth 20000 in
theorem ja_M_foresees_173 : jv_at jm_M_foresees.2.2.2.2.2.2 173 = some (.iload 4, 2, 0, 0, 0, 0, 0) := rfl
set_option maxRecDepth 20000 in
theorem ja_M_foresees_175 : jv_at jm_M_foresees.2.2.2.2.2.2 175 = some (.invokevirtual 280, 3, 194, 0, 1361, 12, 1) := rfl
set_option maxRecDepth 20000 in
theorem ja_M_foresees_178 : jv_at jm_M_foresees.2.2.2.2.2.2 178 = some (.ifCond .eq 61, 3, 239, 0, 0, 0, 0) := rfl
set_option maxRecDepth 20000 in
theorem ja_M_foresees_181 : jv_at jm_M_foresees.2.2.2.2.2.2 181 = some (.aload_n 0, 1, 0, 0, 0, 0, 0) := rfl
set_option maxRecDepth 20000 in
theorem ja_M_foresees_182 : jv_at jm_M_foresees.2.2.2.2.2.2 182 = some (.iload 4, 2, 0, 0, 0, 0, 0) := rfl
set_option maxRecDepth 20000 in
theorem ja_M_foresees_184 : jv_at jm_M_foresees.2.2.2.2.2.2 184 = some (.invokevirtual 283, 3, 195, 0, 1365, 12, 1) := rfl
set_option maxRecDepth 20000 in
theorem ja_M_foresees_187 : jv_at jm_M_foresees.2.2.2.2.2.2 187 = some (.istore 6, 2, 0, 0, 0, 0, 0) := rfl
set_option maxRecDepth 20000 in
theorem ja_M_foresees_189 : jv_at jm_M_foresees.2.2.2.2.2.2 189 = some (.aload_n 0, 1, 0, 0, 0, 0, 0) := rfl
set_option maxRecDepth 20000 in
theorem ja_M_foresees_190 : jv_at jm_M_foresees.2.2.2.2.2.2 190 = some (.iload 4, 2, 0, 0, 0, 0, 0) := rfl
set_option maxRecDepth 20000 in
theorem ja_M_foresees_192 : jv_at jm_M_foresees.2.2.2.2.2.2 192 = some (.invokevirtual 320, 3, 198, 0, 1377, 12, 1) := rfl
set_option maxRecDepth 20000 in
theorem ja_M_foresees_195 : jv_at jm_M_foresees.2.2.2.2.2.2 195 = some (.bipush 8, 2, 0, 0, 0, 0, 8) := rfl
set_option maxRecDepth 20000 in
theorem ja_M_foresees_197 : jv_at jm_M_foresees.2.2.2.2.2.2 197 = some (.istore 7, 2, 0, 0, 0, 0, 0) := rfl
set_option maxRecDepth 20000 in
theorem ja_M_foresees_199 : jv_at jm_M_foresees.2.2.2.2.2.2 199 = some (.iload 7, 2, 0, 0, 0, 0, 0) := rfl
set_option maxRecDepth 20000 in
theorem ja_M_foresees_201 : jv_at jm_M_foresees.2.2.2.2.2.2 201 = some (.bipush 8, 2, 0, 0, 0, 0, 8) := rfl
set_option maxRecDepth 20000 in
theorem ja_M_foresees_203 : jv_at jm_M_foresees.2.2.2.2.2.2 203 = some (.aload_n 0, 1, 0, 0, 0, 0, 0) := rfl
set_option maxRecDepth 20000 in
theorem ja_M_foresees_204 : jv_at jm_M_foresees.2.2.2.2.2.2 204 = some (.getfield 314, 3, 12, 19, 1031, 0, 0) := rfl
set_option maxRecDepth 20000 in
theorem ja_M_foresees_207 : jv_at jm_M_foresees.2.2.2.2.2.2 207 = some (.iadd, 1, 0, 0, 0, 0, 0) := rfl
set_option maxRecDepth 20000 in
theorem ja_M_foresees_208 : jv_at jm_M_foresees.2.2.2.2.2.2 208 = some (.if_icmp .ge 31, 3, 239, 0, 0, 0, 0) := rfl
set_option maxRecDepth 20000 in
theorem ja_M_foresees_211 : jv_at jm_M_foresees.2.2.2.2.2.2 211 = some (.aload_n 0, 1, 0, 0, 0, 0, 0) := rfl
set_option maxRecDepth 20000 in
theorem ja_M_foresees_212 : jv_at jm_M_foresees.2.2.2.2.2.2 212 = some (.iload 7, 2, 0, 0, 0, 0, 0) := rfl
set_option maxRecDepth 20000 in
theorem ja_M_foresees_214 : jv_at jm_M_foresees.2.2.2.2.2.2 214 = some (.aload_n 0, 1, 0, 0, 0, 0, 0) := rfl
set_option maxRecDepth 20000 in
theorem ja_M_foresees_215 : jv_at jm_M_foresees.2.2.2.2.2.2 215 = some (.getfield 45, 3, 12, 20, 1032, 0, 0) := rfl
set_option maxRecDepth 20000 in
theorem ja_M_foresees_218 : jv_at jm_M_foresees.2.2.2.2.2.2 218 = some (.iload 4, 2, 0, 0, 0, 0, 0) := rfl
set_option maxRecDepth 20000 in
theorem ja_M_foresees_220 : jv_at jm_M_foresees.2.2.2.2.2.2 220 = some (.iaload, 1, 0, 0, 0, 0, 0) := rfl
set_option maxRecDepth 20000 in
theorem ja_M_foresees_221 : jv_at jm_M_foresees.2.2.2.2.2.2 221 = some (.iload 6, 2, 0, 0, 0, 0, 0) := rfl
set_option maxRecDepth 20000 in
theorem ja_M_foresees_223 : jv_at jm_M_foresees.2.2.2.2.2.2 223 = some (.aload_n 0, 1, 0, 0, 0, 0, 0) := rfl
set_option maxRecDepth 20000 in
theorem ja_M_foresees_224 : jv_at jm_M_foresees.2.2.2.2.2.2 224 = some (.getfield 57, 3, 12, 24, 1036, 0, 0) := rfl
set_option maxRecDepth 20000 in
theorem ja_M_foresees_227 : jv_at jm_M_foresees.2.2.2.2.2.2 227 = some (.iload 4, 2, 0, 0, 0, 0, 0) := rfl
set_option maxRecDepth 20000 in
theorem ja_M_foresees_229 : jv_at jm_M_foresees.2.2.2.2.2.2 229 = some (.baload, 1, 0, 0, 0, 0, 0) := rfl
set_option maxRecDepth 20000 in
theorem ja_M_foresees_230 : jv_at jm_M_foresees.2.2.2.2.2.2 230 = some (.invokevirtual 323, 3, 199, 0, 1381, 12, 4) := rfl
set_option maxRecDepth 20000 in
theorem ja_M_foresees_233 : jv_at jm_M_foresees.2.2.2.2.2.2 233 = some (.iinc 7 1, 3, 0, 0, 0, 0, 0) := rfl
set_option maxRecDepth 20000 in
theorem ja_M_foresees_236 : jv_at jm_M_foresees.2.2.2.2.2.2 236 = some (.goto (-37), 3, 199, 0, 0, 0, 0) := rfl
set_option maxRecDepth 20000 in
theorem ja_M_foresees_239 : jv_at jm_M_foresees.2.2.2.2.2.2 239 = some (.iinc 3 1, 3, 0, 0, 0, 0, 0) := rfl
set_option maxRecDepth 20000 in
theorem ja_M_foresees_242 : jv_at jm_M_foresees.2.2.2.2.2.2 242 = some (.goto (-139), 3, 103, 0, 0, 0, 0) := rfl
set_option maxRecDepth 20000 in
theorem ja_M_foresees_245 : jv_at jm_M_foresees.2.2.2.2.2.2 245 = some (.return_, 1, 0, 0, 0, 0, 0) := rfl
set_option maxRecDepth 20000 in
theorem ja_M_best_0 : jv_at jm_M_best.2.2.2.2.2.2 0 = some (.aload_n 0, 1, 0, 0, 0, 0, 0) := rfl
set_option maxRecDepth 20000 in
theorem ja_M_best_1 : jv_at jm_M_best.2.2.2.2.2.2 1 = some (.iload_n 1, 1, 0, 0, 0, 0, 0) := rfl
set_option maxRecDepth 20000 in
theorem ja_M_best_2 : jv_at jm_M_best.2.2.2.2.2.2 2 = some (.invokevirtual 125, 3, 154, 0, 1202, 12, 1) := rfl
set_option maxRecDepth 20000 in
theorem ja_M_best_5 : jv_at jm_M_best.2.2.2.2.2.2 5 = some (.ifCond .ne 6, 3, 11, 0, 0, 0, 0) := rfl
set_option maxRecDepth 20000 in
theorem ja_M_best_8 : jv_at jm_M_best.2.2.2.2.2.2 8 = some (.bipush (-2), 2, 0, 0, 0, 0, -2) := rfl
set_option maxRecDepth 20000 in
theorem ja_M_best_10 : jv_at jm_M_best.2.2.2.2.2.2 10 = some (.ireturn, 1, 0, 0, 0, 0, 0) := rfl
set_option maxRecDepth 20000 in
theorem ja_M_best_11 : jv_at jm_M_best.2.2.2.2.2.2 11 = some (.aload_n 0, 1, 0, 0, 0, 0, 0) := rfl
set_option maxRecDepth 20000 in
theorem ja_M_best_12 : jv_at jm_M_best.2.2.2.2.2.2 12 = some (.getfield 41, 3, 12, 13, 1025, 0, 0) := rfl
set_option maxRecDepth 20000 in
theorem ja_M_best_15 : jv_at jm_M_best.2.2.2.2.2.2 15 = some (.iconst (-1), 1, 0, 0, 0, 0, -1) := rfl
set_option maxRecDepth 20000 in
theorem ja_M_best_16 : jv_at jm_M_best.2.2.2.2.2.2 16 = some (.if_icmp .ne 6, 3, 22, 0, 0, 0, 0) := rfl
set_option maxRecDepth 20000 in
theorem ja_M_best_19 : jv_at jm_M_best.2.2.2.2.2.2 19 = some (.bipush (-3), 2, 0, 0, 0, 0, -3) := rfl
set_option maxRecDepth 20000 in
theorem ja_M_best_21 : jv_at jm_M_best.2.2.2.2.2.2 21 = some (.ireturn, 1, 0, 0, 0, 0, 0) := rfl
set_option maxRecDepth 20000 in
theorem ja_M_best_22 : jv_at jm_M_best.2.2.2.2.2.2 22 = some (.iconst (-1), 1, 0, 0, 0, 0, -1) := rfl
set_option maxRecDepth 20000 in
theorem ja_M_best_23 : jv_at jm_M_best.2.2.2.2.2.2 23 = some (.istore_n 2, 1, 0, 0, 0, 0, 0) := rfl
set_option maxRecDepth 20000 in
theorem ja_M_best_24 : jv_at jm_M_best.2.2.2.2.2.2 24 = some (.iconst 0, 1, 0, 0, 0, 0, 0) := rfl
set_option maxRecDepth 20000 in
theorem ja_M_best_25 : jv_at jm_M_best.2.2.2.2.2.2 25 = some (.istore_n 3, 1, 0, 0, 0, 0, 0) := rfl
set_option maxRecDepth 20000 in
theorem ja_M_best_26 : jv_at jm_M_best.2.2.2.2.2.2 26 = some (.iconst 0, 1, 0, 0, 0, 0, 0) := rfl
set_option maxRecDepth 20000 in
theorem ja_M_best_27 : jv_at jm_M_best.2.2.2.2.2.2 27 = some (.istore 4, 2, 0, 0, 0, 0, 0) := rfl
set_option maxRecDepth 20000 in
theorem ja_M_best_29 : jv_at jm_M_best.2.2.2.2.2.2 29 = some (.iload 4, 2, 0, 0, 0, 0, 0) := rfl
set_option maxRecDepth 20000 in
theorem ja_M_best_31 : jv_at jm_M_best.2.2.2.2.2.2 31 = some (.sipush 7776, 3, 0, 0, 0, 0, 7776) := rfl
set_option maxRecDepth 20000 in
theorem ja_M_best_34 : jv_at jm_M_best.2.2.2.2.2.2 34 = some (.if_icmp .ge 48, 3, 82, 0, 0, 0, 0) := rfl
set_option maxRecDepth 20000 in
theorem ja_M_best_37 : jv_at jm_M_best.2.2.2.2.2.2 37 = some (.aload_n 0, 1, 0, 0, 0, 0, 0) := rfl
set_option maxRecDepth 20000 in
theorem ja_M_best_38 : jv_at jm_M_best.2.2.2.2.2.2 38 = some (.iload 4, 2, 0, 0, 0, 0, 0) := rfl
set_option maxRecDepth 20000 in
theorem ja_M_best_40 : jv_at jm_M_best.2.2.2.2.2.2 40 = some (.invokevirtual 346, 3, 207, 0, 1414, 12, 1) := rfl
set_option maxRecDepth 20000 in
theorem ja_M_best_43 : jv_at jm_M_best.2.2.2.2.2.2 43 = some (.ifCond .eq 33, 3, 76, 0, 0, 0, 0) := rfl
set_option maxRecDepth 20000 in
theorem ja_M_best_46 : jv_at jm_M_best.2.2.2.2.2.2 46 = some (.aload_n 0, 1, 0, 0, 0, 0, 0) := rfl
set_option maxRecDepth 20000 in
theorem ja_M_best_47 : jv_at jm_M_best.2.2.2.2.2.2 47 = some (.iload 4, 2, 0, 0, 0, 0, 0) := rfl
set_option maxRecDepth 20000 in
theorem ja_M_best_49 : jv_at jm_M_best.2.2.2.2.2.2 49 = some (.invokevirtual 349, 3, 208, 0, 1418, 12, 1) := rfl
set_option maxRecDepth 20000 in
theorem ja_M_best_52 : jv_at jm_M_best.2.2.2.2.2.2 52 = some (.aload_n 0, 1, 0, 0, 0, 0, 0) := rfl
set_option maxRecDepth 20000 in
theorem ja_M_best_53 : jv_at jm_M_best.2.2.2.2.2.2 53 = some (.iload_n 1, 1, 0, 0, 0, 0, 0) := rfl
set_option maxRecDepth 20000 in
theorem ja_M_best_54 : jv_at jm_M_best.2.2.2.2.2.2 54 = some (.invokevirtual 150, 3, 170, 0, 1265, 12, 1) := rfl
set_option maxRecDepth 20000 in
theorem ja_M_best_57 : jv_at jm_M_best.2.2.2.2.2.2 57 = some (.istore 5, 2, 0, 0, 0, 0, 0) := rfl
set_option maxRecDepth 20000 in
theorem ja_M_best_59 : jv_at jm_M_best.2.2.2.2.2.2 59 = some (.iload_n 2, 1, 0, 0, 0, 0, 0) := rfl
set_option maxRecDepth 20000 in
theorem ja_M_best_60 : jv_at jm_M_best.2.2.2.2.2.2 60 = some (.iconst (-1), 1, 0, 0, 0, 0, -1) := rfl
set_option maxRecDepth 20000 in
theorem ja_M_best_61 : jv_at jm_M_best.2.2.2.2.2.2 61 = some (.if_icmp .eq 9, 3, 70, 0, 0, 0, 0) := rfl
set_option maxRecDepth 20000 in
theorem ja_M_best_64 : jv_at jm_M_best.2.2.2.2.2.2 64 = some (.iload 5, 2, 0, 0, 0, 0, 0) := rfl
set_option maxRecDepth 20000 in
theorem ja_M_best_66 : jv_at jm_M_best.2.2.2.2.2.2 66 = some (.iload_n 3, 1, 0, 0, 0, 0, 0) := rfl
set_option maxRecDepth 20000 in
theorem ja_M_best_67 : jv_at jm_M_best.2.2.2.2.2.2 67 = some (.if_icmp .le 9, 3, 76, 0, 0, 0, 0) := rfl
set_option maxRecDepth 20000 in
theorem ja_M_best_70 : jv_at jm_M_best.2.2.2.2.2.2 70 = some (.iload 4, 2, 0, 0, 0, 0, 0) := rfl
set_option maxRecDepth 20000 in
theorem ja_M_best_72 : jv_at jm_M_best.2.2.2.2.2.2 72 = some (.istore_n 2, 1, 0, 0, 0, 0, 0) := rfl
set_option maxRecDepth 20000 in
theorem ja_M_best_73 : jv_at jm_M_best.2.2.2.2.2.2 73 = some (.iload 5, 2, 0, 0, 0, 0, 0) := rfl
set_option maxRecDepth 20000 in
theorem ja_M_best_75 : jv_at jm_M_best.2.2.2.2.2.2 75 = some (.istore_n 3, 1, 0, 0, 0, 0, 0) := rfl
set_option maxRecDepth 20000 in
theorem ja_M_best_76 : jv_at jm_M_best.2.2.2.2.2.2 76 = some (.iinc 4 1, 3, 0, 0, 0, 0, 0) := rfl
set_option maxRecDepth 20000 in
theorem ja_M_best_79 : jv_at jm_M_best.2.2.2.2.2.2 79 = some (.goto (-50), 3, 29, 0, 0, 0, 0) := rfl
set_option maxRecDepth 20000 in
theorem ja_M_best_82 : jv_at jm_M_best.2.2.2.2.2.2 82 = some (.iload_n 2, 1, 0, 0, 0, 0, 0) := rfl
set_option maxRecDepth 20000 in
theorem ja_M_best_83 : jv_at jm_M_best.2.2.2.2.2.2 83 = some (.ireturn, 1, 0, 0, 0, 0, 0) := rfl
set_option maxRecDepth 20000 in
theorem ja_M_confer_0 : jv_at jm_M_confer.2.2.2.2.2.2 0 = some (.aload_n 0, 1, 0, 0, 0, 0, 0) := rfl
set_option maxRecDepth 20000 in
theorem ja_M_confer_1 : jv_at jm_M_confer.2.2.2.2.2.2 1 = some (.iload_n 1, 1, 0, 0, 0, 0, 0) := rfl
set_option maxRecDepth 20000 in
theorem ja_M_confer_2 : jv_at jm_M_confer.2.2.2.2.2.2 2 = some (.invokevirtual 132, 3, 163, 0, 1237, 12, 1) := rfl
set_option maxRecDepth 20000 in
theorem ja_M_confer_5 : jv_at jm_M_confer.2.2.2.2.2.2 5 = some (.ifCond .eq 16, 3, 21, 0, 0, 0, 0) := rfl
set_option maxRecDepth 20000 in
theorem ja_M_confer_8 : jv_at jm_M_confer.2.2.2.2.2.2 8 = some (.aload_n 0, 1, 0, 0, 0, 0, 0) := rfl
set_option maxRecDepth 20000 in
theorem ja_M_confer_9 : jv_at jm_M_confer.2.2.2.2.2.2 9 = some (.iload_n 2, 1, 0, 0, 0, 0, 0) := rfl
set_option maxRecDepth 20000 in
theorem ja_M_confer_10 : jv_at jm_M_confer.2.2.2.2.2.2 10 = some (.invokevirtual 132, 3, 163, 0, 1237, 12, 1) := rfl
set_option maxRecDepth 20000 in
theorem ja_M_confer_13 : jv_at jm_M_confer.2.2.2.2.2.2 13 = some (.ifCond .eq 8, 3, 21, 0, 0, 0, 0) := rfl
set_option maxRecDepth 20000 in
theorem ja_M_confer_16 : jv_at jm_M_confer.2.2.2.2.2.2 16 = some (.iload_n 1, 1, 0, 0, 0, 0, 0) := rfl
set_option maxRecDepth 20000 in
theorem ja_M_confer_17 : jv_at jm_M_confer.2.2.2.2.2.2 17 = some (.iload_n 2, 1, 0, 0, 0, 0, 0) := rfl
set_option maxRecDepth 20000 in
theorem ja_M_confer_18 : jv_at jm_M_confer.2.2.2.2.2.2 18 = some (.if_icmp .ne 6, 3, 24, 0, 0, 0, 0) := rfl
set_option maxRecDepth 20000 in
theorem ja_M_confer_21 : jv_at jm_M_confer.2.2.2.2.2.2 21 = some (.bipush (-2), 2, 0, 0, 0, 0, -2) := rfl
set_option maxRecDepth 20000 in
theorem ja_M_confer_23 : jv_at jm_M_confer.2.2.2.2.2.2 23 = some (.ireturn, 1, 0, 0, 0, 0, 0) := rfl
set_option maxRecDepth 20000 in
theorem ja_M_confer_24 : jv_at jm_M_confer.2.2.2.2.2.2 24 = some (.aload_n 0, 1, 0, 0, 0, 0, 0) := rfl
set_option maxRecDepth 20000 in
theorem ja_M_confer_25 : jv_at jm_M_confer.2.2.2.2.2.2 25 = some (.iload_n 1, 1, 0, 0, 0, 0, 0) := rfl
set_option maxRecDepth 20000 in
theorem ja_M_confer_26 : jv_at jm_M_confer.2.2.2.2.2.2 26 = some (.iload_n 2, 1, 0, 0, 0, 0, 0) := rfl
set_option maxRecDepth 20000 in
theorem ja_M_confer_27 : jv_at jm_M_confer.2.2.2.2.2.2 27 = some (.invokevirtual 352, 3, 211, 0, 1430, 12, 2) := rfl
set_option maxRecDepth 20000 in
theorem ja_M_confer_30 : jv_at jm_M_confer.2.2.2.2.2.2 30 = some (.aload_n 0, 1, 0, 0, 0, 0, 0) := rfl
set_option maxRecDepth 20000 in
theorem ja_M_confer_31 : jv_at jm_M_confer.2.2.2.2.2.2 31 = some (.getfield 102, 3, 12, 58, 1070, 0, 0) := rfl
set_option maxRecDepth 20000 in
theorem ja_M_confer_34 : jv_at jm_M_confer.2.2.2.2.2.2 34 = some (.iconst 0, 1, 0, 0, 0, 0, 0) := rfl
set_option maxRecDepth 20000 in
theorem ja_M_confer_35 : jv_at jm_M_confer.2.2.2.2.2.2 35 = some (.iaload, 1, 0, 0, 0, 0, 0) := rfl
set_option maxRecDepth 20000 in
theorem ja_M_confer_36 : jv_at jm_M_confer.2.2.2.2.2.2 36 = some (.ireturn, 1, 0, 0, 0, 0, 0) := rfl
set_option maxRecDepth 20000 in
theorem ja_M_brings_0 : jv_at jm_M_brings.2.2.2.2.2.2 0 = some (.aload_n 0, 1, 0, 0, 0, 0, 0) := rfl
set_option maxRecDepth 20000 in
theorem ja_M_brings_1 : jv_at jm_M_brings.2.2.2.2.2.2 1 = some (.getfield 29, 3, 12, 8, 1020, 0, 0) := rfl
set_option maxRecDepth 20000 in
theorem ja_M_brings_4 : jv_at jm_M_brings.2.2.2.2.2.2 4 = some (.iload_n 1, 1, 0, 0, 0, 0, 0) := rfl
set_option maxRecDepth 20000 in
theorem ja_M_brings_5 : jv_at jm_M_brings.2.2.2.2.2.2 5 = some (.iaload, 1, 0, 0, 0, 0, 0) := rfl
set_option maxRecDepth 20000 in
theorem ja_M_brings_6 : jv_at jm_M_brings.2.2.2.2.2.2 6 = some (.istore_n 3, 1, 0, 0, 0, 0, 0) := rfl
set_option maxRecDepth 20000 in
theorem ja_M_brings_7 : jv_at jm_M_brings.2.2.2.2.2.2 7 = some (.iload_n 3, 1, 0, 0, 0, 0, 0) := rfl
set_option maxRecDepth 20000 in
theorem ja_M_brings_8 : jv_at jm_M_brings.2.2.2.2.2.2 8 = some (.ifCond .lt 165, 3, 173, 0, 0, 0, 0) := rfl
set_option maxRecDepth 20000 in
theorem ja_M_brings_11 : jv_at jm_M_brings.2.2.2.2.2.2 11 = some (.aload_n 0, 1, 0, 0, 0, 0, 0) := rfl
set_option maxRecDepth 20000 in
theorem ja_M_brings_12 : jv_at jm_M_brings.2.2.2.2.2.2 12 = some (.getfield 29, 3, 12, 8, 1020, 0, 0) := rfl
set_option maxRecDepth 20000 in
theorem ja_M_brings_15 : jv_at jm_M_brings.2.2.2.2.2.2 15 = some (.iload_n 2, 1, 0, 0, 0, 0, 0) := rfl
set_option maxRecDepth 20000 in
theorem ja_M_brings_16 : jv_at jm_M_brings.2.2.2.2.2.2 16 = some (.iaload, 1, 0, 0, 0, 0, 0) := rfl
set_option maxRecDepth 20000 in
theorem ja_M_brings_17 : jv_at jm_M_brings.2.2.2.2.2.2 17 = some (.istore 4, 2, 0, 0, 0, 0, 0) := rfl
set_option maxRecDepth 20000 in
theorem ja_M_brings_19 : jv_at jm_M_brings.2.2.2.2.2.2 19 = some (.iload 4, 2, 0, 0, 0, 0, 0) := rfl
set_option maxRecDepth 20000 in
theorem ja_M_brings_21 : jv_at jm_M_brings.2.2.2.2.2.2 21 = some (.ifCond .lt 146, 3, 167, 0, 0, 0, 0) := rfl
set_option maxRecDepth 20000 in
theorem ja_M_brings_24 : jv_at jm_M_brings.2.2.2.2.2.2 24 = some (.iconst 0, 1, 0, 0, 0, 0, 0) := rfl
set_option maxRecDepth 20000 in
theorem ja_M_brings_25 : jv_at jm_M_brings.2.2.2.2.2.2 25 = some (.istore 5, 2, 0, 0, 0, 0, 0) := rfl
set_option maxRecDepth 20000 in
theorem ja_M_brings_27 : jv_at jm_M_brings.2.2.2.2.2.2 27 = some (.iload_n 3, 1, 0, 0, 0, 0, 0) := rfl
set_option maxRecDepth 20000 in
theorem ja_M_brings_28 : jv_at jm_M_brings.2.2.2.2.2.2 28 = some (.aload_n 0, 1, 0, 0, 0, 0, 0) := rfl
set_option maxRecDepth 20000 in
theorem ja_M_brings_29 : jv_at jm_M_brings.2.2.2.2.2.2 29 = some (.getfield 29, 3, 12, 8, 1020, 0, 0) := rfl
set_option maxRecDepth 20000 in
theorem ja_M_brings_32 : jv_at jm_M_brings.2.2.2.2.2.2 32 = some (.iload_n 1, 1, 0, 0, 0, 0, 0) := rfl
set_option maxRecDepth 20000 in
theorem ja_M_brings_33 : jv_at jm_M_brings.2.2.2.2.2.2 33 = some (.iaload, 1, 0, 0, 0, 0, 0) := rfl
set_option maxRecDepth 20000 in
theorem ja_M_brings_34 : jv_at jm_M_brings.2.2.2.2.2.2 34 = some (.if_icmp .ge 113, 3, 147, 0, 0, 0, 0) := rfl
set_option maxRecDepth 20000 in
theorem ja_M_brings_37 : jv_at jm_M_brings.2.2.2.2.2.2 37 = some (.iload 4, 2, 0, 0, 0, 0, 0) := rfl
set_option maxRecDepth 20000 in
theorem ja_M_brings_39 : jv_at jm_M_brings.2.2.2.2.2.2 39 = some (.aload_n 0, 1, 0, 0, 0, 0, 0) := rfl
set_option maxRecDepth 20000 in
theorem ja_M_brings_40 : jv_at jm_M_brings.2.2.2.2.2.2 40 = some (.getfield 29, 3, 12, 8, 1020, 0, 0) := rfl
set_option maxRecDepth 20000 in
theorem ja_M_brings_43 : jv_at jm_M_brings.2.2.2.2.2.2 43 = some (.iload_n 2, 1, 0, 0, 0, 0, 0) := rfl
set_option maxRecDepth 20000 in
theorem ja_M_brings_44 : jv_at jm_M_brings.2.2.2.2.2.2 44 = some (.iaload, 1, 0, 0, 0, 0, 0) := rfl
set_option maxRecDepth 20000 in
theorem ja_M_brings_45 : jv_at jm_M_brings.2.2.2.2.2.2 45 = some (.if_icmp .ge 102, 3, 147, 0, 0, 0, 0) := rfl
set_option maxRecDepth 20000 in
theorem ja_M_brings_48 : jv_at jm_M_brings.2.2.2.2.2.2 48 = some (.aload_n 0, 1, 0, 0, 0, 0, 0) := rfl
set_option maxRecDepth 20000 in
theorem ja_M_brings_49 : jv_at jm_M_brings.2.2.2.2.2.2 49 = some (.getfield 102, 3, 12, 58, 1070, 0, 0) := rfl
set_option maxRecDepth 20000 in
theorem ja_M_brings_52 : jv_at jm_M_brings.2.2.2.2.2.2 52 = some (.bipush 11, 2, 0, 0, 0, 0, 11) := rfl
set_option maxRecDepth 20000 in
theorem ja_M_brings_54 : jv_at jm_M_brings.2.2.2.2.2.2 54 = some (.iload_n 3, 1, 0, 0, 0, 0, 0) := rfl
set_option maxRecDepth 20000 in
theorem ja_M_brings_55 : jv_at jm_M_brings.2.2.2.2.2.2 55 = some (.iconst 1, 1, 0, 0, 0, 0, 1) := rfl
set_option maxRecDepth 20000 in
theorem ja_M_brings_56 : jv_at jm_M_brings.2.2.2.2.2.2 56 = some (.iadd, 1, 0, 0, 0, 0, 0) := rfl
set_option maxRecDepth 20000 in
theorem ja_M_brings_57 : jv_at jm_M_brings.2.2.2.2.2.2 57 = some (.imul, 1, 0, 0, 0, 0, 0) := rfl
set_option maxRecDepth 20000 in
theorem ja_M_brings_58 : jv_at jm_M_brings.2.2.2.2.2.2 58 = some (.iload 4, 2, 0, 0, 0, 0, 0) := rfl
set_option maxRecDepth 20000 in
theorem ja_M_brings_60 : jv_at jm_M_brings.2.2.2.2.2.2 60 = some (.iadd, 1, 0, 0, 0, 0, 0) := rfl
set_option maxRecDepth 20000 in
theorem ja_M_brings_61 : jv_at jm_M_brings.2.2.2.2.2.2 61 = some (.iaload, 1, 0, 0, 0, 0, 0) := rfl
set_option maxRecDepth 20000 in
theorem ja_M_brings_62 : jv_at jm_M_brings.2.2.2.2.2.2 62 = some (.istore 6, 2, 0, 0, 0, 0, 0) := rfl
set_option maxRecDepth 20000 in
theorem ja_M_brings_64 : jv_at jm_M_brings.2.2.2.2.2.2 64 = some (.aload_n 0, 1, 0, 0, 0, 0, 0) := rfl
set_option maxRecDepth 20000 in
theorem ja_M_brings_65 : jv_at jm_M_brings.2.2.2.2.2.2 65 = some (.getfield 102, 3, 12, 58, 1070, 0, 0) := rfl
set_option maxRecDepth 20000 in
theorem ja_M_brings_68 : jv_at jm_M_brings.2.2.2.2.2.2 68 = some (.bipush 11, 2, 0, 0, 0, 0, 11) := rfl
set_option maxRecDepth 20000 in
theorem ja_M_brings_70 : jv_at jm_M_brings.2.2.2.2.2.2 70 = some (.iload_n 3, 1, 0, 0, 0, 0, 0) := rfl
set_option maxRecDepth 20000 in
theorem ja_M_brings_71 : jv_at jm_M_brings.2.2.2.2.2.2 71 = some (.imul, 1, 0, 0, 0, 0, 0) := rfl
set_option maxRecDepth 20000 in
theorem ja_M_brings_72 : jv_at jm_M_brings.2.2.2.2.2.2 72 = some (.iload 4, 2, 0, 0, 0, 0, 0) := rfl
set_option maxRecDepth 20000 in
theorem ja_M_brings_74 : jv_at jm_M_brings.2.2.2.2.2.2 74 = some (.iadd, 1, 0, 0, 0, 0, 0) := rfl
set_option maxRecDepth 20000 in
theorem ja_M_brings_75 : jv_at jm_M_brings.2.2.2.2.2.2 75 = some (.iconst 1, 1, 0, 0, 0, 0, 1) := rfl
set_option maxRecDepth 20000 in
theorem ja_M_brings_76 : jv_at jm_M_brings.2.2.2.2.2.2 76 = some (.iadd, 1, 0, 0, 0, 0, 0) := rfl
set_option maxRecDepth 20000 in
theorem ja_M_brings_77 : jv_at jm_M_brings.2.2.2.2.2.2 77 = some (.iaload, 1, 0, 0, 0, 0, 0) := rfl
set_option maxRecDepth 20000 in
theorem ja_M_brings_78 : jv_at jm_M_brings.2.2.2.2.2.2 78 = some (.istore 7, 2, 0, 0, 0, 0, 0) := rfl
set_option maxRecDepth 20000 in
theorem ja_M_brings_80 : jv_at jm_M_brings.2.2.2.2.2.2 80 = some (.iload 6, 2, 0, 0, 0, 0, 0) := rfl
set_option maxRecDepth 20000 in
theorem ja_M_brings_82 : jv_at jm_M_brings.2.2.2.2.2.2 82 = some (.iload 7, 2, 0, 0, 0, 0, 0) := rfl
set_option maxRecDepth 20000 in
theorem ja_M_brings_84 : jv_at jm_M_brings.2.2.2.2.2.2 84 = some (.if_icmp .le 8, 3, 92, 0, 0, 0, 0) := rfl
set_option maxRecDepth 20000 in
theorem ja_M_brings_87 : jv_at jm_M_brings.2.2.2.2.2.2 87 = some (.iload 6, 2, 0, 0, 0, 0, 0) := rfl
set_option maxRecDepth 20000 in
theorem ja_M_brings_89 : jv_at jm_M_brings.2.2.2.2.2.2 89 = some (.goto 5, 3, 94, 0, 0, 0, 0) := rfl
set_option maxRecDepth 20000 in
theorem ja_M_brings_92 : jv_at jm_M_brings.2.2.2.2.2.2 92 = some (.iload 7, 2, 0, 0, 0, 0, 0) := rfl
set_option maxRecDepth 20000 in
theorem ja_M_brings_94 : jv_at jm_M_brings.2.2.2.2.2.2 94 = some (.istore 5, 2, 0, 0, 0, 0, 0) := rfl
set_option maxRecDepth 20000 in
theorem ja_M_brings_96 : jv_at jm_M_brings.2.2.2.2.2.2 96 = some (.aload_n 0, 1, 0, 0, 0, 0, 0) := rfl
set_option maxRecDepth 20000 in
theorem ja_M_brings_97 : jv_at jm_M_brings.2.2.2.2.2.2 97 = some (.getfield 32, 3, 12, 9, 1021, 0, 0) := rfl
set_option maxRecDepth 20000 in
theorem ja_M_brings_100 : jv_at jm_M_brings.2.2.2.2.2.2 100 = some (.bipush 10, 2, 0, 0, 0, 0, 10) := rfl
set_option maxRecDepth 20000 in
theorem ja_M_brings_102 : jv_at jm_M_brings.2.2.2.2.2.2 102 = some (.iload_n 1, 1, 0, 0, 0, 0, 0) := rfl
set_option maxRecDepth 20000 in
theorem ja_M_brings_103 : jv_at jm_M_brings.2.2.2.2.2.2 103 = some (.imul, 1, 0, 0, 0, 0, 0) := rfl
set_option maxRecDepth 20000 in
theorem ja_M_brings_104 : jv_at jm_M_brings.2.2.2.2.2.2 104 = some (.iload_n 3, 1, 0, 0, 0, 0, 0) := rfl
set_option maxRecDepth 20000 in
theorem ja_M_brings_105 : jv_at jm_M_brings.2.2.2.2.2.2 105 = some (.iadd, 1, 0, 0, 0, 0, 0) := rfl
set_option maxRecDepth 20000 in
theorem ja_M_brings_106 : jv_at jm_M_brings.2.2.2.2.2.2 106 = some (.iaload, 1, 0, 0, 0, 0, 0) := rfl
set_option maxRecDepth 20000 in
theorem ja_M_brings_107 : jv_at jm_M_brings.2.2.2.2.2.2 107 = some (.aload_n 0, 1, 0, 0, 0, 0, 0) := rfl
set_option maxRecDepth 20000 in
theorem ja_M_brings_108 : jv_at jm_M_brings.2.2.2.2.2.2 108 = some (.getfield 32, 3, 12, 9, 1021, 0, 0) := rfl
set_option maxRecDepth 20000 in
theorem ja_M_brings_111 : jv_at jm_M_brings.2.2.2.2.2.2 111 = some (.bipush 10, 2, 0, 0, 0, 0, 10) := rfl
set_option maxRecDepth 20000 in
theorem ja_M_brings_113 : jv_at jm_M_brings.2.2.2.2.2.2 113 = some (.iload_n 2, 1, 0, 0, 0, 0, 0) := rfl
set_option maxRecDepth 20000 in
theorem ja_M_brings_114 : jv_at jm_M_brings.2.2.2.2.2.2 114 = some (.imul, 1, 0, 0, 0, 0, 0) := rfl
set_option maxRecDepth 20000 in
theorem ja_M_brings_115 : jv_at jm_M_brings.2.2.2.2.2.2 115 = some (.iload 4, 2, 0, 0, 0, 0, 0) := rfl
set_option maxRecDepth 20000 in
theorem ja_M_brings_117 : jv_at jm_M_brings.2.2.2.2.2.2 117 = some (.iadd, 1, 0, 0, 0, 0, 0) := rfl
set_option maxRecDepth 20000 in
theorem ja_M_brings_118 : jv_at jm_M_brings.2.2.2.2.2.2 118 = some (.iaload, 1, 0, 0, 0, 0, 0) := rfl
set_option maxRecDepth 20000 in
theorem ja_M_brings_119 : jv_at jm_M_brings.2.2.2.2.2.2 119 = some (.if_icmp .ne 24, 3, 143, 0, 0, 0, 0) := rfl
set_option maxRecDepth 20000 in
theorem ja_M_brings_122 : jv_at jm_M_brings.2.2.2.2.2.2 122 = some (.iconst 1, 1, 0, 0, 0, 0, 1) := rfl
set_option maxRecDepth 20000 in
theorem ja_M_brings_123 : jv_at jm_M_brings.2.2.2.2.2.2 123 = some (.aload_n 0, 1, 0, 0, 0, 0, 0) := rfl
set_option maxRecDepth 20000 in
theorem ja_M_brings_124 : jv_at jm_M_brings.2.2.2.2.2.2 124 = some (.getfield 102, 3, 12, 58, 1070, 0, 0) := rfl
set_option maxRecDepth 20000 in
theorem ja_M_brings_127 : jv_at jm_M_brings.2.2.2.2.2.2 127 = some (.bipush 11, 2, 0, 0, 0, 0, 11) := rfl
set_option maxRecDepth 20000 in
theorem ja_M_brings_129 : jv_at jm_M_brings.2.2.2.2.2.2 129 = some (.iload_n 3, 1, 0, 0, 0, 0, 0) := rfl
set_option maxRecDepth 20000 in
theorem ja_M_brings_130 : jv_at jm_M_brings.2.2.2.2.2.2 130 = some (.iconst 1, 1, 0, 0, 0, 0, 1) := rfl
set_option maxRecDepth 20000 in
theorem ja_M_brings_131 : jv_at jm_M_brings.2.2.2.2.2.2 131 = some (.iadd, 1, 0, 0, 0, 0, 0) := rfl
set_option maxRecDepth 20000 in
theorem ja_M_brings_132 : jv_at jm_M_brings.2.2.2.2.2.2 132 = some (.imul, 1, 0, 0, 0, 0, 0) := rfl
set_option maxRecDepth 20000 in
theorem ja_M_brings_133 : jv_at jm_M_brings.2.2.2.2.2.2 133 = some (.iload 4, 2, 0, 0, 0, 0, 0) := rfl
set_option maxRecDepth 20000 in
theorem ja_M_brings_135 : jv_at jm_M_brings.2.2.2.2.2.2 135 = some (.iadd, 1, 0, 0, 0, 0, 0) := rfl
set_option maxRecDepth 20000 in
theorem ja_M_brings_136 : jv_at jm_M_brings.2.2.2.2.2.2 136 = some (.iconst 1, 1, 0, 0, 0, 0, 1) := rfl
set_option maxRecDepth 20000 in
theorem ja_M_brings_137 : jv_at jm_M_brings.2.2.2.2.2.2 137 = some (.iadd, 1, 0, 0, 0, 0, 0) := rfl
set_option maxRecDepth 20000 in
theorem ja_M_brings_138 : jv_at jm_M_brings.2.2.2.2.2.2 138 = some (.iaload, 1, 0, 0, 0, 0, 0) := rfl
set_option maxRecDepth 20000 in
theorem ja_M_brings_139 : jv_at jm_M_brings.2.2.2.2.2.2 139 = some (.iadd, 1, 0, 0, 0, 0, 0) := rfl
set_option maxRecDepth 20000 in
theorem ja_M_brings_140 : jv_at jm_M_brings.2.2.2.2.2.2 140 = some (.goto 5, 3, 145, 0, 0, 0, 0) := rfl
set_option maxRecDepth 20000 in
theorem ja_M_brings_143 : jv_at jm_M_brings.2.2.2.2.2.2 143 = some (.iload 5, 2, 0, 0, 0, 0, 0) := rfl
set_option maxRecDepth 20000 in
theorem ja_M_brings_145 : jv_at jm_M_brings.2.2.2.2.2.2 145 = some (.istore 5, 2, 0, 0, 0, 0, 0) := rfl
set_option maxRecDepth 20000 in
theorem ja_M_brings_147 : jv_at jm_M_brings.2.2.2.2.2.2 147 = some (.aload_n 0, 1, 0, 0, 0, 0, 0) := rfl
set_option maxRecDepth 20000 in
theorem ja_M_brings_148 : jv_at jm_M_brings.2.2.2.2.2.2 148 = some (.getfield 102, 3, 12, 58, 1070, 0, 0) := rfl
set_option maxRecDepth 20000 in
theorem ja_M_brings_151 : jv_at jm_M_brings.2.2.2.2.2.2 151 = some (.bipush 11, 2, 0, 0, 0, 0, 11) := rfl
set_option maxRecDepth 20000 in
theorem ja_M_brings_153 : jv_at jm_M_brings.2.2.2.2.2.2 153 = some (.iload_n 3, 1, 0, 0, 0, 0, 0) := rfl
set_option maxRecDepth 20000 in
theorem ja_M_brings_154 : jv_at jm_M_brings.2.2.2.2.2.2 154 = some (.imul, 1, 0, 0, 0, 0, 0) := rfl
set_option maxRecDepth 20000 in
theorem ja_M_brings_155 : jv_at jm_M_brings.2.2.2.2.2.2 155 = some (.iload 4, 2, 0, 0, 0, 0, 0) := rfl
set_option maxRecDepth 20000 in
theorem ja_M_brings_157 : jv_at jm_M_brings.2.2.2.2.2.2 157 = some (.iadd, 1, 0, 0, 0, 0, 0) := rfl
set_option maxRecDepth 20000 in
theorem ja_M_brings_158 : jv_at jm_M_brings.2.2.2.2.2.2 158 = some (.iload 5, 2, 0, 0, 0, 0, 0) := rfl
set_option maxRecDepth 20000 in
theorem ja_M_brings_160 : jv_at jm_M_brings.2.2.2.2.2.2 160 = some (.iastore, 1, 0, 0, 0, 0, 0) := rfl
set_option maxRecDepth 20000 in
theorem ja_M_brings_161 : jv_at jm_M_brings.2.2.2.2.2.2 161 = some (.iinc 4 (-1), 3, 0, 0, 0, 0, 0) := rfl
set_option maxRecDepth 20000 in
theorem ja_M_brings_164 : jv_at jm_M_brings.2.2.2.2.2.2 164 = some (.goto (-145), 3, 19, 0, 0, 0, 0) := rfl
set_option maxRecDepth 20000 in
theorem ja_M_brings_167 : jv_at jm_M_brings.2.2.2.2.2.2 167 = some (.iinc 3 (-1), 3, 0, 0, 0, 0, 0) := rfl
set_option maxRecDepth 20000 in
theorem ja_M_brings_170 : jv_at jm_M_brings.2.2.2.2.2.2 170 = some (.goto (-163), 3, 7, 0, 0, 0, 0) := rfl
set_option maxRecDepth 20000 in
theorem ja_M_brings_173 : jv_at jm_M_brings.2.2.2.2.2.2 173 = some (.return_, 1, 0, 0, 0, 0, 0) := rfl
set_option maxRecDepth 20000 in
theorem ja_M_conferred_0 : jv_at jm_M_conferred.2.2.2.2.2.2 0 = some (.aload_n 0, 1, 0, 0, 0, 0, 0) := rfl
set_option maxRecDepth 20000 in
theorem ja_M_conferred_1 : jv_at jm_M_conferred.2.2.2.2.2.2 1 = some (.iload_n 1, 1, 0, 0, 0, 0, 0) := rfl
set_option maxRecDepth 20000 in
theorem ja_M_conferred_2 : jv_at jm_M_conferred.2.2.2.2.2.2 2 = some (.invokevirtual 132, 3, 163, 0, 1237, 12, 1) := rfl
set_option maxRecDepth 20000 in
theorem ja_M_conferred_5 : jv_at jm_M_conferred.2.2.2.2.2.2 5 = some (.ifCond .eq 16, 3, 21, 0, 0, 0, 0) := rfl
set_option maxRecDepth 20000 in
theorem ja_M_conferred_8 : jv_at jm_M_conferred.2.2.2.2.2.2 8 = some (.aload_n 0, 1, 0, 0, 0, 0, 0) := rfl
set_option maxRecDepth 20000 in
theorem ja_M_conferred_9 : jv_at jm_M_conferred.2.2.2.2.2.2 9 = some (.iload_n 2, 1, 0, 0, 0, 0, 0) := rfl
set_option maxRecDepth 20000 in
theorem ja_M_conferred_10 : jv_at jm_M_conferred.2.2.2.2.2.2 10 = some (.invokevirtual 132, 3, 163, 0, 1237, 12, 1) := rfl
set_option maxRecDepth 20000 in
theorem ja_M_conferred_13 : jv_at jm_M_conferred.2.2.2.2.2.2 13 = some (.ifCond .eq 8, 3, 21, 0, 0, 0, 0) := rfl
set_option maxRecDepth 20000 in
theorem ja_M_conferred_16 : jv_at jm_M_conferred.2.2.2.2.2.2 16 = some (.iload_n 1, 1, 0, 0, 0, 0, 0) := rfl
set_option maxRecDepth 20000 in
theorem ja_M_conferred_17 : jv_at jm_M_conferred.2.2.2.2.2.2 17 = some (.iload_n 2, 1, 0, 0, 0, 0, 0) := rfl
set_option maxRecDepth 20000 in
theorem ja_M_conferred_18 : jv_at jm_M_conferred.2.2.2.2.2.2 18 = some (.if_icmp .ne 6, 3, 24, 0, 0, 0, 0) := rfl
set_option maxRecDepth 20000 in
theorem ja_M_conferred_21 : jv_at jm_M_conferred.2.2.2.2.2.2 21 = some (.bipush (-2), 2, 0, 0, 0, 0, -2) := rfl
set_option maxRecDepth 20000 in
theorem ja_M_conferred_23 : jv_at jm_M_conferred.2.2.2.2.2.2 23 = some (.ireturn, 1, 0, 0, 0, 0, 0) := rfl
set_option maxRecDepth 20000 in
theorem ja_M_conferred_24 : jv_at jm_M_conferred.2.2.2.2.2.2 24 = some (.aload_n 0, 1, 0, 0, 0, 0, 0) := rfl
set_option maxRecDepth 20000 in
theorem ja_M_conferred_25 : jv_at jm_M_conferred.2.2.2.2.2.2 25 = some (.iload_n 1, 1, 0, 0, 0, 0, 0) := rfl
set_option maxRecDepth 20000 in
theorem ja_M_conferred_26 : jv_at jm_M_conferred.2.2.2.2.2.2 26 = some (.iload_n 2, 1, 0, 0, 0, 0, 0) := rfl
set_option maxRecDepth 20000 in
theorem ja_M_conferred_27 : jv_at jm_M_conferred.2.2.2.2.2.2 27 = some (.invokevirtual 352, 3, 211, 0, 1430, 12, 2) := rfl
set_option maxRecDepth 20000 in
theorem ja_M_conferred_30 : jv_at jm_M_conferred.2.2.2.2.2.2 30 = some (.iload_n 3, 1, 0, 0, 0, 0, 0) := rfl
set_option maxRecDepth 20000 in
theorem ja_M_conferred_31 : jv_at jm_M_conferred.2.2.2.2.2.2 31 = some (.iconst 0, 1, 0, 0, 0, 0, 0) := rfl
set_option maxRecDepth 20000 in
theorem ja_M_conferred_32 : jv_at jm_M_conferred.2.2.2.2.2.2 32 = some (.aload_n 0, 1, 0, 0, 0, 0, 0) := rfl
set_option maxRecDepth 20000 in
theorem ja_M_conferred_33 : jv_at jm_M_conferred.2.2.2.2.2.2 33 = some (.getfield 102, 3, 12, 58, 1070, 0, 0) := rfl
set_option maxRecDepth 20000 in
theorem ja_M_conferred_36 : jv_at jm_M_conferred.2.2.2.2.2.2 36 = some (.iconst 0, 1, 0, 0, 0, 0, 0) := rfl
set_option maxRecDepth 20000 in
theorem ja_M_conferred_37 : jv_at jm_M_conferred.2.2.2.2.2.2 37 = some (.iaload, 1, 0, 0, 0, 0, 0) := rfl
set_option maxRecDepth 20000 in
theorem ja_M_conferred_38 : jv_at jm_M_conferred.2.2.2.2.2.2 38 = some (.iconst 1, 1, 0, 0, 0, 0, 1) := rfl
set_option maxRecDepth 20000 in
theorem ja_M_conferred_39 : jv_at jm_M_conferred.2.2.2.2.2.2 39 = some (.isub, 1, 0, 0, 0, 0, 0) := rfl
set_option maxRecDepth 20000 in
theorem ja_M_conferred_40 : jv_at jm_M_conferred.2.2.2.2.2.2 40 = some (.invokestatic 118, 3, 152, 1, 1195, 12, 3) := rfl
set_option maxRecDepth 20000 in
theorem ja_M_conferred_43 : jv_at jm_M_conferred.2.2.2.2.2.2 43 = some (.ifCond .ne 5, 3, 48, 0, 0, 0, 0) := rfl
set_option maxRecDepth 20000 in
theorem ja_M_conferred_46 : jv_at jm_M_conferred.2.2.2.2.2.2 46 = some (.iconst (-1), 1, 0, 0, 0, 0, -1) := rfl
set_option maxRecDepth 20000 in
theorem ja_M_conferred_47 : jv_at jm_M_conferred.2.2.2.2.2.2 47 = some (.ireturn, 1, 0, 0, 0, 0, 0) := rfl
set_option maxRecDepth 20000 in
theorem ja_M_conferred_48 : jv_at jm_M_conferred.2.2.2.2.2.2 48 = some (.iconst 0, 1, 0, 0, 0, 0, 0) := rfl
set_option maxRecDepth 20000 in
theorem ja_M_conferred_49 : jv_at jm_M_conferred.2.2.2.2.2.2 49 = some (.istore 4, 2, 0, 0, 0, 0, 0) := rfl
set_option maxRecDepth 20000 in
theorem ja_M_conferred_51 : jv_at jm_M_conferred.2.2.2.2.2.2 51 = some (.iconst 0, 1, 0, 0, 0, 0, 0) := rfl
set_option maxRecDepth 20000 in
theorem ja_M_conferred_52 : jv_at jm_M_conferred.2.2.2.2.2.2 52 = some (.istore 5, 2, 0, 0, 0, 0, 0) := rfl
set_option maxRecDepth 20000 in
theorem ja_M_conferred_54 : jv_at jm_M_conferred.2.2.2.2.2.2 54 = some (.iconst 0, 1, 0, 0, 0, 0, 0) := rfl
set_option maxRecDepth 20000 in
theorem ja_M_conferred_55 : jv_at jm_M_conferred.2.2.2.2.2.2 55 = some (.istore 6, 2, 0, 0, 0, 0, 0) := rfl
set_option maxRecDepth 20000 in
theorem ja_M_conferred_57 : jv_at jm_M_conferred.2.2.2.2.2.2 57 = some (.iconst 0, 1, 0, 0, 0, 0, 0) := rfl
set_option maxRecDepth 20000 in
theorem ja_M_conferred_58 : jv_at jm_M_conferred.2.2.2.2.2.2 58 = some (.istore 7, 2, 0, 0, 0, 0, 0) := rfl
set_option maxRecDepth 20000 in
theorem ja_M_conferred_60 : jv_at jm_M_conferred.2.2.2.2.2.2 60 = some (.iload 7, 2, 0, 0, 0, 0, 0) := rfl
set_option maxRecDepth 20000 in
theorem ja_M_conferred_62 : jv_at jm_M_conferred.2.2.2.2.2.2 62 = some (.iload_n 3, 1, 0, 0, 0, 0, 0) := rfl
set_option maxRecDepth 20000 in
theorem ja_M_conferred_63 : jv_at jm_M_conferred.2.2.2.2.2.2 63 = some (.if_icmp .gt 153, 3, 216, 0, 0, 0, 0) := rfl
set_option maxRecDepth 20000 in
theorem ja_M_conferred_66 : jv_at jm_M_conferred.2.2.2.2.2.2 66 = some (.aload_n 0, 1, 0, 0, 0, 0, 0) := rfl
set_option maxRecDepth 20000 in
theorem ja_M_conferred_67 : jv_at jm_M_conferred.2.2.2.2.2.2 67 = some (.getfield 102, 3, 12, 58, 1070, 0, 0) := rfl
set_option maxRecDepth 20000 in
theorem ja_M_conferred_70 : jv_at jm_M_conferred.2.2.2.2.2.2 70 = some (.bipush 11, 2, 0, 0, 0, 0, 11) := rfl
set_option maxRecDepth 20000 in
theorem ja_M_conferred_72 : jv_at jm_M_conferred.2.2.2.2.2.2 72 = some (.iload 4, 2, 0, 0, 0, 0, 0) := rfl
set_option maxRecDepth 20000 in
theorem ja_M_conferred_74 : jv_at jm_M_conferred.2.2.2.2.2.2 74 = some (.imul, 1, 0, 0, 0, 0, 0) := rfl
set_option maxRecDepth 20000 in
theorem ja_M_conferred_75 : jv_at jm_M_conferred.2.2.2.2.2.2 75 = some (.iload 5, 2, 0, 0, 0, 0, 0) := rfl
set_option maxRecDepth 20000 in
theorem ja_M_conferred_77 : jv_at jm_M_conferred.2.2.2.2.2.2 77 = some (.iadd, 1, 0, 0, 0, 0, 0) := rfl
set_option maxRecDepth 20000 in
theorem ja_M_conferred_78 : jv_at jm_M_conferred.2.2.2.2.2.2 78 = some (.iaload, 1, 0, 0, 0, 0, 0) := rfl
set_option maxRecDepth 20000 in
theorem ja_M_conferred_79 : jv_at jm_M_conferred.2.2.2.2.2.2 79 = some (.istore 8, 2, 0, 0, 0, 0, 0) := rfl
set_option maxRecDepth 20000 in
theorem ja_M_conferred_81 : jv_at jm_M_conferred.2.2.2.2.2.2 81 = some (.iconst 0, 1, 0, 0, 0, 0, 0) := rfl
set_option maxRecDepth 20000 in
theorem ja_M_conferred_82 : jv_at jm_M_conferred.2.2.2.2.2.2 82 = some (.istore 9, 2, 0, 0, 0, 0, 0) := rfl
set_option maxRecDepth 20000 in
theorem ja_M_conferred_84 : jv_at jm_M_conferred.2.2.2.2.2.2 84 = some (.iconst 1, 1, 0, 0, 0, 0, 1) := rfl
set_option maxRecDepth 20000 in
theorem ja_M_conferred_85 : jv_at jm_M_conferred.2.2.2.2.2.2 85 = some (.istore 10, 2, 0, 0, 0, 0, 0) := rfl
set_option maxRecDepth 20000 in
theorem ja_M_conferred_87 : jv_at jm_M_conferred.2.2.2.2.2.2 87 = some (.iload 10, 2, 0, 0, 0, 0, 0) := rfl
set_option maxRecDepth 20000 in
theorem ja_M_conferred_89 : jv_at jm_M_conferred.2.2.2.2.2.2 89 = some (.bipush 60, 2, 0, 0, 0, 0, 60) := rfl
set_option maxRecDepth 20000 in
theorem ja_M_conferred_91 : jv_at jm_M_conferred.2.2.2.2.2.2 91 = some (.if_icmp .gt 93, 3, 184, 0, 0, 0, 0) := rfl
set_option maxRecDepth 20000 in
theorem ja_M_conferred_94 : jv_at jm_M_conferred.2.2.2.2.2.2 94 = some (.iload 9, 2, 0, 0, 0, 0, 0) := rfl
set_option maxRecDepth 20000 in
theorem ja_M_conferred_96 : jv_at jm_M_conferred.2.2.2.2.2.2 96 = some (.ifCond .ne 88, 3, 184, 0, 0, 0, 0) := rfl
set_option maxRecDepth 20000 in
theorem ja_M_conferred_99 : jv_at jm_M_conferred.2.2.2.2.2.2 99 = some (.aload_n 0, 1, 0, 0, 0, 0, 0) := rfl
set_option maxRecDepth 20000 in
theorem ja_M_conferred_100 : jv_at jm_M_conferred.2.2.2.2.2.2 100 = some (.iload_n 1, 1, 0, 0, 0, 0, 0) := rfl
set_option maxRecDepth 20000 in
theorem ja_M_conferred_101 : jv_at jm_M_conferred.2.2.2.2.2.2 101 = some (.iload 4, 2, 0, 0, 0, 0, 0) := rfl
set_option maxRecDepth 20000 in
theorem ja_M_conferred_103 : jv_at jm_M_conferred.2.2.2.2.2.2 103 = some (.iload 10, 2, 0, 0, 0, 0, 0) := rfl
set_option maxRecDepth 20000 in
theorem ja_M_conferred_105 : jv_at jm_M_conferred.2.2.2.2.2.2 105 = some (.invokevirtual 355, 3, 213, 0, 1438, 12, 3) := rfl
set_option maxRecDepth 20000 in
theorem ja_M_conferred_108 : jv_at jm_M_conferred.2.2.2.2.2.2 108 = some (.istore 11, 2, 0, 0, 0, 0, 0) := rfl
set_option maxRecDepth 20000 in
theorem ja_M_conferred_110 : jv_at jm_M_conferred.2.2.2.2.2.2 110 = some (.aload_n 0, 1, 0, 0, 0, 0, 0) := rfl
set_option maxRecDepth 20000 in
theorem ja_M_conferred_111 : jv_at jm_M_conferred.2.2.2.2.2.2 111 = some (.iload_n 2, 1, 0, 0, 0, 0, 0) := rfl
set_option maxRecDepth 20000 in
theorem ja_M_conferred_112 : jv_at jm_M_conferred.2.2.2.2.2.2 112 = some (.iload 5, 2, 0, 0, 0, 0, 0) := rfl
set_option maxRecDepth 20000 in
theorem ja_M_conferred_114 : jv_at jm_M_conferred.2.2.2.2.2.2 114 = some (.iload 10, 2, 0, 0, 0, 0, 0) := rfl
set_option maxRecDepth 20000 in
theorem ja_M_conferred_116 : jv_at jm_M_conferred.2.2.2.2.2.2 116 = some (.invokevirtual 355, 3, 213, 0, 1438, 12, 3) := rfl
set_option maxRecDepth 20000 in
theorem ja_M_conferred_119 : jv_at jm_M_conferred.2.2.2.2.2.2 119 = some (.istore 12, 2, 0, 0, 0, 0, 0) := rfl
set_option maxRecDepth 20000 in
theorem ja_M_conferred_121 : jv_at jm_M_conferred.2.2.2.2.2.2 121 = some (.iload 11, 2, 0, 0, 0, 0, 0) := rfl
set_option maxRecDepth 20000 in
theorem ja_M_conferred_123 : jv_at jm_M_conferred.2.2.2.2.2.2 123 = some (.aload_n 0, 1, 0, 0, 0, 0, 0) := rfl
set_option maxRecDepth 20000 in
theorem ja_M_conferred_124 : jv_at jm_M_conferred.2.2.2.2.2.2 124 = some (.getfield 29, 3, 12, 8, 1020, 0, 0) := rfl
set_option maxRecDepth 20000 in
theorem ja_M_conferred_127 : jv_at jm_M_conferred.2.2.2.2.2.2 127 = some (.iload_n 1, 1, 0, 0, 0, 0, 0) := rfl
set_option maxRecDepth 20000 in
theorem ja_M_conferred_128 : jv_at jm_M_conferred.2.2.2.2.2.2 128 = some (.iaload, 1, 0, 0, 0, 0, 0) := rfl
set_option maxRecDepth 20000 in
theorem ja_M_conferred_129 : jv_at jm_M_conferred.2.2.2.2.2.2 129 = some (.if_icmp .ge 42, 3, 171, 0, 0, 0, 0) := rfl
set_option maxRecDepth 20000 in
theorem ja_M_conferred_132 : jv_at jm_M_conferred.2.2.2.2.2.2 132 = some (.iload 12, 2, 0, 0, 0, 0, 0) := rfl
set_option maxRecDepth 20000 in
theorem ja_M_conferred_134 : jv_at jm_M_conferred.2.2.2.2.2.2 134 = some (.aload_n 0, 1, 0, 0, 0, 0, 0) := rfl
set_option maxRecDepth 20000 in
theorem ja_M_conferred_135 : jv_at jm_M_conferred.2.2.2.2.2.2 135 = some (.getfield 29, 3, 12, 8, 1020, 0, 0) := rfl
set_option maxRecDepth 20000 in
theorem ja_M_conferred_138 : jv_at jm_M_conferred.2.2.2.2.2.2 138 = some (.iload_n 2, 1, 0, 0, 0, 0, 0) := rfl
set_option maxRecDepth 20000 in
theorem ja_M_conferred_139 : jv_at jm_M_conferred.2.2.2.2.2.2 139 = some (.iaload, 1, 0, 0, 0, 0, 0) := rfl
set_option maxRecDepth 20000 in
theorem ja_M_conferred_140 : jv_at jm_M_conferred.2.2.2.2.2.2 140 = some (.if_icmp .ge 31, 3, 171, 0, 0, 0, 0) := rfl
set_option maxRecDepth 20000 in
theorem ja_M_conferred_143 : jv_at jm_M_conferred.2.2.2.2.2.2 143 = some (.iconst 1, 1, 0, 0, 0, 0, 1) := rfl
set_option maxRecDepth 20000 in
theorem ja_M_conferred_144 : jv_at jm_M_conferred.2.2.2.2.2.2 144 = some (.aload_n 0, 1, 0, 0, 0, 0, 0) := rfl
set_option maxRecDepth 20000 in
theorem ja_M_conferred_145 : jv_at jm_M_conferred.2.2.2.2.2.2 145 = some (.getfield 102, 3, 12, 58, 1070, 0, 0) := rfl
set_option maxRecDepth 20000 in
theorem ja_M_conferred_148 : jv_at jm_M_conferred.2.2.2.2.2.2 148 = some (.bipush 11, 2, 0, 0, 0, 0, 11) := rfl
set_option maxRecDepth 20000 in
theorem ja_M_conferred_150 : jv_at jm_M_conferred.2.2.2.2.2.2 150 = some (.iload 11, 2, 0, 0, 0, 0, 0) := rfl
set_option maxRecDepth 20000 in
theorem ja_M_conferred_152 : jv_at jm_M_conferred.2.2.2.2.2.2 152 = some (.iconst 1, 1, 0, 0, 0, 0, 1) := rfl
set_option maxRecDepth 20000 in
theorem ja_M_conferred_153 : jv_at jm_M_conferred.2.2.2.2.2.2 153 = some (.iadd, 1, 0, 0, 0, 0, 0) := rfl
set_option maxRecDepth 20000 in
theorem ja_M_conferred_154 : jv_at jm_M_conferred.2.2.2.2.2.2 154 = some (.imul, 1, 0, 0, 0, 0, 0) := rfl
set_option maxRecDepth 20000 in
theorem ja_M_conferred_155 : jv_at jm_M_conferred.2.2.2.2.2.2 155 = some (.iload 12, 2, 0, 0, 0, 0, 0) := rfl
set_option maxRecDepth 20000 in
theorem ja_M_conferred_157 : jv_at jm_M_conferred.2.2.2.2.2.2 157 = some (.iadd, 1, 0, 0, 0, 0, 0) := rfl
set_option maxRecDepth 20000 in
theorem ja_M_conferred_158 : jv_at jm_M_conferred.2.2.2.2.2.2 158 = some (.iconst 1, 1, 0, 0, 0, 0, 1) := rfl
set_option maxRecDepth 20000 in
theorem ja_M_conferred_159 : jv_at jm_M_conferred.2.2.2.2.2.2 159 = some (.iadd, 1, 0, 0, 0, 0, 0) := rfl
set_option maxRecDepth 20000 in
theorem ja_M_conferred_160 : jv_at jm_M_conferred.2.2.2.2.2.2 160 = some (.iaload, 1, 0, 0, 0, 0, 0) := rfl
set_option maxRecDepth 20000 in
theorem ja_M_conferred_161 : jv_at jm_M_conferred.2.2.2.2.2.2 161 = some (.iadd, 1, 0, 0, 0, 0, 0) := rfl
set_option maxRecDepth 20000 in
theorem ja_M_conferred_162 : jv_at jm_M_conferred.2.2.2.2.2.2 162 = some (.iload 8, 2, 0, 0, 0, 0, 0) := rfl
set_option maxRecDepth 20000 in
theorem ja_M_conferred_164 : jv_at jm_M_conferred.2.2.2.2.2.2 164 = some (.if_icmp .ne 7, 3, 171, 0, 0, 0, 0) := rfl
set_option maxRecDepth 20000 in
theorem ja_M_conferred_167 : jv_at jm_M_conferred.2.2.2.2.2.2 167 = some (.iconst 1, 1, 0, 0, 0, 0, 1) := rfl
set_option maxRecDepth 20000 in
theorem ja_M_conferred_168 : jv_at jm_M_conferred.2.2.2.2.2.2 168 = some (.goto 4, 3, 172, 0, 0, 0, 0) := rfl
set_option maxRecDepth 20000 in
theorem ja_M_conferred_171 : jv_at jm_M_conferred.2.2.2.2.2.2 171 = some (.iconst 0, 1, 0, 0, 0, 0, 0) := rfl
set_option maxRecDepth 20000 in
theorem ja_M_conferred_172 : jv_at jm_M_conferred.2.2.2.2.2.2 172 = some (.istore 9, 2, 0, 0, 0, 0, 0) := rfl
set_option maxRecDepth 20000 in
theorem ja_M_conferred_174 : jv_at jm_M_conferred.2.2.2.2.2.2 174 = some (.iload 10, 2, 0, 0, 0, 0, 0) := rfl
set_option maxRecDepth 20000 in
theorem ja_M_conferred_176 : jv_at jm_M_conferred.2.2.2.2.2.2 176 = some (.istore 6, 2, 0, 0, 0, 0, 0) := rfl
set_option maxRecDepth 20000 in
theorem ja_M_conferred_178 : jv_at jm_M_conferred.2.2.2.2.2.2 178 = some (.iinc 10 1, 3, 0, 0, 0, 0, 0) := rfl
set_option maxRecDepth 20000 in
theorem ja_M_conferred_181 : jv_at jm_M_conferred.2.2.2.2.2.2 181 = some (.goto (-94), 3, 87, 0, 0, 0, 0) := rfl
set_option maxRecDepth 20000 in
theorem ja_M_conferred_184 : jv_at jm_M_conferred.2.2.2.2.2.2 184 = some (.aload_n 0, 1, 0, 0, 0, 0, 0) := rfl
set_option maxRecDepth 20000 in
theorem ja_M_conferred_185 : jv_at jm_M_conferred.2.2.2.2.2.2 185 = some (.iload_n 1, 1, 0, 0, 0, 0, 0) := rfl
set_option maxRecDepth 20000 in
theorem ja_M_conferred_186 : jv_at jm_M_conferred.2.2.2.2.2.2 186 = some (.iload 4, 2, 0, 0, 0, 0, 0) := rfl
set_option maxRecDepth 20000 in
theorem ja_M_conferred_188 : jv_at jm_M_conferred.2.2.2.2.2.2 188 = some (.iload 6, 2, 0, 0, 0, 0, 0) := rfl
set_option maxRecDepth 20000 in
theorem ja_M_conferred_190 : jv_at jm_M_conferred.2.2.2.2.2.2 190 = some (.invokevirtual 355, 3, 213, 0, 1438, 12, 3) := rfl
set_option maxRecDepth 20000 in
theorem ja_M_conferred_193 : jv_at jm_M_conferred.2.2.2.2.2.2 193 = some (.iconst 1, 1, 0, 0, 0, 0, 1) := rfl
set_option maxRecDepth 20000 in
theorem ja_M_conferred_194 : jv_at jm_M_conferred.2.2.2.2.2.2 194 = some (.iadd, 1, 0, 0, 0, 0, 0) := rfl
set_option maxRecDepth 20000 in
theorem ja_M_conferred_195 : jv_at jm_M_conferred.2.2.2.2.2.2 195 = some (.istore 4, 2, 0, 0, 0, 0, 0) := rfl
set_option maxRecDepth 20000 in
theorem ja_M_conferred_197 : jv_at jm_M_conferred.2.2.2.2.2.2 197 = some (.aload_n 0, 1, 0, 0, 0, 0, 0) := rfl
set_option maxRecDepth 20000 in
theorem ja_M_conferred_198 : jv_at jm_M_conferred.2.2.2.2.2.2 198 = some (.iload_n 2, 1, 0, 0, 0, 0, 0) := rfl
set_option maxRecDepth 20000 in
theorem ja_M_conferred_199 : jv_at jm_M_conferred.2.2.2.2.2.2 199 = some (.iload 5, 2, 0, 0, 0, 0, 0) := rfl
set_option maxRecDepth 20000 in
theorem ja_M_conferred_201 : jv_at jm_M_conferred.2.2.2.2.2.2 201 = some (.iload 6, 2, 0, 0, 0, 0, 0) := rfl
set_option maxRecDepth 20000 in
theorem ja_M_conferred_203 : jv_at jm_M_conferred.2.2.2.2.2.2 203 = some (.invokevirtual 355, 3, 213, 0, 1438, 12, 3) := rfl
set_option maxRecDepth 20000 in
theorem ja_M_conferred_206 : jv_at jm_M_conferred.2.2.2.2.2.2 206 = some (.iconst 1, 1, 0, 0, 0, 0, 1) := rfl
set_option maxRecDepth 20000 in
theorem ja_M_conferred_207 : jv_at jm_M_conferred.2.2.2.2.2.2 207 = some (.iadd, 1, 0, 0, 0, 0, 0) := rfl
set_option maxRecDepth 20000 in
theorem ja_M_conferred_208 : jv_at jm_M_conferred.2.2.2.2.2.2 208 = some (.istore 5, 2, 0, 0, 0, 0, 0) := rfl
set_option maxRecDepth 20000 in
theorem ja_M_conferred_210 : jv_at jm_M_conferred.2.2.2.2.2.2 210 = some (.iinc 7 1, 3, 0, 0, 0, 0, 0) := rfl
set_option maxRecDepth 20000 in
theorem ja_M_conferred_213 : jv_at jm_M_conferred.2.2.2.2.2.2 213 = some (.goto (-153), 3, 60, 0, 0, 0, 0) := rfl
set_option maxRecDepth 20000 in
theorem ja_M_conferred_216 : jv_at jm_M_conferred.2.2.2.2.2.2 216 = some (.iload 6, 2, 0, 0, 0, 0, 0) := rfl
set_option maxRecDepth 20000 in
theorem ja_M_conferred_218 : jv_at jm_M_conferred.2.2.2.2.2.2 218 = some (.ireturn, 1, 0, 0, 0, 0, 0) := rfl
set_option maxRecDepth 20000 in
theorem ja_M_nextOf_0 : jv_at jm_M_nextOf.2.2.2.2.2.2 0 = some (.iload_n 2, 1, 0, 0, 0, 0, 0) := rfl
set_option maxRecDepth 20000 in
theorem ja_M_nextOf_1 : jv_at jm_M_nextOf.2.2.2.2.2.2 1 = some (.istore 4, 2, 0, 0, 0, 0, 0) := rfl
set_option maxRecDepth 20000 in
theorem ja_M_nextOf_3 : jv_at jm_M_nextOf.2.2.2.2.2.2 3 = some (.iload 4, 2, 0, 0, 0, 0, 0) := rfl
set_option maxRecDepth 20000 in
theorem ja_M_nextOf_5 : jv_at jm_M_nextOf.2.2.2.2.2.2 5 = some (.aload_n 0, 1, 0, 0, 0, 0, 0) := rfl
set_option maxRecDepth 20000 in
theorem ja_M_nextOf_6 : jv_at jm_M_nextOf.2.2.2.2.2.2 6 = some (.getfield 29, 3, 12, 8, 1020, 0, 0) := rfl
set_option maxRecDepth 20000 in
theorem ja_M_nextOf_9 : jv_at jm_M_nextOf.2.2.2.2.2.2 9 = some (.iload_n 1, 1, 0, 0, 0, 0, 0) := rfl
set_option maxRecDepth 20000 in
theorem ja_M_nextOf_10 : jv_at jm_M_nextOf.2.2.2.2.2.2 10 = some (.iaload, 1, 0, 0, 0, 0, 0) := rfl
set_option maxRecDepth 20000 in
theorem ja_M_nextOf_11 : jv_at jm_M_nextOf.2.2.2.2.2.2 11 = some (.if_icmp .ge 25, 3, 36, 0, 0, 0, 0) := rfl
set_option maxRecDepth 20000 in
theorem ja_M_nextOf_14 : jv_at jm_M_nextOf.2.2.2.2.2.2 14 = some (.aload_n 0, 1, 0, 0, 0, 0, 0) := rfl
set_option maxRecDepth 20000 in
theorem ja_M_nextOf_15 : jv_at jm_M_nextOf.2.2.2.2.2.2 15 = some (.getfield 32, 3, 12, 9, 1021, 0, 0) := rfl
set_option maxRecDepth 20000 in
theorem ja_M_nextOf_18 : jv_at jm_M_nextOf.2.2.2.2.2.2 18 = some (.bipush 10, 2, 0, 0, 0, 0, 10) := rfl
set_option maxRecDepth 20000 in
theorem ja_M_nextOf_20 : jv_at jm_M_nextOf.2.2.2.2.2.2 20 = some (.iload_n 1, 1, 0, 0, 0, 0, 0) := rfl
set_option maxRecDepth 20000 in
theorem ja_M_nextOf_21 : jv_at jm_M_nextOf.2.2.2.2.2.2 21 = some (.imul, 1, 0, 0, 0, 0, 0) := rfl
set_option maxRecDepth 20000 in
theorem ja_M_nextOf_22 : jv_at jm_M_nextOf.2.2.2.2.2.2 22 = some (.iload 4, 2, 0, 0, 0, 0, 0) := rfl
set_option maxRecDepth 20000 in
theorem ja_M_nextOf_24 : jv_at jm_M_nextOf.2.2.2.2.2.2 24 = some (.iadd, 1, 0, 0, 0, 0, 0) := rfl
set_option maxRecDepth 20000 in
theorem ja_M_nextOf_25 : jv_at jm_M_nextOf.2.2.2.2.2.2 25 = some (.iaload, 1, 0, 0, 0, 0, 0) := rfl
set_option maxRecDepth 20000 in
theorem ja_M_nextOf_26 : jv_at jm_M_nextOf.2.2.2.2.2.2 26 = some (.iload_n 3, 1, 0, 0, 0, 0, 0) := rfl
set_option maxRecDepth 20000 in
theorem ja_M_nextOf_27 : jv_at jm_M_nextOf.2.2.2.2.2.2 27 = some (.if_icmp .eq 9, 3, 36, 0, 0, 0, 0) := rfl
set_option maxRecDepth 20000 in
theorem ja_M_nextOf_30 : jv_at jm_M_nextOf.2.2.2.2.2.2 30 = some (.iinc 4 1, 3, 0, 0, 0, 0, 0) := rfl
set_option maxRecDepth 20000 in
theorem ja_M_nextOf_33 : jv_at jm_M_nextOf.2.2.2.2.2.2 33 = some (.goto (-30), 3, 3, 0, 0, 0, 0) := rfl
set_option maxRecDepth 20000 in
theorem ja_M_nextOf_36 : jv_at jm_M_nextOf.2.2.2.2.2.2 36 = some (.iload 4, 2, 0, 0, 0, 0, 0) := rfl
set_option maxRecDepth 20000 in
theorem ja_M_nextOf_38 : jv_at jm_M_nextOf.2.2.2.2.2.2 38 = some (.ireturn, 1, 0, 0, 0, 0, 0) := rfl
set_option maxRecDepth 20000 in
theorem ja_M_count_0 : jv_at jm_M_count.2.2.2.2.2.2 0 = some (.iload_n 1, 1, 0, 0, 0, 0, 0) := rfl
set_option maxRecDepth 20000 in
theorem ja_M_count_1 : jv_at jm_M_count.2.2.2.2.2.2 1 = some (.tableswitch 123 0 11 #[63, 68, 73, 78, 83, 88, 93, 98, 103, 108, 113, 118], 63, 0, 0, 0, 0, 0) := rfl
set_option maxRecDepth 20000 in
theorem ja_M_count_64 : jv_at jm_M_count.2.2.2.2.2.2 64 = some (.aload_n 0, 1, 0, 0, 0, 0, 0) := rfl
set_option maxRecDepth 20000 in
theorem ja_M_count_65 : jv_at jm_M_count.2.2.2.2.2.2 65 = some (.getfield 115, 3, 12, 0, 1012, 0, 0) := rfl
set_option maxRecDepth 20000 in
theorem ja_M_count_68 : jv_at jm_M_count.2.2.2.2.2.2 68 = some (.ireturn, 1, 0, 0, 0, 0, 0) := rfl
set_option maxRecDepth 20000 in
theorem ja_M_count_69 : jv_at jm_M_count.2.2.2.2.2.2 69 = some (.aload_n 0, 1, 0, 0, 0, 0, 0) := rfl
set_option maxRecDepth 20000 in
theorem ja_M_count_70 : jv_at jm_M_count.2.2.2.2.2.2 70 = some (.invokevirtual 250, 3, 180, 0, 1306, 12, 0) := rfl
set_option maxRecDepth 20000 in
theorem ja_M_count_73 : jv_at jm_M_count.2.2.2.2.2.2 73 = some (.ireturn, 1, 0, 0, 0, 0, 0) := rfl
set_option maxRecDepth 20000 in
theorem ja_M_count_74 : jv_at jm_M_count.2.2.2.2.2.2 74 = some (.aload_n 0, 1, 0, 0, 0, 0, 0) := rfl
set_option maxRecDepth 20000 in
theorem ja_M_count_75 : jv_at jm_M_count.2.2.2.2.2.2 75 = some (.getfield 122, 3, 12, 6, 1018, 0, 0) := rfl
set_option maxRecDepth 20000 in
theorem ja_M_count_78 : jv_at jm_M_count.2.2.2.2.2.2 78 = some (.ireturn, 1, 0, 0, 0, 0, 0) := rfl
set_option maxRecDepth 20000 in
theorem ja_M_count_79 : jv_at jm_M_count.2.2.2.2.2.2 79 = some (.aload_n 0, 1, 0, 0, 0, 0, 0) := rfl
set_option maxRecDepth 20000 in
theorem ja_M_count_80 : jv_at jm_M_count.2.2.2.2.2.2 80 = some (.getfield 112, 3, 12, 14, 1026, 0, 0) := rfl
set_option maxRecDepth 20000 in
theorem ja_M_count_83 : jv_at jm_M_count.2.2.2.2.2.2 83 = some (.ireturn, 1, 0, 0, 0, 0, 0) := rfl
set_option maxRecDepth 20000 in
theorem ja_M_count_84 : jv_at jm_M_count.2.2.2.2.2.2 84 = some (.aload_n 0, 1, 0, 0, 0, 0, 0) := rfl
set_option maxRecDepth 20000 in
theorem ja_M_count_85 : jv_at jm_M_count.2.2.2.2.2.2 85 = some (.getfield 267, 3, 12, 18, 1030, 0, 0) := rfl
set_option maxRecDepth 20000 in
theorem ja_M_count_88 : jv_at jm_M_count.2.2.2.2.2.2 88 = some (.ireturn, 1, 0, 0, 0, 0, 0) := rfl
set_option maxRecDepth 20000 in
theorem ja_M_count_89 : jv_at jm_M_count.2.2.2.2.2.2 89 = some (.aload_n 0, 1, 0, 0, 0, 0, 0) := rfl
set_option maxRecDepth 20000 in
theorem ja_M_count_90 : jv_at jm_M_count.2.2.2.2.2.2 90 = some (.getfield 233, 3, 12, 30, 1042, 0, 0) := rfl
set_option maxRecDepth 20000 in
theorem ja_M_count_93 : jv_at jm_M_count.2.2.2.2.2.2 93 = some (.ireturn, 1, 0, 0, 0, 0, 0) := rfl
set_option maxRecDepth 20000 in
theorem ja_M_count_94 : jv_at jm_M_count.2.2.2.2.2.2 94 = some (.aload_n 0, 1, 0, 0, 0, 0, 0) := rfl
set_option maxRecDepth 20000 in
theorem ja_M_count_95 : jv_at jm_M_count.2.2.2.2.2.2 95 = some (.getfield 343, 3, 12, 16, 1028, 0, 0) := rfl
set_option maxRecDepth 20000 in
theorem ja_M_count_98 : jv_at jm_M_count.2.2.2.2.2.2 98 = some (.ireturn, 1, 0, 0, 0, 0, 0) := rfl
set_option maxRecDepth 20000 in
theorem ja_M_count_99 : jv_at jm_M_count.2.2.2.2.2.2 99 = some (.aload_n 0, 1, 0, 0, 0, 0, 0) := rfl
set_option maxRecDepth 20000 in
theorem ja_M_count_100 : jv_at jm_M_count.2.2.2.2.2.2 100 = some (.getfield 244, 3, 12, 17, 1029, 0, 0) := rfl
set_option maxRecDepth 20000 in
theorem ja_M_count_103 : jv_at jm_M_count.2.2.2.2.2.2 103 = some (.ireturn, 1, 0, 0, 0, 0, 0) := rfl
set_option maxRecDepth 20000 in
theorem ja_M_count_104 : jv_at jm_M_count.2.2.2.2.2.2 104 = some (.aload_n 0, 1, 0, 0, 0, 0, 0) := rfl
set_option maxRecDepth 20000 in
theorem ja_M_count_105 : jv_at jm_M_count.2.2.2.2.2.2 105 = some (.getfield 41, 3, 12, 13, 1025, 0, 0) := rfl
set_option maxRecDepth 20000 in
theorem ja_M_count_108 : jv_at jm_M_count.2.2.2.2.2.2 108 = some (.ireturn, 1, 0, 0, 0, 0, 0) := rfl
set_option maxRecDepth 20000 in
theorem ja_M_count_109 : jv_at jm_M_count.2.2.2.2.2.2 109 = some (.aload_n 0, 1, 0, 0, 0, 0, 0) := rfl
set_option maxRecDepth 20000 in
theorem ja_M_count_110 : jv_at jm_M_count.2.2.2.2.2.2 110 = some (.getfield 274, 3, 12, 15, 1027, 0, 0) := rfl
set_option maxRecDepth 20000 in
theorem ja_M_count_113 : jv_at jm_M_count.2.2.2.2.2.2 113 = some (.ireturn, 1, 0, 0, 0, 0, 0) := rfl
set_option maxRecDepth 20000 in
theorem ja_M_count_114 : jv_at jm_M_count.2.2.2.2.2.2 114 = some (.aload_n 0, 1, 0, 0, 0, 0, 0) := rfl
set_option maxRecDepth 20000 in
theorem ja_M_count_115 : jv_at jm_M_count.2.2.2.2.2.2 115 = some (.getfield 314, 3, 12, 19, 1031, 0, 0) := rfl
set_option maxRecDepth 20000 in
theorem ja_M_count_118 : jv_at jm_M_count.2.2.2.2.2.2 118 = some (.ireturn, 1, 0, 0, 0, 0, 0) := rfl
set_option maxRecDepth 20000 in
theorem ja_M_count_119 : jv_at jm_M_count.2.2.2.2.2.2 119 = some (.aload_n 0, 1, 0, 0, 0, 0, 0) := rfl
set_option maxRecDepth 20000 in
theorem ja_M_count_120 : jv_at jm_M_count.2.2.2.2.2.2 120 = some (.getfield 135, 3, 12, 11, 1023, 0, 0) := rfl
set_option maxRecDepth 20000 in
theorem ja_M_count_123 : jv_at jm_M_count.2.2.2.2.2.2 123 = some (.ireturn, 1, 0, 0, 0, 0, 0) := rfl
set_option maxRecDepth 20000 in
theorem ja_M_count_124 : jv_at jm_M_count.2.2.2.2.2.2 124 = some (.bipush (-2), 2, 0, 0, 0, 0, -2) := rfl
set_option maxRecDepth 20000 in
theorem ja_M_count_126 : jv_at jm_M_count.2.2.2.2.2.2 126 = some (.ireturn, 1, 0, 0, 0, 0, 0) := rfl
set_option maxRecDepth 20000 in
theorem ja_M_tray_0 : jv_at jm_M_tray.2.2.2.2.2.2 0 = some (.iload_n 1, 1, 0, 0, 0, 0, 0) := rfl
set_option maxRecDepth 20000 in
theorem ja_M_tray_1 : jv_at jm_M_tray.2.2.2.2.2.2 1 = some (.invokestatic 358, 3, 216, 1, 1450, 12, 1) := rfl
set_option maxRecDepth 20000 in
theorem ja_M_tray_4 : jv_at jm_M_tray.2.2.2.2.2.2 4 = some (.ifCond .eq 9, 3, 13, 0, 0, 0, 0) := rfl
set_option maxRecDepth 20000 in
theorem ja_M_tray_7 : jv_at jm_M_tray.2.2.2.2.2.2 7 = some (.iload_n 2, 1, 0, 0, 0, 0, 0) := rfl
set_option maxRecDepth 20000 in
theorem ja_M_tray_8 : jv_at jm_M_tray.2.2.2.2.2.2 8 = some (.bipush 40, 2, 0, 0, 0, 0, 40) := rfl
set_option maxRecDepth 20000 in
theorem ja_M_tray_10 : jv_at jm_M_tray.2.2.2.2.2.2 10 = some (.if_icmp .le 6, 3, 16, 0, 0, 0, 0) := rfl
set_option maxRecDepth 20000 in
theorem ja_M_tray_13 : jv_at jm_M_tray.2.2.2.2.2.2 13 = some (.bipush (-2), 2, 0, 0, 0, 0, -2) := rfl
set_option maxRecDepth 20000 in
theorem ja_M_tray_15 : jv_at jm_M_tray.2.2.2.2.2.2 15 = some (.ireturn, 1, 0, 0, 0, 0, 0) := rfl
set_option maxRecDepth 20000 in
theorem ja_M_tray_16 : jv_at jm_M_tray.2.2.2.2.2.2 16 = some (.iload_n 2, 1, 0, 0, 0, 0, 0) := rfl
set_option maxRecDepth 20000 in
theorem ja_M_tray_17 : jv_at jm_M_tray.2.2.2.2.2.2 17 = some (.iconst (-1), 1, 0, 0, 0, 0, -1) := rfl
set_option maxRecDepth 20000 in
theorem ja_M_tray_18 : jv_at jm_M_tray.2.2.2.2.2.2 18 = some (.if_icmp .ge 6, 3, 24, 0, 0, 0, 0) := rfl
set_option maxRecDepth 20000 in
theorem ja_M_tray_21 : jv_at jm_M_tray.2.2.2.2.2.2 21 = some (.bipush (-14), 2, 0, 0, 0, 0, -14) := rfl
set_option maxRecDepth 20000 in
theorem ja_M_tray_23 : jv_at jm_M_tray.2.2.2.2.2.2 23 = some (.ireturn, 1, 0, 0, 0, 0, 0) := rfl
set_option maxRecDepth 20000 in
theorem ja_M_tray_24 : jv_at jm_M_tray.2.2.2.2.2.2 24 = some (.aload_n 0, 1, 0, 0, 0, 0, 0) := rfl
set_option maxRecDepth 20000 in
theorem ja_M_tray_25 : jv_at jm_M_tray.2.2.2.2.2.2 25 = some (.getfield 75, 3, 12, 34, 1046, 0, 0) := rfl
set_option maxRecDepth 20000 in
theorem ja_M_tray_28 : jv_at jm_M_tray.2.2.2.2.2.2 28 = some (.iload_n 1, 1, 0, 0, 0, 0, 0) := rfl
set_option maxRecDepth 20000 in
theorem ja_M_tray_29 : jv_at jm_M_tray.2.2.2.2.2.2 29 = some (.iload_n 2, 1, 0, 0, 0, 0, 0) := rfl
set_option maxRecDepth 20000 in
theorem ja_M_tray_30 : jv_at jm_M_tray.2.2.2.2.2.2 30 = some (.iastore, 1, 0, 0, 0, 0, 0) := rfl
set_option maxRecDepth 20000 in
theorem ja_M_tray_31 : jv_at jm_M_tray.2.2.2.2.2.2 31 = some (.bipush 40, 2, 0, 0, 0, 0, 40) := rfl
set_option maxRecDepth 20000 in
theorem ja_M_tray_33 : jv_at jm_M_tray.2.2.2.2.2.2 33 = some (.iload_n 1, 1, 0, 0, 0, 0, 0) := rfl
set_option maxRecDepth 20000 in
theorem ja_M_tray_34 : jv_at jm_M_tray.2.2.2.2.2.2 34 = some (.imul, 1, 0, 0, 0, 0, 0) := rfl
set_option maxRecDepth 20000 in
theorem ja_M_tray_35 : jv_at jm_M_tray.2.2.2.2.2.2 35 = some (.istore_n 3, 1, 0, 0, 0, 0, 0) := rfl
set_option maxRecDepth 20000 in
theorem ja_M_tray_36 : jv_at jm_M_tray.2.2.2.2.2.2 36 = some (.iload_n 3, 1, 0, 0, 0, 0, 0) := rfl
set_option maxRecDepth 20000 in
theorem ja_M_tray_37 : jv_at jm_M_tray.2.2.2.2.2.2 37 = some (.bipush 40, 2, 0, 0, 0, 0, 40) := rfl
set_option maxRecDepth 20000 in
theorem ja_M_tray_39 : jv_at jm_M_tray.2.2.2.2.2.2 39 = some (.iload_n 1, 1, 0, 0, 0, 0, 0) := rfl
set_option maxRecDepth 20000 in
theorem ja_M_tray_40 : jv_at jm_M_tray.2.2.2.2.2.2 40 = some (.imul, 1, 0, 0, 0, 0, 0) := rfl
set_option maxRecDepth 20000 in
theorem ja_M_tray_41 : jv_at jm_M_tray.2.2.2.2.2.2 41 = some (.bipush 40, 2, 0, 0, 0, 0, 40) := rfl
set_option maxRecDepth 20000 in
theorem ja_M_tray_43 : jv_at jm_M_tray.2.2.2.2.2.2 43 = some (.iadd, 1, 0, 0, 0, 0, 0) := rfl
set_option maxRecDepth 20000 in
theorem ja_M_tray_44 : jv_at jm_M_tray.2.2.2.2.2.2 44 = some (.if_icmp .ge 16, 3, 60, 0, 0, 0, 0) := rfl
set_option maxRecDepth 20000 in
theorem ja_M_tray_47 : jv_at jm_M_tray.2.2.2.2.2.2 47 = some (.aload_n 0, 1, 0, 0, 0, 0, 0) := rfl
set_option maxRecDepth 20000 in
theorem ja_M_tray_48 : jv_at jm_M_tray.2.2.2.2.2.2 48 = some (.getfield 78, 3, 12, 35, 1047, 0, 0) := rfl
set_option maxRecDepth 20000 in
theorem ja_M_tray_51 : jv_at jm_M_tray.2.2.2.2.2.2 51 = some (.iload_n 3, 1, 0, 0, 0, 0, 0) := rfl
set_option maxRecDepth 20000 in
theorem ja_M_tray_52 : jv_at jm_M_tray.2.2.2.2.2.2 52 = some (.iconst 0, 1, 0, 0, 0, 0, 0) := rfl
set_option maxRecDepth 20000 in
theorem ja_M_tray_53 : jv_at jm_M_tray.2.2.2.2.2.2 53 = some (.iastore, 1, 0, 0, 0, 0, 0) := rfl
set_option maxRecDepth 20000 in
theorem ja_M_tray_54 : jv_at jm_M_tray.2.2.2.2.2.2 54 = some (.iinc 3 1, 3, 0, 0, 0, 0, 0) := rfl
set_option maxRecDepth 20000 in
theorem ja_M_tray_57 : jv_at jm_M_tray.2.2.2.2.2.2 57 = some (.goto (-21), 3, 36, 0, 0, 0, 0) := rfl
set_option maxRecDepth 20000 in
theorem ja_M_tray_60 : jv_at jm_M_tray.2.2.2.2.2.2 60 = some (.iconst 1, 1, 0, 0, 0, 0, 1) := rfl
set_option maxRecDepth 20000 in
theorem ja_M_tray_61 : jv_at jm_M_tray.2.2.2.2.2.2 61 = some (.ireturn, 1, 0, 0, 0, 0, 0) := rfl
set_option maxRecDepth 20000 in
theorem ja_M_isTray_0 : jv_at jm_M_isTray.2.2.2.2.2.2 0 = some (.iload_n 0, 1, 0, 0, 0, 0, 0) := rfl
set_option maxRecDepth 20000 in
theorem ja_M_isTray_1 : jv_at jm_M_isTray.2.2.2.2.2.2 1 = some (.iconst 0, 1, 0, 0, 0, 0, 0) := rfl
set_option maxRecDepth 20000 in
theorem ja_M_isTray_2 : jv_at jm_M_isTray.2.2.2.2.2.2 2 = some (.iconst 3, 1, 0, 0, 0, 0, 3) := rfl
set_option maxRecDepth 20000 in
theorem ja_M_isTray_3 : jv_at jm_M_isTray.2.2.2.2.2.2 3 = some (.invokestatic 118, 3, 152, 1, 1195, 12, 3) := rfl
set_option maxRecDepth 20000 in
theorem ja_M_isTray_6 : jv_at jm_M_isTray.2.2.2.2.2.2 6 = some (.ireturn, 1, 0, 0, 0, 0, 0) := rfl
set_option maxRecDepth 20000 in
theorem ja_M_cell_0 : jv_at jm_M_cell.2.2.2.2.2.2 0 = some (.iload_n 1, 1, 0, 0, 0, 0, 0) := rfl
set_option maxRecDepth 20000 in
theorem ja_M_cell_1 : jv_at jm_M_cell.2.2.2.2.2.2 1 = some (.invokestatic 358, 3, 216, 1, 1450, 12, 1) := rfl
set_option maxRecDepth 20000 in
theorem ja_M_cell_4 : jv_at jm_M_cell.2.2.2.2.2.2 4 = some (.ifCond .ne 6, 3, 10, 0, 0, 0, 0) := rfl
set_option maxRecDepth 20000 in
theorem ja_M_cell_7 : jv_at jm_M_cell.2.2.2.2.2.2 7 = some (.bipush (-2), 2, 0, 0, 0, 0, -2) := rfl
set_option maxRecDepth 20000 in
theorem ja_M_cell_9 : jv_at jm_M_cell.2.2.2.2.2.2 9 = some (.ireturn, 1, 0, 0, 0, 0, 0) := rfl
set_option maxRecDepth 20000 in
theorem ja_M_cell_10 : jv_at jm_M_cell.2.2.2.2.2.2 10 = some (.aload_n 0, 1, 0, 0, 0, 0, 0) := rfl
set_option maxRecDepth 20000 in
theorem ja_M_cell_11 : jv_at jm_M_cell.2.2.2.2.2.2 11 = some (.getfield 75, 3, 12, 34, 1046, 0, 0) := rfl
set_option maxRecDepth 20000 in
theorem ja_M_cell_14 : jv_at jm_M_cell.2.2.2.2.2.2 14 = some (.iload_n 1, 1, 0, 0, 0, 0, 0) := rfl
set_option maxRecDepth 20000 in
theorem ja_M_cell_15 : jv_at jm_M_cell.2.2.2.2.2.2 15 = some (.iaload, 1, 0, 0, 0, 0, 0) := rfl
set_option maxRecDepth 20000 in
theorem ja_M_cell_16 : jv_at jm_M_cell.2.2.2.2.2.2 16 = some (.iconst (-1), 1, 0, 0, 0, 0, -1) := rfl
set_option maxRecDepth 20000 in
theorem ja_M_cell_17 : jv_at jm_M_cell.2.2.2.2.2.2 17 = some (.if_icmp .ne 6, 3, 23, 0, 0, 0, 0) := rfl
set_option maxRecDepth 20000 in
theorem ja_M_cell_20 : jv_at jm_M_cell.2.2.2.2.2.2 20 = some (.bipush (-11), 2, 0, 0, 0, 0, -11) := rfl
set_option maxRecDepth 20000 in
theorem ja_M_cell_22 : jv_at jm_M_cell.2.2.2.2.2.2 22 = some (.ireturn, 1, 0, 0, 0, 0, 0) := rfl
set_option maxRecDepth 20000 in
theorem ja_M_cell_23 : jv_at jm_M_cell.2.2.2.2.2.2 23 = some (.iload_n 2, 1, 0, 0, 0, 0, 0) := rfl
set_option maxRecDepth 20000 in
theorem ja_M_cell_24 : jv_at jm_M_cell.2.2.2.2.2.2 24 = some (.iconst 0, 1, 0, 0, 0, 0, 0) := rfl
set_option maxRecDepth 20000 in
theorem ja_M_cell_25 : jv_at jm_M_cell.2.2.2.2.2.2 25 = some (.aload_n 0, 1, 0, 0, 0, 0, 0) := rfl
set_option maxRecDepth 20000 in
theorem ja_M_cell_26 : jv_at jm_M_cell.2.2.2.2.2.2 26 = some (.getfield 75, 3, 12, 34, 1046, 0, 0) := rfl
set_option maxRecDepth 20000 in
theorem ja_M_cell_29 : jv_at jm_M_cell.2.2.2.2.2.2 29 = some (.iload_n 1, 1, 0, 0, 0, 0, 0) := rfl
set_option maxRecDepth 20000 in
theorem ja_M_cell_30 : jv_at jm_M_cell.2.2.2.2.2.2 30 = some (.iaload, 1, 0, 0, 0, 0, 0) := rfl
set_option maxRecDepth 20000 in
theorem ja_M_cell_31 : jv_at jm_M_cell.2.2.2.2.2.2 31 = some (.iconst 1, 1, 0, 0, 0, 0, 1) := rfl
set_option maxRecDepth 20000 in
theorem ja_M_cell_32 : jv_at jm_M_cell.2.2.2.2.2.2 32 = some (.isub, 1, 0, 0, 0, 0, 0) := rfl
set_option maxRecDepth 20000 in
theorem ja_M_cell_33 : jv_at jm_M_cell.2.2.2.2.2.2 33 = some (.invokestatic 118, 3, 152, 1, 1195, 12, 3) := rfl
set_option maxRecDepth 20000 in
theorem ja_M_cell_36 : jv_at jm_M_cell.2.2.2.2.2.2 36 = some (.ifCond .ne 6, 3, 42, 0, 0, 0, 0) := rfl
set_option maxRecDepth 20000 in
theorem ja_M_cell_39 : jv_at jm_M_cell.2.2.2.2.2.2 39 = some (.bipush (-12), 2, 0, 0, 0, 0, -12) := rfl
set_option maxRecDepth 20000 in
theorem ja_M_cell_41 : jv_at jm_M_cell.2.2.2.2.2.2 41 = some (.ireturn, 1, 0, 0, 0, 0, 0) := rfl
set_option maxRecDepth 20000 in
theorem ja_M_cell_42 : jv_at jm_M_cell.2.2.2.2.2.2 42 = some (.iload_n 3, 1, 0, 0, 0, 0, 0) := rfl
set_option maxRecDepth 20000 in
theorem ja_M_cell_43 : jv_at jm_M_cell.2.2.2.2.2.2 43 = some (.sipush 255, 3, 0, 0, 0, 0, 255) := rfl
set_option maxRecDepth 20000 in
theorem ja_M_cell_46 : jv_at jm_M_cell.2.2.2.2.2.2 46 = some (.iand, 1, 0, 0, 0, 0, 0) := rfl
set_option maxRecDepth 20000 in
theorem ja_M_cell_47 : jv_at jm_M_cell.2.2.2.2.2.2 47 = some (.istore 4, 2, 0, 0, 0, 0, 0) := rfl
set_option maxRecDepth 20000 in
theorem ja_M_cell_49 : jv_at jm_M_cell.2.2.2.2.2.2 49 = some (.aload_n 0, 1, 0, 0, 0, 0, 0) := rfl
set_option maxRecDepth 20000 in
theorem ja_M_cell_50 : jv_at jm_M_cell.2.2.2.2.2.2 50 = some (.getfield 78, 3, 12, 35, 1047, 0, 0) := rfl
set_option maxRecDepth 20000 in
theorem ja_M_cell_53 : jv_at jm_M_cell.2.2.2.2.2.2 53 = some (.bipush 40, 2, 0, 0, 0, 0, 40) := rfl
set_option maxRecDepth 20000 in
theorem ja_M_cell_55 : jv_at jm_M_cell.2.2.2.2.2.2 55 = some (.iload_n 1, 1, 0, 0, 0, 0, 0) := rfl
set_option maxRecDepth 20000 in
theorem ja_M_cell_56 : jv_at jm_M_cell.2.2.2.2.2.2 56 = some (.imul, 1, 0, 0, 0, 0, 0) := rfl
set_option maxRecDepth 20000 in
theorem ja_M_cell_57 : jv_at jm_M_cell.2.2.2.2.2.2 57 = some (.iload_n 2, 1, 0, 0, 0, 0, 0) := rfl
set_option maxRecDepth 20000 in
theorem ja_M_cell_58 : jv_at jm_M_cell.2.2.2.2.2.2 58 = some (.iadd, 1, 0, 0, 0, 0, 0) := rfl
set_option maxRecDepth 20000 in
theorem ja_M_cell_59 : jv_at jm_M_cell.2.2.2.2.2.2 59 = some (.iload 4, 2, 0, 0, 0, 0, 0) := rfl
set_option maxRecDepth 20000 in
theorem ja_M_cell_61 : jv_at jm_M_cell.2.2.2.2.2.2 61 = some (.bipush 127, 2, 0, 0, 0, 0, 127) := rfl
set_option maxRecDepth 20000 in
theorem ja_M_cell_63 : jv_at jm_M_cell.2.2.2.2.2.2 63 = some (.if_icmp .le 12, 3, 75, 0, 0, 0, 0) := rfl
set_option maxRecDepth 20000 in
theorem ja_M_cell_66 : jv_at jm_M_cell.2.2.2.2.2.2 66 = some (.iload 4, 2, 0, 0, 0, 0, 0) := rfl
set_option maxRecDepth 20000 in
theorem ja_M_cell_68 : jv_at jm_M_cell.2.2.2.2.2.2 68 = some (.sipush 256, 3, 0, 0, 0, 0, 256) := rfl
set_option maxRecDepth 20000 in
theorem ja_M_cell_71 : jv_at jm_M_cell.2.2.2.2.2.2 71 = some (.isub, 1, 0, 0, 0, 0, 0) := rfl
set_option maxRecDepth 20000 in
theorem ja_M_cell_72 : jv_at jm_M_cell.2.2.2.2.2.2 72 = some (.goto 5, 3, 77, 0, 0, 0, 0) := rfl
set_option maxRecDepth 20000 in
theorem ja_M_cell_75 : jv_at jm_M_cell.2.2.2.2.2.2 75 = some (.iload 4, 2, 0, 0, 0, 0, 0) := rfl
set_option maxRecDepth 20000 in
theorem ja_M_cell_77 : jv_at jm_M_cell.2.2.2.2.2.2 77 = some (.iastore, 1, 0, 0, 0, 0, 0) := rfl
set_option maxRecDepth 20000 in
theorem ja_M_cell_78 : jv_at jm_M_cell.2.2.2.2.2.2 78 = some (.iconst 1, 1, 0, 0, 0, 0, 1) := rfl
set_option maxRecDepth 20000 in
theorem ja_M_cell_79 : jv_at jm_M_cell.2.2.2.2.2.2 79 = some (.ireturn, 1, 0, 0, 0, 0, 0) := rfl
set_option maxRecDepth 20000 in
theorem ja_M_made_0 : jv_at jm_M_made.2.2.2.2.2.2 0 = some (.iload_n 1, 1, 0, 0, 0, 0, 0) := rfl
set_option maxRecDepth 20000 in
theorem ja_M_made_1 : jv_at jm_M_made.2.2.2.2.2.2 1 = some (.invokestatic 358, 3, 216, 1, 1450, 12, 1) := rfl
set_option maxRecDepth 20000 in
theorem ja_M_made_4 : jv_at jm_M_made.2.2.2.2.2.2 4 = some (.ifCond .ne 6, 3, 10, 0, 0, 0, 0) := rfl
set_option maxRecDepth 20000 in
theorem ja_M_made_7 : jv_at jm_M_made.2.2.2.2.2.2 7 = some (.bipush (-2), 2, 0, 0, 0, 0, -2) := rfl
set_option maxRecDepth 20000 in
theorem ja_M_made_9 : jv_at jm_M_made.2.2.2.2.2.2 9 = some (.ireturn, 1, 0, 0, 0, 0, 0) := rfl
set_option maxRecDepth 20000 in
theorem ja_M_made_10 : jv_at jm_M_made.2.2.2.2.2.2 10 = some (.aload_n 0, 1, 0, 0, 0, 0, 0) := rfl
set_option maxRecDepth 20000 in
theorem ja_M_made_11 : jv_at jm_M_made.2.2.2.2.2.2 11 = some (.getfield 75, 3, 12, 34, 1046, 0, 0) := rfl
set_option maxRecDepth 20000 in
theorem ja_M_made_14 : jv_at jm_M_made.2.2.2.2.2.2 14 = some (.iload_n 1, 1, 0, 0, 0, 0, 0) := rfl
set_option maxRecDepth 20000 in
theorem ja_M_made_15 : jv_at jm_M_made.2.2.2.2.2.2 15 = some (.iaload, 1, 0, 0, 0, 0, 0) := rfl
set_option maxRecDepth 20000 in
theorem ja_M_made_16 : jv_at jm_M_made.2.2.2.2.2.2 16 = some (.iconst (-1), 1, 0, 0, 0, 0, -1) := rfl
set_option maxRecDepth 20000 in
theorem ja_M_made_17 : jv_at jm_M_made.2.2.2.2.2.2 17 = some (.if_icmp .ne 6, 3, 23, 0, 0, 0, 0) := rfl
set_option maxRecDepth 20000 in
theorem ja_M_made_20 : jv_at jm_M_made.2.2.2.2.2.2 20 = some (.bipush (-11), 2, 0, 0, 0, 0, -11) := rfl
set_option maxRecDepth 20000 in
theorem ja_M_made_22 : jv_at jm_M_made.2.2.2.2.2.2 22 = some (.ireturn, 1, 0, 0, 0, 0, 0) := rfl
set_option maxRecDepth 20000 in
theorem ja_M_made_23 : jv_at jm_M_made.2.2.2.2.2.2 23 = some (.iload_n 2, 1, 0, 0, 0, 0, 0) := rfl
set_option maxRecDepth 20000 in
theorem ja_M_made_24 : jv_at jm_M_made.2.2.2.2.2.2 24 = some (.iconst 0, 1, 0, 0, 0, 0, 0) := rfl
set_option maxRecDepth 20000 in
theorem ja_M_made_25 : jv_at jm_M_made.2.2.2.2.2.2 25 = some (.aload_n 0, 1, 0, 0, 0, 0, 0) := rfl
set_option maxRecDepth 20000 in
theorem ja_M_made_26 : jv_at jm_M_made.2.2.2.2.2.2 26 = some (.getfield 75, 3, 12, 34, 1046, 0, 0) := rfl
set_option maxRecDepth 20000 in
theorem ja_M_made_29 : jv_at jm_M_made.2.2.2.2.2.2 29 = some (.iload_n 1, 1, 0, 0, 0, 0, 0) := rfl
set_option maxRecDepth 20000 in
theorem ja_M_made_30 : jv_at jm_M_made.2.2.2.2.2.2 30 = some (.iaload, 1, 0, 0, 0, 0, 0) := rfl
set_option maxRecDepth 20000 in
theorem ja_M_made_31 : jv_at jm_M_made.2.2.2.2.2.2 31 = some (.iconst 4, 1, 0, 0, 0, 0, 4) := rfl
set_option maxRecDepth 20000 in
theorem ja_M_made_32 : jv_at jm_M_made.2.2.2.2.2.2 32 = some (.isub, 1, 0, 0, 0, 0, 0) := rfl
set_option maxRecDepth 20000 in
theorem ja_M_made_33 : jv_at jm_M_made.2.2.2.2.2.2 33 = some (.invokestatic 118, 3, 152, 1, 1195, 12, 3) := rfl
set_option maxRecDepth 20000 in
theorem ja_M_made_36 : jv_at jm_M_made.2.2.2.2.2.2 36 = some (.ifCond .ne 6, 3, 42, 0, 0, 0, 0) := rfl
set_option maxRecDepth 20000 in
theorem ja_M_made_39 : jv_at jm_M_made.2.2.2.2.2.2 39 = some (.bipush (-12), 2, 0, 0, 0, 0, -12) := rfl
set_option maxRecDepth 20000 in
theorem ja_M_made_41 : jv_at jm_M_made.2.2.2.2.2.2 41 = some (.ireturn, 1, 0, 0, 0, 0, 0) := rfl
set_option maxRecDepth 20000 in
theorem ja_M_made_42 : jv_at jm_M_made.2.2.2.2.2.2 42 = some (.bipush 40, 2, 0, 0, 0, 0, 40) := rfl
set_option maxRecDepth 20000 in
theorem ja_M_made_44 : jv_at jm_M_made.2.2.2.2.2.2 44 = some (.iload_n 1, 1, 0, 0, 0, 0, 0) := rfl
set_option maxRecDepth 20000 in
theorem ja_M_made_45 : jv_at jm_M_made.2.2.2.2.2.2 45 = some (.imul, 1, 0, 0, 0, 0, 0) := rfl
set_option maxRecDepth 20000 in
theorem ja_M_made_46 : jv_at jm_M_made.2.2.2.2.2.2 46 = some (.iload_n 2, 1, 0, 0, 0, 0, 0) := rfl
set_option maxRecDepth 20000 in
theorem ja_M_made_47 : jv_at jm_M_made.2.2.2.2.2.2 47 = some (.iadd, 1, 0, 0, 0, 0, 0) := rfl
set_option maxRecDepth 20000 in
theorem ja_M_made_48 : jv_at jm_M_made.2.2.2.2.2.2 48 = some (.istore_n 3, 1, 0, 0, 0, 0, 0) := rfl
set_option maxRecDepth 20000 in
theorem ja_M_made_49 : jv_at jm_M_made.2.2.2.2.2.2 49 = some (.aload_n 0, 1, 0, 0, 0, 0, 0) := rfl
set_option maxRecDepth 20000 in
theorem ja_M_made_50 : jv_at jm_M_made.2.2.2.2.2.2 50 = some (.aload_n 0, 1, 0, 0, 0, 0, 0) := rfl
set_option maxRecDepth 20000 in
theorem ja_M_made_51 : jv_at jm_M_made.2.2.2.2.2.2 51 = some (.getfield 78, 3, 12, 35, 1047, 0, 0) := rfl
set_option maxRecDepth 20000 in
theorem ja_M_made_54 : jv_at jm_M_made.2.2.2.2.2.2 54 = some (.iload_n 3, 1, 0, 0, 0, 0, 0) := rfl
set_option maxRecDepth 20000 in
theorem ja_M_made_55 : jv_at jm_M_made.2.2.2.2.2.2 55 = some (.iaload, 1, 0, 0, 0, 0, 0) := rfl
set_option maxRecDepth 20000 in
theorem ja_M_made_56 : jv_at jm_M_made.2.2.2.2.2.2 56 = some (.aload_n 0, 1, 0, 0, 0, 0, 0) := rfl
set_option maxRecDepth 20000 in
theorem ja_M_made_57 : jv_at jm_M_made.2.2.2.2.2.2 57 = some (.getfield 78, 3, 12, 35, 1047, 0, 0) := rfl
set_option maxRecDepth 20000 in
theorem ja_M_made_60 : jv_at jm_M_made.2.2.2.2.2.2 60 = some (.iload_n 3, 1, 0, 0, 0, 0, 0) := rfl
set_option maxRecDepth 20000 in
theorem ja_M_made_61 : jv_at jm_M_made.2.2.2.2.2.2 61 = some (.iconst 1, 1, 0, 0, 0, 0, 1) := rfl
set_option maxRecDepth 20000 in
theorem ja_M_made_62 : jv_at jm_M_made.2.2.2.2.2.2 62 = some (.iadd, 1, 0, 0, 0, 0, 0) := rfl
set_option maxRecDepth 20000 in
theorem ja_M_made_63 : jv_at jm_M_made.2.2.2.2.2.2 63 = some (.iaload, 1, 0, 0, 0, 0, 0) := rfl
set_option maxRecDepth 20000 in
theorem ja_M_made_64 : jv_at jm_M_made.2.2.2.2.2.2 64 = some (.aload_n 0, 1, 0, 0, 0, 0, 0) := rfl
set_option maxRecDepth 20000 in
theorem ja_M_made_65 : jv_at jm_M_made.2.2.2.2.2.2 65 = some (.getfield 78, 3, 12, 35, 1047, 0, 0) := rfl
set_option maxRecDepth 20000 in
theorem ja_M_made_68 : jv_at jm_M_made.2.2.2.2.2.2 68 = some (.iload_n 3, 1, 0, 0, 0, 0, 0) := rfl
set_option maxRecDepth 20000 in
theorem ja_M_made_69 : jv_at jm_M_made.2.2.2.2.2.2 69 = some (.iconst 2, 1, 0, 0, 0, 0, 2) := rfl
set_option maxRecDepth 20000 in
theorem ja_M_made_70 : jv_at jm_M_made.2.2.2.2.2.2 70 = some (.iadd, 1, 0, 0, 0, 0, 0) := rfl
set_option maxRecDepth 20000 in
theorem ja_M_made_71 : jv_at jm_M_made.2.2.2.2.2.2 71 = some (.iaload, 1, 0, 0, 0, 0, 0) := rfl
set_option maxRecDepth 20000 in
theorem ja_M_made_72 : jv_at jm_M_made.2.2.2.2.2.2 72 = some (.aload_n 0, 1, 0, 0, 0, 0, 0) := rfl
set_option maxRecDepth 20000 in
theorem ja_M_made_73 : jv_at jm_M_made.2.2.2.2.2.2 73 = some (.getfield 78, 3, 12, 35, 1047, 0, 0) := rfl
set_option maxRecDepth 20000 in
theorem ja_M_made_76 : jv_at jm_M_made.2.2.2.2.2.2 76 = some (.iload_n 3, 1, 0, 0, 0, 0, 0) := rfl
set_option maxRecDepth 20000 in
theorem ja_M_made_77 : jv_at jm_M_made.2.2.2.2.2.2 77 = some (.iconst 3, 1, 0, 0, 0, 0, 3) := rfl
set_option maxRecDepth 20000 in
theorem ja_M_made_78 : jv_at jm_M_made.2.2.2.2.2.2 78 = some (.iadd, 1, 0, 0, 0, 0, 0) := rfl
set_option maxRecDepth 20000 in
theorem ja_M_made_79 : jv_at jm_M_made.2.2.2.2.2.2 79 = some (.iaload, 1, 0, 0, 0, 0, 0) := rfl
set_option maxRecDepth 20000 in
theorem ja_M_made_80 : jv_at jm_M_made.2.2.2.2.2.2 80 = some (.invokevirtual 310, 3, 187, 0, 1333, 12, 4) := rfl
set_option maxRecDepth 20000 in
theorem ja_M_made_83 : jv_at jm_M_made.2.2.2.2.2.2 83 = some (.ireturn, 1, 0, 0, 0, 0, 0) := rfl
set_option maxRecDepth 20000 in
theorem ja_M_taken_0 : jv_at jm_M_taken.2.2.2.2.2.2 0 = some (.iload_n 2, 1, 0, 0, 0, 0, 0) := rfl
set_option maxRecDepth 20000 in
theorem ja_M_taken_1 : jv_at jm_M_taken.2.2.2.2.2.2 1 = some (.iconst 0, 1, 0, 0, 0, 0, 0) := rfl
set_option maxRecDepth 20000 in
theorem ja_M_taken_2 : jv_at jm_M_taken.2.2.2.2.2.2 2 = some (.bipush 6, 2, 0, 0, 0, 0, 6) := rfl
set_option maxRecDepth 20000 in
theorem ja_M_taken_4 : jv_at jm_M_taken.2.2.2.2.2.2 4 = some (.invokestatic 118, 3, 152, 1, 1195, 12, 3) := rfl
set_option maxRecDepth 20000 in
theorem ja_M_taken_7 : jv_at jm_M_taken.2.2.2.2.2.2 7 = some (.ifCond .ne 6, 3, 13, 0, 0, 0, 0) := rfl
set_option maxRecDepth 20000 in
theorem ja_M_taken_10 : jv_at jm_M_taken.2.2.2.2.2.2 10 = some (.bipush (-2), 2, 0, 0, 0, 0, -2) := rfl
set_option maxRecDepth 20000 in
theorem ja_M_taken_12 : jv_at jm_M_taken.2.2.2.2.2.2 12 = some (.ireturn, 1, 0, 0, 0, 0, 0) := rfl
set_option maxRecDepth 20000 in
theorem ja_M_taken_13 : jv_at jm_M_taken.2.2.2.2.2.2 13 = some (.iload_n 1, 1, 0, 0, 0, 0, 0) := rfl
set_option maxRecDepth 20000 in
theorem ja_M_taken_14 : jv_at jm_M_taken.2.2.2.2.2.2 14 = some (.iconst 0, 1, 0, 0, 0, 0, 0) := rfl
set_option maxRecDepth 20000 in
theorem ja_M_taken_15 : jv_at jm_M_taken.2.2.2.2.2.2 15 = some (.aload_n 0, 1, 0, 0, 0, 0, 0) := rfl
set_option maxRecDepth 20000 in
theorem ja_M_taken_16 : jv_at jm_M_taken.2.2.2.2.2.2 16 = some (.getfield 267, 3, 12, 18, 1030, 0, 0) := rfl
set_option maxRecDepth 20000 in
theorem ja_M_taken_19 : jv_at jm_M_taken.2.2.2.2.2.2 19 = some (.iconst 1, 1, 0, 0, 0, 0, 1) := rfl
set_option maxRecDepth 20000 in
theorem ja_M_taken_20 : jv_at jm_M_taken.2.2.2.2.2.2 20 = some (.isub, 1, 0, 0, 0, 0, 0) := rfl
set_option maxRecDepth 20000 in
theorem ja_M_taken_21 : jv_at jm_M_taken.2.2.2.2.2.2 21 = some (.invokestatic 118, 3, 152, 1, 1195, 12, 3) := rfl
set_option maxRecDepth 20000 in
theorem ja_M_taken_24 : jv_at jm_M_taken.2.2.2.2.2.2 24 = some (.ifCond .ne 6, 3, 30, 0, 0, 0, 0) := rfl
set_option maxRecDepth 20000 in
theorem ja_M_taken_27 : jv_at jm_M_taken.2.2.2.2.2.2 27 = some (.bipush (-11), 2, 0, 0, 0, 0, -11) := rfl
set_option maxRecDepth 20000 in
theorem ja_M_taken_29 : jv_at jm_M_taken.2.2.2.2.2.2 29 = some (.ireturn, 1, 0, 0, 0, 0, 0) := rfl
set_option maxRecDepth 20000 in
theorem ja_M_taken_30 : jv_at jm_M_taken.2.2.2.2.2.2 30 = some (.iload_n 2, 1, 0, 0, 0, 0, 0) := rfl
set_option maxRecDepth 20000 in
theorem ja_M_taken_31 : jv_at jm_M_taken.2.2.2.2.2.2 31 = some (.ifCond .eq 32, 3, 63, 0, 0, 0, 0) := rfl
set_option maxRecDepth 20000 in
theorem ja_M_taken_34 : jv_at jm_M_taken.2.2.2.2.2.2 34 = some (.aload_n 0, 1, 0, 0, 0, 0, 0) := rfl
set_option maxRecDepth 20000 in
theorem ja_M_taken_35 : jv_at jm_M_taken.2.2.2.2.2.2 35 = some (.getfield 45, 3, 12, 20, 1032, 0, 0) := rfl
set_option maxRecDepth 20000 in
theorem ja_M_taken_38 : jv_at jm_M_taken.2.2.2.2.2.2 38 = some (.iload_n 1, 1, 0, 0, 0, 0, 0) := rfl
set_option maxRecDepth 20000 in
theorem ja_M_taken_39 : jv_at jm_M_taken.2.2.2.2.2.2 39 = some (.iaload, 1, 0, 0, 0, 0, 0) := rfl
set_option maxRecDepth 20000 in
theorem ja_M_taken_40 : jv_at jm_M_taken.2.2.2.2.2.2 40 = some (.iload_n 2, 1, 0, 0, 0, 0, 0) := rfl
set_option maxRecDepth 20000 in
theorem ja_M_taken_41 : jv_at jm_M_taken.2.2.2.2.2.2 41 = some (.if_icmp .eq 22, 3, 63, 0, 0, 0, 0) := rfl
set_option maxRecDepth 20000 in
theorem ja_M_taken_44 : jv_at jm_M_taken.2.2.2.2.2.2 44 = some (.iload_n 2, 1, 0, 0, 0, 0, 0) := rfl
set_option maxRecDepth 20000 in
theorem ja_M_taken_45 : jv_at jm_M_taken.2.2.2.2.2.2 45 = some (.iconst 1, 1, 0, 0, 0, 0, 1) := rfl
set_option maxRecDepth 20000 in
theorem ja_M_taken_46 : jv_at jm_M_taken.2.2.2.2.2.2 46 = some (.if_icmp .ne 26, 3, 72, 0, 0, 0, 0) := rfl
set_option maxRecDepth 20000 in
theorem ja_M_taken_49 : jv_at jm_M_taken.2.2.2.2.2.2 49 = some (.aload_n 0, 1, 0, 0, 0, 0, 0) := rfl
set_option maxRecDepth 20000 in
theorem ja_M_taken_50 : jv_at jm_M_taken.2.2.2.2.2.2 50 = some (.getfield 45, 3, 12, 20, 1032, 0, 0) := rfl
set_option maxRecDepth 20000 in
theorem ja_M_taken_53 : jv_at jm_M_taken.2.2.2.2.2.2 53 = some (.iload_n 1, 1, 0, 0, 0, 0, 0) := rfl
set_option maxRecDepth 20000 in
theorem ja_M_taken_54 : jv_at jm_M_taken.2.2.2.2.2.2 54 = some (.iaload, 1, 0, 0, 0, 0, 0) := rfl
set_option maxRecDepth 20000 in
theorem ja_M_taken_55 : jv_at jm_M_taken.2.2.2.2.2.2 55 = some (.iconst 2, 1, 0, 0, 0, 0, 2) := rfl
set_option maxRecDepth 20000 in
theorem ja_M_taken_56 : jv_at jm_M_taken.2.2.2.2.2.2 56 = some (.iconst 3, 1, 0, 0, 0, 0, 3) := rfl
set_option maxRecDepth 20000 in
theorem ja_M_taken_57 : jv_at jm_M_taken.2.2.2.2.2.2 57 = some (.invokestatic 118, 3, 152, 1, 1195, 12, 3) := rfl
set_option maxRecDepth 20000 in
theorem ja_M_taken_60 : jv_at jm_M_taken.2.2.2.2.2.2 60 = some (.ifCond .eq 12, 3, 72, 0, 0, 0, 0) := rfl
set_option maxRecDepth 20000 in
theorem ja_M_taken_63 : jv_at jm_M_taken.2.2.2.2.2.2 63 = some (.aload_n 0, 1, 0, 0, 0, 0, 0) := rfl
set_option maxRecDepth 20000 in
theorem ja_M_taken_64 : jv_at jm_M_taken.2.2.2.2.2.2 64 = some (.getfield 48, 3, 12, 21, 1033, 0, 0) := rfl
set_option maxRecDepth 20000 in
theorem ja_M_taken_67 : jv_at jm_M_taken.2.2.2.2.2.2 67 = some (.iload_n 1, 1, 0, 0, 0, 0, 0) := rfl
set_option maxRecDepth 20000 in
theorem ja_M_taken_68 : jv_at jm_M_taken.2.2.2.2.2.2 68 = some (.iaload, 1, 0, 0, 0, 0, 0) := rfl
set_option maxRecDepth 20000 in
theorem ja_M_taken_69 : jv_at jm_M_taken.2.2.2.2.2.2 69 = some (.goto 5, 3, 74, 0, 0, 0, 0) := rfl
set_option maxRecDepth 20000 in
theorem ja_M_taken_72 : jv_at jm_M_taken.2.2.2.2.2.2 72 = some (.bipush (-13), 2, 0, 0, 0, 0, -13) := rfl
set_option maxRecDepth 20000 in
theorem ja_M_taken_74 : jv_at jm_M_taken.2.2.2.2.2.2 74 = some (.ireturn, 1, 0, 0, 0, 0, 0) := rfl
