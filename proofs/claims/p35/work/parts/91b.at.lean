set_option maxRecDepth 20000 in
theorem ja_C_member_0 : jv_at jm_C_member.2.2.2.2.2.2 0 = some (.iload_n 1, 1, 0, 0, 0, 0, 0) := rfl
set_option maxRecDepth 20000 in
theorem ja_C_member_1 : jv_at jm_C_member.2.2.2.2.2.2 1 = some (.ifCond .lt 8, 3, 9, 0, 0, 0, 0) := rfl
set_option maxRecDepth 20000 in
theorem ja_C_member_4 : jv_at jm_C_member.2.2.2.2.2.2 4 = some (.iload_n 1, 1, 0, 0, 0, 0, 0) := rfl
set_option maxRecDepth 20000 in
theorem ja_C_member_5 : jv_at jm_C_member.2.2.2.2.2.2 5 = some (.iconst 3, 1, 0, 0, 0, 0, 3) := rfl
set_option maxRecDepth 20000 in
theorem ja_C_member_6 : jv_at jm_C_member.2.2.2.2.2.2 6 = some (.if_icmp .le 6, 3, 12, 0, 0, 0, 0) := rfl
set_option maxRecDepth 20000 in
theorem ja_C_member_9 : jv_at jm_C_member.2.2.2.2.2.2 9 = some (.bipush (-2), 2, 0, 0, 0, 0, -2) := rfl
set_option maxRecDepth 20000 in
theorem ja_C_member_11 : jv_at jm_C_member.2.2.2.2.2.2 11 = some (.ireturn, 1, 0, 0, 0, 0, 0) := rfl
set_option maxRecDepth 20000 in
theorem ja_C_member_12 : jv_at jm_C_member.2.2.2.2.2.2 12 = some (.aload_n 0, 1, 0, 0, 0, 0, 0) := rfl
set_option maxRecDepth 20000 in
theorem ja_C_member_13 : jv_at jm_C_member.2.2.2.2.2.2 13 = some (.getfield 118, 3, 11, 1, 498, 0, 0) := rfl
set_option maxRecDepth 20000 in
theorem ja_C_member_16 : jv_at jm_C_member.2.2.2.2.2.2 16 = some (.aload_n 0, 1, 0, 0, 0, 0, 0) := rfl
set_option maxRecDepth 20000 in
theorem ja_C_member_17 : jv_at jm_C_member.2.2.2.2.2.2 17 = some (.getfield 11, 3, 11, 0, 497, 0, 0) := rfl
set_option maxRecDepth 20000 in
theorem ja_C_member_20 : jv_at jm_C_member.2.2.2.2.2.2 20 = some (.arraylength, 1, 0, 0, 0, 0, 0) := rfl
set_option maxRecDepth 20000 in
theorem ja_C_member_21 : jv_at jm_C_member.2.2.2.2.2.2 21 = some (.if_icmp .lt 6, 3, 27, 0, 0, 0, 0) := rfl
set_option maxRecDepth 20000 in
theorem ja_C_member_24 : jv_at jm_C_member.2.2.2.2.2.2 24 = some (.bipush (-4), 2, 0, 0, 0, 0, -4) := rfl
set_option maxRecDepth 20000 in
theorem ja_C_member_26 : jv_at jm_C_member.2.2.2.2.2.2 26 = some (.ireturn, 1, 0, 0, 0, 0, 0) := rfl
set_option maxRecDepth 20000 in
theorem ja_C_member_27 : jv_at jm_C_member.2.2.2.2.2.2 27 = some (.aload_n 0, 1, 0, 0, 0, 0, 0) := rfl
set_option maxRecDepth 20000 in
theorem ja_C_member_28 : jv_at jm_C_member.2.2.2.2.2.2 28 = some (.getfield 11, 3, 11, 0, 497, 0, 0) := rfl
set_option maxRecDepth 20000 in
theorem ja_C_member_31 : jv_at jm_C_member.2.2.2.2.2.2 31 = some (.aload_n 0, 1, 0, 0, 0, 0, 0) := rfl
set_option maxRecDepth 20000 in
theorem ja_C_member_32 : jv_at jm_C_member.2.2.2.2.2.2 32 = some (.getfield 118, 3, 11, 1, 498, 0, 0) := rfl
set_option maxRecDepth 20000 in
theorem ja_C_member_35 : jv_at jm_C_member.2.2.2.2.2.2 35 = some (.aaload, 1, 0, 0, 0, 0, 0) := rfl
set_option maxRecDepth 20000 in
theorem ja_C_member_36 : jv_at jm_C_member.2.2.2.2.2.2 36 = some (.iload_n 1, 1, 0, 0, 0, 0, 0) := rfl
set_option maxRecDepth 20000 in
theorem ja_C_member_37 : jv_at jm_C_member.2.2.2.2.2.2 37 = some (.putfield 121, 3, 5, 0, 117, 0, 0) := rfl
set_option maxRecDepth 20000 in
theorem ja_C_member_40 : jv_at jm_C_member.2.2.2.2.2.2 40 = some (.aload_n 0, 1, 0, 0, 0, 0, 0) := rfl
set_option maxRecDepth 20000 in
theorem ja_C_member_41 : jv_at jm_C_member.2.2.2.2.2.2 41 = some (.dup, 1, 0, 0, 0, 0, 0) := rfl
set_option maxRecDepth 20000 in
theorem ja_C_member_42 : jv_at jm_C_member.2.2.2.2.2.2 42 = some (.getfield 118, 3, 11, 1, 498, 0, 0) := rfl
set_option maxRecDepth 20000 in
theorem ja_C_member_45 : jv_at jm_C_member.2.2.2.2.2.2 45 = some (.iconst 1, 1, 0, 0, 0, 0, 1) := rfl
set_option maxRecDepth 20000 in
theorem ja_C_member_46 : jv_at jm_C_member.2.2.2.2.2.2 46 = some (.iadd, 1, 0, 0, 0, 0, 0) := rfl
set_option maxRecDepth 20000 in
theorem ja_C_member_47 : jv_at jm_C_member.2.2.2.2.2.2 47 = some (.putfield 118, 3, 11, 1, 498, 0, 0) := rfl
set_option maxRecDepth 20000 in
theorem ja_C_member_50 : jv_at jm_C_member.2.2.2.2.2.2 50 = some (.aload_n 0, 1, 0, 0, 0, 0, 0) := rfl
set_option maxRecDepth 20000 in
theorem ja_C_member_51 : jv_at jm_C_member.2.2.2.2.2.2 51 = some (.getfield 118, 3, 11, 1, 498, 0, 0) := rfl
set_option maxRecDepth 20000 in
theorem ja_C_member_54 : jv_at jm_C_member.2.2.2.2.2.2 54 = some (.iconst 1, 1, 0, 0, 0, 0, 1) := rfl
set_option maxRecDepth 20000 in
theorem ja_C_member_55 : jv_at jm_C_member.2.2.2.2.2.2 55 = some (.isub, 1, 0, 0, 0, 0, 0) := rfl
set_option maxRecDepth 20000 in
theorem ja_C_member_56 : jv_at jm_C_member.2.2.2.2.2.2 56 = some (.ireturn, 1, 0, 0, 0, 0, 0) := rfl
set_option maxRecDepth 20000 in
theorem ja_C_like_0 : jv_at jm_C_like.2.2.2.2.2.2 0 = some (.aload_n 0, 1, 0, 0, 0, 0, 0) := rfl
set_option maxRecDepth 20000 in
theorem ja_C_like_1 : jv_at jm_C_like.2.2.2.2.2.2 1 = some (.iload_n 1, 1, 0, 0, 0, 0, 0) := rfl
set_option maxRecDepth 20000 in
theorem ja_C_like_2 : jv_at jm_C_like.2.2.2.2.2.2 2 = some (.invokevirtual 124, 3, 41, 0, 567, 11, 1) := rfl
set_option maxRecDepth 20000 in
theorem ja_C_like_5 : jv_at jm_C_like.2.2.2.2.2.2 5 = some (.ifCond .eq 22, 3, 27, 0, 0, 0, 0) := rfl
set_option maxRecDepth 20000 in
theorem ja_C_like_8 : jv_at jm_C_like.2.2.2.2.2.2 8 = some (.iload_n 2, 1, 0, 0, 0, 0, 0) := rfl
set_option maxRecDepth 20000 in
theorem ja_C_like_9 : jv_at jm_C_like.2.2.2.2.2.2 9 = some (.invokestatic 128, 3, 42, 1, 571, 11, 1) := rfl
set_option maxRecDepth 20000 in
theorem ja_C_like_12 : jv_at jm_C_like.2.2.2.2.2.2 12 = some (.ifCond .eq 15, 3, 27, 0, 0, 0, 0) := rfl
set_option maxRecDepth 20000 in
theorem ja_C_like_15 : jv_at jm_C_like.2.2.2.2.2.2 15 = some (.iload_n 3, 1, 0, 0, 0, 0, 0) := rfl
set_option maxRecDepth 20000 in
theorem ja_C_like_16 : jv_at jm_C_like.2.2.2.2.2.2 16 = some (.bipush (-9), 2, 0, 0, 0, 0, -9) := rfl
set_option maxRecDepth 20000 in
theorem ja_C_like_18 : jv_at jm_C_like.2.2.2.2.2.2 18 = some (.if_icmp .lt 9, 3, 27, 0, 0, 0, 0) := rfl
set_option maxRecDepth 20000 in
theorem ja_C_like_21 : jv_at jm_C_like.2.2.2.2.2.2 21 = some (.iload_n 3, 1, 0, 0, 0, 0, 0) := rfl
set_option maxRecDepth 20000 in
theorem ja_C_like_22 : jv_at jm_C_like.2.2.2.2.2.2 22 = some (.bipush 9, 2, 0, 0, 0, 0, 9) := rfl
set_option maxRecDepth 20000 in
theorem ja_C_like_24 : jv_at jm_C_like.2.2.2.2.2.2 24 = some (.if_icmp .le 6, 3, 30, 0, 0, 0, 0) := rfl
set_option maxRecDepth 20000 in
theorem ja_C_like_27 : jv_at jm_C_like.2.2.2.2.2.2 27 = some (.bipush (-100), 2, 0, 0, 0, 0, -100) := rfl
set_option maxRecDepth 20000 in
theorem ja_C_like_29 : jv_at jm_C_like.2.2.2.2.2.2 29 = some (.ireturn, 1, 0, 0, 0, 0, 0) := rfl
set_option maxRecDepth 20000 in
theorem ja_C_like_30 : jv_at jm_C_like.2.2.2.2.2.2 30 = some (.aload_n 0, 1, 0, 0, 0, 0, 0) := rfl
set_option maxRecDepth 20000 in
theorem ja_C_like_31 : jv_at jm_C_like.2.2.2.2.2.2 31 = some (.getfield 11, 3, 11, 0, 497, 0, 0) := rfl
set_option maxRecDepth 20000 in
theorem ja_C_like_34 : jv_at jm_C_like.2.2.2.2.2.2 34 = some (.iload_n 1, 1, 0, 0, 0, 0, 0) := rfl
set_option maxRecDepth 20000 in
theorem ja_C_like_35 : jv_at jm_C_like.2.2.2.2.2.2 35 = some (.aaload, 1, 0, 0, 0, 0, 0) := rfl
set_option maxRecDepth 20000 in
theorem ja_C_like_36 : jv_at jm_C_like.2.2.2.2.2.2 36 = some (.iload_n 2, 1, 0, 0, 0, 0, 0) := rfl
set_option maxRecDepth 20000 in
theorem ja_C_like_37 : jv_at jm_C_like.2.2.2.2.2.2 37 = some (.iload_n 3, 1, 0, 0, 0, 0, 0) := rfl
set_option maxRecDepth 20000 in
theorem ja_C_like_38 : jv_at jm_C_like.2.2.2.2.2.2 38 = some (.invokevirtual 131, 3, 43, 0, 574, 5, 2) := rfl
set_option maxRecDepth 20000 in
theorem ja_C_like_41 : jv_at jm_C_like.2.2.2.2.2.2 41 = some (.ireturn, 1, 0, 0, 0, 0, 0) := rfl
set_option maxRecDepth 20000 in
theorem ja_C_isMember_0 : jv_at jm_C_isMember.2.2.2.2.2.2 0 = some (.iload_n 1, 1, 0, 0, 0, 0, 0) := rfl
set_option maxRecDepth 20000 in
theorem ja_C_isMember_1 : jv_at jm_C_isMember.2.2.2.2.2.2 1 = some (.ifCond .lt 24, 3, 25, 0, 0, 0, 0) := rfl
set_option maxRecDepth 20000 in
theorem ja_C_isMember_4 : jv_at jm_C_isMember.2.2.2.2.2.2 4 = some (.iload_n 1, 1, 0, 0, 0, 0, 0) := rfl
set_option maxRecDepth 20000 in
theorem ja_C_isMember_5 : jv_at jm_C_isMember.2.2.2.2.2.2 5 = some (.aload_n 0, 1, 0, 0, 0, 0, 0) := rfl
set_option maxRecDepth 20000 in
theorem ja_C_isMember_6 : jv_at jm_C_isMember.2.2.2.2.2.2 6 = some (.getfield 118, 3, 11, 1, 498, 0, 0) := rfl
set_option maxRecDepth 20000 in
theorem ja_C_isMember_9 : jv_at jm_C_isMember.2.2.2.2.2.2 9 = some (.if_icmp .ge 16, 3, 25, 0, 0, 0, 0) := rfl
set_option maxRecDepth 20000 in
theorem ja_C_isMember_12 : jv_at jm_C_isMember.2.2.2.2.2.2 12 = some (.iload_n 1, 1, 0, 0, 0, 0, 0) := rfl
set_option maxRecDepth 20000 in
theorem ja_C_isMember_13 : jv_at jm_C_isMember.2.2.2.2.2.2 13 = some (.aload_n 0, 1, 0, 0, 0, 0, 0) := rfl
set_option maxRecDepth 20000 in
theorem ja_C_isMember_14 : jv_at jm_C_isMember.2.2.2.2.2.2 14 = some (.getfield 11, 3, 11, 0, 497, 0, 0) := rfl
set_option maxRecDepth 20000 in
theorem ja_C_isMember_17 : jv_at jm_C_isMember.2.2.2.2.2.2 17 = some (.arraylength, 1, 0, 0, 0, 0, 0) := rfl
set_option maxRecDepth 20000 in
theorem ja_C_isMember_18 : jv_at jm_C_isMember.2.2.2.2.2.2 18 = some (.if_icmp .ge 7, 3, 25, 0, 0, 0, 0) := rfl
set_option maxRecDepth 20000 in
theorem ja_C_isMember_21 : jv_at jm_C_isMember.2.2.2.2.2.2 21 = some (.iconst 1, 1, 0, 0, 0, 0, 1) := rfl
set_option maxRecDepth 20000 in
theorem ja_C_isMember_22 : jv_at jm_C_isMember.2.2.2.2.2.2 22 = some (.goto 4, 3, 26, 0, 0, 0, 0) := rfl
set_option maxRecDepth 20000 in
theorem ja_C_isMember_25 : jv_at jm_C_isMember.2.2.2.2.2.2 25 = some (.iconst 0, 1, 0, 0, 0, 0, 0) := rfl
set_option maxRecDepth 20000 in
theorem ja_C_isMember_26 : jv_at jm_C_isMember.2.2.2.2.2.2 26 = some (.ireturn, 1, 0, 0, 0, 0, 0) := rfl
set_option maxRecDepth 20000 in
theorem ja_C_isWord_0 : jv_at jm_C_isWord.2.2.2.2.2.2 0 = some (.iload_n 0, 1, 0, 0, 0, 0, 0) := rfl
set_option maxRecDepth 20000 in
theorem ja_C_isWord_1 : jv_at jm_C_isWord.2.2.2.2.2.2 1 = some (.iconst 1, 1, 0, 0, 0, 0, 1) := rfl
set_option maxRecDepth 20000 in
theorem ja_C_isWord_2 : jv_at jm_C_isWord.2.2.2.2.2.2 2 = some (.if_icmp .lt 13, 3, 15, 0, 0, 0, 0) := rfl
set_option maxRecDepth 20000 in
theorem ja_C_isWord_5 : jv_at jm_C_isWord.2.2.2.2.2.2 5 = some (.iload_n 0, 1, 0, 0, 0, 0, 0) := rfl
set_option maxRecDepth 20000 in
theorem ja_C_isWord_6 : jv_at jm_C_isWord.2.2.2.2.2.2 6 = some (.bipush 60, 2, 0, 0, 0, 0, 60) := rfl
set_option maxRecDepth 20000 in
theorem ja_C_isWord_8 : jv_at jm_C_isWord.2.2.2.2.2.2 8 = some (.if_icmp .gt 7, 3, 15, 0, 0, 0, 0) := rfl
set_option maxRecDepth 20000 in
theorem ja_C_isWord_11 : jv_at jm_C_isWord.2.2.2.2.2.2 11 = some (.iconst 1, 1, 0, 0, 0, 0, 1) := rfl
set_option maxRecDepth 20000 in
theorem ja_C_isWord_12 : jv_at jm_C_isWord.2.2.2.2.2.2 12 = some (.goto 4, 3, 16, 0, 0, 0, 0) := rfl
set_option maxRecDepth 20000 in
theorem ja_C_isWord_15 : jv_at jm_C_isWord.2.2.2.2.2.2 15 = some (.iconst 0, 1, 0, 0, 0, 0, 0) := rfl
set_option maxRecDepth 20000 in
theorem ja_C_isWord_16 : jv_at jm_C_isWord.2.2.2.2.2.2 16 = some (.ireturn, 1, 0, 0, 0, 0, 0) := rfl
set_option maxRecDepth 20000 in
theorem ja_C_comes_0 : jv_at jm_C_comes.2.2.2.2.2.2 0 = some (.aload_n 0, 1, 0, 0, 0, 0, 0) := rfl
set_option maxRecDepth 20000 in
theorem ja_C_comes_1 : jv_at jm_C_comes.2.2.2.2.2.2 1 = some (.iload_n 1, 1, 0, 0, 0, 0, 0) := rfl
set_option maxRecDepth 20000 in
theorem ja_C_comes_2 : jv_at jm_C_comes.2.2.2.2.2.2 2 = some (.invokevirtual 124, 3, 41, 0, 567, 11, 1) := rfl
set_option maxRecDepth 20000 in
theorem ja_C_comes_5 : jv_at jm_C_comes.2.2.2.2.2.2 5 = some (.ifCond .ne 6, 3, 11, 0, 0, 0, 0) := rfl
set_option maxRecDepth 20000 in
theorem ja_C_comes_8 : jv_at jm_C_comes.2.2.2.2.2.2 8 = some (.bipush (-2), 2, 0, 0, 0, 0, -2) := rfl
set_option maxRecDepth 20000 in
theorem ja_C_comes_10 : jv_at jm_C_comes.2.2.2.2.2.2 10 = some (.ireturn, 1, 0, 0, 0, 0, 0) := rfl
set_option maxRecDepth 20000 in
theorem ja_C_comes_11 : jv_at jm_C_comes.2.2.2.2.2.2 11 = some (.aload_n 0, 1, 0, 0, 0, 0, 0) := rfl
set_option maxRecDepth 20000 in
theorem ja_C_comes_12 : jv_at jm_C_comes.2.2.2.2.2.2 12 = some (.getfield 11, 3, 11, 0, 497, 0, 0) := rfl
set_option maxRecDepth 20000 in
theorem ja_C_comes_15 : jv_at jm_C_comes.2.2.2.2.2.2 15 = some (.iload_n 1, 1, 0, 0, 0, 0, 0) := rfl
set_option maxRecDepth 20000 in
theorem ja_C_comes_16 : jv_at jm_C_comes.2.2.2.2.2.2 16 = some (.aaload, 1, 0, 0, 0, 0, 0) := rfl
set_option maxRecDepth 20000 in
theorem ja_C_comes_17 : jv_at jm_C_comes.2.2.2.2.2.2 17 = some (.getfield 135, 3, 5, 1, 119, 0, 0) := rfl
set_option maxRecDepth 20000 in
theorem ja_C_comes_20 : jv_at jm_C_comes.2.2.2.2.2.2 20 = some (.iload_n 2, 1, 0, 0, 0, 0, 0) := rfl
set_option maxRecDepth 20000 in
theorem ja_C_comes_21 : jv_at jm_C_comes.2.2.2.2.2.2 21 = some (.if_icmp .ne 5, 3, 26, 0, 0, 0, 0) := rfl
set_option maxRecDepth 20000 in
theorem ja_C_comes_24 : jv_at jm_C_comes.2.2.2.2.2.2 24 = some (.iconst 0, 1, 0, 0, 0, 0, 0) := rfl
set_option maxRecDepth 20000 in
theorem ja_C_comes_25 : jv_at jm_C_comes.2.2.2.2.2.2 25 = some (.ireturn, 1, 0, 0, 0, 0, 0) := rfl
set_option maxRecDepth 20000 in
theorem ja_C_comes_26 : jv_at jm_C_comes.2.2.2.2.2.2 26 = some (.aload_n 0, 1, 0, 0, 0, 0, 0) := rfl
set_option maxRecDepth 20000 in
theorem ja_C_comes_27 : jv_at jm_C_comes.2.2.2.2.2.2 27 = some (.getfield 11, 3, 11, 0, 497, 0, 0) := rfl
set_option maxRecDepth 20000 in
theorem ja_C_comes_30 : jv_at jm_C_comes.2.2.2.2.2.2 30 = some (.iload_n 1, 1, 0, 0, 0, 0, 0) := rfl
set_option maxRecDepth 20000 in
theorem ja_C_comes_31 : jv_at jm_C_comes.2.2.2.2.2.2 31 = some (.aaload, 1, 0, 0, 0, 0, 0) := rfl
set_option maxRecDepth 20000 in
theorem ja_C_comes_32 : jv_at jm_C_comes.2.2.2.2.2.2 32 = some (.iload_n 2, 1, 0, 0, 0, 0, 0) := rfl
set_option maxRecDepth 20000 in
theorem ja_C_comes_33 : jv_at jm_C_comes.2.2.2.2.2.2 33 = some (.putfield 135, 3, 5, 1, 119, 0, 0) := rfl
set_option maxRecDepth 20000 in
theorem ja_C_comes_36 : jv_at jm_C_comes.2.2.2.2.2.2 36 = some (.iconst 1, 1, 0, 0, 0, 0, 1) := rfl
set_option maxRecDepth 20000 in
theorem ja_C_comes_37 : jv_at jm_C_comes.2.2.2.2.2.2 37 = some (.ireturn, 1, 0, 0, 0, 0, 0) := rfl
set_option maxRecDepth 20000 in
theorem ja_C_pair_0 : jv_at jm_C_pair.2.2.2.2.2.2 0 = some (.aload_n 0, 1, 0, 0, 0, 0, 0) := rfl
set_option maxRecDepth 20000 in
theorem ja_C_pair_1 : jv_at jm_C_pair.2.2.2.2.2.2 1 = some (.iload_n 1, 1, 0, 0, 0, 0, 0) := rfl
set_option maxRecDepth 20000 in
theorem ja_C_pair_2 : jv_at jm_C_pair.2.2.2.2.2.2 2 = some (.invokevirtual 124, 3, 41, 0, 567, 11, 1) := rfl
set_option maxRecDepth 20000 in
theorem ja_C_pair_5 : jv_at jm_C_pair.2.2.2.2.2.2 5 = some (.ifCond .eq 16, 3, 21, 0, 0, 0, 0) := rfl
set_option maxRecDepth 20000 in
theorem ja_C_pair_8 : jv_at jm_C_pair.2.2.2.2.2.2 8 = some (.aload_n 0, 1, 0, 0, 0, 0, 0) := rfl
set_option maxRecDepth 20000 in
theorem ja_C_pair_9 : jv_at jm_C_pair.2.2.2.2.2.2 9 = some (.iload_n 2, 1, 0, 0, 0, 0, 0) := rfl
set_option maxRecDepth 20000 in
theorem ja_C_pair_10 : jv_at jm_C_pair.2.2.2.2.2.2 10 = some (.invokevirtual 124, 3, 41, 0, 567, 11, 1) := rfl
set_option maxRecDepth 20000 in
theorem ja_C_pair_13 : jv_at jm_C_pair.2.2.2.2.2.2 13 = some (.ifCond .eq 8, 3, 21, 0, 0, 0, 0) := rfl
set_option maxRecDepth 20000 in
theorem ja_C_pair_16 : jv_at jm_C_pair.2.2.2.2.2.2 16 = some (.iload_n 1, 1, 0, 0, 0, 0, 0) := rfl
set_option maxRecDepth 20000 in
theorem ja_C_pair_17 : jv_at jm_C_pair.2.2.2.2.2.2 17 = some (.iload_n 2, 1, 0, 0, 0, 0, 0) := rfl
set_option maxRecDepth 20000 in
theorem ja_C_pair_18 : jv_at jm_C_pair.2.2.2.2.2.2 18 = some (.if_icmp .ne 6, 3, 24, 0, 0, 0, 0) := rfl
set_option maxRecDepth 20000 in
theorem ja_C_pair_21 : jv_at jm_C_pair.2.2.2.2.2.2 21 = some (.bipush (-2), 2, 0, 0, 0, 0, -2) := rfl
set_option maxRecDepth 20000 in
theorem ja_C_pair_23 : jv_at jm_C_pair.2.2.2.2.2.2 23 = some (.ireturn, 1, 0, 0, 0, 0, 0) := rfl
set_option maxRecDepth 20000 in
theorem ja_C_pair_24 : jv_at jm_C_pair.2.2.2.2.2.2 24 = some (.aload_n 0, 1, 0, 0, 0, 0, 0) := rfl
set_option maxRecDepth 20000 in
theorem ja_C_pair_25 : jv_at jm_C_pair.2.2.2.2.2.2 25 = some (.getfield 11, 3, 11, 0, 497, 0, 0) := rfl
set_option maxRecDepth 20000 in
theorem ja_C_pair_28 : jv_at jm_C_pair.2.2.2.2.2.2 28 = some (.iload_n 1, 1, 0, 0, 0, 0, 0) := rfl
set_option maxRecDepth 20000 in
theorem ja_C_pair_29 : jv_at jm_C_pair.2.2.2.2.2.2 29 = some (.aaload, 1, 0, 0, 0, 0, 0) := rfl
set_option maxRecDepth 20000 in
theorem ja_C_pair_30 : jv_at jm_C_pair.2.2.2.2.2.2 30 = some (.getfield 139, 3, 5, 2, 121, 0, 0) := rfl
set_option maxRecDepth 20000 in
theorem ja_C_pair_33 : jv_at jm_C_pair.2.2.2.2.2.2 33 = some (.iconst (-1), 1, 0, 0, 0, 0, -1) := rfl
set_option maxRecDepth 20000 in
theorem ja_C_pair_34 : jv_at jm_C_pair.2.2.2.2.2.2 34 = some (.if_icmp .ne 16, 3, 50, 0, 0, 0, 0) := rfl
set_option maxRecDepth 20000 in
theorem ja_C_pair_37 : jv_at jm_C_pair.2.2.2.2.2.2 37 = some (.aload_n 0, 1, 0, 0, 0, 0, 0) := rfl
set_option maxRecDepth 20000 in
theorem ja_C_pair_38 : jv_at jm_C_pair.2.2.2.2.2.2 38 = some (.getfield 11, 3, 11, 0, 497, 0, 0) := rfl
set_option maxRecDepth 20000 in
theorem ja_C_pair_41 : jv_at jm_C_pair.2.2.2.2.2.2 41 = some (.iload_n 2, 1, 0, 0, 0, 0, 0) := rfl
set_option maxRecDepth 20000 in
theorem ja_C_pair_42 : jv_at jm_C_pair.2.2.2.2.2.2 42 = some (.aaload, 1, 0, 0, 0, 0, 0) := rfl
set_option maxRecDepth 20000 in
theorem ja_C_pair_43 : jv_at jm_C_pair.2.2.2.2.2.2 43 = some (.getfield 139, 3, 5, 2, 121, 0, 0) := rfl
set_option maxRecDepth 20000 in
theorem ja_C_pair_46 : jv_at jm_C_pair.2.2.2.2.2.2 46 = some (.iconst (-1), 1, 0, 0, 0, 0, -1) := rfl
set_option maxRecDepth 20000 in
theorem ja_C_pair_47 : jv_at jm_C_pair.2.2.2.2.2.2 47 = some (.if_icmp .eq 6, 3, 53, 0, 0, 0, 0) := rfl
set_option maxRecDepth 20000 in
theorem ja_C_pair_50 : jv_at jm_C_pair.2.2.2.2.2.2 50 = some (.bipush (-3), 2, 0, 0, 0, 0, -3) := rfl
set_option maxRecDepth 20000 in
theorem ja_C_pair_52 : jv_at jm_C_pair.2.2.2.2.2.2 52 = some (.ireturn, 1, 0, 0, 0, 0, 0) := rfl
set_option maxRecDepth 20000 in
theorem ja_C_pair_53 : jv_at jm_C_pair.2.2.2.2.2.2 53 = some (.aload_n 0, 1, 0, 0, 0, 0, 0) := rfl
set_option maxRecDepth 20000 in
theorem ja_C_pair_54 : jv_at jm_C_pair.2.2.2.2.2.2 54 = some (.getfield 11, 3, 11, 0, 497, 0, 0) := rfl
set_option maxRecDepth 20000 in
theorem ja_C_pair_57 : jv_at jm_C_pair.2.2.2.2.2.2 57 = some (.iload_n 1, 1, 0, 0, 0, 0, 0) := rfl
set_option maxRecDepth 20000 in
theorem ja_C_pair_58 : jv_at jm_C_pair.2.2.2.2.2.2 58 = some (.aaload, 1, 0, 0, 0, 0, 0) := rfl
set_option maxRecDepth 20000 in
theorem ja_C_pair_59 : jv_at jm_C_pair.2.2.2.2.2.2 59 = some (.iload_n 2, 1, 0, 0, 0, 0, 0) := rfl
set_option maxRecDepth 20000 in
theorem ja_C_pair_60 : jv_at jm_C_pair.2.2.2.2.2.2 60 = some (.putfield 139, 3, 5, 2, 121, 0, 0) := rfl
set_option maxRecDepth 20000 in
theorem ja_C_pair_63 : jv_at jm_C_pair.2.2.2.2.2.2 63 = some (.aload_n 0, 1, 0, 0, 0, 0, 0) := rfl
set_option maxRecDepth 20000 in
theorem ja_C_pair_64 : jv_at jm_C_pair.2.2.2.2.2.2 64 = some (.getfield 11, 3, 11, 0, 497, 0, 0) := rfl
set_option maxRecDepth 20000 in
theorem ja_C_pair_67 : jv_at jm_C_pair.2.2.2.2.2.2 67 = some (.iload_n 2, 1, 0, 0, 0, 0, 0) := rfl
set_option maxRecDepth 20000 in
theorem ja_C_pair_68 : jv_at jm_C_pair.2.2.2.2.2.2 68 = some (.aaload, 1, 0, 0, 0, 0, 0) := rfl
set_option maxRecDepth 20000 in
theorem ja_C_pair_69 : jv_at jm_C_pair.2.2.2.2.2.2 69 = some (.iload_n 1, 1, 0, 0, 0, 0, 0) := rfl
set_option maxRecDepth 20000 in
theorem ja_C_pair_70 : jv_at jm_C_pair.2.2.2.2.2.2 70 = some (.putfield 139, 3, 5, 2, 121, 0, 0) := rfl
set_option maxRecDepth 20000 in
theorem ja_C_pair_73 : jv_at jm_C_pair.2.2.2.2.2.2 73 = some (.iconst 1, 1, 0, 0, 0, 0, 1) := rfl
set_option maxRecDepth 20000 in
theorem ja_C_pair_74 : jv_at jm_C_pair.2.2.2.2.2.2 74 = some (.ireturn, 1, 0, 0, 0, 0, 0) := rfl
set_option maxRecDepth 20000 in
theorem ja_C_part_0 : jv_at jm_C_part.2.2.2.2.2.2 0 = some (.aload_n 0, 1, 0, 0, 0, 0, 0) := rfl
set_option maxRecDepth 20000 in
theorem ja_C_part_1 : jv_at jm_C_part.2.2.2.2.2.2 1 = some (.iload_n 1, 1, 0, 0, 0, 0, 0) := rfl
set_option maxRecDepth 20000 in
theorem ja_C_part_2 : jv_at jm_C_part.2.2.2.2.2.2 2 = some (.invokevirtual 124, 3, 41, 0, 567, 11, 1) := rfl
set_option maxRecDepth 20000 in
theorem ja_C_part_5 : jv_at jm_C_part.2.2.2.2.2.2 5 = some (.ifCond .ne 6, 3, 11, 0, 0, 0, 0) := rfl
set_option maxRecDepth 20000 in
theorem ja_C_part_8 : jv_at jm_C_part.2.2.2.2.2.2 8 = some (.bipush (-2), 2, 0, 0, 0, 0, -2) := rfl
set_option maxRecDepth 20000 in
theorem ja_C_part_10 : jv_at jm_C_part.2.2.2.2.2.2 10 = some (.ireturn, 1, 0, 0, 0, 0, 0) := rfl
set_option maxRecDepth 20000 in
theorem ja_C_part_11 : jv_at jm_C_part.2.2.2.2.2.2 11 = some (.aload_n 0, 1, 0, 0, 0, 0, 0) := rfl
set_option maxRecDepth 20000 in
theorem ja_C_part_12 : jv_at jm_C_part.2.2.2.2.2.2 12 = some (.getfield 11, 3, 11, 0, 497, 0, 0) := rfl
set_option maxRecDepth 20000 in
theorem ja_C_part_15 : jv_at jm_C_part.2.2.2.2.2.2 15 = some (.iload_n 1, 1, 0, 0, 0, 0, 0) := rfl
set_option maxRecDepth 20000 in
theorem ja_C_part_16 : jv_at jm_C_part.2.2.2.2.2.2 16 = some (.aaload, 1, 0, 0, 0, 0, 0) := rfl
set_option maxRecDepth 20000 in
theorem ja_C_part_17 : jv_at jm_C_part.2.2.2.2.2.2 17 = some (.getfield 139, 3, 5, 2, 121, 0, 0) := rfl
set_option maxRecDepth 20000 in
theorem ja_C_part_20 : jv_at jm_C_part.2.2.2.2.2.2 20 = some (.istore_n 2, 1, 0, 0, 0, 0, 0) := rfl
set_option maxRecDepth 20000 in
theorem ja_C_part_21 : jv_at jm_C_part.2.2.2.2.2.2 21 = some (.aload_n 0, 1, 0, 0, 0, 0, 0) := rfl
set_option maxRecDepth 20000 in
theorem ja_C_part_22 : jv_at jm_C_part.2.2.2.2.2.2 22 = some (.iload_n 2, 1, 0, 0, 0, 0, 0) := rfl
set_option maxRecDepth 20000 in
theorem ja_C_part_23 : jv_at jm_C_part.2.2.2.2.2.2 23 = some (.invokevirtual 124, 3, 41, 0, 567, 11, 1) := rfl
set_option maxRecDepth 20000 in
theorem ja_C_part_26 : jv_at jm_C_part.2.2.2.2.2.2 26 = some (.ifCond .ne 6, 3, 32, 0, 0, 0, 0) := rfl
set_option maxRecDepth 20000 in
theorem ja_C_part_29 : jv_at jm_C_part.2.2.2.2.2.2 29 = some (.bipush (-3), 2, 0, 0, 0, 0, -3) := rfl
set_option maxRecDepth 20000 in
theorem ja_C_part_31 : jv_at jm_C_part.2.2.2.2.2.2 31 = some (.ireturn, 1, 0, 0, 0, 0, 0) := rfl
set_option maxRecDepth 20000 in
theorem ja_C_part_32 : jv_at jm_C_part.2.2.2.2.2.2 32 = some (.aload_n 0, 1, 0, 0, 0, 0, 0) := rfl
set_option maxRecDepth 20000 in
theorem ja_C_part_33 : jv_at jm_C_part.2.2.2.2.2.2 33 = some (.getfield 11, 3, 11, 0, 497, 0, 0) := rfl
set_option maxRecDepth 20000 in
theorem ja_C_part_36 : jv_at jm_C_part.2.2.2.2.2.2 36 = some (.iload_n 1, 1, 0, 0, 0, 0, 0) := rfl
set_option maxRecDepth 20000 in
theorem ja_C_part_37 : jv_at jm_C_part.2.2.2.2.2.2 37 = some (.aaload, 1, 0, 0, 0, 0, 0) := rfl
set_option maxRecDepth 20000 in
theorem ja_C_part_38 : jv_at jm_C_part.2.2.2.2.2.2 38 = some (.iconst (-1), 1, 0, 0, 0, 0, -1) := rfl
set_option maxRecDepth 20000 in
theorem ja_C_part_39 : jv_at jm_C_part.2.2.2.2.2.2 39 = some (.putfield 139, 3, 5, 2, 121, 0, 0) := rfl
set_option maxRecDepth 20000 in
theorem ja_C_part_42 : jv_at jm_C_part.2.2.2.2.2.2 42 = some (.aload_n 0, 1, 0, 0, 0, 0, 0) := rfl
set_option maxRecDepth 20000 in
theorem ja_C_part_43 : jv_at jm_C_part.2.2.2.2.2.2 43 = some (.getfield 11, 3, 11, 0, 497, 0, 0) := rfl
set_option maxRecDepth 20000 in
theorem ja_C_part_46 : jv_at jm_C_part.2.2.2.2.2.2 46 = some (.iload_n 2, 1, 0, 0, 0, 0, 0) := rfl
set_option maxRecDepth 20000 in
theorem ja_C_part_47 : jv_at jm_C_part.2.2.2.2.2.2 47 = some (.aaload, 1, 0, 0, 0, 0, 0) := rfl
set_option maxRecDepth 20000 in
theorem ja_C_part_48 : jv_at jm_C_part.2.2.2.2.2.2 48 = some (.iconst (-1), 1, 0, 0, 0, 0, -1) := rfl
set_option maxRecDepth 20000 in
theorem ja_C_part_49 : jv_at jm_C_part.2.2.2.2.2.2 49 = some (.putfield 139, 3, 5, 2, 121, 0, 0) := rfl
set_option maxRecDepth 20000 in
theorem ja_C_part_52 : jv_at jm_C_part.2.2.2.2.2.2 52 = some (.iload_n 2, 1, 0, 0, 0, 0, 0) := rfl
set_option maxRecDepth 20000 in
theorem ja_C_part_53 : jv_at jm_C_part.2.2.2.2.2.2 53 = some (.ireturn, 1, 0, 0, 0, 0, 0) := rfl
set_option maxRecDepth 20000 in
theorem ja_C_ask_0 : jv_at jm_C_ask.2.2.2.2.2.2 0 = some (.aload_n 0, 1, 0, 0, 0, 0, 0) := rfl
set_option maxRecDepth 20000 in
theorem ja_C_ask_1 : jv_at jm_C_ask.2.2.2.2.2.2 1 = some (.iload_n 1, 1, 0, 0, 0, 0, 0) := rfl
set_option maxRecDepth 20000 in
theorem ja_C_ask_2 : jv_at jm_C_ask.2.2.2.2.2.2 2 = some (.invokevirtual 124, 3, 41, 0, 567, 11, 1) := rfl
set_option maxRecDepth 20000 in
theorem ja_C_ask_5 : jv_at jm_C_ask.2.2.2.2.2.2 5 = some (.ifCond .eq 12, 3, 17, 0, 0, 0, 0) := rfl
set_option maxRecDepth 20000 in
theorem ja_C_ask_8 : jv_at jm_C_ask.2.2.2.2.2.2 8 = some (.iload_n 2, 1, 0, 0, 0, 0, 0) := rfl
set_option maxRecDepth 20000 in
theorem ja_C_ask_9 : jv_at jm_C_ask.2.2.2.2.2.2 9 = some (.ifCond .lt 8, 3, 17, 0, 0, 0, 0) := rfl
set_option maxRecDepth 20000 in
theorem ja_C_ask_12 : jv_at jm_C_ask.2.2.2.2.2.2 12 = some (.iload_n 2, 1, 0, 0, 0, 0, 0) := rfl
set_option maxRecDepth 20000 in
theorem ja_C_ask_13 : jv_at jm_C_ask.2.2.2.2.2.2 13 = some (.iconst 2, 1, 0, 0, 0, 0, 2) := rfl
set_option maxRecDepth 20000 in
theorem ja_C_ask_14 : jv_at jm_C_ask.2.2.2.2.2.2 14 = some (.if_icmp .le 6, 3, 20, 0, 0, 0, 0) := rfl
set_option maxRecDepth 20000 in
theorem ja_C_ask_17 : jv_at jm_C_ask.2.2.2.2.2.2 17 = some (.bipush (-2), 2, 0, 0, 0, 0, -2) := rfl
set_option maxRecDepth 20000 in
theorem ja_C_ask_19 : jv_at jm_C_ask.2.2.2.2.2.2 19 = some (.ireturn, 1, 0, 0, 0, 0, 0) := rfl
set_option maxRecDepth 20000 in
theorem ja_C_ask_20 : jv_at jm_C_ask.2.2.2.2.2.2 20 = some (.aload_n 0, 1, 0, 0, 0, 0, 0) := rfl
set_option maxRecDepth 20000 in
theorem ja_C_ask_21 : jv_at jm_C_ask.2.2.2.2.2.2 21 = some (.getfield 11, 3, 11, 0, 497, 0, 0) := rfl
set_option maxRecDepth 20000 in
theorem ja_C_ask_24 : jv_at jm_C_ask.2.2.2.2.2.2 24 = some (.iload_n 1, 1, 0, 0, 0, 0, 0) := rfl
set_option maxRecDepth 20000 in
theorem ja_C_ask_25 : jv_at jm_C_ask.2.2.2.2.2.2 25 = some (.aaload, 1, 0, 0, 0, 0, 0) := rfl
set_option maxRecDepth 20000 in
theorem ja_C_ask_26 : jv_at jm_C_ask.2.2.2.2.2.2 26 = some (.getfield 142, 3, 5, 3, 123, 0, 0) := rfl
set_option maxRecDepth 20000 in
theorem ja_C_ask_29 : jv_at jm_C_ask.2.2.2.2.2.2 29 = some (.istore_n 3, 1, 0, 0, 0, 0, 0) := rfl
set_option maxRecDepth 20000 in
theorem ja_C_ask_30 : jv_at jm_C_ask.2.2.2.2.2.2 30 = some (.aload_n 0, 1, 0, 0, 0, 0, 0) := rfl
set_option maxRecDepth 20000 in
theorem ja_C_ask_31 : jv_at jm_C_ask.2.2.2.2.2.2 31 = some (.getfield 11, 3, 11, 0, 497, 0, 0) := rfl
set_option maxRecDepth 20000 in
theorem ja_C_ask_34 : jv_at jm_C_ask.2.2.2.2.2.2 34 = some (.iload_n 1, 1, 0, 0, 0, 0, 0) := rfl
set_option maxRecDepth 20000 in
theorem ja_C_ask_35 : jv_at jm_C_ask.2.2.2.2.2.2 35 = some (.aaload, 1, 0, 0, 0, 0, 0) := rfl
set_option maxRecDepth 20000 in
theorem ja_C_ask_36 : jv_at jm_C_ask.2.2.2.2.2.2 36 = some (.iload_n 2, 1, 0, 0, 0, 0, 0) := rfl
set_option maxRecDepth 20000 in
theorem ja_C_ask_37 : jv_at jm_C_ask.2.2.2.2.2.2 37 = some (.putfield 142, 3, 5, 3, 123, 0, 0) := rfl
set_option maxRecDepth 20000 in
theorem ja_C_ask_40 : jv_at jm_C_ask.2.2.2.2.2.2 40 = some (.iload_n 3, 1, 0, 0, 0, 0, 0) := rfl
set_option maxRecDepth 20000 in
theorem ja_C_ask_41 : jv_at jm_C_ask.2.2.2.2.2.2 41 = some (.ireturn, 1, 0, 0, 0, 0, 0) := rfl
set_option maxRecDepth 20000 in
theorem ja_C_memberTold_0 : jv_at jm_C_memberTold.2.2.2.2.2.2 0 = some (.aload_n 0, 1, 0, 0, 0, 0, 0) := rfl
set_option maxRecDepth 20000 in
theorem ja_C_memberTold_1 : jv_at jm_C_memberTold.2.2.2.2.2.2 1 = some (.iload_n 1, 1, 0, 0, 0, 0, 0) := rfl
set_option maxRecDepth 20000 in
theorem ja_C_memberTold_2 : jv_at jm_C_memberTold.2.2.2.2.2.2 2 = some (.invokevirtual 124, 3, 41, 0, 567, 11, 1) := rfl
set_option maxRecDepth 20000 in
theorem ja_C_memberTold_5 : jv_at jm_C_memberTold.2.2.2.2.2.2 5 = some (.ifCond .ne 6, 3, 11, 0, 0, 0, 0) := rfl
set_option maxRecDepth 20000 in
theorem ja_C_memberTold_8 : jv_at jm_C_memberTold.2.2.2.2.2.2 8 = some (.bipush (-2), 2, 0, 0, 0, 0, -2) := rfl
set_option maxRecDepth 20000 in
theorem ja_C_memberTold_10 : jv_at jm_C_memberTold.2.2.2.2.2.2 10 = some (.ireturn, 1, 0, 0, 0, 0, 0) := rfl
set_option maxRecDepth 20000 in
theorem ja_C_memberTold_11 : jv_at jm_C_memberTold.2.2.2.2.2.2 11 = some (.aload_n 0, 1, 0, 0, 0, 0, 0) := rfl
set_option maxRecDepth 20000 in
theorem ja_C_memberTold_12 : jv_at jm_C_memberTold.2.2.2.2.2.2 12 = some (.getfield 11, 3, 11, 0, 497, 0, 0) := rfl
set_option maxRecDepth 20000 in
theorem ja_C_memberTold_15 : jv_at jm_C_memberTold.2.2.2.2.2.2 15 = some (.iload_n 1, 1, 0, 0, 0, 0, 0) := rfl
set_option maxRecDepth 20000 in
theorem ja_C_memberTold_16 : jv_at jm_C_memberTold.2.2.2.2.2.2 16 = some (.aaload, 1, 0, 0, 0, 0, 0) := rfl
set_option maxRecDepth 20000 in
theorem ja_C_memberTold_17 : jv_at jm_C_memberTold.2.2.2.2.2.2 17 = some (.astore_n 3, 1, 0, 0, 0, 0, 0) := rfl
set_option maxRecDepth 20000 in
theorem ja_C_memberTold_18 : jv_at jm_C_memberTold.2.2.2.2.2.2 18 = some (.iload_n 2, 1, 0, 0, 0, 0, 0) := rfl
set_option maxRecDepth 20000 in
theorem ja_C_memberTold_19 : jv_at jm_C_memberTold.2.2.2.2.2.2 19 = some (.tableswitch 57 0 3 #[29, 34, 47, 52], 29, 0, 0, 0, 0, 0) := rfl
set_option maxRecDepth 20000 in
theorem ja_C_memberTold_48 : jv_at jm_C_memberTold.2.2.2.2.2.2 48 = some (.aload_n 3, 1, 0, 0, 0, 0, 0) := rfl
set_option maxRecDepth 20000 in
theorem ja_C_memberTold_49 : jv_at jm_C_memberTold.2.2.2.2.2.2 49 = some (.getfield 121, 3, 5, 0, 117, 0, 0) := rfl
set_option maxRecDepth 20000 in
theorem ja_C_memberTold_52 : jv_at jm_C_memberTold.2.2.2.2.2.2 52 = some (.ireturn, 1, 0, 0, 0, 0, 0) := rfl
set_option maxRecDepth 20000 in
theorem ja_C_memberTold_53 : jv_at jm_C_memberTold.2.2.2.2.2.2 53 = some (.aload_n 3, 1, 0, 0, 0, 0, 0) := rfl
set_option maxRecDepth 20000 in
theorem ja_C_memberTold_54 : jv_at jm_C_memberTold.2.2.2.2.2.2 54 = some (.getfield 135, 3, 5, 1, 119, 0, 0) := rfl
set_option maxRecDepth 20000 in
theorem ja_C_memberTold_57 : jv_at jm_C_memberTold.2.2.2.2.2.2 57 = some (.ifCond .eq 7, 3, 64, 0, 0, 0, 0) := rfl
set_option maxRecDepth 20000 in
theorem ja_C_memberTold_60 : jv_at jm_C_memberTold.2.2.2.2.2.2 60 = some (.iconst 1, 1, 0, 0, 0, 0, 1) := rfl
set_option maxRecDepth 20000 in
theorem ja_C_memberTold_61 : jv_at jm_C_memberTold.2.2.2.2.2.2 61 = some (.goto 4, 3, 65, 0, 0, 0, 0) := rfl
set_option maxRecDepth 20000 in
theorem ja_C_memberTold_64 : jv_at jm_C_memberTold.2.2.2.2.2.2 64 = some (.iconst 0, 1, 0, 0, 0, 0, 0) := rfl
set_option maxRecDepth 20000 in
theorem ja_C_memberTold_65 : jv_at jm_C_memberTold.2.2.2.2.2.2 65 = some (.ireturn, 1, 0, 0, 0, 0, 0) := rfl
set_option maxRecDepth 20000 in
theorem ja_C_memberTold_66 : jv_at jm_C_memberTold.2.2.2.2.2.2 66 = some (.aload_n 3, 1, 0, 0, 0, 0, 0) := rfl
set_option maxRecDepth 20000 in
theorem ja_C_memberTold_67 : jv_at jm_C_memberTold.2.2.2.2.2.2 67 = some (.getfield 139, 3, 5, 2, 121, 0, 0) := rfl
set_option maxRecDepth 20000 in
theorem ja_C_memberTold_70 : jv_at jm_C_memberTold.2.2.2.2.2.2 70 = some (.ireturn, 1, 0, 0, 0, 0, 0) := rfl
set_option maxRecDepth 20000 in
theorem ja_C_memberTold_71 : jv_at jm_C_memberTold.2.2.2.2.2.2 71 = some (.aload_n 3, 1, 0, 0, 0, 0, 0) := rfl
set_option maxRecDepth 20000 in
theorem ja_C_memberTold_72 : jv_at jm_C_memberTold.2.2.2.2.2.2 72 = some (.getfield 142, 3, 5, 3, 123, 0, 0) := rfl
set_option maxRecDepth 20000 in
theorem ja_C_memberTold_75 : jv_at jm_C_memberTold.2.2.2.2.2.2 75 = some (.ireturn, 1, 0, 0, 0, 0, 0) := rfl
set_option maxRecDepth 20000 in
theorem ja_C_memberTold_76 : jv_at jm_C_memberTold.2.2.2.2.2.2 76 = some (.bipush (-2), 2, 0, 0, 0, 0, -2) := rfl
set_option maxRecDepth 20000 in
theorem ja_C_memberTold_78 : jv_at jm_C_memberTold.2.2.2.2.2.2 78 = some (.ireturn, 1, 0, 0, 0, 0, 0) := rfl
set_option maxRecDepth 20000 in
theorem ja_C_bill_0 : jv_at jm_C_bill.2.2.2.2.2.2 0 = some (.aload_n 0, 1, 0, 0, 0, 0, 0) := rfl
set_option maxRecDepth 20000 in
theorem ja_C_bill_1 : jv_at jm_C_bill.2.2.2.2.2.2 1 = some (.getfield 145, 3, 11, 3, 500, 0, 0) := rfl
set_option maxRecDepth 20000 in
theorem ja_C_bill_4 : jv_at jm_C_bill.2.2.2.2.2.2 4 = some (.aload_n 0, 1, 0, 0, 0, 0, 0) := rfl
set_option maxRecDepth 20000 in
theorem ja_C_bill_5 : jv_at jm_C_bill.2.2.2.2.2.2 5 = some (.getfield 18, 3, 11, 2, 499, 0, 0) := rfl
set_option maxRecDepth 20000 in
theorem ja_C_bill_8 : jv_at jm_C_bill.2.2.2.2.2.2 8 = some (.arraylength, 1, 0, 0, 0, 0, 0) := rfl
set_option maxRecDepth 20000 in
theorem ja_C_bill_9 : jv_at jm_C_bill.2.2.2.2.2.2 9 = some (.if_icmp .lt 6, 3, 15, 0, 0, 0, 0) := rfl
set_option maxRecDepth 20000 in
theorem ja_C_bill_12 : jv_at jm_C_bill.2.2.2.2.2.2 12 = some (.bipush (-4), 2, 0, 0, 0, 0, -4) := rfl
set_option maxRecDepth 20000 in
theorem ja_C_bill_14 : jv_at jm_C_bill.2.2.2.2.2.2 14 = some (.ireturn, 1, 0, 0, 0, 0, 0) := rfl
set_option maxRecDepth 20000 in
theorem ja_C_bill_15 : jv_at jm_C_bill.2.2.2.2.2.2 15 = some (.aload_n 0, 1, 0, 0, 0, 0, 0) := rfl
set_option maxRecDepth 20000 in
theorem ja_C_bill_16 : jv_at jm_C_bill.2.2.2.2.2.2 16 = some (.dup, 1, 0, 0, 0, 0, 0) := rfl
set_option maxRecDepth 20000 in
theorem ja_C_bill_17 : jv_at jm_C_bill.2.2.2.2.2.2 17 = some (.getfield 145, 3, 11, 3, 500, 0, 0) := rfl
set_option maxRecDepth 20000 in
theorem ja_C_bill_20 : jv_at jm_C_bill.2.2.2.2.2.2 20 = some (.iconst 1, 1, 0, 0, 0, 0, 1) := rfl
set_option maxRecDepth 20000 in
theorem ja_C_bill_21 : jv_at jm_C_bill.2.2.2.2.2.2 21 = some (.iadd, 1, 0, 0, 0, 0, 0) := rfl
set_option maxRecDepth 20000 in
theorem ja_C_bill_22 : jv_at jm_C_bill.2.2.2.2.2.2 22 = some (.putfield 145, 3, 11, 3, 500, 0, 0) := rfl
set_option maxRecDepth 20000 in
theorem ja_C_bill_25 : jv_at jm_C_bill.2.2.2.2.2.2 25 = some (.aload_n 0, 1, 0, 0, 0, 0, 0) := rfl
set_option maxRecDepth 20000 in
theorem ja_C_bill_26 : jv_at jm_C_bill.2.2.2.2.2.2 26 = some (.getfield 145, 3, 11, 3, 500, 0, 0) := rfl
set_option maxRecDepth 20000 in
theorem ja_C_bill_29 : jv_at jm_C_bill.2.2.2.2.2.2 29 = some (.iconst 1, 1, 0, 0, 0, 0, 1) := rfl
set_option maxRecDepth 20000 in
theorem ja_C_bill_30 : jv_at jm_C_bill.2.2.2.2.2.2 30 = some (.isub, 1, 0, 0, 0, 0, 0) := rfl
set_option maxRecDepth 20000 in
theorem ja_C_bill_31 : jv_at jm_C_bill.2.2.2.2.2.2 31 = some (.ireturn, 1, 0, 0, 0, 0, 0) := rfl
set_option maxRecDepth 20000 in
theorem ja_C_section_0 : jv_at jm_C_section.2.2.2.2.2.2 0 = some (.aload_n 0, 1, 0, 0, 0, 0, 0) := rfl
set_option maxRecDepth 20000 in
theorem ja_C_section_1 : jv_at jm_C_section.2.2.2.2.2.2 1 = some (.iload_n 1, 1, 0, 0, 0, 0, 0) := rfl
set_option maxRecDepth 20000 in
theorem ja_C_section_2 : jv_at jm_C_section.2.2.2.2.2.2 2 = some (.invokevirtual 148, 3, 52, 0, 610, 11, 1) := rfl
set_option maxRecDepth 20000 in
theorem ja_C_section_5 : jv_at jm_C_section.2.2.2.2.2.2 5 = some (.ifCond .eq 10, 3, 15, 0, 0, 0, 0) := rfl
set_option maxRecDepth 20000 in
theorem ja_C_section_8 : jv_at jm_C_section.2.2.2.2.2.2 8 = some (.iload_n 2, 1, 0, 0, 0, 0, 0) := rfl
set_option maxRecDepth 20000 in
theorem ja_C_section_9 : jv_at jm_C_section.2.2.2.2.2.2 9 = some (.invokestatic 128, 3, 42, 1, 571, 11, 1) := rfl
set_option maxRecDepth 20000 in
theorem ja_C_section_12 : jv_at jm_C_section.2.2.2.2.2.2 12 = some (.ifCond .ne 6, 3, 18, 0, 0, 0, 0) := rfl
set_option maxRecDepth 20000 in
theorem ja_C_section_15 : jv_at jm_C_section.2.2.2.2.2.2 15 = some (.bipush (-2), 2, 0, 0, 0, 0, -2) := rfl
set_option maxRecDepth 20000 in
theorem ja_C_section_17 : jv_at jm_C_section.2.2.2.2.2.2 17 = some (.ireturn, 1, 0, 0, 0, 0, 0) := rfl
set_option maxRecDepth 20000 in
theorem ja_C_section_18 : jv_at jm_C_section.2.2.2.2.2.2 18 = some (.aload_n 0, 1, 0, 0, 0, 0, 0) := rfl
set_option maxRecDepth 20000 in
theorem ja_C_section_19 : jv_at jm_C_section.2.2.2.2.2.2 19 = some (.getfield 18, 3, 11, 2, 499, 0, 0) := rfl
set_option maxRecDepth 20000 in
theorem ja_C_section_22 : jv_at jm_C_section.2.2.2.2.2.2 22 = some (.iload_n 1, 1, 0, 0, 0, 0, 0) := rfl
set_option maxRecDepth 20000 in
theorem ja_C_section_23 : jv_at jm_C_section.2.2.2.2.2.2 23 = some (.aaload, 1, 0, 0, 0, 0, 0) := rfl
set_option maxRecDepth 20000 in
theorem ja_C_section_24 : jv_at jm_C_section.2.2.2.2.2.2 24 = some (.getfield 151, 3, 1, 0, 161, 0, 0) := rfl
set_option maxRecDepth 20000 in
theorem ja_C_section_27 : jv_at jm_C_section.2.2.2.2.2.2 27 = some (.ifCond .eq 6, 3, 33, 0, 0, 0, 0) := rfl
set_option maxRecDepth 20000 in
theorem ja_C_section_30 : jv_at jm_C_section.2.2.2.2.2.2 30 = some (.bipush (-3), 2, 0, 0, 0, 0, -3) := rfl
set_option maxRecDepth 20000 in
theorem ja_C_section_32 : jv_at jm_C_section.2.2.2.2.2.2 32 = some (.ireturn, 1, 0, 0, 0, 0, 0) := rfl
set_option maxRecDepth 20000 in
theorem ja_C_section_33 : jv_at jm_C_section.2.2.2.2.2.2 33 = some (.aload_n 0, 1, 0, 0, 0, 0, 0) := rfl
set_option maxRecDepth 20000 in
theorem ja_C_section_34 : jv_at jm_C_section.2.2.2.2.2.2 34 = some (.getfield 18, 3, 11, 2, 499, 0, 0) := rfl
set_option maxRecDepth 20000 in
theorem ja_C_section_37 : jv_at jm_C_section.2.2.2.2.2.2 37 = some (.iload_n 1, 1, 0, 0, 0, 0, 0) := rfl
set_option maxRecDepth 20000 in
theorem ja_C_section_38 : jv_at jm_C_section.2.2.2.2.2.2 38 = some (.aaload, 1, 0, 0, 0, 0, 0) := rfl
set_option maxRecDepth 20000 in
theorem ja_C_section_39 : jv_at jm_C_section.2.2.2.2.2.2 39 = some (.getfield 154, 3, 1, 2, 164, 0, 0) := rfl
set_option maxRecDepth 20000 in
theorem ja_C_section_42 : jv_at jm_C_section.2.2.2.2.2.2 42 = some (.astore_n 3, 1, 0, 0, 0, 0, 0) := rfl
set_option maxRecDepth 20000 in
theorem ja_C_section_43 : jv_at jm_C_section.2.2.2.2.2.2 43 = some (.aload_n 3, 1, 0, 0, 0, 0, 0) := rfl
set_option maxRecDepth 20000 in
theorem ja_C_section_44 : jv_at jm_C_section.2.2.2.2.2.2 44 = some (.invokevirtual 157, 3, 53, 0, 614, 8, 0) := rfl
set_option maxRecDepth 20000 in
theorem ja_C_section_47 : jv_at jm_C_section.2.2.2.2.2.2 47 = some (.ifCond .eq 6, 3, 53, 0, 0, 0, 0) := rfl
set_option maxRecDepth 20000 in
theorem ja_C_section_50 : jv_at jm_C_section.2.2.2.2.2.2 50 = some (.bipush (-4), 2, 0, 0, 0, 0, -4) := rfl
set_option maxRecDepth 20000 in
theorem ja_C_section_52 : jv_at jm_C_section.2.2.2.2.2.2 52 = some (.ireturn, 1, 0, 0, 0, 0, 0) := rfl
set_option maxRecDepth 20000 in
theorem ja_C_section_53 : jv_at jm_C_section.2.2.2.2.2.2 53 = some (.aload_n 3, 1, 0, 0, 0, 0, 0) := rfl
set_option maxRecDepth 20000 in
theorem ja_C_section_54 : jv_at jm_C_section.2.2.2.2.2.2 54 = some (.iconst 2, 1, 0, 0, 0, 0, 2) := rfl
set_option maxRecDepth 20000 in
theorem ja_C_section_55 : jv_at jm_C_section.2.2.2.2.2.2 55 = some (.aload_n 3, 1, 0, 0, 0, 0, 0) := rfl
set_option maxRecDepth 20000 in
theorem ja_C_section_56 : jv_at jm_C_section.2.2.2.2.2.2 56 = some (.getfield 161, 3, 8, 0, 152, 0, 0) := rfl
set_option maxRecDepth 20000 in
theorem ja_C_section_59 : jv_at jm_C_section.2.2.2.2.2.2 59 = some (.iload_n 2, 1, 0, 0, 0, 0, 0) := rfl
set_option maxRecDepth 20000 in
theorem ja_C_section_60 : jv_at jm_C_section.2.2.2.2.2.2 60 = some (.invokevirtual 164, 3, 54, 0, 618, 8, 3) := rfl
set_option maxRecDepth 20000 in
theorem ja_C_section_63 : jv_at jm_C_section.2.2.2.2.2.2 63 = some (.pop, 1, 0, 0, 0, 0, 0) := rfl
set_option maxRecDepth 20000 in
theorem ja_C_section_64 : jv_at jm_C_section.2.2.2.2.2.2 64 = some (.aload_n 3, 1, 0, 0, 0, 0, 0) := rfl
set_option maxRecDepth 20000 in
theorem ja_C_section_65 : jv_at jm_C_section.2.2.2.2.2.2 65 = some (.getfield 161, 3, 8, 0, 152, 0, 0) := rfl
set_option maxRecDepth 20000 in
theorem ja_C_section_68 : jv_at jm_C_section.2.2.2.2.2.2 68 = some (.ireturn, 1, 0, 0, 0, 0, 0) := rfl
set_option maxRecDepth 20000 in
theorem ja_C_isBill_0 : jv_at jm_C_isBill.2.2.2.2.2.2 0 = some (.iload_n 1, 1, 0, 0, 0, 0, 0) := rfl
set_option maxRecDepth 20000 in
theorem ja_C_isBill_1 : jv_at jm_C_isBill.2.2.2.2.2.2 1 = some (.ifCond .lt 24, 3, 25, 0, 0, 0, 0) := rfl
set_option maxRecDepth 20000 in
theorem ja_C_isBill_4 : jv_at jm_C_isBill.2.2.2.2.2.2 4 = some (.iload_n 1, 1, 0, 0, 0, 0, 0) := rfl
set_option maxRecDepth 20000 in
theorem ja_C_isBill_5 : jv_at jm_C_isBill.2.2.2.2.2.2 5 = some (.aload_n 0, 1, 0, 0, 0, 0, 0) := rfl
set_option maxRecDepth 20000 in
theorem ja_C_isBill_6 : jv_at jm_C_isBill.2.2.2.2.2.2 6 = some (.getfield 145, 3, 11, 3, 500, 0, 0) := rfl
set_option maxRecDepth 20000 in
theorem ja_C_isBill_9 : jv_at jm_C_isBill.2.2.2.2.2.2 9 = some (.if_icmp .ge 16, 3, 25, 0, 0, 0, 0) := rfl
set_option maxRecDepth 20000 in
theorem ja_C_isBill_12 : jv_at jm_C_isBill.2.2.2.2.2.2 12 = some (.iload_n 1, 1, 0, 0, 0, 0, 0) := rfl
set_option maxRecDepth 20000 in
theorem ja_C_isBill_13 : jv_at jm_C_isBill.2.2.2.2.2.2 13 = some (.aload_n 0, 1, 0, 0, 0, 0, 0) := rfl
set_option maxRecDepth 20000 in
theorem ja_C_isBill_14 : jv_at jm_C_isBill.2.2.2.2.2.2 14 = some (.getfield 18, 3, 11, 2, 499, 0, 0) := rfl
set_option maxRecDepth 20000 in
theorem ja_C_isBill_17 : jv_at jm_C_isBill.2.2.2.2.2.2 17 = some (.arraylength, 1, 0, 0, 0, 0, 0) := rfl
set_option maxRecDepth 20000 in
theorem ja_C_isBill_18 : jv_at jm_C_isBill.2.2.2.2.2.2 18 = some (.if_icmp .ge 7, 3, 25, 0, 0, 0, 0) := rfl
set_option maxRecDepth 20000 in
theorem ja_C_isBill_21 : jv_at jm_C_isBill.2.2.2.2.2.2 21 = some (.iconst 1, 1, 0, 0, 0, 0, 1) := rfl
set_option maxRecDepth 20000 in
theorem ja_C_isBill_22 : jv_at jm_C_isBill.2.2.2.2.2.2 22 = some (.goto 4, 3, 26, 0, 0, 0, 0) := rfl
set_option maxRecDepth 20000 in
theorem ja_C_isBill_25 : jv_at jm_C_isBill.2.2.2.2.2.2 25 = some (.iconst 0, 1, 0, 0, 0, 0, 0) := rfl
set_option maxRecDepth 20000 in
theorem ja_C_isBill_26 : jv_at jm_C_isBill.2.2.2.2.2.2 26 = some (.ireturn, 1, 0, 0, 0, 0, 0) := rfl
set_option maxRecDepth 20000 in
theorem ja_C_billTold_0 : jv_at jm_C_billTold.2.2.2.2.2.2 0 = some (.aload_n 0, 1, 0, 0, 0, 0, 0) := rfl
set_option maxRecDepth 20000 in
theorem ja_C_billTold_1 : jv_at jm_C_billTold.2.2.2.2.2.2 1 = some (.iload_n 1, 1, 0, 0, 0, 0, 0) := rfl
set_option maxRecDepth 20000 in
theorem ja_C_billTold_2 : jv_at jm_C_billTold.2.2.2.2.2.2 2 = some (.invokevirtual 148, 3, 52, 0, 610, 11, 1) := rfl
set_option maxRecDepth 20000 in
theorem ja_C_billTold_5 : jv_at jm_C_billTold.2.2.2.2.2.2 5 = some (.ifCond .ne 6, 3, 11, 0, 0, 0, 0) := rfl
set_option maxRecDepth 20000 in
theorem ja_C_billTold_8 : jv_at jm_C_billTold.2.2.2.2.2.2 8 = some (.bipush (-2), 2, 0, 0, 0, 0, -2) := rfl
set_option maxRecDepth 20000 in
theorem ja_C_billTold_10 : jv_at jm_C_billTold.2.2.2.2.2.2 10 = some (.ireturn, 1, 0, 0, 0, 0, 0) := rfl
set_option maxRecDepth 20000 in
theorem ja_C_billTold_11 : jv_at jm_C_billTold.2.2.2.2.2.2 11 = some (.aload_n 0, 1, 0, 0, 0, 0, 0) := rfl
set_option maxRecDepth 20000 in
theorem ja_C_billTold_12 : jv_at jm_C_billTold.2.2.2.2.2.2 12 = some (.getfield 18, 3, 11, 2, 499, 0, 0) := rfl
set_option maxRecDepth 20000 in
theorem ja_C_billTold_15 : jv_at jm_C_billTold.2.2.2.2.2.2 15 = some (.iload_n 1, 1, 0, 0, 0, 0, 0) := rfl
set_option maxRecDepth 20000 in
theorem ja_C_billTold_16 : jv_at jm_C_billTold.2.2.2.2.2.2 16 = some (.aaload, 1, 0, 0, 0, 0, 0) := rfl
set_option maxRecDepth 20000 in
theorem ja_C_billTold_17 : jv_at jm_C_billTold.2.2.2.2.2.2 17 = some (.astore_n 3, 1, 0, 0, 0, 0, 0) := rfl
set_option maxRecDepth 20000 in
theorem ja_C_billTold_18 : jv_at jm_C_billTold.2.2.2.2.2.2 18 = some (.iload_n 2, 1, 0, 0, 0, 0, 0) := rfl
set_option maxRecDepth 20000 in
theorem ja_C_billTold_19 : jv_at jm_C_billTold.2.2.2.2.2.2 19 = some (.tableswitch 56 0 3 #[29, 34, 42, 48], 29, 0, 0, 0, 0, 0) := rfl
set_option maxRecDepth 20000 in
theorem ja_C_billTold_48 : jv_at jm_C_billTold.2.2.2.2.2.2 48 = some (.aload_n 3, 1, 0, 0, 0, 0, 0) := rfl
set_option maxRecDepth 20000 in
theorem ja_C_billTold_49 : jv_at jm_C_billTold.2.2.2.2.2.2 49 = some (.getfield 151, 3, 1, 0, 161, 0, 0) := rfl
set_option maxRecDepth 20000 in
theorem ja_C_billTold_52 : jv_at jm_C_billTold.2.2.2.2.2.2 52 = some (.ireturn, 1, 0, 0, 0, 0, 0) := rfl
set_option maxRecDepth 20000 in
theorem ja_C_billTold_53 : jv_at jm_C_billTold.2.2.2.2.2.2 53 = some (.aload_n 3, 1, 0, 0, 0, 0, 0) := rfl
set_option maxRecDepth 20000 in
theorem ja_C_billTold_54 : jv_at jm_C_billTold.2.2.2.2.2.2 54 = some (.getfield 154, 3, 1, 2, 164, 0, 0) := rfl
set_option maxRecDepth 20000 in
theorem ja_C_billTold_57 : jv_at jm_C_billTold.2.2.2.2.2.2 57 = some (.getfield 161, 3, 8, 0, 152, 0, 0) := rfl
set_option maxRecDepth 20000 in
theorem ja_C_billTold_60 : jv_at jm_C_billTold.2.2.2.2.2.2 60 = some (.ireturn, 1, 0, 0, 0, 0, 0) := rfl
set_option maxRecDepth 20000 in
theorem ja_C_billTold_61 : jv_at jm_C_billTold.2.2.2.2.2.2 61 = some (.aload_n 0, 1, 0, 0, 0, 0, 0) := rfl
set_option maxRecDepth 20000 in
theorem ja_C_billTold_62 : jv_at jm_C_billTold.2.2.2.2.2.2 62 = some (.iload_n 1, 1, 0, 0, 0, 0, 0) := rfl
set_option maxRecDepth 20000 in
theorem ja_C_billTold_63 : jv_at jm_C_billTold.2.2.2.2.2.2 63 = some (.invokevirtual 168, 3, 59, 0, 638, 11, 1) := rfl
set_option maxRecDepth 20000 in
theorem ja_C_billTold_66 : jv_at jm_C_billTold.2.2.2.2.2.2 66 = some (.ireturn, 1, 0, 0, 0, 0, 0) := rfl
set_option maxRecDepth 20000 in
theorem ja_C_billTold_67 : jv_at jm_C_billTold.2.2.2.2.2.2 67 = some (.aload_n 3, 1, 0, 0, 0, 0, 0) := rfl
set_option maxRecDepth 20000 in
theorem ja_C_billTold_68 : jv_at jm_C_billTold.2.2.2.2.2.2 68 = some (.getfield 172, 3, 1, 1, 162, 0, 0) := rfl
set_option maxRecDepth 20000 in
theorem ja_C_billTold_71 : jv_at jm_C_billTold.2.2.2.2.2.2 71 = some (.invokestatic 175, 3, 60, 1, 642, 20, 1) := rfl
set_option maxRecDepth 20000 in
theorem ja_C_billTold_74 : jv_at jm_C_billTold.2.2.2.2.2.2 74 = some (.ireturn, 1, 0, 0, 0, 0, 0) := rfl
set_option maxRecDepth 20000 in
theorem ja_C_billTold_75 : jv_at jm_C_billTold.2.2.2.2.2.2 75 = some (.bipush (-2), 2, 0, 0, 0, 0, -2) := rfl
set_option maxRecDepth 20000 in
theorem ja_C_billTold_77 : jv_at jm_C_billTold.2.2.2.2.2.2 77 = some (.ireturn, 1, 0, 0, 0, 0, 0) := rfl
set_option maxRecDepth 20000 in
theorem ja_C_placeOnCalendar_0 : jv_at jm_C_placeOnCalendar.2.2.2.2.2.2 0 = some (.iconst 0, 1, 0, 0, 0, 0, 0) := rfl
set_option maxRecDepth 20000 in
theorem ja_C_placeOnCalendar_1 : jv_at jm_C_placeOnCalendar.2.2.2.2.2.2 1 = some (.istore_n 2, 1, 0, 0, 0, 0, 0) := rfl
set_option maxRecDepth 20000 in
theorem ja_C_placeOnCalendar_2 : jv_at jm_C_placeOnCalendar.2.2.2.2.2.2 2 = some (.iload_n 2, 1, 0, 0, 0, 0, 0) := rfl
set_option maxRecDepth 20000 in
theorem ja_C_placeOnCalendar_3 : jv_at jm_C_placeOnCalendar.2.2.2.2.2.2 3 = some (.aload_n 0, 1, 0, 0, 0, 0, 0) := rfl
set_option maxRecDepth 20000 in
theorem ja_C_placeOnCalendar_4 : jv_at jm_C_placeOnCalendar.2.2.2.2.2.2 4 = some (.getfield 192, 3, 11, 5, 502, 0, 0) := rfl
set_option maxRecDepth 20000 in
theorem ja_C_placeOnCalendar_7 : jv_at jm_C_placeOnCalendar.2.2.2.2.2.2 7 = some (.if_icmp .ge 30, 3, 37, 0, 0, 0, 0) := rfl
set_option maxRecDepth 20000 in
theorem ja_C_placeOnCalendar_10 : jv_at jm_C_placeOnCalendar.2.2.2.2.2.2 10 = some (.iload_n 2, 1, 0, 0, 0, 0, 0) := rfl
set_option maxRecDepth 20000 in
theorem ja_C_placeOnCalendar_11 : jv_at jm_C_placeOnCalendar.2.2.2.2.2.2 11 = some (.aload_n 0, 1, 0, 0, 0, 0, 0) := rfl
set_option maxRecDepth 20000 in
theorem ja_C_placeOnCalendar_12 : jv_at jm_C_placeOnCalendar.2.2.2.2.2.2 12 = some (.getfield 23, 3, 11, 4, 501, 0, 0) := rfl
set_option maxRecDepth 20000 in
theorem ja_C_placeOnCalendar_15 : jv_at jm_C_placeOnCalendar.2.2.2.2.2.2 15 = some (.arraylength, 1, 0, 0, 0, 0, 0) := rfl
set_option maxRecDepth 20000 in
theorem ja_C_placeOnCalendar_16 : jv_at jm_C_placeOnCalendar.2.2.2.2.2.2 16 = some (.if_icmp .ge 21, 3, 37, 0, 0, 0, 0) := rfl
set_option maxRecDepth 20000 in
theorem ja_C_placeOnCalendar_19 : jv_at jm_C_placeOnCalendar.2.2.2.2.2.2 19 = some (.aload_n 0, 1, 0, 0, 0, 0, 0) := rfl
set_option maxRecDepth 20000 in
theorem ja_C_placeOnCalendar_20 : jv_at jm_C_placeOnCalendar.2.2.2.2.2.2 20 = some (.getfield 23, 3, 11, 4, 501, 0, 0) := rfl
set_option maxRecDepth 20000 in
theorem ja_C_placeOnCalendar_23 : jv_at jm_C_placeOnCalendar.2.2.2.2.2.2 23 = some (.iload_n 2, 1, 0, 0, 0, 0, 0) := rfl
set_option maxRecDepth 20000 in
theorem ja_C_placeOnCalendar_24 : jv_at jm_C_placeOnCalendar.2.2.2.2.2.2 24 = some (.iaload, 1, 0, 0, 0, 0, 0) := rfl
set_option maxRecDepth 20000 in
theorem ja_C_placeOnCalendar_25 : jv_at jm_C_placeOnCalendar.2.2.2.2.2.2 25 = some (.iload_n 1, 1, 0, 0, 0, 0, 0) := rfl
set_option maxRecDepth 20000 in
theorem ja_C_placeOnCalendar_26 : jv_at jm_C_placeOnCalendar.2.2.2.2.2.2 26 = some (.if_icmp .ne 5, 3, 31, 0, 0, 0, 0) := rfl
set_option maxRecDepth 20000 in
theorem ja_C_placeOnCalendar_29 : jv_at jm_C_placeOnCalendar.2.2.2.2.2.2 29 = some (.iload_n 2, 1, 0, 0, 0, 0, 0) := rfl
set_option maxRecDepth 20000 in
theorem ja_C_placeOnCalendar_30 : jv_at jm_C_placeOnCalendar.2.2.2.2.2.2 30 = some (.ireturn, 1, 0, 0, 0, 0, 0) := rfl
set_option maxRecDepth 20000 in
theorem ja_C_placeOnCalendar_31 : jv_at jm_C_placeOnCalendar.2.2.2.2.2.2 31 = some (.iinc 2 1, 3, 0, 0, 0, 0, 0) := rfl
set_option maxRecDepth 20000 in
theorem ja_C_placeOnCalendar_34 : jv_at jm_C_placeOnCalendar.2.2.2.2.2.2 34 = some (.goto (-32), 3, 2, 0, 0, 0, 0) := rfl
set_option maxRecDepth 20000 in
theorem ja_C_placeOnCalendar_37 : jv_at jm_C_placeOnCalendar.2.2.2.2.2.2 37 = some (.iconst (-1), 1, 0, 0, 0, 0, -1) := rfl
set_option maxRecDepth 20000 in
theorem ja_C_placeOnCalendar_38 : jv_at jm_C_placeOnCalendar.2.2.2.2.2.2 38 = some (.ireturn, 1, 0, 0, 0, 0, 0) := rfl
set_option maxRecDepth 20000 in
theorem ja_C_word_0 : jv_at jm_C_word.2.2.2.2.2.2 0 = some (.aload_n 0, 1, 0, 0, 0, 0, 0) := rfl
set_option maxRecDepth 20000 in
theorem ja_C_word_1 : jv_at jm_C_word.2.2.2.2.2.2 1 = some (.iload_n 1, 1, 0, 0, 0, 0, 0) := rfl
set_option maxRecDepth 20000 in
theorem ja_C_word_2 : jv_at jm_C_word.2.2.2.2.2.2 2 = some (.invokevirtual 148, 3, 52, 0, 610, 11, 1) := rfl
set_option maxRecDepth 20000 in
theorem ja_C_word_5 : jv_at jm_C_word.2.2.2.2.2.2 5 = some (.ifCond .ne 6, 3, 11, 0, 0, 0, 0) := rfl
set_option maxRecDepth 20000 in
theorem ja_C_word_8 : jv_at jm_C_word.2.2.2.2.2.2 8 = some (.bipush (-2), 2, 0, 0, 0, 0, -2) := rfl
set_option maxRecDepth 20000 in
theorem ja_C_word_10 : jv_at jm_C_word.2.2.2.2.2.2 10 = some (.ireturn, 1, 0, 0, 0, 0, 0) := rfl
set_option maxRecDepth 20000 in
theorem ja_C_word_11 : jv_at jm_C_word.2.2.2.2.2.2 11 = some (.aload_n 0, 1, 0, 0, 0, 0, 0) := rfl
set_option maxRecDepth 20000 in
theorem ja_C_word_12 : jv_at jm_C_word.2.2.2.2.2.2 12 = some (.getfield 18, 3, 11, 2, 499, 0, 0) := rfl
set_option maxRecDepth 20000 in
theorem ja_C_word_15 : jv_at jm_C_word.2.2.2.2.2.2 15 = some (.iload_n 1, 1, 0, 0, 0, 0, 0) := rfl
set_option maxRecDepth 20000 in
theorem ja_C_word_16 : jv_at jm_C_word.2.2.2.2.2.2 16 = some (.aaload, 1, 0, 0, 0, 0, 0) := rfl
set_option maxRecDepth 20000 in
theorem ja_C_word_17 : jv_at jm_C_word.2.2.2.2.2.2 17 = some (.getfield 154, 3, 1, 2, 164, 0, 0) := rfl
set_option maxRecDepth 20000 in
theorem ja_C_word_20 : jv_at jm_C_word.2.2.2.2.2.2 20 = some (.iload_n 2, 1, 0, 0, 0, 0, 0) := rfl
set_option maxRecDepth 20000 in
theorem ja_C_word_21 : jv_at jm_C_word.2.2.2.2.2.2 21 = some (.invokevirtual 180, 3, 62, 0, 652, 8, 1) := rfl
set_option maxRecDepth 20000 in
theorem ja_C_word_24 : jv_at jm_C_word.2.2.2.2.2.2 24 = some (.ireturn, 1, 0, 0, 0, 0, 0) := rfl
set_option maxRecDepth 20000 in
theorem ja_C_worth_0 : jv_at jm_C_worth.2.2.2.2.2.2 0 = some (.aload_n 0, 1, 0, 0, 0, 0, 0) := rfl
set_option maxRecDepth 20000 in
theorem ja_C_worth_1 : jv_at jm_C_worth.2.2.2.2.2.2 1 = some (.iload_n 1, 1, 0, 0, 0, 0, 0) := rfl
set_option maxRecDepth 20000 in
theorem ja_C_worth_2 : jv_at jm_C_worth.2.2.2.2.2.2 2 = some (.invokevirtual 148, 3, 52, 0, 610, 11, 1) := rfl
set_option maxRecDepth 20000 in
theorem ja_C_worth_5 : jv_at jm_C_worth.2.2.2.2.2.2 5 = some (.ifCond .eq 11, 3, 16, 0, 0, 0, 0) := rfl
set_option maxRecDepth 20000 in
theorem ja_C_worth_8 : jv_at jm_C_worth.2.2.2.2.2.2 8 = some (.aload_n 0, 1, 0, 0, 0, 0, 0) := rfl
set_option maxRecDepth 20000 in
theorem ja_C_worth_9 : jv_at jm_C_worth.2.2.2.2.2.2 9 = some (.iload_n 2, 1, 0, 0, 0, 0, 0) := rfl
set_option maxRecDepth 20000 in
theorem ja_C_worth_10 : jv_at jm_C_worth.2.2.2.2.2.2 10 = some (.invokevirtual 124, 3, 41, 0, 567, 11, 1) := rfl
set_option maxRecDepth 20000 in
theorem ja_C_worth_13 : jv_at jm_C_worth.2.2.2.2.2.2 13 = some (.ifCond .ne 7, 3, 20, 0, 0, 0, 0) := rfl
set_option maxRecDepth 20000 in
theorem ja_C_worth_16 : jv_at jm_C_worth.2.2.2.2.2.2 16 = some (.ldc2_w 183, 3, 0, 0, 660, 0, -4611686018427387904) := rfl
set_option maxRecDepth 20000 in
theorem ja_C_worth_19 : jv_at jm_C_worth.2.2.2.2.2.2 19 = some (.lreturn, 1, 0, 0, 0, 0, 0) := rfl
set_option maxRecDepth 20000 in
theorem ja_C_worth_20 : jv_at jm_C_worth.2.2.2.2.2.2 20 = some (.aload_n 0, 1, 0, 0, 0, 0, 0) := rfl
set_option maxRecDepth 20000 in
theorem ja_C_worth_21 : jv_at jm_C_worth.2.2.2.2.2.2 21 = some (.getfield 18, 3, 11, 2, 499, 0, 0) := rfl
set_option maxRecDepth 20000 in
theorem ja_C_worth_24 : jv_at jm_C_worth.2.2.2.2.2.2 24 = some (.iload_n 1, 1, 0, 0, 0, 0, 0) := rfl
set_option maxRecDepth 20000 in
theorem ja_C_worth_25 : jv_at jm_C_worth.2.2.2.2.2.2 25 = some (.aaload, 1, 0, 0, 0, 0, 0) := rfl
set_option maxRecDepth 20000 in
theorem ja_C_worth_26 : jv_at jm_C_worth.2.2.2.2.2.2 26 = some (.getfield 154, 3, 1, 2, 164, 0, 0) := rfl
set_option maxRecDepth 20000 in
theorem ja_C_worth_29 : jv_at jm_C_worth.2.2.2.2.2.2 29 = some (.aload_n 0, 1, 0, 0, 0, 0, 0) := rfl
set_option maxRecDepth 20000 in
theorem ja_C_worth_30 : jv_at jm_C_worth.2.2.2.2.2.2 30 = some (.getfield 11, 3, 11, 0, 497, 0, 0) := rfl
set_option maxRecDepth 20000 in
theorem ja_C_worth_33 : jv_at jm_C_worth.2.2.2.2.2.2 33 = some (.iload_n 2, 1, 0, 0, 0, 0, 0) := rfl
set_option maxRecDepth 20000 in
theorem ja_C_worth_34 : jv_at jm_C_worth.2.2.2.2.2.2 34 = some (.aaload, 1, 0, 0, 0, 0, 0) := rfl
set_option maxRecDepth 20000 in
theorem ja_C_worth_35 : jv_at jm_C_worth.2.2.2.2.2.2 35 = some (.invokevirtual 185, 3, 64, 0, 661, 8, 1) := rfl
set_option maxRecDepth 20000 in
theorem ja_C_worth_38 : jv_at jm_C_worth.2.2.2.2.2.2 38 = some (.i2l, 1, 0, 0, 0, 0, 0) := rfl
set_option maxRecDepth 20000 in
theorem ja_C_worth_39 : jv_at jm_C_worth.2.2.2.2.2.2 39 = some (.lreturn, 1, 0, 0, 0, 0, 0) := rfl
set_option maxRecDepth 20000 in
theorem ja_C_report_0 : jv_at jm_C_report.2.2.2.2.2.2 0 = some (.aload_n 0, 1, 0, 0, 0, 0, 0) := rfl
set_option maxRecDepth 20000 in
theorem ja_C_report_1 : jv_at jm_C_report.2.2.2.2.2.2 1 = some (.iload_n 1, 1, 0, 0, 0, 0, 0) := rfl
set_option maxRecDepth 20000 in
theorem ja_C_report_2 : jv_at jm_C_report.2.2.2.2.2.2 2 = some (.invokevirtual 148, 3, 52, 0, 610, 11, 1) := rfl
set_option maxRecDepth 20000 in
theorem ja_C_report_5 : jv_at jm_C_report.2.2.2.2.2.2 5 = some (.ifCond .ne 6, 3, 11, 0, 0, 0, 0) := rfl
set_option maxRecDepth 20000 in
theorem ja_C_report_8 : jv_at jm_C_report.2.2.2.2.2.2 8 = some (.bipush (-2), 2, 0, 0, 0, 0, -2) := rfl
set_option maxRecDepth 20000 in
theorem ja_C_report_10 : jv_at jm_C_report.2.2.2.2.2.2 10 = some (.ireturn, 1, 0, 0, 0, 0, 0) := rfl
set_option maxRecDepth 20000 in
theorem ja_C_report_11 : jv_at jm_C_report.2.2.2.2.2.2 11 = some (.aload_n 0, 1, 0, 0, 0, 0, 0) := rfl
set_option maxRecDepth 20000 in
theorem ja_C_report_12 : jv_at jm_C_report.2.2.2.2.2.2 12 = some (.getfield 18, 3, 11, 2, 499, 0, 0) := rfl
set_option maxRecDepth 20000 in
theorem ja_C_report_15 : jv_at jm_C_report.2.2.2.2.2.2 15 = some (.iload_n 1, 1, 0, 0, 0, 0, 0) := rfl
set_option maxRecDepth 20000 in
theorem ja_C_report_16 : jv_at jm_C_report.2.2.2.2.2.2 16 = some (.aaload, 1, 0, 0, 0, 0, 0) := rfl
set_option maxRecDepth 20000 in
theorem ja_C_report_17 : jv_at jm_C_report.2.2.2.2.2.2 17 = some (.getfield 151, 3, 1, 0, 161, 0, 0) := rfl
set_option maxRecDepth 20000 in
theorem ja_C_report_20 : jv_at jm_C_report.2.2.2.2.2.2 20 = some (.ifCond .eq 6, 3, 26, 0, 0, 0, 0) := rfl
set_option maxRecDepth 20000 in
theorem ja_C_report_23 : jv_at jm_C_report.2.2.2.2.2.2 23 = some (.bipush (-3), 2, 0, 0, 0, 0, -3) := rfl
set_option maxRecDepth 20000 in
theorem ja_C_report_25 : jv_at jm_C_report.2.2.2.2.2.2 25 = some (.ireturn, 1, 0, 0, 0, 0, 0) := rfl
set_option maxRecDepth 20000 in
theorem ja_C_report_26 : jv_at jm_C_report.2.2.2.2.2.2 26 = some (.aload_n 0, 1, 0, 0, 0, 0, 0) := rfl
set_option maxRecDepth 20000 in
theorem ja_C_report_27 : jv_at jm_C_report.2.2.2.2.2.2 27 = some (.iload_n 1, 1, 0, 0, 0, 0, 0) := rfl
set_option maxRecDepth 20000 in
theorem ja_C_report_28 : jv_at jm_C_report.2.2.2.2.2.2 28 = some (.invokevirtual 189, 3, 66, 0, 670, 11, 1) := rfl
set_option maxRecDepth 20000 in
theorem ja_C_report_31 : jv_at jm_C_report.2.2.2.2.2.2 31 = some (.aload_n 0, 1, 0, 0, 0, 0, 0) := rfl
set_option maxRecDepth 20000 in
theorem ja_C_report_32 : jv_at jm_C_report.2.2.2.2.2.2 32 = some (.getfield 192, 3, 11, 5, 502, 0, 0) := rfl
set_option maxRecDepth 20000 in
theorem ja_C_report_35 : jv_at jm_C_report.2.2.2.2.2.2 35 = some (.iconst 1, 1, 0, 0, 0, 0, 1) := rfl
set_option maxRecDepth 20000 in
theorem ja_C_report_36 : jv_at jm_C_report.2.2.2.2.2.2 36 = some (.isub, 1, 0, 0, 0, 0, 0) := rfl
set_option maxRecDepth 20000 in
theorem ja_C_report_37 : jv_at jm_C_report.2.2.2.2.2.2 37 = some (.ireturn, 1, 0, 0, 0, 0, 0) := rfl
set_option maxRecDepth 20000 in
theorem ja_C_putOnCalendar_0 : jv_at jm_C_putOnCalendar.2.2.2.2.2.2 0 = some (.aload_n 0, 1, 0, 0, 0, 0, 0) := rfl
set_option maxRecDepth 20000 in
theorem ja_C_putOnCalendar_1 : jv_at jm_C_putOnCalendar.2.2.2.2.2.2 1 = some (.iload_n 1, 1, 0, 0, 0, 0, 0) := rfl
set_option maxRecDepth 20000 in
theorem ja_C_putOnCalendar_2 : jv_at jm_C_putOnCalendar.2.2.2.2.2.2 2 = some (.invokevirtual 148, 3, 52, 0, 610, 11, 1) := rfl
set_option maxRecDepth 20000 in
theorem ja_C_putOnCalendar_5 : jv_at jm_C_putOnCalendar.2.2.2.2.2.2 5 = some (.ifCond .eq 15, 3, 20, 0, 0, 0, 0) := rfl
set_option maxRecDepth 20000 in
theorem ja_C_putOnCalendar_8 : jv_at jm_C_putOnCalendar.2.2.2.2.2.2 8 = some (.aload_n 0, 1, 0, 0, 0, 0, 0) := rfl
set_option maxRecDepth 20000 in
theorem ja_C_putOnCalendar_9 : jv_at jm_C_putOnCalendar.2.2.2.2.2.2 9 = some (.getfield 192, 3, 11, 5, 502, 0, 0) := rfl
set_option maxRecDepth 20000 in
theorem ja_C_putOnCalendar_12 : jv_at jm_C_putOnCalendar.2.2.2.2.2.2 12 = some (.aload_n 0, 1, 0, 0, 0, 0, 0) := rfl
set_option maxRecDepth 20000 in
theorem ja_C_putOnCalendar_13 : jv_at jm_C_putOnCalendar.2.2.2.2.2.2 13 = some (.getfield 23, 3, 11, 4, 501, 0, 0) := rfl
set_option maxRecDepth 20000 in
theorem ja_C_putOnCalendar_16 : jv_at jm_C_putOnCalendar.2.2.2.2.2.2 16 = some (.arraylength, 1, 0, 0, 0, 0, 0) := rfl
set_option maxRecDepth 20000 in
theorem ja_C_putOnCalendar_17 : jv_at jm_C_putOnCalendar.2.2.2.2.2.2 17 = some (.if_icmp .lt 4, 3, 21, 0, 0, 0, 0) := rfl
set_option maxRecDepth 20000 in
theorem ja_C_putOnCalendar_20 : jv_at jm_C_putOnCalendar.2.2.2.2.2.2 20 = some (.return_, 1, 0, 0, 0, 0, 0) := rfl
set_option maxRecDepth 20000 in
theorem ja_C_putOnCalendar_21 : jv_at jm_C_putOnCalendar.2.2.2.2.2.2 21 = some (.aload_n 0, 1, 0, 0, 0, 0, 0) := rfl
set_option maxRecDepth 20000 in
theorem ja_C_putOnCalendar_22 : jv_at jm_C_putOnCalendar.2.2.2.2.2.2 22 = some (.getfield 23, 3, 11, 4, 501, 0, 0) := rfl
set_option maxRecDepth 20000 in
theorem ja_C_putOnCalendar_25 : jv_at jm_C_putOnCalendar.2.2.2.2.2.2 25 = some (.aload_n 0, 1, 0, 0, 0, 0, 0) := rfl
set_option maxRecDepth 20000 in
theorem ja_C_putOnCalendar_26 : jv_at jm_C_putOnCalendar.2.2.2.2.2.2 26 = some (.getfield 192, 3, 11, 5, 502, 0, 0) := rfl
set_option maxRecDepth 20000 in
theorem ja_C_putOnCalendar_29 : jv_at jm_C_putOnCalendar.2.2.2.2.2.2 29 = some (.iload_n 1, 1, 0, 0, 0, 0, 0) := rfl
set_option maxRecDepth 20000 in
theorem ja_C_putOnCalendar_30 : jv_at jm_C_putOnCalendar.2.2.2.2.2.2 30 = some (.iastore, 1, 0, 0, 0, 0, 0) := rfl
set_option maxRecDepth 20000 in
theorem ja_C_putOnCalendar_31 : jv_at jm_C_putOnCalendar.2.2.2.2.2.2 31 = some (.aload_n 0, 1, 0, 0, 0, 0, 0) := rfl
set_option maxRecDepth 20000 in
theorem ja_C_putOnCalendar_32 : jv_at jm_C_putOnCalendar.2.2.2.2.2.2 32 = some (.dup, 1, 0, 0, 0, 0, 0) := rfl
set_option maxRecDepth 20000 in
theorem ja_C_putOnCalendar_33 : jv_at jm_C_putOnCalendar.2.2.2.2.2.2 33 = some (.getfield 192, 3, 11, 5, 502, 0, 0) := rfl
set_option maxRecDepth 20000 in
theorem ja_C_putOnCalendar_36 : jv_at jm_C_putOnCalendar.2.2.2.2.2.2 36 = some (.iconst 1, 1, 0, 0, 0, 0, 1) := rfl
set_option maxRecDepth 20000 in
theorem ja_C_putOnCalendar_37 : jv_at jm_C_putOnCalendar.2.2.2.2.2.2 37 = some (.iadd, 1, 0, 0, 0, 0, 0) := rfl
set_option maxRecDepth 20000 in
theorem ja_C_putOnCalendar_38 : jv_at jm_C_putOnCalendar.2.2.2.2.2.2 38 = some (.putfield 192, 3, 11, 5, 502, 0, 0) := rfl
set_option maxRecDepth 20000 in
theorem ja_C_putOnCalendar_41 : jv_at jm_C_putOnCalendar.2.2.2.2.2.2 41 = some (.aload_n 0, 1, 0, 0, 0, 0, 0) := rfl
set_option maxRecDepth 20000 in
theorem ja_C_putOnCalendar_42 : jv_at jm_C_putOnCalendar.2.2.2.2.2.2 42 = some (.getfield 18, 3, 11, 2, 499, 0, 0) := rfl
set_option maxRecDepth 20000 in
theorem ja_C_putOnCalendar_45 : jv_at jm_C_putOnCalendar.2.2.2.2.2.2 45 = some (.iload_n 1, 1, 0, 0, 0, 0, 0) := rfl
set_option maxRecDepth 20000 in
theorem ja_C_putOnCalendar_46 : jv_at jm_C_putOnCalendar.2.2.2.2.2.2 46 = some (.aaload, 1, 0, 0, 0, 0, 0) := rfl
set_option maxRecDepth 20000 in
theorem ja_C_putOnCalendar_47 : jv_at jm_C_putOnCalendar.2.2.2.2.2.2 47 = some (.iconst 1, 1, 0, 0, 0, 0, 1) := rfl
set_option maxRecDepth 20000 in
theorem ja_C_putOnCalendar_48 : jv_at jm_C_putOnCalendar.2.2.2.2.2.2 48 = some (.putfield 151, 3, 1, 0, 161, 0, 0) := rfl
set_option maxRecDepth 20000 in
theorem ja_C_putOnCalendar_51 : jv_at jm_C_putOnCalendar.2.2.2.2.2.2 51 = some (.return_, 1, 0, 0, 0, 0, 0) := rfl
set_option maxRecDepth 20000 in
theorem ja_C_sign_0 : jv_at jm_C_sign.2.2.2.2.2.2 0 = some (.aload_n 0, 1, 0, 0, 0, 0, 0) := rfl
set_option maxRecDepth 20000 in
theorem ja_C_sign_1 : jv_at jm_C_sign.2.2.2.2.2.2 1 = some (.iload_n 1, 1, 0, 0, 0, 0, 0) := rfl
set_option maxRecDepth 20000 in
theorem ja_C_sign_2 : jv_at jm_C_sign.2.2.2.2.2.2 2 = some (.invokevirtual 148, 3, 52, 0, 610, 11, 1) := rfl
set_option maxRecDepth 20000 in
theorem ja_C_sign_5 : jv_at jm_C_sign.2.2.2.2.2.2 5 = some (.ifCond .eq 11, 3, 16, 0, 0, 0, 0) := rfl
set_option maxRecDepth 20000 in
theorem ja_C_sign_8 : jv_at jm_C_sign.2.2.2.2.2.2 8 = some (.aload_n 0, 1, 0, 0, 0, 0, 0) := rfl
set_option maxRecDepth 20000 in
theorem ja_C_sign_9 : jv_at jm_C_sign.2.2.2.2.2.2 9 = some (.iload_n 2, 1, 0, 0, 0, 0, 0) := rfl
set_option maxRecDepth 20000 in
theorem ja_C_sign_10 : jv_at jm_C_sign.2.2.2.2.2.2 10 = some (.invokevirtual 124, 3, 41, 0, 567, 11, 1) := rfl
set_option maxRecDepth 20000 in
theorem ja_C_sign_13 : jv_at jm_C_sign.2.2.2.2.2.2 13 = some (.ifCond .ne 6, 3, 19, 0, 0, 0, 0) := rfl
set_option maxRecDepth 20000 in
theorem ja_C_sign_16 : jv_at jm_C_sign.2.2.2.2.2.2 16 = some (.bipush (-2), 2, 0, 0, 0, 0, -2) := rfl
set_option maxRecDepth 20000 in
theorem ja_C_sign_18 : jv_at jm_C_sign.2.2.2.2.2.2 18 = some (.ireturn, 1, 0, 0, 0, 0, 0) := rfl
set_option maxRecDepth 20000 in
theorem ja_C_sign_19 : jv_at jm_C_sign.2.2.2.2.2.2 19 = some (.aload_n 0, 1, 0, 0, 0, 0, 0) := rfl
set_option maxRecDepth 20000 in
theorem ja_C_sign_20 : jv_at jm_C_sign.2.2.2.2.2.2 20 = some (.getfield 18, 3, 11, 2, 499, 0, 0) := rfl
set_option maxRecDepth 20000 in
theorem ja_C_sign_23 : jv_at jm_C_sign.2.2.2.2.2.2 23 = some (.iload_n 1, 1, 0, 0, 0, 0, 0) := rfl
set_option maxRecDepth 20000 in
theorem ja_C_sign_24 : jv_at jm_C_sign.2.2.2.2.2.2 24 = some (.aaload, 1, 0, 0, 0, 0, 0) := rfl
set_option maxRecDepth 20000 in
theorem ja_C_sign_25 : jv_at jm_C_sign.2.2.2.2.2.2 25 = some (.astore_n 3, 1, 0, 0, 0, 0, 0) := rfl
set_option maxRecDepth 20000 in
theorem ja_C_sign_26 : jv_at jm_C_sign.2.2.2.2.2.2 26 = some (.aload_n 3, 1, 0, 0, 0, 0, 0) := rfl
set_option maxRecDepth 20000 in
theorem ja_C_sign_27 : jv_at jm_C_sign.2.2.2.2.2.2 27 = some (.getfield 151, 3, 1, 0, 161, 0, 0) := rfl
set_option maxRecDepth 20000 in
theorem ja_C_sign_30 : jv_at jm_C_sign.2.2.2.2.2.2 30 = some (.ifCond .ne 14, 3, 44, 0, 0, 0, 0) := rfl
set_option maxRecDepth 20000 in
theorem ja_C_sign_33 : jv_at jm_C_sign.2.2.2.2.2.2 33 = some (.aload_n 3, 1, 0, 0, 0, 0, 0) := rfl
set_option maxRecDepth 20000 in
theorem ja_C_sign_34 : jv_at jm_C_sign.2.2.2.2.2.2 34 = some (.getfield 172, 3, 1, 1, 162, 0, 0) := rfl
set_option maxRecDepth 20000 in
theorem ja_C_sign_37 : jv_at jm_C_sign.2.2.2.2.2.2 37 = some (.iload_n 2, 1, 0, 0, 0, 0, 0) := rfl
set_option maxRecDepth 20000 in
theorem ja_C_sign_38 : jv_at jm_C_sign.2.2.2.2.2.2 38 = some (.ishr, 1, 0, 0, 0, 0, 0) := rfl
set_option maxRecDepth 20000 in
theorem ja_C_sign_39 : jv_at jm_C_sign.2.2.2.2.2.2 39 = some (.iconst 1, 1, 0, 0, 0, 0, 1) := rfl
set_option maxRecDepth 20000 in
theorem ja_C_sign_40 : jv_at jm_C_sign.2.2.2.2.2.2 40 = some (.iand, 1, 0, 0, 0, 0, 0) := rfl
set_option maxRecDepth 20000 in
theorem ja_C_sign_41 : jv_at jm_C_sign.2.2.2.2.2.2 41 = some (.ifCond .eq 6, 3, 47, 0, 0, 0, 0) := rfl
set_option maxRecDepth 20000 in
theorem ja_C_sign_44 : jv_at jm_C_sign.2.2.2.2.2.2 44 = some (.bipush (-3), 2, 0, 0, 0, 0, -3) := rfl
set_option maxRecDepth 20000 in
theorem ja_C_sign_46 : jv_at jm_C_sign.2.2.2.2.2.2 46 = some (.ireturn, 1, 0, 0, 0, 0, 0) := rfl
set_option maxRecDepth 20000 in
theorem ja_C_sign_47 : jv_at jm_C_sign.2.2.2.2.2.2 47 = some (.aload_n 3, 1, 0, 0, 0, 0, 0) := rfl
set_option maxRecDepth 20000 in
theorem ja_C_sign_48 : jv_at jm_C_sign.2.2.2.2.2.2 48 = some (.dup, 1, 0, 0, 0, 0, 0) := rfl
set_option maxRecDepth 20000 in
theorem ja_C_sign_49 : jv_at jm_C_sign.2.2.2.2.2.2 49 = some (.getfield 172, 3, 1, 1, 162, 0, 0) := rfl
set_option maxRecDepth 20000 in
theorem ja_C_sign_52 : jv_at jm_C_sign.2.2.2.2.2.2 52 = some (.iconst 1, 1, 0, 0, 0, 0, 1) := rfl
set_option maxRecDepth 20000 in
theorem ja_C_sign_53 : jv_at jm_C_sign.2.2.2.2.2.2 53 = some (.iload_n 2, 1, 0, 0, 0, 0, 0) := rfl
set_option maxRecDepth 20000 in
theorem ja_C_sign_54 : jv_at jm_C_sign.2.2.2.2.2.2 54 = some (.ishl, 1, 0, 0, 0, 0, 0) := rfl
set_option maxRecDepth 20000 in
theorem ja_C_sign_55 : jv_at jm_C_sign.2.2.2.2.2.2 55 = some (.ior, 1, 0, 0, 0, 0, 0) := rfl
set_option maxRecDepth 20000 in
theorem ja_C_sign_56 : jv_at jm_C_sign.2.2.2.2.2.2 56 = some (.putfield 172, 3, 1, 1, 162, 0, 0) := rfl
set_option maxRecDepth 20000 in
theorem ja_C_sign_59 : jv_at jm_C_sign.2.2.2.2.2.2 59 = some (.aload_n 3, 1, 0, 0, 0, 0, 0) := rfl
set_option maxRecDepth 20000 in
theorem ja_C_sign_60 : jv_at jm_C_sign.2.2.2.2.2.2 60 = some (.getfield 172, 3, 1, 1, 162, 0, 0) := rfl
set_option maxRecDepth 20000 in
theorem ja_C_sign_63 : jv_at jm_C_sign.2.2.2.2.2.2 63 = some (.invokestatic 175, 3, 60, 1, 642, 20, 1) := rfl
set_option maxRecDepth 20000 in
theorem ja_C_sign_66 : jv_at jm_C_sign.2.2.2.2.2.2 66 = some (.istore 4, 2, 0, 0, 0, 0, 0) := rfl
set_option maxRecDepth 20000 in
theorem ja_C_sign_68 : jv_at jm_C_sign.2.2.2.2.2.2 68 = some (.iload 4, 2, 0, 0, 0, 0, 0) := rfl
set_option maxRecDepth 20000 in
theorem ja_C_sign_70 : jv_at jm_C_sign.2.2.2.2.2.2 70 = some (.iload 4, 2, 0, 0, 0, 0, 0) := rfl
set_option maxRecDepth 20000 in
theorem ja_C_sign_72 : jv_at jm_C_sign.2.2.2.2.2.2 72 = some (.iadd, 1, 0, 0, 0, 0, 0) := rfl
set_option maxRecDepth 20000 in
theorem ja_C_sign_73 : jv_at jm_C_sign.2.2.2.2.2.2 73 = some (.aload_n 0, 1, 0, 0, 0, 0, 0) := rfl
set_option maxRecDepth 20000 in
theorem ja_C_sign_74 : jv_at jm_C_sign.2.2.2.2.2.2 74 = some (.getfield 118, 3, 11, 1, 498, 0, 0) := rfl
set_option maxRecDepth 20000 in
theorem ja_C_sign_77 : jv_at jm_C_sign.2.2.2.2.2.2 77 = some (.if_icmp .le 8, 3, 85, 0, 0, 0, 0) := rfl
set_option maxRecDepth 20000 in
theorem ja_C_sign_80 : jv_at jm_C_sign.2.2.2.2.2.2 80 = some (.aload_n 0, 1, 0, 0, 0, 0, 0) := rfl
set_option maxRecDepth 20000 in
theorem ja_C_sign_81 : jv_at jm_C_sign.2.2.2.2.2.2 81 = some (.iload_n 1, 1, 0, 0, 0, 0, 0) := rfl
set_option maxRecDepth 20000 in
theorem ja_C_sign_82 : jv_at jm_C_sign.2.2.2.2.2.2 82 = some (.invokevirtual 189, 3, 66, 0, 670, 11, 1) := rfl
set_option maxRecDepth 20000 in
theorem ja_C_sign_85 : jv_at jm_C_sign.2.2.2.2.2.2 85 = some (.iload 4, 2, 0, 0, 0, 0, 0) := rfl
set_option maxRecDepth 20000 in
theorem ja_C_sign_87 : jv_at jm_C_sign.2.2.2.2.2.2 87 = some (.ireturn, 1, 0, 0, 0, 0, 0) := rfl
set_option maxRecDepth 20000 in
theorem ja_C_call_0 : jv_at jm_C_call.2.2.2.2.2.2 0 = some (.aload_n 0, 1, 0, 0, 0, 0, 0) := rfl
set_option maxRecDepth 20000 in
theorem ja_C_call_1 : jv_at jm_C_call.2.2.2.2.2.2 1 = some (.getfield 27, 3, 11, 6, 503, 0, 0) := rfl
set_option maxRecDepth 20000 in
theorem ja_C_call_4 : jv_at jm_C_call.2.2.2.2.2.2 4 = some (.iconst (-1), 1, 0, 0, 0, 0, -1) := rfl
set_option maxRecDepth 20000 in
theorem ja_C_call_5 : jv_at jm_C_call.2.2.2.2.2.2 5 = some (.if_icmp .ne 10, 3, 15, 0, 0, 0, 0) := rfl
set_option maxRecDepth 20000 in
theorem ja_C_call_8 : jv_at jm_C_call.2.2.2.2.2.2 8 = some (.aload_n 0, 1, 0, 0, 0, 0, 0) := rfl
set_option maxRecDepth 20000 in
theorem ja_C_call_9 : jv_at jm_C_call.2.2.2.2.2.2 9 = some (.getfield 192, 3, 11, 5, 502, 0, 0) := rfl
set_option maxRecDepth 20000 in
theorem ja_C_call_12 : jv_at jm_C_call.2.2.2.2.2.2 12 = some (.ifCond .gt 6, 3, 18, 0, 0, 0, 0) := rfl
set_option maxRecDepth 20000 in
theorem ja_C_call_15 : jv_at jm_C_call.2.2.2.2.2.2 15 = some (.bipush (-3), 2, 0, 0, 0, 0, -3) := rfl
set_option maxRecDepth 20000 in
theorem ja_C_call_17 : jv_at jm_C_call.2.2.2.2.2.2 17 = some (.ireturn, 1, 0, 0, 0, 0, 0) := rfl
set_option maxRecDepth 20000 in
theorem ja_C_call_18 : jv_at jm_C_call.2.2.2.2.2.2 18 = some (.aload_n 0, 1, 0, 0, 0, 0, 0) := rfl
set_option maxRecDepth 20000 in
theorem ja_C_call_19 : jv_at jm_C_call.2.2.2.2.2.2 19 = some (.aload_n 0, 1, 0, 0, 0, 0, 0) := rfl
set_option maxRecDepth 20000 in
theorem ja_C_call_20 : jv_at jm_C_call.2.2.2.2.2.2 20 = some (.getfield 23, 3, 11, 4, 501, 0, 0) := rfl
set_option maxRecDepth 20000 in
theorem ja_C_call_23 : jv_at jm_C_call.2.2.2.2.2.2 23 = some (.iconst 0, 1, 0, 0, 0, 0, 0) := rfl
set_option maxRecDepth 20000 in
theorem ja_C_call_24 : jv_at jm_C_call.2.2.2.2.2.2 24 = some (.iaload, 1, 0, 0, 0, 0, 0) := rfl
set_option maxRecDepth 20000 in
theorem ja_C_call_25 : jv_at jm_C_call.2.2.2.2.2.2 25 = some (.putfield 27, 3, 11, 6, 503, 0, 0) := rfl
set_option maxRecDepth 20000 in
theorem ja_C_call_28 : jv_at jm_C_call.2.2.2.2.2.2 28 = some (.aload_n 0, 1, 0, 0, 0, 0, 0) := rfl
set_option maxRecDepth 20000 in
theorem ja_C_call_29 : jv_at jm_C_call.2.2.2.2.2.2 29 = some (.dup, 1, 0, 0, 0, 0, 0) := rfl
set_option maxRecDepth 20000 in
theorem ja_C_call_30 : jv_at jm_C_call.2.2.2.2.2.2 30 = some (.getfield 192, 3, 11, 5, 502, 0, 0) := rfl
set_option maxRecDepth 20000 in
theorem ja_C_call_33 : jv_at jm_C_call.2.2.2.2.2.2 33 = some (.iconst 1, 1, 0, 0, 0, 0, 1) := rfl
set_option maxRecDepth 20000 in
theorem ja_C_call_34 : jv_at jm_C_call.2.2.2.2.2.2 34 = some (.isub, 1, 0, 0, 0, 0, 0) := rfl
set_option maxRecDepth 20000 in
theorem ja_C_call_35 : jv_at jm_C_call.2.2.2.2.2.2 35 = some (.putfield 192, 3, 11, 5, 502, 0, 0) := rfl
set_option maxRecDepth 20000 in
theorem ja_C_call_38 : jv_at jm_C_call.2.2.2.2.2.2 38 = some (.iconst 0, 1, 0, 0, 0, 0, 0) := rfl
set_option maxRecDepth 20000 in
theorem ja_C_call_39 : jv_at jm_C_call.2.2.2.2.2.2 39 = some (.istore_n 1, 1, 0, 0, 0, 0, 0) := rfl
set_option maxRecDepth 20000 in
theorem ja_C_call_40 : jv_at jm_C_call.2.2.2.2.2.2 40 = some (.iload_n 1, 1, 0, 0, 0, 0, 0) := rfl
set_option maxRecDepth 20000 in
theorem ja_C_call_41 : jv_at jm_C_call.2.2.2.2.2.2 41 = some (.aload_n 0, 1, 0, 0, 0, 0, 0) := rfl
set_option maxRecDepth 20000 in
theorem ja_C_call_42 : jv_at jm_C_call.2.2.2.2.2.2 42 = some (.getfield 192, 3, 11, 5, 502, 0, 0) := rfl
set_option maxRecDepth 20000 in
theorem ja_C_call_45 : jv_at jm_C_call.2.2.2.2.2.2 45 = some (.if_icmp .ge 34, 3, 79, 0, 0, 0, 0) := rfl
set_option maxRecDepth 20000 in
theorem ja_C_call_48 : jv_at jm_C_call.2.2.2.2.2.2 48 = some (.iload_n 1, 1, 0, 0, 0, 0, 0) := rfl
set_option maxRecDepth 20000 in
theorem ja_C_call_49 : jv_at jm_C_call.2.2.2.2.2.2 49 = some (.iconst 1, 1, 0, 0, 0, 0, 1) := rfl
set_option maxRecDepth 20000 in
theorem ja_C_call_50 : jv_at jm_C_call.2.2.2.2.2.2 50 = some (.iadd, 1, 0, 0, 0, 0, 0) := rfl
set_option maxRecDepth 20000 in
theorem ja_C_call_51 : jv_at jm_C_call.2.2.2.2.2.2 51 = some (.aload_n 0, 1, 0, 0, 0, 0, 0) := rfl
set_option maxRecDepth 20000 in
theorem ja_C_call_52 : jv_at jm_C_call.2.2.2.2.2.2 52 = some (.getfield 23, 3, 11, 4, 501, 0, 0) := rfl
set_option maxRecDepth 20000 in
theorem ja_C_call_55 : jv_at jm_C_call.2.2.2.2.2.2 55 = some (.arraylength, 1, 0, 0, 0, 0, 0) := rfl
set_option maxRecDepth 20000 in
theorem ja_C_call_56 : jv_at jm_C_call.2.2.2.2.2.2 56 = some (.if_icmp .ge 23, 3, 79, 0, 0, 0, 0) := rfl
set_option maxRecDepth 20000 in
theorem ja_C_call_59 : jv_at jm_C_call.2.2.2.2.2.2 59 = some (.aload_n 0, 1, 0, 0, 0, 0, 0) := rfl
set_option maxRecDepth 20000 in
theorem ja_C_call_60 : jv_at jm_C_call.2.2.2.2.2.2 60 = some (.getfield 23, 3, 11, 4, 501, 0, 0) := rfl
set_option maxRecDepth 20000 in
theorem ja_C_call_63 : jv_at jm_C_call.2.2.2.2.2.2 63 = some (.iload_n 1, 1, 0, 0, 0, 0, 0) := rfl
set_option maxRecDepth 20000 in
theorem ja_C_call_64 : jv_at jm_C_call.2.2.2.2.2.2 64 = some (.aload_n 0, 1, 0, 0, 0, 0, 0) := rfl
set_option maxRecDepth 20000 in
theorem ja_C_call_65 : jv_at jm_C_call.2.2.2.2.2.2 65 = some (.getfield 23, 3, 11, 4, 501, 0, 0) := rfl
set_option maxRecDepth 20000 in
theorem ja_C_call_68 : jv_at jm_C_call.2.2.2.2.2.2 68 = some (.iload_n 1, 1, 0, 0, 0, 0, 0) := rfl
set_option maxRecDepth 20000 in
theorem ja_C_call_69 : jv_at jm_C_call.2.2.2.2.2.2 69 = some (.iconst 1, 1, 0, 0, 0, 0, 1) := rfl
set_option maxRecDepth 20000 in
theorem ja_C_call_70 : jv_at jm_C_call.2.2.2.2.2.2 70 = some (.iadd, 1, 0, 0, 0, 0, 0) := rfl
set_option maxRecDepth 20000 in
theorem ja_C_call_71 : jv_at jm_C_call.2.2.2.2.2.2 71 = some (.iaload, 1, 0, 0, 0, 0, 0) := rfl
set_option maxRecDepth 20000 in
theorem ja_C_call_72 : jv_at jm_C_call.2.2.2.2.2.2 72 = some (.iastore, 1, 0, 0, 0, 0, 0) := rfl
set_option maxRecDepth 20000 in
theorem ja_C_call_73 : jv_at jm_C_call.2.2.2.2.2.2 73 = some (.iinc 1 1, 3, 0, 0, 0, 0, 0) := rfl
set_option maxRecDepth 20000 in
theorem ja_C_call_76 : jv_at jm_C_call.2.2.2.2.2.2 76 = some (.goto (-36), 3, 40, 0, 0, 0, 0) := rfl
set_option maxRecDepth 20000 in
theorem ja_C_call_79 : jv_at jm_C_call.2.2.2.2.2.2 79 = some (.aload_n 0, 1, 0, 0, 0, 0, 0) := rfl
set_option maxRecDepth 20000 in
theorem ja_C_call_80 : jv_at jm_C_call.2.2.2.2.2.2 80 = some (.aload_n 0, 1, 0, 0, 0, 0, 0) := rfl
set_option maxRecDepth 20000 in
theorem ja_C_call_81 : jv_at jm_C_call.2.2.2.2.2.2 81 = some (.getfield 27, 3, 11, 6, 503, 0, 0) := rfl
set_option maxRecDepth 20000 in
theorem ja_C_call_84 : jv_at jm_C_call.2.2.2.2.2.2 84 = some (.invokevirtual 148, 3, 52, 0, 610, 11, 1) := rfl
set_option maxRecDepth 20000 in
theorem ja_C_call_87 : jv_at jm_C_call.2.2.2.2.2.2 87 = some (.ifCond .eq 16, 3, 103, 0, 0, 0, 0) := rfl
set_option maxRecDepth 20000 in
theorem ja_C_call_90 : jv_at jm_C_call.2.2.2.2.2.2 90 = some (.aload_n 0, 1, 0, 0, 0, 0, 0) := rfl
set_option maxRecDepth 20000 in
theorem ja_C_call_91 : jv_at jm_C_call.2.2.2.2.2.2 91 = some (.getfield 18, 3, 11, 2, 499, 0, 0) := rfl
set_option maxRecDepth 20000 in
theorem ja_C_call_94 : jv_at jm_C_call.2.2.2.2.2.2 94 = some (.aload_n 0, 1, 0, 0, 0, 0, 0) := rfl
set_option maxRecDepth 20000 in
theorem ja_C_call_95 : jv_at jm_C_call.2.2.2.2.2.2 95 = some (.getfield 27, 3, 11, 6, 503, 0, 0) := rfl
set_option maxRecDepth 20000 in
theorem ja_C_call_98 : jv_at jm_C_call.2.2.2.2.2.2 98 = some (.aaload, 1, 0, 0, 0, 0, 0) := rfl
set_option maxRecDepth 20000 in
theorem ja_C_call_99 : jv_at jm_C_call.2.2.2.2.2.2 99 = some (.iconst 2, 1, 0, 0, 0, 0, 2) := rfl
set_option maxRecDepth 20000 in
theorem ja_C_call_100 : jv_at jm_C_call.2.2.2.2.2.2 100 = some (.putfield 151, 3, 1, 0, 161, 0, 0) := rfl
set_option maxRecDepth 20000 in
theorem ja_C_call_103 : jv_at jm_C_call.2.2.2.2.2.2 103 = some (.aload_n 0, 1, 0, 0, 0, 0, 0) := rfl
set_option maxRecDepth 20000 in
theorem ja_C_call_104 : jv_at jm_C_call.2.2.2.2.2.2 104 = some (.getfield 27, 3, 11, 6, 503, 0, 0) := rfl
set_option maxRecDepth 20000 in
theorem ja_C_call_107 : jv_at jm_C_call.2.2.2.2.2.2 107 = some (.ireturn, 1, 0, 0, 0, 0, 0) := rfl
set_option maxRecDepth 20000 in
theorem ja_C_feed_0 : jv_at jm_C_feed.2.2.2.2.2.2 0 = some (.iload_n 1, 1, 0, 0, 0, 0, 0) := rfl
set_option maxRecDepth 20000 in
theorem ja_C_feed_1 : jv_at jm_C_feed.2.2.2.2.2.2 1 = some (.iconst 1, 1, 0, 0, 0, 0, 1) := rfl
set_option maxRecDepth 20000 in
theorem ja_C_feed_2 : jv_at jm_C_feed.2.2.2.2.2.2 2 = some (.if_icmp .lt 9, 3, 11, 0, 0, 0, 0) := rfl
set_option maxRecDepth 20000 in
theorem ja_C_feed_5 : jv_at jm_C_feed.2.2.2.2.2.2 5 = some (.iload_n 1, 1, 0, 0, 0, 0, 0) := rfl
set_option maxRecDepth 20000 in
theorem ja_C_feed_6 : jv_at jm_C_feed.2.2.2.2.2.2 6 = some (.bipush 8, 2, 0, 0, 0, 0, 8) := rfl
set_option maxRecDepth 20000 in
theorem ja_C_feed_8 : jv_at jm_C_feed.2.2.2.2.2.2 8 = some (.if_icmp .le 6, 3, 14, 0, 0, 0, 0) := rfl
set_option maxRecDepth 20000 in
theorem ja_C_feed_11 : jv_at jm_C_feed.2.2.2.2.2.2 11 = some (.bipush (-2), 2, 0, 0, 0, 0, -2) := rfl
set_option maxRecDepth 20000 in
theorem ja_C_feed_13 : jv_at jm_C_feed.2.2.2.2.2.2 13 = some (.ireturn, 1, 0, 0, 0, 0, 0) := rfl
set_option maxRecDepth 20000 in
theorem ja_C_feed_14 : jv_at jm_C_feed.2.2.2.2.2.2 14 = some (.aload_n 0, 1, 0, 0, 0, 0, 0) := rfl
set_option maxRecDepth 20000 in
theorem ja_C_feed_15 : jv_at jm_C_feed.2.2.2.2.2.2 15 = some (.getfield 64, 3, 11, 13, 510, 0, 0) := rfl
set_option maxRecDepth 20000 in
theorem ja_C_feed_18 : jv_at jm_C_feed.2.2.2.2.2.2 18 = some (.getfield 195, 3, 7, 1, 292, 0, 0) := rfl
set_option maxRecDepth 20000 in
theorem ja_C_feed_21 : jv_at jm_C_feed.2.2.2.2.2.2 21 = some (.iload_n 1, 1, 0, 0, 0, 0, 0) := rfl
set_option maxRecDepth 20000 in
theorem ja_C_feed_22 : jv_at jm_C_feed.2.2.2.2.2.2 22 = some (.iadd, 1, 0, 0, 0, 0, 0) := rfl
set_option maxRecDepth 20000 in
theorem ja_C_feed_23 : jv_at jm_C_feed.2.2.2.2.2.2 23 = some (.sipush 200, 3, 0, 0, 0, 0, 200) := rfl
set_option maxRecDepth 20000 in
theorem ja_C_feed_26 : jv_at jm_C_feed.2.2.2.2.2.2 26 = some (.if_icmp .le 6, 3, 32, 0, 0, 0, 0) := rfl
set_option maxRecDepth 20000 in
theorem ja_C_feed_29 : jv_at jm_C_feed.2.2.2.2.2.2 29 = some (.bipush (-4), 2, 0, 0, 0, 0, -4) := rfl
set_option maxRecDepth 20000 in
theorem ja_C_feed_31 : jv_at jm_C_feed.2.2.2.2.2.2 31 = some (.ireturn, 1, 0, 0, 0, 0, 0) := rfl
set_option maxRecDepth 20000 in
theorem ja_C_feed_32 : jv_at jm_C_feed.2.2.2.2.2.2 32 = some (.iconst 0, 1, 0, 0, 0, 0, 0) := rfl
set_option maxRecDepth 20000 in
theorem ja_C_feed_33 : jv_at jm_C_feed.2.2.2.2.2.2 33 = some (.istore 4, 2, 0, 0, 0, 0, 0) := rfl
set_option maxRecDepth 20000 in
theorem ja_C_feed_35 : jv_at jm_C_feed.2.2.2.2.2.2 35 = some (.iload 4, 2, 0, 0, 0, 0, 0) := rfl
set_option maxRecDepth 20000 in
theorem ja_C_feed_37 : jv_at jm_C_feed.2.2.2.2.2.2 37 = some (.iload_n 1, 1, 0, 0, 0, 0, 0) := rfl
set_option maxRecDepth 20000 in
theorem ja_C_feed_38 : jv_at jm_C_feed.2.2.2.2.2.2 38 = some (.if_icmp .ge 28, 3, 66, 0, 0, 0, 0) := rfl
set_option maxRecDepth 20000 in
theorem ja_C_feed_41 : jv_at jm_C_feed.2.2.2.2.2.2 41 = some (.aload_n 0, 1, 0, 0, 0, 0, 0) := rfl
set_option maxRecDepth 20000 in
theorem ja_C_feed_42 : jv_at jm_C_feed.2.2.2.2.2.2 42 = some (.getfield 64, 3, 11, 13, 510, 0, 0) := rfl
set_option maxRecDepth 20000 in
theorem ja_C_feed_45 : jv_at jm_C_feed.2.2.2.2.2.2 45 = some (.lload_n 2, 1, 0, 0, 0, 0, 0) := rfl
set_option maxRecDepth 20000 in
theorem ja_C_feed_46 : jv_at jm_C_feed.2.2.2.2.2.2 46 = some (.bipush 8, 2, 0, 0, 0, 0, 8) := rfl
set_option maxRecDepth 20000 in
theorem ja_C_feed_48 : jv_at jm_C_feed.2.2.2.2.2.2 48 = some (.iload 4, 2, 0, 0, 0, 0, 0) := rfl
set_option maxRecDepth 20000 in
theorem ja_C_feed_50 : jv_at jm_C_feed.2.2.2.2.2.2 50 = some (.imul, 1, 0, 0, 0, 0, 0) := rfl
set_option maxRecDepth 20000 in
theorem ja_C_feed_51 : jv_at jm_C_feed.2.2.2.2.2.2 51 = some (.lshr, 1, 0, 0, 0, 0, 0) := rfl
set_option maxRecDepth 20000 in
theorem ja_C_feed_52 : jv_at jm_C_feed.2.2.2.2.2.2 52 = some (.ldc2_w 196, 3, 0, 0, 686, 0, 255) := rfl
set_option maxRecDepth 20000 in
theorem ja_C_feed_55 : jv_at jm_C_feed.2.2.2.2.2.2 55 = some (.land, 1, 0, 0, 0, 0, 0) := rfl
set_option maxRecDepth 20000 in
theorem ja_C_feed_56 : jv_at jm_C_feed.2.2.2.2.2.2 56 = some (.l2i, 1, 0, 0, 0, 0, 0) := rfl
set_option maxRecDepth 20000 in
theorem ja_C_feed_57 : jv_at jm_C_feed.2.2.2.2.2.2 57 = some (.invokevirtual 108, 3, 19, 0, 414, 7, 1) := rfl
set_option maxRecDepth 20000 in
theorem ja_C_feed_60 : jv_at jm_C_feed.2.2.2.2.2.2 60 = some (.iinc 4 1, 3, 0, 0, 0, 0, 0) := rfl
set_option maxRecDepth 20000 in
theorem ja_C_feed_63 : jv_at jm_C_feed.2.2.2.2.2.2 63 = some (.goto (-28), 3, 35, 0, 0, 0, 0) := rfl
set_option maxRecDepth 20000 in
theorem ja_C_feed_66 : jv_at jm_C_feed.2.2.2.2.2.2 66 = some (.aload_n 0, 1, 0, 0, 0, 0, 0) := rfl
set_option maxRecDepth 20000 in
theorem ja_C_feed_67 : jv_at jm_C_feed.2.2.2.2.2.2 67 = some (.getfield 64, 3, 11, 13, 510, 0, 0) := rfl
set_option maxRecDepth 20000 in
theorem ja_C_feed_70 : jv_at jm_C_feed.2.2.2.2.2.2 70 = some (.getfield 195, 3, 7, 1, 292, 0, 0) := rfl
set_option maxRecDepth 20000 in
theorem ja_C_feed_73 : jv_at jm_C_feed.2.2.2.2.2.2 73 = some (.ireturn, 1, 0, 0, 0, 0, 0) := rfl
set_option maxRecDepth 20000 in
theorem ja_C_text_0 : jv_at jm_C_text.2.2.2.2.2.2 0 = some (.aload_n 0, 1, 0, 0, 0, 0, 0) := rfl
set_option maxRecDepth 20000 in
theorem ja_C_text_1 : jv_at jm_C_text.2.2.2.2.2.2 1 = some (.getfield 115, 3, 11, 11, 508, 0, 0) := rfl
set_option maxRecDepth 20000 in
theorem ja_C_text_4 : jv_at jm_C_text.2.2.2.2.2.2 4 = some (.aload_n 0, 1, 0, 0, 0, 0, 0) := rfl
set_option maxRecDepth 20000 in
theorem ja_C_text_5 : jv_at jm_C_text.2.2.2.2.2.2 5 = some (.getfield 56, 3, 11, 10, 507, 0, 0) := rfl
set_option maxRecDepth 20000 in
theorem ja_C_text_8 : jv_at jm_C_text.2.2.2.2.2.2 8 = some (.arraylength, 1, 0, 0, 0, 0, 0) := rfl
set_option maxRecDepth 20000 in
theorem ja_C_text_9 : jv_at jm_C_text.2.2.2.2.2.2 9 = some (.if_icmp .lt 6, 3, 15, 0, 0, 0, 0) := rfl
set_option maxRecDepth 20000 in
theorem ja_C_text_12 : jv_at jm_C_text.2.2.2.2.2.2 12 = some (.bipush (-4), 2, 0, 0, 0, 0, -4) := rfl
set_option maxRecDepth 20000 in
theorem ja_C_text_14 : jv_at jm_C_text.2.2.2.2.2.2 14 = some (.ireturn, 1, 0, 0, 0, 0, 0) := rfl
set_option maxRecDepth 20000 in
theorem ja_C_text_15 : jv_at jm_C_text.2.2.2.2.2.2 15 = some (.aload_n 0, 1, 0, 0, 0, 0, 0) := rfl
set_option maxRecDepth 20000 in
theorem ja_C_text_16 : jv_at jm_C_text.2.2.2.2.2.2 16 = some (.getfield 64, 3, 11, 13, 510, 0, 0) := rfl
set_option maxRecDepth 20000 in
theorem ja_C_text_19 : jv_at jm_C_text.2.2.2.2.2.2 19 = some (.aload_n 0, 1, 0, 0, 0, 0, 0) := rfl
set_option maxRecDepth 20000 in
theorem ja_C_text_20 : jv_at jm_C_text.2.2.2.2.2.2 20 = some (.getfield 56, 3, 11, 10, 507, 0, 0) := rfl
set_option maxRecDepth 20000 in
theorem ja_C_text_23 : jv_at jm_C_text.2.2.2.2.2.2 23 = some (.aload_n 0, 1, 0, 0, 0, 0, 0) := rfl
set_option maxRecDepth 20000 in
theorem ja_C_text_24 : jv_at jm_C_text.2.2.2.2.2.2 24 = some (.getfield 115, 3, 11, 11, 508, 0, 0) := rfl
set_option maxRecDepth 20000 in
theorem ja_C_text_27 : jv_at jm_C_text.2.2.2.2.2.2 27 = some (.aaload, 1, 0, 0, 0, 0, 0) := rfl
set_option maxRecDepth 20000 in
theorem ja_C_text_28 : jv_at jm_C_text.2.2.2.2.2.2 28 = some (.invokevirtual 111, 3, 20, 0, 418, 7, 1) := rfl
set_option maxRecDepth 20000 in
theorem ja_C_text_31 : jv_at jm_C_text.2.2.2.2.2.2 31 = some (.istore_n 1, 1, 0, 0, 0, 0, 0) := rfl
set_option maxRecDepth 20000 in
theorem ja_C_text_32 : jv_at jm_C_text.2.2.2.2.2.2 32 = some (.iload_n 1, 1, 0, 0, 0, 0, 0) := rfl
set_option maxRecDepth 20000 in
theorem ja_C_text_33 : jv_at jm_C_text.2.2.2.2.2.2 33 = some (.iconst (-1), 1, 0, 0, 0, 0, -1) := rfl
set_option maxRecDepth 20000 in
theorem ja_C_text_34 : jv_at jm_C_text.2.2.2.2.2.2 34 = some (.if_icmp .eq 8, 3, 42, 0, 0, 0, 0) := rfl
set_option maxRecDepth 20000 in
theorem ja_C_text_37 : jv_at jm_C_text.2.2.2.2.2.2 37 = some (.bipush (-100), 2, 0, 0, 0, 0, -100) := rfl
set_option maxRecDepth 20000 in
theorem ja_C_text_39 : jv_at jm_C_text.2.2.2.2.2.2 39 = some (.iload_n 1, 1, 0, 0, 0, 0, 0) := rfl
set_option maxRecDepth 20000 in
theorem ja_C_text_40 : jv_at jm_C_text.2.2.2.2.2.2 40 = some (.isub, 1, 0, 0, 0, 0, 0) := rfl
set_option maxRecDepth 20000 in
theorem ja_C_text_41 : jv_at jm_C_text.2.2.2.2.2.2 41 = some (.ireturn, 1, 0, 0, 0, 0, 0) := rfl
set_option maxRecDepth 20000 in
theorem ja_C_text_42 : jv_at jm_C_text.2.2.2.2.2.2 42 = some (.aload_n 0, 1, 0, 0, 0, 0, 0) := rfl
set_option maxRecDepth 20000 in
theorem ja_C_text_43 : jv_at jm_C_text.2.2.2.2.2.2 43 = some (.dup, 1, 0, 0, 0, 0, 0) := rfl
set_option maxRecDepth 20000 in
theorem ja_C_text_44 : jv_at jm_C_text.2.2.2.2.2.2 44 = some (.getfield 115, 3, 11, 11, 508, 0, 0) := rfl
set_option maxRecDepth 20000 in
theorem ja_C_text_47 : jv_at jm_C_text.2.2.2.2.2.2 47 = some (.iconst 1, 1, 0, 0, 0, 0, 1) := rfl
set_option maxRecDepth 20000 in
theorem ja_C_text_48 : jv_at jm_C_text.2.2.2.2.2.2 48 = some (.iadd, 1, 0, 0, 0, 0, 0) := rfl
set_option maxRecDepth 20000 in
theorem ja_C_text_49 : jv_at jm_C_text.2.2.2.2.2.2 49 = some (.putfield 115, 3, 11, 11, 508, 0, 0) := rfl
set_option maxRecDepth 20000 in
theorem ja_C_text_52 : jv_at jm_C_text.2.2.2.2.2.2 52 = some (.aload_n 0, 1, 0, 0, 0, 0, 0) := rfl
set_option maxRecDepth 20000 in
theorem ja_C_text_53 : jv_at jm_C_text.2.2.2.2.2.2 53 = some (.getfield 115, 3, 11, 11, 508, 0, 0) := rfl
set_option maxRecDepth 20000 in
theorem ja_C_text_56 : jv_at jm_C_text.2.2.2.2.2.2 56 = some (.iconst 1, 1, 0, 0, 0, 0, 1) := rfl
set_option maxRecDepth 20000 in
theorem ja_C_text_57 : jv_at jm_C_text.2.2.2.2.2.2 57 = some (.isub, 1, 0, 0, 0, 0, 0) := rfl
set_option maxRecDepth 20000 in
theorem ja_C_text_58 : jv_at jm_C_text.2.2.2.2.2.2 58 = some (.ireturn, 1, 0, 0, 0, 0, 0) := rfl
set_option maxRecDepth 20000 in
theorem ja_C_says_0 : jv_at jm_C_says.2.2.2.2.2.2 0 = some (.aload_n 0, 1, 0, 0, 0, 0, 0) := rfl
set_option maxRecDepth 20000 in
theorem ja_C_says_1 : jv_at jm_C_says.2.2.2.2.2.2 1 = some (.iload_n 1, 1, 0, 0, 0, 0, 0) := rfl
set_option maxRecDepth 20000 in
theorem ja_C_says_2 : jv_at jm_C_says.2.2.2.2.2.2 2 = some (.invokevirtual 198, 3, 72, 0, 695, 11, 1) := rfl
set_option maxRecDepth 20000 in
theorem ja_C_says_5 : jv_at jm_C_says.2.2.2.2.2.2 5 = some (.ifCond .eq 19, 3, 24, 0, 0, 0, 0) := rfl
set_option maxRecDepth 20000 in
theorem ja_C_says_8 : jv_at jm_C_says.2.2.2.2.2.2 8 = some (.iload_n 2, 1, 0, 0, 0, 0, 0) := rfl
set_option maxRecDepth 20000 in
theorem ja_C_says_9 : jv_at jm_C_says.2.2.2.2.2.2 9 = some (.ifCond .lt 15, 3, 24, 0, 0, 0, 0) := rfl
set_option maxRecDepth 20000 in
theorem ja_C_says_12 : jv_at jm_C_says.2.2.2.2.2.2 12 = some (.iload_n 2, 1, 0, 0, 0, 0, 0) := rfl
set_option maxRecDepth 20000 in
theorem ja_C_says_13 : jv_at jm_C_says.2.2.2.2.2.2 13 = some (.iconst 4, 1, 0, 0, 0, 0, 4) := rfl
set_option maxRecDepth 20000 in
theorem ja_C_says_14 : jv_at jm_C_says.2.2.2.2.2.2 14 = some (.if_icmp .ge 10, 3, 24, 0, 0, 0, 0) := rfl
set_option maxRecDepth 20000 in
theorem ja_C_says_17 : jv_at jm_C_says.2.2.2.2.2.2 17 = some (.iload_n 3, 1, 0, 0, 0, 0, 0) := rfl
set_option maxRecDepth 20000 in
theorem ja_C_says_18 : jv_at jm_C_says.2.2.2.2.2.2 18 = some (.invokestatic 201, 3, 73, 1, 699, 11, 1) := rfl
set_option maxRecDepth 20000 in
theorem ja_C_says_21 : jv_at jm_C_says.2.2.2.2.2.2 21 = some (.ifCond .ne 7, 3, 28, 0, 0, 0, 0) := rfl
set_option maxRecDepth 20000 in
theorem ja_C_says_24 : jv_at jm_C_says.2.2.2.2.2.2 24 = some (.ldc2_w 183, 3, 0, 0, 660, 0, -4611686018427387904) := rfl
set_option maxRecDepth 20000 in
theorem ja_C_says_27 : jv_at jm_C_says.2.2.2.2.2.2 27 = some (.lreturn, 1, 0, 0, 0, 0, 0) := rfl
set_option maxRecDepth 20000 in
theorem ja_C_says_28 : jv_at jm_C_says.2.2.2.2.2.2 28 = some (.iload 4, 2, 0, 0, 0, 0, 0) := rfl
set_option maxRecDepth 20000 in
theorem ja_C_says_30 : jv_at jm_C_says.2.2.2.2.2.2 30 = some (.ifCond .lt 9, 3, 39, 0, 0, 0, 0) := rfl
set_option maxRecDepth 20000 in
theorem ja_C_says_33 : jv_at jm_C_says.2.2.2.2.2.2 33 = some (.iload 4, 2, 0, 0, 0, 0, 0) := rfl
set_option maxRecDepth 20000 in
theorem ja_C_says_35 : jv_at jm_C_says.2.2.2.2.2.2 35 = some (.iconst 3, 1, 0, 0, 0, 0, 3) := rfl
set_option maxRecDepth 20000 in
theorem ja_C_says_36 : jv_at jm_C_says.2.2.2.2.2.2 36 = some (.if_icmp .le 7, 3, 43, 0, 0, 0, 0) := rfl
set_option maxRecDepth 20000 in
theorem ja_C_says_39 : jv_at jm_C_says.2.2.2.2.2.2 39 = some (.ldc2_w 183, 3, 0, 0, 660, 0, -4611686018427387904) := rfl
set_option maxRecDepth 20000 in
theorem ja_C_says_42 : jv_at jm_C_says.2.2.2.2.2.2 42 = some (.lreturn, 1, 0, 0, 0, 0, 0) := rfl
set_option maxRecDepth 20000 in
theorem ja_C_says_43 : jv_at jm_C_says.2.2.2.2.2.2 43 = some (.iload 5, 2, 0, 0, 0, 0, 0) := rfl
set_option maxRecDepth 20000 in
theorem ja_C_says_45 : jv_at jm_C_says.2.2.2.2.2.2 45 = some (.ifCond .lt 22, 3, 67, 0, 0, 0, 0) := rfl
set_option maxRecDepth 20000 in
theorem ja_C_says_48 : jv_at jm_C_says.2.2.2.2.2.2 48 = some (.iload 5, 2, 0, 0, 0, 0, 0) := rfl
set_option maxRecDepth 20000 in
theorem ja_C_says_50 : jv_at jm_C_says.2.2.2.2.2.2 50 = some (.bipush 15, 2, 0, 0, 0, 0, 15) := rfl
set_option maxRecDepth 20000 in
theorem ja_C_says_52 : jv_at jm_C_says.2.2.2.2.2.2 52 = some (.if_icmp .gt 15, 3, 67, 0, 0, 0, 0) := rfl
set_option maxRecDepth 20000 in
theorem ja_C_says_55 : jv_at jm_C_says.2.2.2.2.2.2 55 = some (.iload 6, 2, 0, 0, 0, 0, 0) := rfl
set_option maxRecDepth 20000 in
theorem ja_C_says_57 : jv_at jm_C_says.2.2.2.2.2.2 57 = some (.ifCond .lt 10, 3, 67, 0, 0, 0, 0) := rfl
set_option maxRecDepth 20000 in
theorem ja_C_says_60 : jv_at jm_C_says.2.2.2.2.2.2 60 = some (.iload 6, 2, 0, 0, 0, 0, 0) := rfl
set_option maxRecDepth 20000 in
theorem ja_C_says_62 : jv_at jm_C_says.2.2.2.2.2.2 62 = some (.bipush 15, 2, 0, 0, 0, 0, 15) := rfl
set_option maxRecDepth 20000 in
theorem ja_C_says_64 : jv_at jm_C_says.2.2.2.2.2.2 64 = some (.if_icmp .le 7, 3, 71, 0, 0, 0, 0) := rfl
set_option maxRecDepth 20000 in
theorem ja_C_says_67 : jv_at jm_C_says.2.2.2.2.2.2 67 = some (.ldc2_w 183, 3, 0, 0, 660, 0, -4611686018427387904) := rfl
set_option maxRecDepth 20000 in
theorem ja_C_says_70 : jv_at jm_C_says.2.2.2.2.2.2 70 = some (.lreturn, 1, 0, 0, 0, 0, 0) := rfl
set_option maxRecDepth 20000 in
theorem ja_C_says_71 : jv_at jm_C_says.2.2.2.2.2.2 71 = some (.aload_n 0, 1, 0, 0, 0, 0, 0) := rfl
set_option maxRecDepth 20000 in
theorem ja_C_says_72 : jv_at jm_C_says.2.2.2.2.2.2 72 = some (.getfield 71, 3, 11, 14, 511, 0, 0) := rfl
set_option maxRecDepth 20000 in
theorem ja_C_says_75 : jv_at jm_C_says.2.2.2.2.2.2 75 = some (.iload_n 3, 1, 0, 0, 0, 0, 0) := rfl
set_option maxRecDepth 20000 in
theorem ja_C_says_76 : jv_at jm_C_says.2.2.2.2.2.2 76 = some (.iload 4, 2, 0, 0, 0, 0, 0) := rfl
set_option maxRecDepth 20000 in
theorem ja_C_says_78 : jv_at jm_C_says.2.2.2.2.2.2 78 = some (.aload_n 0, 1, 0, 0, 0, 0, 0) := rfl
set_option maxRecDepth 20000 in
theorem ja_C_says_79 : jv_at jm_C_says.2.2.2.2.2.2 79 = some (.getfield 43, 3, 11, 8, 505, 0, 0) := rfl
set_option maxRecDepth 20000 in
theorem ja_C_says_82 : jv_at jm_C_says.2.2.2.2.2.2 82 = some (.getfield 204, 3, 6, 0, 182, 0, 0) := rfl
set_option maxRecDepth 20000 in
theorem ja_C_says_85 : jv_at jm_C_says.2.2.2.2.2.2 85 = some (.iload 5, 2, 0, 0, 0, 0, 0) := rfl
set_option maxRecDepth 20000 in
theorem ja_C_says_87 : jv_at jm_C_says.2.2.2.2.2.2 87 = some (.iload 6, 2, 0, 0, 0, 0, 0) := rfl
set_option maxRecDepth 20000 in
theorem ja_C_says_89 : jv_at jm_C_says.2.2.2.2.2.2 89 = some (.invokevirtual 205, 3, 74, 0, 702, 4, 5) := rfl
set_option maxRecDepth 20000 in
theorem ja_C_says_92 : jv_at jm_C_says.2.2.2.2.2.2 92 = some (.aload_n 0, 1, 0, 0, 0, 0, 0) := rfl
set_option maxRecDepth 20000 in
theorem ja_C_says_93 : jv_at jm_C_says.2.2.2.2.2.2 93 = some (.iload_n 1, 1, 0, 0, 0, 0, 0) := rfl
set_option maxRecDepth 20000 in
theorem ja_C_says_94 : jv_at jm_C_says.2.2.2.2.2.2 94 = some (.iload_n 2, 1, 0, 0, 0, 0, 0) := rfl
set_option maxRecDepth 20000 in
theorem ja_C_says_95 : jv_at jm_C_says.2.2.2.2.2.2 95 = some (.invokevirtual 209, 3, 75, 0, 706, 11, 2) := rfl
set_option maxRecDepth 20000 in
theorem ja_C_says_98 : jv_at jm_C_says.2.2.2.2.2.2 98 = some (.i2l, 1, 0, 0, 0, 0, 0) := rfl
set_option maxRecDepth 20000 in
theorem ja_C_says_99 : jv_at jm_C_says.2.2.2.2.2.2 99 = some (.lreturn, 1, 0, 0, 0, 0, 0) := rfl
set_option maxRecDepth 20000 in
theorem ja_C_isText_0 : jv_at jm_C_isText.2.2.2.2.2.2 0 = some (.iload_n 1, 1, 0, 0, 0, 0, 0) := rfl
set_option maxRecDepth 20000 in
theorem ja_C_isText_1 : jv_at jm_C_isText.2.2.2.2.2.2 1 = some (.ifCond .lt 24, 3, 25, 0, 0, 0, 0) := rfl
set_option maxRecDepth 20000 in
theorem ja_C_isText_4 : jv_at jm_C_isText.2.2.2.2.2.2 4 = some (.iload_n 1, 1, 0, 0, 0, 0, 0) := rfl
set_option maxRecDepth 20000 in
theorem ja_C_isText_5 : jv_at jm_C_isText.2.2.2.2.2.2 5 = some (.aload_n 0, 1, 0, 0, 0, 0, 0) := rfl
set_option maxRecDepth 20000 in
theorem ja_C_isText_6 : jv_at jm_C_isText.2.2.2.2.2.2 6 = some (.getfield 115, 3, 11, 11, 508, 0, 0) := rfl
set_option maxRecDepth 20000 in
theorem ja_C_isText_9 : jv_at jm_C_isText.2.2.2.2.2.2 9 = some (.if_icmp .ge 16, 3, 25, 0, 0, 0, 0) := rfl
set_option maxRecDepth 20000 in
theorem ja_C_isText_12 : jv_at jm_C_isText.2.2.2.2.2.2 12 = some (.iload_n 1, 1, 0, 0, 0, 0, 0) := rfl
set_option maxRecDepth 20000 in
theorem ja_C_isText_13 : jv_at jm_C_isText.2.2.2.2.2.2 13 = some (.aload_n 0, 1, 0, 0, 0, 0, 0) := rfl
set_option maxRecDepth 20000 in
theorem ja_C_isText_14 : jv_at jm_C_isText.2.2.2.2.2.2 14 = some (.getfield 56, 3, 11, 10, 507, 0, 0) := rfl
set_option maxRecDepth 20000 in
theorem ja_C_isText_17 : jv_at jm_C_isText.2.2.2.2.2.2 17 = some (.arraylength, 1, 0, 0, 0, 0, 0) := rfl
set_option maxRecDepth 20000 in
theorem ja_C_isText_18 : jv_at jm_C_isText.2.2.2.2.2.2 18 = some (.if_icmp .ge 7, 3, 25, 0, 0, 0, 0) := rfl
set_option maxRecDepth 20000 in
theorem ja_C_isText_21 : jv_at jm_C_isText.2.2.2.2.2.2 21 = some (.iconst 1, 1, 0, 0, 0, 0, 1) := rfl
set_option maxRecDepth 20000 in
theorem ja_C_isText_22 : jv_at jm_C_isText.2.2.2.2.2.2 22 = some (.goto 4, 3, 26, 0, 0, 0, 0) := rfl
set_option maxRecDepth 20000 in
theorem ja_C_isText_25 : jv_at jm_C_isText.2.2.2.2.2.2 25 = some (.iconst 0, 1, 0, 0, 0, 0, 0) := rfl
set_option maxRecDepth 20000 in
theorem ja_C_isText_26 : jv_at jm_C_isText.2.2.2.2.2.2 26 = some (.ireturn, 1, 0, 0, 0, 0, 0) := rfl
set_option maxRecDepth 20000 in
theorem ja_C_isKind_0 : jv_at jm_C_isKind.2.2.2.2.2.2 0 = some (.iload_n 0, 1, 0, 0, 0, 0, 0) := rfl
set_option maxRecDepth 20000 in
theorem ja_C_isKind_1 : jv_at jm_C_isKind.2.2.2.2.2.2 1 = some (.ifCond .lt 13, 3, 14, 0, 0, 0, 0) := rfl
set_option maxRecDepth 20000 in
theorem ja_C_isKind_4 : jv_at jm_C_isKind.2.2.2.2.2.2 4 = some (.iload_n 0, 1, 0, 0, 0, 0, 0) := rfl
set_option maxRecDepth 20000 in
theorem ja_C_isKind_5 : jv_at jm_C_isKind.2.2.2.2.2.2 5 = some (.bipush 6, 2, 0, 0, 0, 0, 6) := rfl
set_option maxRecDepth 20000 in
theorem ja_C_isKind_7 : jv_at jm_C_isKind.2.2.2.2.2.2 7 = some (.if_icmp .gt 7, 3, 14, 0, 0, 0, 0) := rfl
set_option maxRecDepth 20000 in
theorem ja_C_isKind_10 : jv_at jm_C_isKind.2.2.2.2.2.2 10 = some (.iconst 1, 1, 0, 0, 0, 0, 1) := rfl
set_option maxRecDepth 20000 in
theorem ja_C_isKind_11 : jv_at jm_C_isKind.2.2.2.2.2.2 11 = some (.goto 4, 3, 15, 0, 0, 0, 0) := rfl
set_option maxRecDepth 20000 in
theorem ja_C_isKind_14 : jv_at jm_C_isKind.2.2.2.2.2.2 14 = some (.iconst 0, 1, 0, 0, 0, 0, 0) := rfl
set_option maxRecDepth 20000 in
theorem ja_C_isKind_15 : jv_at jm_C_isKind.2.2.2.2.2.2 15 = some (.ireturn, 1, 0, 0, 0, 0, 0) := rfl
set_option maxRecDepth 20000 in
theorem ja_C_comesTo_0 : jv_at jm_C_comesTo.2.2.2.2.2.2 0 = some (.aload_n 0, 1, 0, 0, 0, 0, 0) := rfl
set_option maxRecDepth 20000 in
theorem ja_C_comesTo_1 : jv_at jm_C_comesTo.2.2.2.2.2.2 1 = some (.iload_n 1, 1, 0, 0, 0, 0, 0) := rfl
set_option maxRecDepth 20000 in
theorem ja_C_comesTo_2 : jv_at jm_C_comesTo.2.2.2.2.2.2 2 = some (.invokevirtual 198, 3, 72, 0, 695, 11, 1) := rfl
set_option maxRecDepth 20000 in
theorem ja_C_comesTo_5 : jv_at jm_C_comesTo.2.2.2.2.2.2 5 = some (.ifCond .ne 5, 3, 10, 0, 0, 0, 0) := rfl
set_option maxRecDepth 20000 in
theorem ja_C_comesTo_8 : jv_at jm_C_comesTo.2.2.2.2.2.2 8 = some (.iconst 0, 1, 0, 0, 0, 0, 0) := rfl
set_option maxRecDepth 20000 in
theorem ja_C_comesTo_9 : jv_at jm_C_comesTo.2.2.2.2.2.2 9 = some (.ireturn, 1, 0, 0, 0, 0, 0) := rfl
set_option maxRecDepth 20000 in
theorem ja_C_comesTo_10 : jv_at jm_C_comesTo.2.2.2.2.2.2 10 = some (.aload_n 0, 1, 0, 0, 0, 0, 0) := rfl
set_option maxRecDepth 20000 in
theorem ja_C_comesTo_11 : jv_at jm_C_comesTo.2.2.2.2.2.2 11 = some (.getfield 71, 3, 11, 14, 511, 0, 0) := rfl
set_option maxRecDepth 20000 in
theorem ja_C_comesTo_14 : jv_at jm_C_comesTo.2.2.2.2.2.2 14 = some (.aload_n 0, 1, 0, 0, 0, 0, 0) := rfl
set_option maxRecDepth 20000 in
theorem ja_C_comesTo_15 : jv_at jm_C_comesTo.2.2.2.2.2.2 15 = some (.getfield 212, 3, 11, 19, 516, 0, 0) := rfl
set_option maxRecDepth 20000 in
theorem ja_C_comesTo_18 : jv_at jm_C_comesTo.2.2.2.2.2.2 18 = some (.aload_n 0, 1, 0, 0, 0, 0, 0) := rfl
set_option maxRecDepth 20000 in
theorem ja_C_comesTo_19 : jv_at jm_C_comesTo.2.2.2.2.2.2 19 = some (.invokevirtual 215, 3, 76, 0, 710, 11, 0) := rfl
set_option maxRecDepth 20000 in
theorem ja_C_comesTo_22 : jv_at jm_C_comesTo.2.2.2.2.2.2 22 = some (.aload_n 0, 1, 0, 0, 0, 0, 0) := rfl
set_option maxRecDepth 20000 in
theorem ja_C_comesTo_23 : jv_at jm_C_comesTo.2.2.2.2.2.2 23 = some (.getfield 118, 3, 11, 1, 498, 0, 0) := rfl
set_option maxRecDepth 20000 in
theorem ja_C_comesTo_26 : jv_at jm_C_comesTo.2.2.2.2.2.2 26 = some (.invokevirtual 218, 3, 77, 0, 714, 4, 3) := rfl
set_option maxRecDepth 20000 in
theorem ja_C_comesTo_29 : jv_at jm_C_comesTo.2.2.2.2.2.2 29 = some (.aload_n 0, 1, 0, 0, 0, 0, 0) := rfl
set_option maxRecDepth 20000 in
theorem ja_C_comesTo_30 : jv_at jm_C_comesTo.2.2.2.2.2.2 30 = some (.getfield 71, 3, 11, 14, 511, 0, 0) := rfl
set_option maxRecDepth 20000 in
theorem ja_C_comesTo_33 : jv_at jm_C_comesTo.2.2.2.2.2.2 33 = some (.aload_n 0, 1, 0, 0, 0, 0, 0) := rfl
set_option maxRecDepth 20000 in
theorem ja_C_comesTo_34 : jv_at jm_C_comesTo.2.2.2.2.2.2 34 = some (.getfield 56, 3, 11, 10, 507, 0, 0) := rfl
set_option maxRecDepth 20000 in
theorem ja_C_comesTo_37 : jv_at jm_C_comesTo.2.2.2.2.2.2 37 = some (.iload_n 1, 1, 0, 0, 0, 0, 0) := rfl
set_option maxRecDepth 20000 in
theorem ja_C_comesTo_38 : jv_at jm_C_comesTo.2.2.2.2.2.2 38 = some (.aaload, 1, 0, 0, 0, 0, 0) := rfl
set_option maxRecDepth 20000 in
theorem ja_C_comesTo_39 : jv_at jm_C_comesTo.2.2.2.2.2.2 39 = some (.iload_n 2, 1, 0, 0, 0, 0, 0) := rfl
set_option maxRecDepth 20000 in
theorem ja_C_comesTo_40 : jv_at jm_C_comesTo.2.2.2.2.2.2 40 = some (.invokevirtual 222, 3, 78, 0, 718, 4, 2) := rfl
set_option maxRecDepth 20000 in
theorem ja_C_comesTo_43 : jv_at jm_C_comesTo.2.2.2.2.2.2 43 = some (.ireturn, 1, 0, 0, 0, 0, 0) := rfl
set_option maxRecDepth 20000 in
theorem ja_C_countThere_0 : jv_at jm_C_countThere.2.2.2.2.2.2 0 = some (.iconst 0, 1, 0, 0, 0, 0, 0) := rfl
set_option maxRecDepth 20000 in
theorem ja_C_countThere_1 : jv_at jm_C_countThere.2.2.2.2.2.2 1 = some (.istore_n 1, 1, 0, 0, 0, 0, 0) := rfl
set_option maxRecDepth 20000 in
theorem ja_C_countThere_2 : jv_at jm_C_countThere.2.2.2.2.2.2 2 = some (.iconst 0, 1, 0, 0, 0, 0, 0) := rfl
set_option maxRecDepth 20000 in
theorem ja_C_countThere_3 : jv_at jm_C_countThere.2.2.2.2.2.2 3 = some (.istore_n 2, 1, 0, 0, 0, 0, 0) := rfl
set_option maxRecDepth 20000 in
theorem ja_C_countThere_4 : jv_at jm_C_countThere.2.2.2.2.2.2 4 = some (.iload_n 2, 1, 0, 0, 0, 0, 0) := rfl
set_option maxRecDepth 20000 in
theorem ja_C_countThere_5 : jv_at jm_C_countThere.2.2.2.2.2.2 5 = some (.aload_n 0, 1, 0, 0, 0, 0, 0) := rfl
set_option maxRecDepth 20000 in
theorem ja_C_countThere_6 : jv_at jm_C_countThere.2.2.2.2.2.2 6 = some (.getfield 118, 3, 11, 1, 498, 0, 0) := rfl
set_option maxRecDepth 20000 in
theorem ja_C_countThere_9 : jv_at jm_C_countThere.2.2.2.2.2.2 9 = some (.if_icmp .ge 33, 3, 42, 0, 0, 0, 0) := rfl
set_option maxRecDepth 20000 in
theorem ja_C_countThere_12 : jv_at jm_C_countThere.2.2.2.2.2.2 12 = some (.iload_n 2, 1, 0, 0, 0, 0, 0) := rfl
set_option maxRecDepth 20000 in
theorem ja_C_countThere_13 : jv_at jm_C_countThere.2.2.2.2.2.2 13 = some (.aload_n 0, 1, 0, 0, 0, 0, 0) := rfl
set_option maxRecDepth 20000 in
theorem ja_C_countThere_14 : jv_at jm_C_countThere.2.2.2.2.2.2 14 = some (.getfield 11, 3, 11, 0, 497, 0, 0) := rfl
set_option maxRecDepth 20000 in
theorem ja_C_countThere_17 : jv_at jm_C_countThere.2.2.2.2.2.2 17 = some (.arraylength, 1, 0, 0, 0, 0, 0) := rfl
set_option maxRecDepth 20000 in
theorem ja_C_countThere_18 : jv_at jm_C_countThere.2.2.2.2.2.2 18 = some (.if_icmp .ge 24, 3, 42, 0, 0, 0, 0) := rfl
set_option maxRecDepth 20000 in
theorem ja_C_countThere_21 : jv_at jm_C_countThere.2.2.2.2.2.2 21 = some (.aload_n 0, 1, 0, 0, 0, 0, 0) := rfl
set_option maxRecDepth 20000 in
theorem ja_C_countThere_22 : jv_at jm_C_countThere.2.2.2.2.2.2 22 = some (.getfield 11, 3, 11, 0, 497, 0, 0) := rfl
set_option maxRecDepth 20000 in
theorem ja_C_countThere_25 : jv_at jm_C_countThere.2.2.2.2.2.2 25 = some (.iload_n 2, 1, 0, 0, 0, 0, 0) := rfl
set_option maxRecDepth 20000 in
theorem ja_C_countThere_26 : jv_at jm_C_countThere.2.2.2.2.2.2 26 = some (.aaload, 1, 0, 0, 0, 0, 0) := rfl
set_option maxRecDepth 20000 in
theorem ja_C_countThere_27 : jv_at jm_C_countThere.2.2.2.2.2.2 27 = some (.getfield 135, 3, 5, 1, 119, 0, 0) := rfl
set_option maxRecDepth 20000 in
theorem ja_C_countThere_30 : jv_at jm_C_countThere.2.2.2.2.2.2 30 = some (.ifCond .eq 6, 3, 36, 0, 0, 0, 0) := rfl
set_option maxRecDepth 20000 in
theorem ja_C_countThere_33 : jv_at jm_C_countThere.2.2.2.2.2.2 33 = some (.iinc 1 1, 3, 0, 0, 0, 0, 0) := rfl
set_option maxRecDepth 20000 in
theorem ja_C_countThere_36 : jv_at jm_C_countThere.2.2.2.2.2.2 36 = some (.iinc 2 1, 3, 0, 0, 0, 0, 0) := rfl
set_option maxRecDepth 20000 in
theorem ja_C_countThere_39 : jv_at jm_C_countThere.2.2.2.2.2.2 39 = some (.goto (-35), 3, 4, 0, 0, 0, 0) := rfl
set_option maxRecDepth 20000 in
theorem ja_C_countThere_42 : jv_at jm_C_countThere.2.2.2.2.2.2 42 = some (.iload_n 1, 1, 0, 0, 0, 0, 0) := rfl
set_option maxRecDepth 20000 in
theorem ja_C_countThere_43 : jv_at jm_C_countThere.2.2.2.2.2.2 43 = some (.ireturn, 1, 0, 0, 0, 0, 0) := rfl
set_option maxRecDepth 20000 in
theorem ja_C_act_0 : jv_at jm_C_act.2.2.2.2.2.2 0 = some (.aload_n 0, 1, 0, 0, 0, 0, 0) := rfl
set_option maxRecDepth 20000 in
theorem ja_C_act_1 : jv_at jm_C_act.2.2.2.2.2.2 1 = some (.iload_n 1, 1, 0, 0, 0, 0, 0) := rfl
set_option maxRecDepth 20000 in
theorem ja_C_act_2 : jv_at jm_C_act.2.2.2.2.2.2 2 = some (.iload_n 2, 1, 0, 0, 0, 0, 0) := rfl
set_option maxRecDepth 20000 in
theorem ja_C_act_3 : jv_at jm_C_act.2.2.2.2.2.2 3 = some (.iload_n 3, 1, 0, 0, 0, 0, 0) := rfl
set_option maxRecDepth 20000 in
theorem ja_C_act_4 : jv_at jm_C_act.2.2.2.2.2.2 4 = some (.iload 4, 2, 0, 0, 0, 0, 0) := rfl
set_option maxRecDepth 20000 in
theorem ja_C_act_6 : jv_at jm_C_act.2.2.2.2.2.2 6 = some (.invokevirtual 232, 3, 81, 0, 729, 11, 4) := rfl
set_option maxRecDepth 20000 in
theorem ja_C_act_9 : jv_at jm_C_act.2.2.2.2.2.2 9 = some (.istore 5, 2, 0, 0, 0, 0, 0) := rfl
set_option maxRecDepth 20000 in
theorem ja_C_act_11 : jv_at jm_C_act.2.2.2.2.2.2 11 = some (.iload 5, 2, 0, 0, 0, 0, 0) := rfl
set_option maxRecDepth 20000 in
theorem ja_C_act_13 : jv_at jm_C_act.2.2.2.2.2.2 13 = some (.ifCond .ge 6, 3, 19, 0, 0, 0, 0) := rfl
set_option maxRecDepth 20000 in
theorem ja_C_act_16 : jv_at jm_C_act.2.2.2.2.2.2 16 = some (.iload 5, 2, 0, 0, 0, 0, 0) := rfl
set_option maxRecDepth 20000 in
theorem ja_C_act_18 : jv_at jm_C_act.2.2.2.2.2.2 18 = some (.ireturn, 1, 0, 0, 0, 0, 0) := rfl
set_option maxRecDepth 20000 in
theorem ja_C_act_19 : jv_at jm_C_act.2.2.2.2.2.2 19 = some (.iload 5, 2, 0, 0, 0, 0, 0) := rfl
set_option maxRecDepth 20000 in
theorem ja_C_act_21 : jv_at jm_C_act.2.2.2.2.2.2 21 = some (.ifCond .le 9, 3, 30, 0, 0, 0, 0) := rfl
set_option maxRecDepth 20000 in
theorem ja_C_act_24 : jv_at jm_C_act.2.2.2.2.2.2 24 = some (.bipush (-20), 2, 0, 0, 0, 0, -20) := rfl
set_option maxRecDepth 20000 in
theorem ja_C_act_26 : jv_at jm_C_act.2.2.2.2.2.2 26 = some (.iload 5, 2, 0, 0, 0, 0, 0) := rfl
set_option maxRecDepth 20000 in
theorem ja_C_act_28 : jv_at jm_C_act.2.2.2.2.2.2 28 = some (.isub, 1, 0, 0, 0, 0, 0) := rfl
set_option maxRecDepth 20000 in
theorem ja_C_act_29 : jv_at jm_C_act.2.2.2.2.2.2 29 = some (.ireturn, 1, 0, 0, 0, 0, 0) := rfl
set_option maxRecDepth 20000 in
theorem ja_C_act_30 : jv_at jm_C_act.2.2.2.2.2.2 30 = some (.aload_n 0, 1, 0, 0, 0, 0, 0) := rfl
set_option maxRecDepth 20000 in
theorem ja_C_act_31 : jv_at jm_C_act.2.2.2.2.2.2 31 = some (.getfield 43, 3, 11, 8, 505, 0, 0) := rfl
set_option maxRecDepth 20000 in
theorem ja_C_act_34 : jv_at jm_C_act.2.2.2.2.2.2 34 = some (.iload_n 1, 1, 0, 0, 0, 0, 0) := rfl
set_option maxRecDepth 20000 in
theorem ja_C_act_35 : jv_at jm_C_act.2.2.2.2.2.2 35 = some (.iload_n 2, 1, 0, 0, 0, 0, 0) := rfl
set_option maxRecDepth 20000 in
theorem ja_C_act_36 : jv_at jm_C_act.2.2.2.2.2.2 36 = some (.iload_n 1, 1, 0, 0, 0, 0, 0) := rfl
set_option maxRecDepth 20000 in
theorem ja_C_act_37 : jv_at jm_C_act.2.2.2.2.2.2 37 = some (.invokestatic 236, 3, 83, 1, 736, 11, 1) := rfl
set_option maxRecDepth 20000 in
theorem ja_C_act_40 : jv_at jm_C_act.2.2.2.2.2.2 40 = some (.ifCond .eq 7, 3, 47, 0, 0, 0, 0) := rfl
set_option maxRecDepth 20000 in
theorem ja_C_act_43 : jv_at jm_C_act.2.2.2.2.2.2 43 = some (.iload_n 3, 1, 0, 0, 0, 0, 0) := rfl
set_option maxRecDepth 20000 in
theorem ja_C_act_44 : jv_at jm_C_act.2.2.2.2.2.2 44 = some (.goto 4, 3, 48, 0, 0, 0, 0) := rfl
set_option maxRecDepth 20000 in
theorem ja_C_act_47 : jv_at jm_C_act.2.2.2.2.2.2 47 = some (.iconst (-1), 1, 0, 0, 0, 0, -1) := rfl
set_option maxRecDepth 20000 in
theorem ja_C_act_48 : jv_at jm_C_act.2.2.2.2.2.2 48 = some (.iload_n 1, 1, 0, 0, 0, 0, 0) := rfl
set_option maxRecDepth 20000 in
theorem ja_C_act_49 : jv_at jm_C_act.2.2.2.2.2.2 49 = some (.invokestatic 239, 3, 82, 1, 733, 11, 1) := rfl
set_option maxRecDepth 20000 in
theorem ja_C_act_52 : jv_at jm_C_act.2.2.2.2.2.2 52 = some (.ifCond .ne 9, 3, 61, 0, 0, 0, 0) := rfl
set_option maxRecDepth 20000 in
theorem ja_C_act_55 : jv_at jm_C_act.2.2.2.2.2.2 55 = some (.iload_n 1, 1, 0, 0, 0, 0, 0) := rfl
set_option maxRecDepth 20000 in
theorem ja_C_act_56 : jv_at jm_C_act.2.2.2.2.2.2 56 = some (.bipush 6, 2, 0, 0, 0, 0, 6) := rfl
set_option maxRecDepth 20000 in
theorem ja_C_act_58 : jv_at jm_C_act.2.2.2.2.2.2 58 = some (.if_icmp .ne 8, 3, 66, 0, 0, 0, 0) := rfl
set_option maxRecDepth 20000 in
theorem ja_C_act_61 : jv_at jm_C_act.2.2.2.2.2.2 61 = some (.iload 4, 2, 0, 0, 0, 0, 0) := rfl
set_option maxRecDepth 20000 in
theorem ja_C_act_63 : jv_at jm_C_act.2.2.2.2.2.2 63 = some (.goto 4, 3, 67, 0, 0, 0, 0) := rfl
set_option maxRecDepth 20000 in
theorem ja_C_act_66 : jv_at jm_C_act.2.2.2.2.2.2 66 = some (.iconst (-1), 1, 0, 0, 0, 0, -1) := rfl
set_option maxRecDepth 20000 in
theorem ja_C_act_67 : jv_at jm_C_act.2.2.2.2.2.2 67 = some (.invokevirtual 242, 3, 90, 0, 763, 6, 4) := rfl
set_option maxRecDepth 20000 in
theorem ja_C_act_70 : jv_at jm_C_act.2.2.2.2.2.2 70 = some (.aload_n 0, 1, 0, 0, 0, 0, 0) := rfl
set_option maxRecDepth 20000 in
theorem ja_C_act_71 : jv_at jm_C_act.2.2.2.2.2.2 71 = some (.dup, 1, 0, 0, 0, 0, 0) := rfl
set_option maxRecDepth 20000 in
theorem ja_C_act_72 : jv_at jm_C_act.2.2.2.2.2.2 72 = some (.getfield 212, 3, 11, 19, 516, 0, 0) := rfl
set_option maxRecDepth 20000 in
theorem ja_C_act_75 : jv_at jm_C_act.2.2.2.2.2.2 75 = some (.iconst 1, 1, 0, 0, 0, 0, 1) := rfl
set_option maxRecDepth 20000 in
theorem ja_C_act_76 : jv_at jm_C_act.2.2.2.2.2.2 76 = some (.iadd, 1, 0, 0, 0, 0, 0) := rfl
set_option maxRecDepth 20000 in
theorem ja_C_act_77 : jv_at jm_C_act.2.2.2.2.2.2 77 = some (.putfield 212, 3, 11, 19, 516, 0, 0) := rfl
set_option maxRecDepth 20000 in
theorem ja_C_act_80 : jv_at jm_C_act.2.2.2.2.2.2 80 = some (.aload_n 0, 1, 0, 0, 0, 0, 0) := rfl
set_option maxRecDepth 20000 in
theorem ja_C_act_81 : jv_at jm_C_act.2.2.2.2.2.2 81 = some (.getfield 43, 3, 11, 8, 505, 0, 0) := rfl
set_option maxRecDepth 20000 in
theorem ja_C_act_84 : jv_at jm_C_act.2.2.2.2.2.2 84 = some (.getfield 204, 3, 6, 0, 182, 0, 0) := rfl
set_option maxRecDepth 20000 in
theorem ja_C_act_87 : jv_at jm_C_act.2.2.2.2.2.2 87 = some (.ireturn, 1, 0, 0, 0, 0, 0) := rfl
set_option maxRecDepth 20000 in
theorem ja_C_hindrance_0 : jv_at jm_C_hindrance.2.2.2.2.2.2 0 = some (.iload_n 1, 1, 0, 0, 0, 0, 0) := rfl
set_option maxRecDepth 20000 in
theorem ja_C_hindrance_1 : jv_at jm_C_hindrance.2.2.2.2.2.2 1 = some (.invokestatic 201, 3, 73, 1, 699, 11, 1) := rfl
set_option maxRecDepth 20000 in
theorem ja_C_hindrance_4 : jv_at jm_C_hindrance.2.2.2.2.2.2 4 = some (.ifCond .eq 11, 3, 15, 0, 0, 0, 0) := rfl
set_option maxRecDepth 20000 in
theorem ja_C_hindrance_7 : jv_at jm_C_hindrance.2.2.2.2.2.2 7 = some (.aload_n 0, 1, 0, 0, 0, 0, 0) := rfl
set_option maxRecDepth 20000 in
theorem ja_C_hindrance_8 : jv_at jm_C_hindrance.2.2.2.2.2.2 8 = some (.iload_n 2, 1, 0, 0, 0, 0, 0) := rfl
set_option maxRecDepth 20000 in
theorem ja_C_hindrance_9 : jv_at jm_C_hindrance.2.2.2.2.2.2 9 = some (.invokevirtual 124, 3, 41, 0, 567, 11, 1) := rfl
set_option maxRecDepth 20000 in
theorem ja_C_hindrance_12 : jv_at jm_C_hindrance.2.2.2.2.2.2 12 = some (.ifCond .ne 6, 3, 18, 0, 0, 0, 0) := rfl
set_option maxRecDepth 20000 in
theorem ja_C_hindrance_15 : jv_at jm_C_hindrance.2.2.2.2.2.2 15 = some (.bipush (-2), 2, 0, 0, 0, 0, -2) := rfl
set_option maxRecDepth 20000 in
theorem ja_C_hindrance_17 : jv_at jm_C_hindrance.2.2.2.2.2.2 17 = some (.ireturn, 1, 0, 0, 0, 0, 0) := rfl
set_option maxRecDepth 20000 in
theorem ja_C_hindrance_18 : jv_at jm_C_hindrance.2.2.2.2.2.2 18 = some (.iload_n 1, 1, 0, 0, 0, 0, 0) := rfl
set_option maxRecDepth 20000 in
theorem ja_C_hindrance_19 : jv_at jm_C_hindrance.2.2.2.2.2.2 19 = some (.invokestatic 239, 3, 82, 1, 733, 11, 1) := rfl
set_option maxRecDepth 20000 in
theorem ja_C_hindrance_22 : jv_at jm_C_hindrance.2.2.2.2.2.2 22 = some (.ifCond .eq 11, 3, 33, 0, 0, 0, 0) := rfl
set_option maxRecDepth 20000 in
theorem ja_C_hindrance_25 : jv_at jm_C_hindrance.2.2.2.2.2.2 25 = some (.iload 4, 2, 0, 0, 0, 0, 0) := rfl
set_option maxRecDepth 20000 in
theorem ja_C_hindrance_27 : jv_at jm_C_hindrance.2.2.2.2.2.2 27 = some (.invokestatic 128, 3, 42, 1, 571, 11, 1) := rfl
set_option maxRecDepth 20000 in
theorem ja_C_hindrance_30 : jv_at jm_C_hindrance.2.2.2.2.2.2 30 = some (.ifCond .eq 18, 3, 48, 0, 0, 0, 0) := rfl
set_option maxRecDepth 20000 in
theorem ja_C_hindrance_33 : jv_at jm_C_hindrance.2.2.2.2.2.2 33 = some (.iload_n 1, 1, 0, 0, 0, 0, 0) := rfl
set_option maxRecDepth 20000 in
theorem ja_C_hindrance_34 : jv_at jm_C_hindrance.2.2.2.2.2.2 34 = some (.bipush 6, 2, 0, 0, 0, 0, 6) := rfl
set_option maxRecDepth 20000 in
theorem ja_C_hindrance_36 : jv_at jm_C_hindrance.2.2.2.2.2.2 36 = some (.if_icmp .ne 15, 3, 51, 0, 0, 0, 0) := rfl
set_option maxRecDepth 20000 in
theorem ja_C_hindrance_39 : jv_at jm_C_hindrance.2.2.2.2.2.2 39 = some (.aload_n 0, 1, 0, 0, 0, 0, 0) := rfl
set_option maxRecDepth 20000 in
theorem ja_C_hindrance_40 : jv_at jm_C_hindrance.2.2.2.2.2.2 40 = some (.iload 4, 2, 0, 0, 0, 0, 0) := rfl
set_option maxRecDepth 20000 in
theorem ja_C_hindrance_42 : jv_at jm_C_hindrance.2.2.2.2.2.2 42 = some (.invokevirtual 198, 3, 72, 0, 695, 11, 1) := rfl
set_option maxRecDepth 20000 in
theorem ja_C_hindrance_45 : jv_at jm_C_hindrance.2.2.2.2.2.2 45 = some (.ifCond .ne 6, 3, 51, 0, 0, 0, 0) := rfl
set_option maxRecDepth 20000 in
theorem ja_C_hindrance_48 : jv_at jm_C_hindrance.2.2.2.2.2.2 48 = some (.bipush (-2), 2, 0, 0, 0, 0, -2) := rfl
set_option maxRecDepth 20000 in
theorem ja_C_hindrance_50 : jv_at jm_C_hindrance.2.2.2.2.2.2 50 = some (.ireturn, 1, 0, 0, 0, 0, 0) := rfl
set_option maxRecDepth 20000 in
theorem ja_C_hindrance_51 : jv_at jm_C_hindrance.2.2.2.2.2.2 51 = some (.iload_n 1, 1, 0, 0, 0, 0, 0) := rfl
set_option maxRecDepth 20000 in
theorem ja_C_hindrance_52 : jv_at jm_C_hindrance.2.2.2.2.2.2 52 = some (.invokestatic 236, 3, 83, 1, 736, 11, 1) := rfl
set_option maxRecDepth 20000 in
theorem ja_C_hindrance_55 : jv_at jm_C_hindrance.2.2.2.2.2.2 55 = some (.ifCond .eq 26, 3, 81, 0, 0, 0, 0) := rfl
set_option maxRecDepth 20000 in
theorem ja_C_hindrance_58 : jv_at jm_C_hindrance.2.2.2.2.2.2 58 = some (.aload_n 0, 1, 0, 0, 0, 0, 0) := rfl
set_option maxRecDepth 20000 in
theorem ja_C_hindrance_59 : jv_at jm_C_hindrance.2.2.2.2.2.2 59 = some (.getfield 27, 3, 11, 6, 503, 0, 0) := rfl
set_option maxRecDepth 20000 in
theorem ja_C_hindrance_62 : jv_at jm_C_hindrance.2.2.2.2.2.2 62 = some (.iconst (-1), 1, 0, 0, 0, 0, -1) := rfl
set_option maxRecDepth 20000 in
theorem ja_C_hindrance_63 : jv_at jm_C_hindrance.2.2.2.2.2.2 63 = some (.if_icmp .eq 18, 3, 81, 0, 0, 0, 0) := rfl
set_option maxRecDepth 20000 in
theorem ja_C_hindrance_66 : jv_at jm_C_hindrance.2.2.2.2.2.2 66 = some (.aload_n 0, 1, 0, 0, 0, 0, 0) := rfl
set_option maxRecDepth 20000 in
theorem ja_C_hindrance_67 : jv_at jm_C_hindrance.2.2.2.2.2.2 67 = some (.invokevirtual 246, 3, 84, 0, 739, 11, 0) := rfl
set_option maxRecDepth 20000 in
theorem ja_C_hindrance_70 : jv_at jm_C_hindrance.2.2.2.2.2.2 70 = some (.iload_n 1, 1, 0, 0, 0, 0, 0) := rfl
set_option maxRecDepth 20000 in
theorem ja_C_hindrance_71 : jv_at jm_C_hindrance.2.2.2.2.2.2 71 = some (.iload_n 3, 1, 0, 0, 0, 0, 0) := rfl
set_option maxRecDepth 20000 in
theorem ja_C_hindrance_72 : jv_at jm_C_hindrance.2.2.2.2.2.2 72 = some (.invokevirtual 250, 3, 85, 0, 743, 8, 2) := rfl
set_option maxRecDepth 20000 in
theorem ja_C_hindrance_75 : jv_at jm_C_hindrance.2.2.2.2.2.2 75 = some (.ifCond .ne 6, 3, 81, 0, 0, 0, 0) := rfl
set_option maxRecDepth 20000 in
theorem ja_C_hindrance_78 : jv_at jm_C_hindrance.2.2.2.2.2.2 78 = some (.bipush (-2), 2, 0, 0, 0, 0, -2) := rfl
set_option maxRecDepth 20000 in
theorem ja_C_hindrance_80 : jv_at jm_C_hindrance.2.2.2.2.2.2 80 = some (.ireturn, 1, 0, 0, 0, 0, 0) := rfl
set_option maxRecDepth 20000 in
theorem ja_C_hindrance_81 : jv_at jm_C_hindrance.2.2.2.2.2.2 81 = some (.aload_n 0, 1, 0, 0, 0, 0, 0) := rfl
set_option maxRecDepth 20000 in
theorem ja_C_hindrance_82 : jv_at jm_C_hindrance.2.2.2.2.2.2 82 = some (.getfield 27, 3, 11, 6, 503, 0, 0) := rfl
set_option maxRecDepth 20000 in
theorem ja_C_hindrance_85 : jv_at jm_C_hindrance.2.2.2.2.2.2 85 = some (.iconst (-1), 1, 0, 0, 0, 0, -1) := rfl
set_option maxRecDepth 20000 in
theorem ja_C_hindrance_86 : jv_at jm_C_hindrance.2.2.2.2.2.2 86 = some (.if_icmp .ne 11, 3, 97, 0, 0, 0, 0) := rfl
set_option maxRecDepth 20000 in
theorem ja_C_hindrance_89 : jv_at jm_C_hindrance.2.2.2.2.2.2 89 = some (.iload_n 1, 1, 0, 0, 0, 0, 0) := rfl
set_option maxRecDepth 20000 in
theorem ja_C_hindrance_90 : jv_at jm_C_hindrance.2.2.2.2.2.2 90 = some (.bipush 6, 2, 0, 0, 0, 0, 6) := rfl
set_option maxRecDepth 20000 in
theorem ja_C_hindrance_92 : jv_at jm_C_hindrance.2.2.2.2.2.2 92 = some (.if_icmp .eq 5, 3, 97, 0, 0, 0, 0) := rfl
set_option maxRecDepth 20000 in
theorem ja_C_hindrance_95 : jv_at jm_C_hindrance.2.2.2.2.2.2 95 = some (.iconst 1, 1, 0, 0, 0, 0, 1) := rfl
set_option maxRecDepth 20000 in
theorem ja_C_hindrance_96 : jv_at jm_C_hindrance.2.2.2.2.2.2 96 = some (.ireturn, 1, 0, 0, 0, 0, 0) := rfl
set_option maxRecDepth 20000 in
theorem ja_C_hindrance_97 : jv_at jm_C_hindrance.2.2.2.2.2.2 97 = some (.aload_n 0, 1, 0, 0, 0, 0, 0) := rfl
set_option maxRecDepth 20000 in
theorem ja_C_hindrance_98 : jv_at jm_C_hindrance.2.2.2.2.2.2 98 = some (.getfield 212, 3, 11, 19, 516, 0, 0) := rfl
set_option maxRecDepth 20000 in
theorem ja_C_hindrance_101 : jv_at jm_C_hindrance.2.2.2.2.2.2 101 = some (.bipush 100, 2, 0, 0, 0, 0, 100) := rfl
set_option maxRecDepth 20000 in
theorem ja_C_hindrance_103 : jv_at jm_C_hindrance.2.2.2.2.2.2 103 = some (.if_icmp .lt 5, 3, 108, 0, 0, 0, 0) := rfl
set_option maxRecDepth 20000 in
theorem ja_C_hindrance_106 : jv_at jm_C_hindrance.2.2.2.2.2.2 106 = some (.iconst 2, 1, 0, 0, 0, 0, 2) := rfl
set_option maxRecDepth 20000 in
theorem ja_C_hindrance_107 : jv_at jm_C_hindrance.2.2.2.2.2.2 107 = some (.ireturn, 1, 0, 0, 0, 0, 0) := rfl
set_option maxRecDepth 20000 in
theorem ja_C_hindrance_108 : jv_at jm_C_hindrance.2.2.2.2.2.2 108 = some (.aload_n 0, 1, 0, 0, 0, 0, 0) := rfl
set_option maxRecDepth 20000 in
theorem ja_C_hindrance_109 : jv_at jm_C_hindrance.2.2.2.2.2.2 109 = some (.getfield 11, 3, 11, 0, 497, 0, 0) := rfl
set_option maxRecDepth 20000 in
theorem ja_C_hindrance_112 : jv_at jm_C_hindrance.2.2.2.2.2.2 112 = some (.iload_n 2, 1, 0, 0, 0, 0, 0) := rfl
set_option maxRecDepth 20000 in
theorem ja_C_hindrance_113 : jv_at jm_C_hindrance.2.2.2.2.2.2 113 = some (.aaload, 1, 0, 0, 0, 0, 0) := rfl
set_option maxRecDepth 20000 in
theorem ja_C_hindrance_114 : jv_at jm_C_hindrance.2.2.2.2.2.2 114 = some (.getfield 135, 3, 5, 1, 119, 0, 0) := rfl
set_option maxRecDepth 20000 in
theorem ja_C_hindrance_117 : jv_at jm_C_hindrance.2.2.2.2.2.2 117 = some (.ifCond .ne 5, 3, 122, 0, 0, 0, 0) := rfl
set_option maxRecDepth 20000 in
theorem ja_C_hindrance_120 : jv_at jm_C_hindrance.2.2.2.2.2.2 120 = some (.iconst 3, 1, 0, 0, 0, 0, 3) := rfl
set_option maxRecDepth 20000 in
theorem ja_C_hindrance_121 : jv_at jm_C_hindrance.2.2.2.2.2.2 121 = some (.ireturn, 1, 0, 0, 0, 0, 0) := rfl
set_option maxRecDepth 20000 in
theorem ja_C_hindrance_122 : jv_at jm_C_hindrance.2.2.2.2.2.2 122 = some (.aload_n 0, 1, 0, 0, 0, 0, 0) := rfl
set_option maxRecDepth 20000 in
theorem ja_C_hindrance_123 : jv_at jm_C_hindrance.2.2.2.2.2.2 123 = some (.getfield 43, 3, 11, 8, 505, 0, 0) := rfl
set_option maxRecDepth 20000 in
theorem ja_C_hindrance_126 : jv_at jm_C_hindrance.2.2.2.2.2.2 126 = some (.getfield 204, 3, 6, 0, 182, 0, 0) := rfl
set_option maxRecDepth 20000 in
theorem ja_C_hindrance_129 : jv_at jm_C_hindrance.2.2.2.2.2.2 129 = some (.ifCond .ne 7, 3, 136, 0, 0, 0, 0) := rfl
set_option maxRecDepth 20000 in
theorem ja_C_hindrance_132 : jv_at jm_C_hindrance.2.2.2.2.2.2 132 = some (.iconst 1, 1, 0, 0, 0, 0, 1) := rfl
set_option maxRecDepth 20000 in
theorem ja_C_hindrance_133 : jv_at jm_C_hindrance.2.2.2.2.2.2 133 = some (.goto 4, 3, 137, 0, 0, 0, 0) := rfl
set_option maxRecDepth 20000 in
theorem ja_C_hindrance_136 : jv_at jm_C_hindrance.2.2.2.2.2.2 136 = some (.iconst 0, 1, 0, 0, 0, 0, 0) := rfl
set_option maxRecDepth 20000 in
theorem ja_C_hindrance_137 : jv_at jm_C_hindrance.2.2.2.2.2.2 137 = some (.iload_n 1, 1, 0, 0, 0, 0, 0) := rfl
set_option maxRecDepth 20000 in
theorem ja_C_hindrance_138 : jv_at jm_C_hindrance.2.2.2.2.2.2 138 = some (.ifCond .eq 9, 3, 147, 0, 0, 0, 0) := rfl
set_option maxRecDepth 20000 in
theorem ja_C_hindrance_141 : jv_at jm_C_hindrance.2.2.2.2.2.2 141 = some (.iload_n 1, 1, 0, 0, 0, 0, 0) := rfl
set_option maxRecDepth 20000 in
theorem ja_C_hindrance_142 : jv_at jm_C_hindrance.2.2.2.2.2.2 142 = some (.bipush 6, 2, 0, 0, 0, 0, 6) := rfl
set_option maxRecDepth 20000 in
theorem ja_C_hindrance_144 : jv_at jm_C_hindrance.2.2.2.2.2.2 144 = some (.if_icmp .ne 7, 3, 151, 0, 0, 0, 0) := rfl
set_option maxRecDepth 20000 in
theorem ja_C_hindrance_147 : jv_at jm_C_hindrance.2.2.2.2.2.2 147 = some (.iconst 1, 1, 0, 0, 0, 0, 1) := rfl
set_option maxRecDepth 20000 in
theorem ja_C_hindrance_148 : jv_at jm_C_hindrance.2.2.2.2.2.2 148 = some (.goto 4, 3, 152, 0, 0, 0, 0) := rfl
set_option maxRecDepth 20000 in
theorem ja_C_hindrance_151 : jv_at jm_C_hindrance.2.2.2.2.2.2 151 = some (.iconst 0, 1, 0, 0, 0, 0, 0) := rfl
set_option maxRecDepth 20000 in
theorem ja_C_hindrance_152 : jv_at jm_C_hindrance.2.2.2.2.2.2 152 = some (.if_icmp .eq 5, 3, 157, 0, 0, 0, 0) := rfl
set_option maxRecDepth 20000 in
theorem ja_C_hindrance_155 : jv_at jm_C_hindrance.2.2.2.2.2.2 155 = some (.iconst 4, 1, 0, 0, 0, 0, 4) := rfl
set_option maxRecDepth 20000 in
theorem ja_C_hindrance_156 : jv_at jm_C_hindrance.2.2.2.2.2.2 156 = some (.ireturn, 1, 0, 0, 0, 0, 0) := rfl
set_option maxRecDepth 20000 in
theorem ja_C_hindrance_157 : jv_at jm_C_hindrance.2.2.2.2.2.2 157 = some (.aload_n 0, 1, 0, 0, 0, 0, 0) := rfl
set_option maxRecDepth 20000 in
theorem ja_C_hindrance_158 : jv_at jm_C_hindrance.2.2.2.2.2.2 158 = some (.getfield 43, 3, 11, 8, 505, 0, 0) := rfl
set_option maxRecDepth 20000 in
theorem ja_C_hindrance_161 : jv_at jm_C_hindrance.2.2.2.2.2.2 161 = some (.getfield 204, 3, 6, 0, 182, 0, 0) := rfl
set_option maxRecDepth 20000 in
theorem ja_C_hindrance_164 : jv_at jm_C_hindrance.2.2.2.2.2.2 164 = some (.iconst 1, 1, 0, 0, 0, 0, 1) := rfl
set_option maxRecDepth 20000 in
theorem ja_C_hindrance_165 : jv_at jm_C_hindrance.2.2.2.2.2.2 165 = some (.isub, 1, 0, 0, 0, 0, 0) := rfl
set_option maxRecDepth 20000 in
theorem ja_C_hindrance_166 : jv_at jm_C_hindrance.2.2.2.2.2.2 166 = some (.istore 5, 2, 0, 0, 0, 0, 0) := rfl
set_option maxRecDepth 20000 in
theorem ja_C_hindrance_168 : jv_at jm_C_hindrance.2.2.2.2.2.2 168 = some (.aload_n 0, 1, 0, 0, 0, 0, 0) := rfl
set_option maxRecDepth 20000 in
theorem ja_C_hindrance_169 : jv_at jm_C_hindrance.2.2.2.2.2.2 169 = some (.getfield 43, 3, 11, 8, 505, 0, 0) := rfl
set_option maxRecDepth 20000 in
theorem ja_C_hindrance_172 : jv_at jm_C_hindrance.2.2.2.2.2.2 172 = some (.iload 5, 2, 0, 0, 0, 0, 0) := rfl
set_option maxRecDepth 20000 in
theorem ja_C_hindrance_174 : jv_at jm_C_hindrance.2.2.2.2.2.2 174 = some (.invokevirtual 254, 3, 86, 0, 747, 6, 1) := rfl
set_option maxRecDepth 20000 in
theorem ja_C_hindrance_177 : jv_at jm_C_hindrance.2.2.2.2.2.2 177 = some (.ifCond .eq 44, 3, 221, 0, 0, 0, 0) := rfl
set_option maxRecDepth 20000 in
theorem ja_C_hindrance_180 : jv_at jm_C_hindrance.2.2.2.2.2.2 180 = some (.aload_n 0, 1, 0, 0, 0, 0, 0) := rfl
set_option maxRecDepth 20000 in
theorem ja_C_hindrance_181 : jv_at jm_C_hindrance.2.2.2.2.2.2 181 = some (.iconst 0, 1, 0, 0, 0, 0, 0) := rfl
set_option maxRecDepth 20000 in
theorem ja_C_hindrance_182 : jv_at jm_C_hindrance.2.2.2.2.2.2 182 = some (.aload_n 0, 1, 0, 0, 0, 0, 0) := rfl
set_option maxRecDepth 20000 in
theorem ja_C_hindrance_183 : jv_at jm_C_hindrance.2.2.2.2.2.2 183 = some (.getfield 43, 3, 11, 8, 505, 0, 0) := rfl
set_option maxRecDepth 20000 in
theorem ja_C_hindrance_186 : jv_at jm_C_hindrance.2.2.2.2.2.2 186 = some (.getfield 256, 3, 6, 2, 185, 0, 0) := rfl
set_option maxRecDepth 20000 in
theorem ja_C_hindrance_189 : jv_at jm_C_hindrance.2.2.2.2.2.2 189 = some (.iload 5, 2, 0, 0, 0, 0, 0) := rfl
set_option maxRecDepth 20000 in
theorem ja_C_hindrance_191 : jv_at jm_C_hindrance.2.2.2.2.2.2 191 = some (.iaload, 1, 0, 0, 0, 0, 0) := rfl
set_option maxRecDepth 20000 in
theorem ja_C_hindrance_192 : jv_at jm_C_hindrance.2.2.2.2.2.2 192 = some (.aload_n 0, 1, 0, 0, 0, 0, 0) := rfl
set_option maxRecDepth 20000 in
theorem ja_C_hindrance_193 : jv_at jm_C_hindrance.2.2.2.2.2.2 193 = some (.getfield 43, 3, 11, 8, 505, 0, 0) := rfl
set_option maxRecDepth 20000 in
theorem ja_C_hindrance_196 : jv_at jm_C_hindrance.2.2.2.2.2.2 196 = some (.getfield 259, 3, 6, 3, 187, 0, 0) := rfl
set_option maxRecDepth 20000 in
theorem ja_C_hindrance_199 : jv_at jm_C_hindrance.2.2.2.2.2.2 199 = some (.iload 5, 2, 0, 0, 0, 0, 0) := rfl
set_option maxRecDepth 20000 in
theorem ja_C_hindrance_201 : jv_at jm_C_hindrance.2.2.2.2.2.2 201 = some (.iaload, 1, 0, 0, 0, 0, 0) := rfl
set_option maxRecDepth 20000 in
theorem ja_C_hindrance_202 : jv_at jm_C_hindrance.2.2.2.2.2.2 202 = some (.invokevirtual 262, 3, 87, 0, 751, 11, 3) := rfl
set_option maxRecDepth 20000 in
theorem ja_C_hindrance_205 : jv_at jm_C_hindrance.2.2.2.2.2.2 205 = some (.istore 6, 2, 0, 0, 0, 0, 0) := rfl
set_option maxRecDepth 20000 in
theorem ja_C_hindrance_207 : jv_at jm_C_hindrance.2.2.2.2.2.2 207 = some (.aload_n 0, 1, 0, 0, 0, 0, 0) := rfl
set_option maxRecDepth 20000 in
theorem ja_C_hindrance_208 : jv_at jm_C_hindrance.2.2.2.2.2.2 208 = some (.iconst 0, 1, 0, 0, 0, 0, 0) := rfl
set_option maxRecDepth 20000 in
theorem ja_C_hindrance_209 : jv_at jm_C_hindrance.2.2.2.2.2.2 209 = some (.iload_n 1, 1, 0, 0, 0, 0, 0) := rfl
set_option maxRecDepth 20000 in
theorem ja_C_hindrance_210 : jv_at jm_C_hindrance.2.2.2.2.2.2 210 = some (.iload_n 2, 1, 0, 0, 0, 0, 0) := rfl
set_option maxRecDepth 20000 in
theorem ja_C_hindrance_211 : jv_at jm_C_hindrance.2.2.2.2.2.2 211 = some (.invokevirtual 262, 3, 87, 0, 751, 11, 3) := rfl
set_option maxRecDepth 20000 in
theorem ja_C_hindrance_214 : jv_at jm_C_hindrance.2.2.2.2.2.2 214 = some (.iload 6, 2, 0, 0, 0, 0, 0) := rfl
set_option maxRecDepth 20000 in
theorem ja_C_hindrance_216 : jv_at jm_C_hindrance.2.2.2.2.2.2 216 = some (.if_icmp .gt 5, 3, 221, 0, 0, 0, 0) := rfl
set_option maxRecDepth 20000 in
theorem ja_C_hindrance_219 : jv_at jm_C_hindrance.2.2.2.2.2.2 219 = some (.iconst 5, 1, 0, 0, 0, 0, 5) := rfl
set_option maxRecDepth 20000 in
theorem ja_C_hindrance_220 : jv_at jm_C_hindrance.2.2.2.2.2.2 220 = some (.ireturn, 1, 0, 0, 0, 0, 0) := rfl
set_option maxRecDepth 20000 in
theorem ja_C_hindrance_221 : jv_at jm_C_hindrance.2.2.2.2.2.2 221 = some (.aload_n 0, 1, 0, 0, 0, 0, 0) := rfl
set_option maxRecDepth 20000 in
theorem ja_C_hindrance_222 : jv_at jm_C_hindrance.2.2.2.2.2.2 222 = some (.iconst 1, 1, 0, 0, 0, 0, 1) := rfl
set_option maxRecDepth 20000 in
theorem ja_C_hindrance_223 : jv_at jm_C_hindrance.2.2.2.2.2.2 223 = some (.iload_n 1, 1, 0, 0, 0, 0, 0) := rfl
set_option maxRecDepth 20000 in
theorem ja_C_hindrance_224 : jv_at jm_C_hindrance.2.2.2.2.2.2 224 = some (.iload_n 2, 1, 0, 0, 0, 0, 0) := rfl
set_option maxRecDepth 20000 in
theorem ja_C_hindrance_225 : jv_at jm_C_hindrance.2.2.2.2.2.2 225 = some (.invokevirtual 262, 3, 87, 0, 751, 11, 3) := rfl
set_option maxRecDepth 20000 in
theorem ja_C_hindrance_228 : jv_at jm_C_hindrance.2.2.2.2.2.2 228 = some (.ifCond .ne 6, 3, 234, 0, 0, 0, 0) := rfl
set_option maxRecDepth 20000 in
theorem ja_C_hindrance_231 : jv_at jm_C_hindrance.2.2.2.2.2.2 231 = some (.bipush 6, 2, 0, 0, 0, 0, 6) := rfl
set_option maxRecDepth 20000 in
theorem ja_C_hindrance_233 : jv_at jm_C_hindrance.2.2.2.2.2.2 233 = some (.ireturn, 1, 0, 0, 0, 0, 0) := rfl
set_option maxRecDepth 20000 in
theorem ja_C_hindrance_234 : jv_at jm_C_hindrance.2.2.2.2.2.2 234 = some (.aload_n 0, 1, 0, 0, 0, 0, 0) := rfl
set_option maxRecDepth 20000 in
theorem ja_C_hindrance_235 : jv_at jm_C_hindrance.2.2.2.2.2.2 235 = some (.getfield 43, 3, 11, 8, 505, 0, 0) := rfl
set_option maxRecDepth 20000 in
theorem ja_C_hindrance_238 : jv_at jm_C_hindrance.2.2.2.2.2.2 238 = some (.invokevirtual 266, 3, 89, 0, 759, 6, 0) := rfl
set_option maxRecDepth 20000 in
theorem ja_C_hindrance_241 : jv_at jm_C_hindrance.2.2.2.2.2.2 241 = some (.ifCond .eq 8, 3, 249, 0, 0, 0, 0) := rfl
set_option maxRecDepth 20000 in
theorem ja_C_hindrance_244 : jv_at jm_C_hindrance.2.2.2.2.2.2 244 = some (.bipush 7, 2, 0, 0, 0, 0, 7) := rfl
set_option maxRecDepth 20000 in
theorem ja_C_hindrance_246 : jv_at jm_C_hindrance.2.2.2.2.2.2 246 = some (.goto 4, 3, 250, 0, 0, 0, 0) := rfl
set_option maxRecDepth 20000 in
theorem ja_C_hindrance_249 : jv_at jm_C_hindrance.2.2.2.2.2.2 249 = some (.iconst 0, 1, 0, 0, 0, 0, 0) := rfl
set_option maxRecDepth 20000 in
theorem ja_C_hindrance_250 : jv_at jm_C_hindrance.2.2.2.2.2.2 250 = some (.ireturn, 1, 0, 0, 0, 0, 0) := rfl
set_option maxRecDepth 20000 in
theorem ja_C_takesWord_0 : jv_at jm_C_takesWord.2.2.2.2.2.2 0 = some (.iload_n 0, 1, 0, 0, 0, 0, 0) := rfl
set_option maxRecDepth 20000 in
theorem ja_C_takesWord_1 : jv_at jm_C_takesWord.2.2.2.2.2.2 1 = some (.iconst 2, 1, 0, 0, 0, 0, 2) := rfl
set_option maxRecDepth 20000 in
theorem ja_C_takesWord_2 : jv_at jm_C_takesWord.2.2.2.2.2.2 2 = some (.if_icmp .eq 8, 3, 10, 0, 0, 0, 0) := rfl
set_option maxRecDepth 20000 in
theorem ja_C_takesWord_5 : jv_at jm_C_takesWord.2.2.2.2.2.2 5 = some (.iload_n 0, 1, 0, 0, 0, 0, 0) := rfl
set_option maxRecDepth 20000 in
theorem ja_C_takesWord_6 : jv_at jm_C_takesWord.2.2.2.2.2.2 6 = some (.iconst 3, 1, 0, 0, 0, 0, 3) := rfl
set_option maxRecDepth 20000 in
theorem ja_C_takesWord_7 : jv_at jm_C_takesWord.2.2.2.2.2.2 7 = some (.if_icmp .ne 7, 3, 14, 0, 0, 0, 0) := rfl
set_option maxRecDepth 20000 in
theorem ja_C_takesWord_10 : jv_at jm_C_takesWord.2.2.2.2.2.2 10 = some (.iconst 1, 1, 0, 0, 0, 0, 1) := rfl
set_option maxRecDepth 20000 in
theorem ja_C_takesWord_11 : jv_at jm_C_takesWord.2.2.2.2.2.2 11 = some (.goto 4, 3, 15, 0, 0, 0, 0) := rfl
set_option maxRecDepth 20000 in
theorem ja_C_takesWord_14 : jv_at jm_C_takesWord.2.2.2.2.2.2 14 = some (.iconst 0, 1, 0, 0, 0, 0, 0) := rfl
set_option maxRecDepth 20000 in
theorem ja_C_takesWord_15 : jv_at jm_C_takesWord.2.2.2.2.2.2 15 = some (.ireturn, 1, 0, 0, 0, 0, 0) := rfl
set_option maxRecDepth 20000 in
theorem ja_C_isAmendment_0 : jv_at jm_C_isAmendment.2.2.2.2.2.2 0 = some (.iload_n 0, 1, 0, 0, 0, 0, 0) := rfl
set_option maxRecDepth 20000 in
theorem ja_C_isAmendment_1 : jv_at jm_C_isAmendment.2.2.2.2.2.2 1 = some (.iconst 1, 1, 0, 0, 0, 0, 1) := rfl
set_option maxRecDepth 20000 in
theorem ja_C_isAmendment_2 : jv_at jm_C_isAmendment.2.2.2.2.2.2 2 = some (.if_icmp .lt 12, 3, 14, 0, 0, 0, 0) := rfl
set_option maxRecDepth 20000 in
theorem ja_C_isAmendment_5 : jv_at jm_C_isAmendment.2.2.2.2.2.2 5 = some (.iload_n 0, 1, 0, 0, 0, 0, 0) := rfl
set_option maxRecDepth 20000 in
theorem ja_C_isAmendment_6 : jv_at jm_C_isAmendment.2.2.2.2.2.2 6 = some (.iconst 3, 1, 0, 0, 0, 0, 3) := rfl
set_option maxRecDepth 20000 in
theorem ja_C_isAmendment_7 : jv_at jm_C_isAmendment.2.2.2.2.2.2 7 = some (.if_icmp .gt 7, 3, 14, 0, 0, 0, 0) := rfl
set_option maxRecDepth 20000 in
theorem ja_C_isAmendment_10 : jv_at jm_C_isAmendment.2.2.2.2.2.2 10 = some (.iconst 1, 1, 0, 0, 0, 0, 1) := rfl
set_option maxRecDepth 20000 in
theorem ja_C_isAmendment_11 : jv_at jm_C_isAmendment.2.2.2.2.2.2 11 = some (.goto 4, 3, 15, 0, 0, 0, 0) := rfl
set_option maxRecDepth 20000 in
theorem ja_C_isAmendment_14 : jv_at jm_C_isAmendment.2.2.2.2.2.2 14 = some (.iconst 0, 1, 0, 0, 0, 0, 0) := rfl
set_option maxRecDepth 20000 in
theorem ja_C_isAmendment_15 : jv_at jm_C_isAmendment.2.2.2.2.2.2 15 = some (.ireturn, 1, 0, 0, 0, 0, 0) := rfl
set_option maxRecDepth 20000 in
theorem ja_C_floor_0 : jv_at jm_C_floor.2.2.2.2.2.2 0 = some (.aload_n 0, 1, 0, 0, 0, 0, 0) := rfl
set_option maxRecDepth 20000 in
theorem ja_C_floor_1 : jv_at jm_C_floor.2.2.2.2.2.2 1 = some (.aload_n 0, 1, 0, 0, 0, 0, 0) := rfl
set_option maxRecDepth 20000 in
theorem ja_C_floor_2 : jv_at jm_C_floor.2.2.2.2.2.2 2 = some (.getfield 27, 3, 11, 6, 503, 0, 0) := rfl
set_option maxRecDepth 20000 in
theorem ja_C_floor_5 : jv_at jm_C_floor.2.2.2.2.2.2 5 = some (.invokevirtual 148, 3, 52, 0, 610, 11, 1) := rfl
set_option maxRecDepth 20000 in
theorem ja_C_floor_8 : jv_at jm_C_floor.2.2.2.2.2.2 8 = some (.ifCond .eq 18, 3, 26, 0, 0, 0, 0) := rfl
set_option maxRecDepth 20000 in
theorem ja_C_floor_11 : jv_at jm_C_floor.2.2.2.2.2.2 11 = some (.aload_n 0, 1, 0, 0, 0, 0, 0) := rfl
set_option maxRecDepth 20000 in
theorem ja_C_floor_12 : jv_at jm_C_floor.2.2.2.2.2.2 12 = some (.getfield 18, 3, 11, 2, 499, 0, 0) := rfl
set_option maxRecDepth 20000 in
theorem ja_C_floor_15 : jv_at jm_C_floor.2.2.2.2.2.2 15 = some (.aload_n 0, 1, 0, 0, 0, 0, 0) := rfl
set_option maxRecDepth 20000 in
theorem ja_C_floor_16 : jv_at jm_C_floor.2.2.2.2.2.2 16 = some (.getfield 27, 3, 11, 6, 503, 0, 0) := rfl
set_option maxRecDepth 20000 in
theorem ja_C_floor_19 : jv_at jm_C_floor.2.2.2.2.2.2 19 = some (.aaload, 1, 0, 0, 0, 0, 0) := rfl
set_option maxRecDepth 20000 in
theorem ja_C_floor_20 : jv_at jm_C_floor.2.2.2.2.2.2 20 = some (.getfield 154, 3, 1, 2, 164, 0, 0) := rfl
set_option maxRecDepth 20000 in
theorem ja_C_floor_23 : jv_at jm_C_floor.2.2.2.2.2.2 23 = some (.goto 7, 3, 30, 0, 0, 0, 0) := rfl
set_option maxRecDepth 20000 in
theorem ja_C_floor_26 : jv_at jm_C_floor.2.2.2.2.2.2 26 = some (.aload_n 0, 1, 0, 0, 0, 0, 0) := rfl
set_option maxRecDepth 20000 in
theorem ja_C_floor_27 : jv_at jm_C_floor.2.2.2.2.2.2 27 = some (.getfield 34, 3, 11, 7, 504, 0, 0) := rfl
set_option maxRecDepth 20000 in
theorem ja_C_floor_30 : jv_at jm_C_floor.2.2.2.2.2.2 30 = some (.areturn, 1, 0, 0, 0, 0, 0) := rfl
set_option maxRecDepth 20000 in
theorem ja_C_ruled_0 : jv_at jm_C_ruled.2.2.2.2.2.2 0 = some (.aload_n 0, 1, 0, 0, 0, 0, 0) := rfl
set_option maxRecDepth 20000 in
theorem ja_C_ruled_1 : jv_at jm_C_ruled.2.2.2.2.2.2 1 = some (.getfield 71, 3, 11, 14, 511, 0, 0) := rfl
set_option maxRecDepth 20000 in
theorem ja_C_ruled_4 : jv_at jm_C_ruled.2.2.2.2.2.2 4 = some (.iload_n 2, 1, 0, 0, 0, 0, 0) := rfl
set_option maxRecDepth 20000 in
theorem ja_C_ruled_5 : jv_at jm_C_ruled.2.2.2.2.2.2 5 = some (.aload_n 0, 1, 0, 0, 0, 0, 0) := rfl
set_option maxRecDepth 20000 in
theorem ja_C_ruled_6 : jv_at jm_C_ruled.2.2.2.2.2.2 6 = some (.iload_n 3, 1, 0, 0, 0, 0, 0) := rfl
set_option maxRecDepth 20000 in
theorem ja_C_ruled_7 : jv_at jm_C_ruled.2.2.2.2.2.2 7 = some (.invokevirtual 226, 3, 88, 0, 755, 11, 1) := rfl
set_option maxRecDepth 20000 in
theorem ja_C_ruled_10 : jv_at jm_C_ruled.2.2.2.2.2.2 10 = some (.aload_n 0, 1, 0, 0, 0, 0, 0) := rfl
set_option maxRecDepth 20000 in
theorem ja_C_ruled_11 : jv_at jm_C_ruled.2.2.2.2.2.2 11 = some (.getfield 43, 3, 11, 8, 505, 0, 0) := rfl
set_option maxRecDepth 20000 in
theorem ja_C_ruled_14 : jv_at jm_C_ruled.2.2.2.2.2.2 14 = some (.getfield 204, 3, 6, 0, 182, 0, 0) := rfl
set_option maxRecDepth 20000 in
theorem ja_C_ruled_17 : jv_at jm_C_ruled.2.2.2.2.2.2 17 = some (.iconst 0, 1, 0, 0, 0, 0, 0) := rfl
set_option maxRecDepth 20000 in
theorem ja_C_ruled_18 : jv_at jm_C_ruled.2.2.2.2.2.2 18 = some (.iconst 0, 1, 0, 0, 0, 0, 0) := rfl
set_option maxRecDepth 20000 in
theorem ja_C_ruled_19 : jv_at jm_C_ruled.2.2.2.2.2.2 19 = some (.invokevirtual 205, 3, 74, 0, 702, 4, 5) := rfl
set_option maxRecDepth 20000 in
theorem ja_C_ruled_22 : jv_at jm_C_ruled.2.2.2.2.2.2 22 = some (.aload_n 0, 1, 0, 0, 0, 0, 0) := rfl
set_option maxRecDepth 20000 in
theorem ja_C_ruled_23 : jv_at jm_C_ruled.2.2.2.2.2.2 23 = some (.aload_n 0, 1, 0, 0, 0, 0, 0) := rfl
set_option maxRecDepth 20000 in
theorem ja_C_ruled_24 : jv_at jm_C_ruled.2.2.2.2.2.2 24 = some (.getfield 229, 3, 11, 12, 509, 0, 0) := rfl
set_option maxRecDepth 20000 in
theorem ja_C_ruled_27 : jv_at jm_C_ruled.2.2.2.2.2.2 27 = some (.iload_n 1, 1, 0, 0, 0, 0, 0) := rfl
set_option maxRecDepth 20000 in
theorem ja_C_ruled_28 : jv_at jm_C_ruled.2.2.2.2.2.2 28 = some (.invokevirtual 209, 3, 75, 0, 706, 11, 2) := rfl
set_option maxRecDepth 20000 in
theorem ja_C_ruled_31 : jv_at jm_C_ruled.2.2.2.2.2.2 31 = some (.ireturn, 1, 0, 0, 0, 0, 0) := rfl
set_option maxRecDepth 20000 in
theorem ja_C_partyOf_0 : jv_at jm_C_partyOf.2.2.2.2.2.2 0 = some (.aload_n 0, 1, 0, 0, 0, 0, 0) := rfl
set_option maxRecDepth 20000 in
theorem ja_C_partyOf_1 : jv_at jm_C_partyOf.2.2.2.2.2.2 1 = some (.iload_n 1, 1, 0, 0, 0, 0, 0) := rfl
set_option maxRecDepth 20000 in
theorem ja_C_partyOf_2 : jv_at jm_C_partyOf.2.2.2.2.2.2 2 = some (.invokevirtual 124, 3, 41, 0, 567, 11, 1) := rfl
set_option maxRecDepth 20000 in
theorem ja_C_partyOf_5 : jv_at jm_C_partyOf.2.2.2.2.2.2 5 = some (.ifCond .eq 15, 3, 20, 0, 0, 0, 0) := rfl
set_option maxRecDepth 20000 in
theorem ja_C_partyOf_8 : jv_at jm_C_partyOf.2.2.2.2.2.2 8 = some (.aload_n 0, 1, 0, 0, 0, 0, 0) := rfl
set_option maxRecDepth 20000 in
theorem ja_C_partyOf_9 : jv_at jm_C_partyOf.2.2.2.2.2.2 9 = some (.getfield 11, 3, 11, 0, 497, 0, 0) := rfl
set_option maxRecDepth 20000 in
theorem ja_C_partyOf_12 : jv_at jm_C_partyOf.2.2.2.2.2.2 12 = some (.iload_n 1, 1, 0, 0, 0, 0, 0) := rfl
set_option maxRecDepth 20000 in
theorem ja_C_partyOf_13 : jv_at jm_C_partyOf.2.2.2.2.2.2 13 = some (.aaload, 1, 0, 0, 0, 0, 0) := rfl
set_option maxRecDepth 20000 in
theorem ja_C_partyOf_14 : jv_at jm_C_partyOf.2.2.2.2.2.2 14 = some (.getfield 121, 3, 5, 0, 117, 0, 0) := rfl
set_option maxRecDepth 20000 in
theorem ja_C_partyOf_17 : jv_at jm_C_partyOf.2.2.2.2.2.2 17 = some (.goto 4, 3, 21, 0, 0, 0, 0) := rfl
set_option maxRecDepth 20000 in
theorem ja_C_partyOf_20 : jv_at jm_C_partyOf.2.2.2.2.2.2 20 = some (.iconst 0, 1, 0, 0, 0, 0, 0) := rfl
set_option maxRecDepth 20000 in
theorem ja_C_partyOf_21 : jv_at jm_C_partyOf.2.2.2.2.2.2 21 = some (.ireturn, 1, 0, 0, 0, 0, 0) := rfl
set_option maxRecDepth 20000 in
theorem ja_C_why_0 : jv_at jm_C_why.2.2.2.2.2.2 0 = some (.aload_n 0, 1, 0, 0, 0, 0, 0) := rfl
set_option maxRecDepth 20000 in
theorem ja_C_why_1 : jv_at jm_C_why.2.2.2.2.2.2 1 = some (.iload_n 1, 1, 0, 0, 0, 0, 0) := rfl
set_option maxRecDepth 20000 in
theorem ja_C_why_2 : jv_at jm_C_why.2.2.2.2.2.2 2 = some (.iload_n 2, 1, 0, 0, 0, 0, 0) := rfl
set_option maxRecDepth 20000 in
theorem ja_C_why_3 : jv_at jm_C_why.2.2.2.2.2.2 3 = some (.iload_n 3, 1, 0, 0, 0, 0, 0) := rfl
set_option maxRecDepth 20000 in
theorem ja_C_why_4 : jv_at jm_C_why.2.2.2.2.2.2 4 = some (.iload 4, 2, 0, 0, 0, 0, 0) := rfl
set_option maxRecDepth 20000 in
theorem ja_C_why_6 : jv_at jm_C_why.2.2.2.2.2.2 6 = some (.invokevirtual 232, 3, 81, 0, 729, 11, 4) := rfl
set_option maxRecDepth 20000 in
theorem ja_C_why_9 : jv_at jm_C_why.2.2.2.2.2.2 9 = some (.ireturn, 1, 0, 0, 0, 0, 0) := rfl
set_option maxRecDepth 20000 in
theorem ja_C_vote_0 : jv_at jm_C_vote.2.2.2.2.2.2 0 = some (.aload_n 0, 1, 0, 0, 0, 0, 0) := rfl
set_option maxRecDepth 20000 in
theorem ja_C_vote_1 : jv_at jm_C_vote.2.2.2.2.2.2 1 = some (.getfield 43, 3, 11, 8, 505, 0, 0) := rfl
set_option maxRecDepth 20000 in
theorem ja_C_vote_4 : jv_at jm_C_vote.2.2.2.2.2.2 4 = some (.getfield 204, 3, 6, 0, 182, 0, 0) := rfl
set_option maxRecDepth 20000 in
theorem ja_C_vote_7 : jv_at jm_C_vote.2.2.2.2.2.2 7 = some (.iconst 1, 1, 0, 0, 0, 0, 1) := rfl
set_option maxRecDepth 20000 in
theorem ja_C_vote_8 : jv_at jm_C_vote.2.2.2.2.2.2 8 = some (.isub, 1, 0, 0, 0, 0, 0) := rfl
set_option maxRecDepth 20000 in
theorem ja_C_vote_9 : jv_at jm_C_vote.2.2.2.2.2.2 9 = some (.istore_n 1, 1, 0, 0, 0, 0, 0) := rfl
set_option maxRecDepth 20000 in
theorem ja_C_vote_10 : jv_at jm_C_vote.2.2.2.2.2.2 10 = some (.aload_n 0, 1, 0, 0, 0, 0, 0) := rfl
set_option maxRecDepth 20000 in
theorem ja_C_vote_11 : jv_at jm_C_vote.2.2.2.2.2.2 11 = some (.getfield 43, 3, 11, 8, 505, 0, 0) := rfl
set_option maxRecDepth 20000 in
theorem ja_C_vote_14 : jv_at jm_C_vote.2.2.2.2.2.2 14 = some (.iload_n 1, 1, 0, 0, 0, 0, 0) := rfl
set_option maxRecDepth 20000 in
theorem ja_C_vote_15 : jv_at jm_C_vote.2.2.2.2.2.2 15 = some (.invokevirtual 254, 3, 86, 0, 747, 6, 1) := rfl
set_option maxRecDepth 20000 in
theorem ja_C_vote_18 : jv_at jm_C_vote.2.2.2.2.2.2 18 = some (.ifCond .ne 6, 3, 24, 0, 0, 0, 0) := rfl
set_option maxRecDepth 20000 in
theorem ja_C_vote_21 : jv_at jm_C_vote.2.2.2.2.2.2 21 = some (.bipush (-21), 2, 0, 0, 0, 0, -21) := rfl
set_option maxRecDepth 20000 in
theorem ja_C_vote_23 : jv_at jm_C_vote.2.2.2.2.2.2 23 = some (.ireturn, 1, 0, 0, 0, 0, 0) := rfl
set_option maxRecDepth 20000 in
theorem ja_C_vote_24 : jv_at jm_C_vote.2.2.2.2.2.2 24 = some (.aload_n 0, 1, 0, 0, 0, 0, 0) := rfl
set_option maxRecDepth 20000 in
theorem ja_C_vote_25 : jv_at jm_C_vote.2.2.2.2.2.2 25 = some (.getfield 212, 3, 11, 19, 516, 0, 0) := rfl
set_option maxRecDepth 20000 in
theorem ja_C_vote_28 : jv_at jm_C_vote.2.2.2.2.2.2 28 = some (.bipush 100, 2, 0, 0, 0, 0, 100) := rfl
set_option maxRecDepth 20000 in
theorem ja_C_vote_30 : jv_at jm_C_vote.2.2.2.2.2.2 30 = some (.if_icmp .lt 6, 3, 36, 0, 0, 0, 0) := rfl
set_option maxRecDepth 20000 in
theorem ja_C_vote_33 : jv_at jm_C_vote.2.2.2.2.2.2 33 = some (.bipush (-22), 2, 0, 0, 0, 0, -22) := rfl
set_option maxRecDepth 20000 in
theorem ja_C_vote_35 : jv_at jm_C_vote.2.2.2.2.2.2 35 = some (.ireturn, 1, 0, 0, 0, 0, 0) := rfl
set_option maxRecDepth 20000 in
theorem ja_C_vote_36 : jv_at jm_C_vote.2.2.2.2.2.2 36 = some (.aload_n 0, 1, 0, 0, 0, 0, 0) := rfl
set_option maxRecDepth 20000 in
theorem ja_C_vote_37 : jv_at jm_C_vote.2.2.2.2.2.2 37 = some (.getfield 43, 3, 11, 8, 505, 0, 0) := rfl
set_option maxRecDepth 20000 in
theorem ja_C_vote_40 : jv_at jm_C_vote.2.2.2.2.2.2 40 = some (.getfield 256, 3, 6, 2, 185, 0, 0) := rfl
set_option maxRecDepth 20000 in
theorem ja_C_vote_43 : jv_at jm_C_vote.2.2.2.2.2.2 43 = some (.iload_n 1, 1, 0, 0, 0, 0, 0) := rfl
set_option maxRecDepth 20000 in
theorem ja_C_vote_44 : jv_at jm_C_vote.2.2.2.2.2.2 44 = some (.iaload, 1, 0, 0, 0, 0, 0) := rfl
set_option maxRecDepth 20000 in
theorem ja_C_vote_45 : jv_at jm_C_vote.2.2.2.2.2.2 45 = some (.istore_n 2, 1, 0, 0, 0, 0, 0) := rfl
set_option maxRecDepth 20000 in
theorem ja_C_vote_46 : jv_at jm_C_vote.2.2.2.2.2.2 46 = some (.aload_n 0, 1, 0, 0, 0, 0, 0) := rfl
set_option maxRecDepth 20000 in
theorem ja_C_vote_47 : jv_at jm_C_vote.2.2.2.2.2.2 47 = some (.getfield 43, 3, 11, 8, 505, 0, 0) := rfl
set_option maxRecDepth 20000 in
theorem ja_C_vote_50 : jv_at jm_C_vote.2.2.2.2.2.2 50 = some (.getfield 259, 3, 6, 3, 187, 0, 0) := rfl
set_option maxRecDepth 20000 in
theorem ja_C_vote_53 : jv_at jm_C_vote.2.2.2.2.2.2 53 = some (.iload_n 1, 1, 0, 0, 0, 0, 0) := rfl
set_option maxRecDepth 20000 in
theorem ja_C_vote_54 : jv_at jm_C_vote.2.2.2.2.2.2 54 = some (.iaload, 1, 0, 0, 0, 0, 0) := rfl
set_option maxRecDepth 20000 in
theorem ja_C_vote_55 : jv_at jm_C_vote.2.2.2.2.2.2 55 = some (.istore_n 3, 1, 0, 0, 0, 0, 0) := rfl
set_option maxRecDepth 20000 in
theorem ja_C_vote_56 : jv_at jm_C_vote.2.2.2.2.2.2 56 = some (.aload_n 0, 1, 0, 0, 0, 0, 0) := rfl
set_option maxRecDepth 20000 in
theorem ja_C_vote_57 : jv_at jm_C_vote.2.2.2.2.2.2 57 = some (.iconst 3, 1, 0, 0, 0, 0, 3) := rfl
set_option maxRecDepth 20000 in
theorem ja_C_vote_58 : jv_at jm_C_vote.2.2.2.2.2.2 58 = some (.iload_n 2, 1, 0, 0, 0, 0, 0) := rfl
set_option maxRecDepth 20000 in
theorem ja_C_vote_59 : jv_at jm_C_vote.2.2.2.2.2.2 59 = some (.iload_n 3, 1, 0, 0, 0, 0, 0) := rfl
set_option maxRecDepth 20000 in
theorem ja_C_vote_60 : jv_at jm_C_vote.2.2.2.2.2.2 60 = some (.invokevirtual 262, 3, 87, 0, 751, 11, 3) := rfl
set_option maxRecDepth 20000 in
theorem ja_C_vote_63 : jv_at jm_C_vote.2.2.2.2.2.2 63 = some (.ifCond .ne 6, 3, 69, 0, 0, 0, 0) := rfl
set_option maxRecDepth 20000 in
theorem ja_C_vote_66 : jv_at jm_C_vote.2.2.2.2.2.2 66 = some (.bipush (-23), 2, 0, 0, 0, 0, -23) := rfl
set_option maxRecDepth 20000 in
theorem ja_C_vote_68 : jv_at jm_C_vote.2.2.2.2.2.2 68 = some (.ireturn, 1, 0, 0, 0, 0, 0) := rfl
set_option maxRecDepth 20000 in
theorem ja_C_vote_69 : jv_at jm_C_vote.2.2.2.2.2.2 69 = some (.aload_n 0, 1, 0, 0, 0, 0, 0) := rfl
set_option maxRecDepth 20000 in
theorem ja_C_vote_70 : jv_at jm_C_vote.2.2.2.2.2.2 70 = some (.aload_n 0, 1, 0, 0, 0, 0, 0) := rfl
set_option maxRecDepth 20000 in
theorem ja_C_vote_71 : jv_at jm_C_vote.2.2.2.2.2.2 71 = some (.getfield 78, 3, 11, 15, 512, 0, 0) := rfl
set_option maxRecDepth 20000 in
theorem ja_C_vote_74 : jv_at jm_C_vote.2.2.2.2.2.2 74 = some (.aload_n 0, 1, 0, 0, 0, 0, 0) := rfl
set_option maxRecDepth 20000 in
theorem ja_C_vote_75 : jv_at jm_C_vote.2.2.2.2.2.2 75 = some (.invokevirtual 246, 3, 84, 0, 739, 11, 0) := rfl
set_option maxRecDepth 20000 in
theorem ja_C_vote_78 : jv_at jm_C_vote.2.2.2.2.2.2 78 = some (.aload_n 0, 1, 0, 0, 0, 0, 0) := rfl
set_option maxRecDepth 20000 in
theorem ja_C_vote_79 : jv_at jm_C_vote.2.2.2.2.2.2 79 = some (.getfield 43, 3, 11, 8, 505, 0, 0) := rfl
set_option maxRecDepth 20000 in
theorem ja_C_vote_82 : jv_at jm_C_vote.2.2.2.2.2.2 82 = some (.iload_n 1, 1, 0, 0, 0, 0, 0) := rfl
set_option maxRecDepth 20000 in
theorem ja_C_vote_83 : jv_at jm_C_vote.2.2.2.2.2.2 83 = some (.aload_n 0, 1, 0, 0, 0, 0, 0) := rfl
set_option maxRecDepth 20000 in
theorem ja_C_vote_84 : jv_at jm_C_vote.2.2.2.2.2.2 84 = some (.getfield 43, 3, 11, 8, 505, 0, 0) := rfl
set_option maxRecDepth 20000 in
theorem ja_C_vote_87 : jv_at jm_C_vote.2.2.2.2.2.2 87 = some (.getfield 267, 3, 6, 4, 190, 0, 0) := rfl
set_option maxRecDepth 20000 in
theorem ja_C_vote_90 : jv_at jm_C_vote.2.2.2.2.2.2 90 = some (.iload_n 1, 1, 0, 0, 0, 0, 0) := rfl
set_option maxRecDepth 20000 in
theorem ja_C_vote_91 : jv_at jm_C_vote.2.2.2.2.2.2 91 = some (.iaload, 1, 0, 0, 0, 0, 0) := rfl
set_option maxRecDepth 20000 in
theorem ja_C_vote_92 : jv_at jm_C_vote.2.2.2.2.2.2 92 = some (.invokevirtual 270, 3, 93, 0, 776, 11, 5) := rfl
set_option maxRecDepth 20000 in
theorem ja_C_vote_95 : jv_at jm_C_vote.2.2.2.2.2.2 95 = some (.aload_n 0, 1, 0, 0, 0, 0, 0) := rfl
set_option maxRecDepth 20000 in
theorem ja_C_vote_96 : jv_at jm_C_vote.2.2.2.2.2.2 96 = some (.getfield 71, 3, 11, 14, 511, 0, 0) := rfl
set_option maxRecDepth 20000 in
theorem ja_C_vote_99 : jv_at jm_C_vote.2.2.2.2.2.2 99 = some (.iload_n 2, 1, 0, 0, 0, 0, 0) := rfl
set_option maxRecDepth 20000 in
theorem ja_C_vote_100 : jv_at jm_C_vote.2.2.2.2.2.2 100 = some (.aload_n 0, 1, 0, 0, 0, 0, 0) := rfl
set_option maxRecDepth 20000 in
theorem ja_C_vote_101 : jv_at jm_C_vote.2.2.2.2.2.2 101 = some (.iload_n 3, 1, 0, 0, 0, 0, 0) := rfl
set_option maxRecDepth 20000 in
theorem ja_C_vote_102 : jv_at jm_C_vote.2.2.2.2.2.2 102 = some (.invokevirtual 226, 3, 88, 0, 755, 11, 1) := rfl
set_option maxRecDepth 20000 in
theorem ja_C_vote_105 : jv_at jm_C_vote.2.2.2.2.2.2 105 = some (.aload_n 0, 1, 0, 0, 0, 0, 0) := rfl
set_option maxRecDepth 20000 in
theorem ja_C_vote_106 : jv_at jm_C_vote.2.2.2.2.2.2 106 = some (.getfield 43, 3, 11, 8, 505, 0, 0) := rfl
set_option maxRecDepth 20000 in
theorem ja_C_vote_109 : jv_at jm_C_vote.2.2.2.2.2.2 109 = some (.getfield 204, 3, 6, 0, 182, 0, 0) := rfl
set_option maxRecDepth 20000 in
theorem ja_C_vote_112 : jv_at jm_C_vote.2.2.2.2.2.2 112 = some (.aload_n 0, 1, 0, 0, 0, 0, 0) := rfl
set_option maxRecDepth 20000 in
theorem ja_C_vote_113 : jv_at jm_C_vote.2.2.2.2.2.2 113 = some (.getfield 78, 3, 11, 15, 512, 0, 0) := rfl
set_option maxRecDepth 20000 in
theorem ja_C_vote_116 : jv_at jm_C_vote.2.2.2.2.2.2 116 = some (.getfield 274, 3, 0, 0, 224, 0, 0) := rfl
set_option maxRecDepth 20000 in
theorem ja_C_vote_119 : jv_at jm_C_vote.2.2.2.2.2.2 119 = some (.aload_n 0, 1, 0, 0, 0, 0, 0) := rfl
set_option maxRecDepth 20000 in
theorem ja_C_vote_120 : jv_at jm_C_vote.2.2.2.2.2.2 120 = some (.getfield 78, 3, 11, 15, 512, 0, 0) := rfl
set_option maxRecDepth 20000 in
theorem ja_C_vote_123 : jv_at jm_C_vote.2.2.2.2.2.2 123 = some (.getfield 277, 3, 0, 1, 225, 0, 0) := rfl
set_option maxRecDepth 20000 in
theorem ja_C_vote_126 : jv_at jm_C_vote.2.2.2.2.2.2 126 = some (.invokevirtual 205, 3, 74, 0, 702, 4, 5) := rfl
set_option maxRecDepth 20000 in
theorem ja_C_vote_129 : jv_at jm_C_vote.2.2.2.2.2.2 129 = some (.aload_n 0, 1, 0, 0, 0, 0, 0) := rfl
set_option maxRecDepth 20000 in
theorem ja_C_vote_130 : jv_at jm_C_vote.2.2.2.2.2.2 130 = some (.getfield 78, 3, 11, 15, 512, 0, 0) := rfl
set_option maxRecDepth 20000 in
theorem ja_C_vote_133 : jv_at jm_C_vote.2.2.2.2.2.2 133 = some (.aload_n 0, 1, 0, 0, 0, 0, 0) := rfl
set_option maxRecDepth 20000 in
theorem ja_C_vote_134 : jv_at jm_C_vote.2.2.2.2.2.2 134 = some (.aload_n 0, 1, 0, 0, 0, 0, 0) := rfl
set_option maxRecDepth 20000 in
theorem ja_C_vote_135 : jv_at jm_C_vote.2.2.2.2.2.2 135 = some (.getfield 229, 3, 11, 12, 509, 0, 0) := rfl
set_option maxRecDepth 20000 in
theorem ja_C_vote_138 : jv_at jm_C_vote.2.2.2.2.2.2 138 = some (.iconst 2, 1, 0, 0, 0, 0, 2) := rfl
set_option maxRecDepth 20000 in
theorem ja_C_vote_139 : jv_at jm_C_vote.2.2.2.2.2.2 139 = some (.invokevirtual 209, 3, 75, 0, 706, 11, 2) := rfl
set_option maxRecDepth 20000 in
theorem ja_C_vote_142 : jv_at jm_C_vote.2.2.2.2.2.2 142 = some (.ifCond .eq 7, 3, 149, 0, 0, 0, 0) := rfl
set_option maxRecDepth 20000 in
theorem ja_C_vote_145 : jv_at jm_C_vote.2.2.2.2.2.2 145 = some (.iconst 1, 1, 0, 0, 0, 0, 1) := rfl
set_option maxRecDepth 20000 in
theorem ja_C_vote_146 : jv_at jm_C_vote.2.2.2.2.2.2 146 = some (.goto 4, 3, 150, 0, 0, 0, 0) := rfl
set_option maxRecDepth 20000 in
theorem ja_C_vote_149 : jv_at jm_C_vote.2.2.2.2.2.2 149 = some (.iconst 0, 1, 0, 0, 0, 0, 0) := rfl
set_option maxRecDepth 20000 in
theorem ja_C_vote_150 : jv_at jm_C_vote.2.2.2.2.2.2 150 = some (.putfield 280, 3, 0, 3, 228, 0, 0) := rfl
set_option maxRecDepth 20000 in
theorem ja_C_vote_153 : jv_at jm_C_vote.2.2.2.2.2.2 153 = some (.aload_n 0, 1, 0, 0, 0, 0, 0) := rfl
set_option maxRecDepth 20000 in
theorem ja_C_vote_154 : jv_at jm_C_vote.2.2.2.2.2.2 154 = some (.getfield 43, 3, 11, 8, 505, 0, 0) := rfl
set_option maxRecDepth 20000 in
theorem ja_C_vote_157 : jv_at jm_C_vote.2.2.2.2.2.2 157 = some (.dup, 1, 0, 0, 0, 0, 0) := rfl
set_option maxRecDepth 20000 in
theorem ja_C_vote_158 : jv_at jm_C_vote.2.2.2.2.2.2 158 = some (.getfield 204, 3, 6, 0, 182, 0, 0) := rfl
set_option maxRecDepth 20000 in
theorem ja_C_vote_161 : jv_at jm_C_vote.2.2.2.2.2.2 161 = some (.iconst 1, 1, 0, 0, 0, 0, 1) := rfl
set_option maxRecDepth 20000 in
theorem ja_C_vote_162 : jv_at jm_C_vote.2.2.2.2.2.2 162 = some (.isub, 1, 0, 0, 0, 0, 0) := rfl
set_option maxRecDepth 20000 in
theorem ja_C_vote_163 : jv_at jm_C_vote.2.2.2.2.2.2 163 = some (.putfield 204, 3, 6, 0, 182, 0, 0) := rfl
set_option maxRecDepth 20000 in
theorem ja_C_vote_166 : jv_at jm_C_vote.2.2.2.2.2.2 166 = some (.aload_n 0, 1, 0, 0, 0, 0, 0) := rfl
set_option maxRecDepth 20000 in
theorem ja_C_vote_167 : jv_at jm_C_vote.2.2.2.2.2.2 167 = some (.getfield 78, 3, 11, 15, 512, 0, 0) := rfl
set_option maxRecDepth 20000 in
theorem ja_C_vote_170 : jv_at jm_C_vote.2.2.2.2.2.2 170 = some (.getfield 280, 3, 0, 3, 228, 0, 0) := rfl
set_option maxRecDepth 20000 in
theorem ja_C_vote_173 : jv_at jm_C_vote.2.2.2.2.2.2 173 = some (.ifCond .eq 29, 3, 202, 0, 0, 0, 0) := rfl
set_option maxRecDepth 20000 in
theorem ja_C_vote_176 : jv_at jm_C_vote.2.2.2.2.2.2 176 = some (.aload_n 0, 1, 0, 0, 0, 0, 0) := rfl
set_option maxRecDepth 20000 in
theorem ja_C_vote_177 : jv_at jm_C_vote.2.2.2.2.2.2 177 = some (.iload_n 2, 1, 0, 0, 0, 0, 0) := rfl
set_option maxRecDepth 20000 in
theorem ja_C_vote_178 : jv_at jm_C_vote.2.2.2.2.2.2 178 = some (.aload_n 0, 1, 0, 0, 0, 0, 0) := rfl
set_option maxRecDepth 20000 in
theorem ja_C_vote_179 : jv_at jm_C_vote.2.2.2.2.2.2 179 = some (.getfield 43, 3, 11, 8, 505, 0, 0) := rfl
set_option maxRecDepth 20000 in
theorem ja_C_vote_182 : jv_at jm_C_vote.2.2.2.2.2.2 182 = some (.getfield 267, 3, 6, 4, 190, 0, 0) := rfl
set_option maxRecDepth 20000 in
theorem ja_C_vote_185 : jv_at jm_C_vote.2.2.2.2.2.2 185 = some (.iload_n 1, 1, 0, 0, 0, 0, 0) := rfl
set_option maxRecDepth 20000 in
theorem ja_C_vote_186 : jv_at jm_C_vote.2.2.2.2.2.2 186 = some (.iaload, 1, 0, 0, 0, 0, 0) := rfl
set_option maxRecDepth 20000 in
theorem ja_C_vote_187 : jv_at jm_C_vote.2.2.2.2.2.2 187 = some (.aload_n 0, 1, 0, 0, 0, 0, 0) := rfl
set_option maxRecDepth 20000 in
theorem ja_C_vote_188 : jv_at jm_C_vote.2.2.2.2.2.2 188 = some (.getfield 43, 3, 11, 8, 505, 0, 0) := rfl
set_option maxRecDepth 20000 in
theorem ja_C_vote_191 : jv_at jm_C_vote.2.2.2.2.2.2 191 = some (.getfield 283, 3, 6, 5, 192, 0, 0) := rfl
set_option maxRecDepth 20000 in
theorem ja_C_vote_194 : jv_at jm_C_vote.2.2.2.2.2.2 194 = some (.iload_n 1, 1, 0, 0, 0, 0, 0) := rfl
set_option maxRecDepth 20000 in
theorem ja_C_vote_195 : jv_at jm_C_vote.2.2.2.2.2.2 195 = some (.iaload, 1, 0, 0, 0, 0, 0) := rfl
set_option maxRecDepth 20000 in
theorem ja_C_vote_196 : jv_at jm_C_vote.2.2.2.2.2.2 196 = some (.invokevirtual 286, 3, 97, 0, 792, 11, 3) := rfl
set_option maxRecDepth 20000 in
theorem ja_C_vote_199 : jv_at jm_C_vote.2.2.2.2.2.2 199 = some (.goto 12, 3, 211, 0, 0, 0, 0) := rfl
set_option maxRecDepth 20000 in
theorem ja_C_vote_202 : jv_at jm_C_vote.2.2.2.2.2.2 202 = some (.iload_n 2, 1, 0, 0, 0, 0, 0) := rfl
set_option maxRecDepth 20000 in
theorem ja_C_vote_203 : jv_at jm_C_vote.2.2.2.2.2.2 203 = some (.ifCond .ne 8, 3, 211, 0, 0, 0, 0) := rfl
set_option maxRecDepth 20000 in
theorem ja_C_vote_206 : jv_at jm_C_vote.2.2.2.2.2.2 206 = some (.aload_n 0, 1, 0, 0, 0, 0, 0) := rfl
set_option maxRecDepth 20000 in
theorem ja_C_vote_207 : jv_at jm_C_vote.2.2.2.2.2.2 207 = some (.iconst 4, 1, 0, 0, 0, 0, 4) := rfl
set_option maxRecDepth 20000 in
theorem ja_C_vote_208 : jv_at jm_C_vote.2.2.2.2.2.2 208 = some (.invokevirtual 289, 3, 98, 0, 796, 11, 1) := rfl
set_option maxRecDepth 20000 in
theorem ja_C_vote_211 : jv_at jm_C_vote.2.2.2.2.2.2 211 = some (.aload_n 0, 1, 0, 0, 0, 0, 0) := rfl
set_option maxRecDepth 20000 in
theorem ja_C_vote_212 : jv_at jm_C_vote.2.2.2.2.2.2 212 = some (.dup, 1, 0, 0, 0, 0, 0) := rfl
set_option maxRecDepth 20000 in
theorem ja_C_vote_213 : jv_at jm_C_vote.2.2.2.2.2.2 213 = some (.getfield 212, 3, 11, 19, 516, 0, 0) := rfl
set_option maxRecDepth 20000 in
theorem ja_C_vote_216 : jv_at jm_C_vote.2.2.2.2.2.2 216 = some (.iconst 1, 1, 0, 0, 0, 0, 1) := rfl
set_option maxRecDepth 20000 in
theorem ja_C_vote_217 : jv_at jm_C_vote.2.2.2.2.2.2 217 = some (.iadd, 1, 0, 0, 0, 0, 0) := rfl
set_option maxRecDepth 20000 in
theorem ja_C_vote_218 : jv_at jm_C_vote.2.2.2.2.2.2 218 = some (.putfield 212, 3, 11, 19, 516, 0, 0) := rfl
set_option maxRecDepth 20000 in
theorem ja_C_vote_221 : jv_at jm_C_vote.2.2.2.2.2.2 221 = some (.aload_n 0, 1, 0, 0, 0, 0, 0) := rfl
set_option maxRecDepth 20000 in
theorem ja_C_vote_222 : jv_at jm_C_vote.2.2.2.2.2.2 222 = some (.getfield 78, 3, 11, 15, 512, 0, 0) := rfl
set_option maxRecDepth 20000 in
theorem ja_C_vote_225 : jv_at jm_C_vote.2.2.2.2.2.2 225 = some (.getfield 280, 3, 0, 3, 228, 0, 0) := rfl
set_option maxRecDepth 20000 in
theorem ja_C_vote_228 : jv_at jm_C_vote.2.2.2.2.2.2 228 = some (.ifCond .eq 7, 3, 235, 0, 0, 0, 0) := rfl
set_option maxRecDepth 20000 in
theorem ja_C_vote_231 : jv_at jm_C_vote.2.2.2.2.2.2 231 = some (.iconst 1, 1, 0, 0, 0, 0, 1) := rfl
set_option maxRecDepth 20000 in
theorem ja_C_vote_232 : jv_at jm_C_vote.2.2.2.2.2.2 232 = some (.goto 4, 3, 236, 0, 0, 0, 0) := rfl
set_option maxRecDepth 20000 in
theorem ja_C_vote_235 : jv_at jm_C_vote.2.2.2.2.2.2 235 = some (.iconst 0, 1, 0, 0, 0, 0, 0) := rfl
set_option maxRecDepth 20000 in
theorem ja_C_vote_236 : jv_at jm_C_vote.2.2.2.2.2.2 236 = some (.ireturn, 1, 0, 0, 0, 0, 0) := rfl
set_option maxRecDepth 20000 in
theorem ja_C_tally_0 : jv_at jm_C_tally.2.2.2.2.2.2 0 = some (.aload_n 1, 1, 0, 0, 0, 0, 0) := rfl
set_option maxRecDepth 20000 in
theorem ja_C_tally_1 : jv_at jm_C_tally.2.2.2.2.2.2 1 = some (.iconst 0, 1, 0, 0, 0, 0, 0) := rfl
set_option maxRecDepth 20000 in
theorem ja_C_tally_2 : jv_at jm_C_tally.2.2.2.2.2.2 2 = some (.putfield 274, 3, 0, 0, 224, 0, 0) := rfl
set_option maxRecDepth 20000 in
theorem ja_C_tally_5 : jv_at jm_C_tally.2.2.2.2.2.2 5 = some (.aload_n 1, 1, 0, 0, 0, 0, 0) := rfl
set_option maxRecDepth 20000 in
theorem ja_C_tally_6 : jv_at jm_C_tally.2.2.2.2.2.2 6 = some (.iconst 0, 1, 0, 0, 0, 0, 0) := rfl
set_option maxRecDepth 20000 in
theorem ja_C_tally_7 : jv_at jm_C_tally.2.2.2.2.2.2 7 = some (.putfield 277, 3, 0, 1, 225, 0, 0) := rfl
set_option maxRecDepth 20000 in
theorem ja_C_tally_10 : jv_at jm_C_tally.2.2.2.2.2.2 10 = some (.aload_n 1, 1, 0, 0, 0, 0, 0) := rfl
set_option maxRecDepth 20000 in
theorem ja_C_tally_11 : jv_at jm_C_tally.2.2.2.2.2.2 11 = some (.aload_n 3, 1, 0, 0, 0, 0, 0) := rfl
set_option maxRecDepth 20000 in
theorem ja_C_tally_12 : jv_at jm_C_tally.2.2.2.2.2.2 12 = some (.iload 4, 2, 0, 0, 0, 0, 0) := rfl
set_option maxRecDepth 20000 in
theorem ja_C_tally_14 : jv_at jm_C_tally.2.2.2.2.2.2 14 = some (.invokevirtual 254, 3, 86, 0, 747, 6, 1) := rfl
set_option maxRecDepth 20000 in
theorem ja_C_tally_17 : jv_at jm_C_tally.2.2.2.2.2.2 17 = some (.ifCond .eq 13, 3, 30, 0, 0, 0, 0) := rfl
set_option maxRecDepth 20000 in
theorem ja_C_tally_20 : jv_at jm_C_tally.2.2.2.2.2.2 20 = some (.aload_n 3, 1, 0, 0, 0, 0, 0) := rfl
set_option maxRecDepth 20000 in
theorem ja_C_tally_21 : jv_at jm_C_tally.2.2.2.2.2.2 21 = some (.getfield 256, 3, 6, 2, 185, 0, 0) := rfl
set_option maxRecDepth 20000 in
theorem ja_C_tally_24 : jv_at jm_C_tally.2.2.2.2.2.2 24 = some (.iload 4, 2, 0, 0, 0, 0, 0) := rfl
set_option maxRecDepth 20000 in
theorem ja_C_tally_26 : jv_at jm_C_tally.2.2.2.2.2.2 26 = some (.iaload, 1, 0, 0, 0, 0, 0) := rfl
set_option maxRecDepth 20000 in
theorem ja_C_tally_27 : jv_at jm_C_tally.2.2.2.2.2.2 27 = some (.goto 4, 3, 31, 0, 0, 0, 0) := rfl
set_option maxRecDepth 20000 in
theorem ja_C_tally_30 : jv_at jm_C_tally.2.2.2.2.2.2 30 = some (.iconst (-1), 1, 0, 0, 0, 0, -1) := rfl
set_option maxRecDepth 20000 in
theorem ja_C_tally_31 : jv_at jm_C_tally.2.2.2.2.2.2 31 = some (.putfield 302, 3, 0, 2, 227, 0, 0) := rfl
set_option maxRecDepth 20000 in
theorem ja_C_tally_34 : jv_at jm_C_tally.2.2.2.2.2.2 34 = some (.iconst 0, 1, 0, 0, 0, 0, 0) := rfl
set_option maxRecDepth 20000 in
theorem ja_C_tally_35 : jv_at jm_C_tally.2.2.2.2.2.2 35 = some (.istore 6, 2, 0, 0, 0, 0, 0) := rfl
set_option maxRecDepth 20000 in
theorem ja_C_tally_37 : jv_at jm_C_tally.2.2.2.2.2.2 37 = some (.iload 6, 2, 0, 0, 0, 0, 0) := rfl
set_option maxRecDepth 20000 in
theorem ja_C_tally_39 : jv_at jm_C_tally.2.2.2.2.2.2 39 = some (.aload_n 0, 1, 0, 0, 0, 0, 0) := rfl
set_option maxRecDepth 20000 in
theorem ja_C_tally_40 : jv_at jm_C_tally.2.2.2.2.2.2 40 = some (.getfield 118, 3, 11, 1, 498, 0, 0) := rfl
set_option maxRecDepth 20000 in
theorem ja_C_tally_43 : jv_at jm_C_tally.2.2.2.2.2.2 43 = some (.if_icmp .ge 73, 3, 116, 0, 0, 0, 0) := rfl
set_option maxRecDepth 20000 in
theorem ja_C_tally_46 : jv_at jm_C_tally.2.2.2.2.2.2 46 = some (.iload 6, 2, 0, 0, 0, 0, 0) := rfl
set_option maxRecDepth 20000 in
theorem ja_C_tally_48 : jv_at jm_C_tally.2.2.2.2.2.2 48 = some (.aload_n 0, 1, 0, 0, 0, 0, 0) := rfl
set_option maxRecDepth 20000 in
theorem ja_C_tally_49 : jv_at jm_C_tally.2.2.2.2.2.2 49 = some (.getfield 11, 3, 11, 0, 497, 0, 0) := rfl
set_option maxRecDepth 20000 in
theorem ja_C_tally_52 : jv_at jm_C_tally.2.2.2.2.2.2 52 = some (.arraylength, 1, 0, 0, 0, 0, 0) := rfl
set_option maxRecDepth 20000 in
theorem ja_C_tally_53 : jv_at jm_C_tally.2.2.2.2.2.2 53 = some (.if_icmp .ge 63, 3, 116, 0, 0, 0, 0) := rfl
set_option maxRecDepth 20000 in
theorem ja_C_tally_56 : jv_at jm_C_tally.2.2.2.2.2.2 56 = some (.aload_n 0, 1, 0, 0, 0, 0, 0) := rfl
set_option maxRecDepth 20000 in
theorem ja_C_tally_57 : jv_at jm_C_tally.2.2.2.2.2.2 57 = some (.aload_n 0, 1, 0, 0, 0, 0, 0) := rfl
set_option maxRecDepth 20000 in
theorem ja_C_tally_58 : jv_at jm_C_tally.2.2.2.2.2.2 58 = some (.getfield 11, 3, 11, 0, 497, 0, 0) := rfl
set_option maxRecDepth 20000 in
theorem ja_C_tally_61 : jv_at jm_C_tally.2.2.2.2.2.2 61 = some (.iload 6, 2, 0, 0, 0, 0, 0) := rfl
set_option maxRecDepth 20000 in
theorem ja_C_tally_63 : jv_at jm_C_tally.2.2.2.2.2.2 63 = some (.aaload, 1, 0, 0, 0, 0, 0) := rfl
set_option maxRecDepth 20000 in
theorem ja_C_tally_64 : jv_at jm_C_tally.2.2.2.2.2.2 64 = some (.aload_n 2, 1, 0, 0, 0, 0, 0) := rfl
set_option maxRecDepth 20000 in
theorem ja_C_tally_65 : jv_at jm_C_tally.2.2.2.2.2.2 65 = some (.aload_n 3, 1, 0, 0, 0, 0, 0) := rfl
set_option maxRecDepth 20000 in
theorem ja_C_tally_66 : jv_at jm_C_tally.2.2.2.2.2.2 66 = some (.iload 4, 2, 0, 0, 0, 0, 0) := rfl
set_option maxRecDepth 20000 in
theorem ja_C_tally_68 : jv_at jm_C_tally.2.2.2.2.2.2 68 = some (.iload 5, 2, 0, 0, 0, 0, 0) := rfl
set_option maxRecDepth 20000 in
theorem ja_C_tally_70 : jv_at jm_C_tally.2.2.2.2.2.2 70 = some (.invokevirtual 305, 3, 94, 0, 780, 11, 5) := rfl
set_option maxRecDepth 20000 in
theorem ja_C_tally_73 : jv_at jm_C_tally.2.2.2.2.2.2 73 = some (.istore 7, 2, 0, 0, 0, 0, 0) := rfl
set_option maxRecDepth 20000 in
theorem ja_C_tally_75 : jv_at jm_C_tally.2.2.2.2.2.2 75 = some (.iload 7, 2, 0, 0, 0, 0, 0) := rfl
set_option maxRecDepth 20000 in
theorem ja_C_tally_77 : jv_at jm_C_tally.2.2.2.2.2.2 77 = some (.iconst 1, 1, 0, 0, 0, 0, 1) := rfl
set_option maxRecDepth 20000 in
theorem ja_C_tally_78 : jv_at jm_C_tally.2.2.2.2.2.2 78 = some (.if_icmp .ne 16, 3, 94, 0, 0, 0, 0) := rfl
set_option maxRecDepth 20000 in
theorem ja_C_tally_81 : jv_at jm_C_tally.2.2.2.2.2.2 81 = some (.aload_n 1, 1, 0, 0, 0, 0, 0) := rfl
set_option maxRecDepth 20000 in
theorem ja_C_tally_82 : jv_at jm_C_tally.2.2.2.2.2.2 82 = some (.dup, 1, 0, 0, 0, 0, 0) := rfl
set_option maxRecDepth 20000 in
theorem ja_C_tally_83 : jv_at jm_C_tally.2.2.2.2.2.2 83 = some (.getfield 274, 3, 0, 0, 224, 0, 0) := rfl
set_option maxRecDepth 20000 in
theorem ja_C_tally_86 : jv_at jm_C_tally.2.2.2.2.2.2 86 = some (.iconst 1, 1, 0, 0, 0, 0, 1) := rfl
set_option maxRecDepth 20000 in
theorem ja_C_tally_87 : jv_at jm_C_tally.2.2.2.2.2.2 87 = some (.iadd, 1, 0, 0, 0, 0, 0) := rfl
set_option maxRecDepth 20000 in
theorem ja_C_tally_88 : jv_at jm_C_tally.2.2.2.2.2.2 88 = some (.putfield 274, 3, 0, 0, 224, 0, 0) := rfl
set_option maxRecDepth 20000 in
theorem ja_C_tally_91 : jv_at jm_C_tally.2.2.2.2.2.2 91 = some (.goto 19, 3, 110, 0, 0, 0, 0) := rfl
set_option maxRecDepth 20000 in
theorem ja_C_tally_94 : jv_at jm_C_tally.2.2.2.2.2.2 94 = some (.iload 7, 2, 0, 0, 0, 0, 0) := rfl
set_option maxRecDepth 20000 in
theorem ja_C_tally_96 : jv_at jm_C_tally.2.2.2.2.2.2 96 = some (.iconst 2, 1, 0, 0, 0, 0, 2) := rfl
set_option maxRecDepth 20000 in
theorem ja_C_tally_97 : jv_at jm_C_tally.2.2.2.2.2.2 97 = some (.if_icmp .ne 13, 3, 110, 0, 0, 0, 0) := rfl
set_option maxRecDepth 20000 in
theorem ja_C_tally_100 : jv_at jm_C_tally.2.2.2.2.2.2 100 = some (.aload_n 1, 1, 0, 0, 0, 0, 0) := rfl
set_option maxRecDepth 20000 in
theorem ja_C_tally_101 : jv_at jm_C_tally.2.2.2.2.2.2 101 = some (.dup, 1, 0, 0, 0, 0, 0) := rfl
set_option maxRecDepth 20000 in
theorem ja_C_tally_102 : jv_at jm_C_tally.2.2.2.2.2.2 102 = some (.getfield 277, 3, 0, 1, 225, 0, 0) := rfl
set_option maxRecDepth 20000 in
theorem ja_C_tally_105 : jv_at jm_C_tally.2.2.2.2.2.2 105 = some (.iconst 1, 1, 0, 0, 0, 0, 1) := rfl
set_option maxRecDepth 20000 in
theorem ja_C_tally_106 : jv_at jm_C_tally.2.2.2.2.2.2 106 = some (.iadd, 1, 0, 0, 0, 0, 0) := rfl
set_option maxRecDepth 20000 in
theorem ja_C_tally_107 : jv_at jm_C_tally.2.2.2.2.2.2 107 = some (.putfield 277, 3, 0, 1, 225, 0, 0) := rfl
set_option maxRecDepth 20000 in
theorem ja_C_tally_110 : jv_at jm_C_tally.2.2.2.2.2.2 110 = some (.iinc 6 1, 3, 0, 0, 0, 0, 0) := rfl
set_option maxRecDepth 20000 in
theorem ja_C_tally_113 : jv_at jm_C_tally.2.2.2.2.2.2 113 = some (.goto (-76), 3, 37, 0, 0, 0, 0) := rfl
set_option maxRecDepth 20000 in
theorem ja_C_tally_116 : jv_at jm_C_tally.2.2.2.2.2.2 116 = some (.return_, 1, 0, 0, 0, 0, 0) := rfl
set_option maxRecDepth 20000 in
theorem ja_C_choice_0 : jv_at jm_C_choice.2.2.2.2.2.2 0 = some (.aload_n 1, 1, 0, 0, 0, 0, 0) := rfl
set_option maxRecDepth 20000 in
theorem ja_C_choice_1 : jv_at jm_C_choice.2.2.2.2.2.2 1 = some (.getfield 135, 3, 5, 1, 119, 0, 0) := rfl
set_option maxRecDepth 20000 in
theorem ja_C_choice_4 : jv_at jm_C_choice.2.2.2.2.2.2 4 = some (.ifCond .eq 20, 3, 24, 0, 0, 0, 0) := rfl
set_option maxRecDepth 20000 in
theorem ja_C_choice_7 : jv_at jm_C_choice.2.2.2.2.2.2 7 = some (.aload_n 1, 1, 0, 0, 0, 0, 0) := rfl
set_option maxRecDepth 20000 in
theorem ja_C_choice_8 : jv_at jm_C_choice.2.2.2.2.2.2 8 = some (.getfield 139, 3, 5, 2, 121, 0, 0) := rfl
set_option maxRecDepth 20000 in
theorem ja_C_choice_11 : jv_at jm_C_choice.2.2.2.2.2.2 11 = some (.iconst (-1), 1, 0, 0, 0, 0, -1) := rfl
set_option maxRecDepth 20000 in
theorem ja_C_choice_12 : jv_at jm_C_choice.2.2.2.2.2.2 12 = some (.if_icmp .ne 12, 3, 24, 0, 0, 0, 0) := rfl
set_option maxRecDepth 20000 in
theorem ja_C_choice_15 : jv_at jm_C_choice.2.2.2.2.2.2 15 = some (.aload_n 3, 1, 0, 0, 0, 0, 0) := rfl
set_option maxRecDepth 20000 in
theorem ja_C_choice_16 : jv_at jm_C_choice.2.2.2.2.2.2 16 = some (.iload 4, 2, 0, 0, 0, 0, 0) := rfl
set_option maxRecDepth 20000 in
theorem ja_C_choice_18 : jv_at jm_C_choice.2.2.2.2.2.2 18 = some (.invokevirtual 254, 3, 86, 0, 747, 6, 1) := rfl
set_option maxRecDepth 20000 in
theorem ja_C_choice_21 : jv_at jm_C_choice.2.2.2.2.2.2 21 = some (.ifCond .ne 5, 3, 26, 0, 0, 0, 0) := rfl
set_option maxRecDepth 20000 in
theorem ja_C_choice_24 : jv_at jm_C_choice.2.2.2.2.2.2 24 = some (.iconst 0, 1, 0, 0, 0, 0, 0) := rfl
set_option maxRecDepth 20000 in
theorem ja_C_choice_25 : jv_at jm_C_choice.2.2.2.2.2.2 25 = some (.ireturn, 1, 0, 0, 0, 0, 0) := rfl
set_option maxRecDepth 20000 in
theorem ja_C_choice_26 : jv_at jm_C_choice.2.2.2.2.2.2 26 = some (.aload_n 1, 1, 0, 0, 0, 0, 0) := rfl
set_option maxRecDepth 20000 in
theorem ja_C_choice_27 : jv_at jm_C_choice.2.2.2.2.2.2 27 = some (.getfield 142, 3, 5, 3, 123, 0, 0) := rfl
set_option maxRecDepth 20000 in
theorem ja_C_choice_30 : jv_at jm_C_choice.2.2.2.2.2.2 30 = some (.ifCond .eq 8, 3, 38, 0, 0, 0, 0) := rfl
set_option maxRecDepth 20000 in
theorem ja_C_choice_33 : jv_at jm_C_choice.2.2.2.2.2.2 33 = some (.aload_n 1, 1, 0, 0, 0, 0, 0) := rfl
set_option maxRecDepth 20000 in
theorem ja_C_choice_34 : jv_at jm_C_choice.2.2.2.2.2.2 34 = some (.getfield 142, 3, 5, 3, 123, 0, 0) := rfl
set_option maxRecDepth 20000 in
theorem ja_C_choice_37 : jv_at jm_C_choice.2.2.2.2.2.2 37 = some (.ireturn, 1, 0, 0, 0, 0, 0) := rfl
set_option maxRecDepth 20000 in
theorem ja_C_choice_38 : jv_at jm_C_choice.2.2.2.2.2.2 38 = some (.aload_n 3, 1, 0, 0, 0, 0, 0) := rfl
set_option maxRecDepth 20000 in
theorem ja_C_choice_39 : jv_at jm_C_choice.2.2.2.2.2.2 39 = some (.getfield 256, 3, 6, 2, 185, 0, 0) := rfl
set_option maxRecDepth 20000 in
theorem ja_C_choice_42 : jv_at jm_C_choice.2.2.2.2.2.2 42 = some (.iload 4, 2, 0, 0, 0, 0, 0) := rfl
set_option maxRecDepth 20000 in
theorem ja_C_choice_44 : jv_at jm_C_choice.2.2.2.2.2.2 44 = some (.iaload, 1, 0, 0, 0, 0, 0) := rfl
set_option maxRecDepth 20000 in
theorem ja_C_choice_45 : jv_at jm_C_choice.2.2.2.2.2.2 45 = some (.istore 6, 2, 0, 0, 0, 0, 0) := rfl
set_option maxRecDepth 20000 in
theorem ja_C_choice_47 : jv_at jm_C_choice.2.2.2.2.2.2 47 = some (.iload 6, 2, 0, 0, 0, 0, 0) := rfl
set_option maxRecDepth 20000 in
theorem ja_C_choice_49 : jv_at jm_C_choice.2.2.2.2.2.2 49 = some (.tableswitch 100 0 6 #[43, 100, 100, 100, 52, 62, 76], 43, 0, 0, 0, 0, 0) := rfl
set_option maxRecDepth 20000 in
theorem ja_C_choice_92 : jv_at jm_C_choice.2.2.2.2.2.2 92 = some (.aload_n 2, 1, 0, 0, 0, 0, 0) := rfl
set_option maxRecDepth 20000 in
theorem ja_C_choice_93 : jv_at jm_C_choice.2.2.2.2.2.2 93 = some (.aload_n 1, 1, 0, 0, 0, 0, 0) := rfl
set_option maxRecDepth 20000 in
theorem ja_C_choice_94 : jv_at jm_C_choice.2.2.2.2.2.2 94 = some (.invokevirtual 185, 3, 64, 0, 661, 8, 1) := rfl
set_option maxRecDepth 20000 in
theorem ja_C_choice_97 : jv_at jm_C_choice.2.2.2.2.2.2 97 = some (.invokestatic 313, 3, 95, 1, 784, 11, 1) := rfl
set_option maxRecDepth 20000 in
theorem ja_C_choice_100 : jv_at jm_C_choice.2.2.2.2.2.2 100 = some (.ireturn, 1, 0, 0, 0, 0, 0) := rfl
set_option maxRecDepth 20000 in
theorem ja_C_choice_101 : jv_at jm_C_choice.2.2.2.2.2.2 101 = some (.aload_n 2, 1, 0, 0, 0, 0, 0) := rfl
set_option maxRecDepth 20000 in
theorem ja_C_choice_102 : jv_at jm_C_choice.2.2.2.2.2.2 102 = some (.aload_n 1, 1, 0, 0, 0, 0, 0) := rfl
set_option maxRecDepth 20000 in
theorem ja_C_choice_103 : jv_at jm_C_choice.2.2.2.2.2.2 103 = some (.invokevirtual 185, 3, 64, 0, 661, 8, 1) := rfl
set_option maxRecDepth 20000 in
theorem ja_C_choice_106 : jv_at jm_C_choice.2.2.2.2.2.2 106 = some (.ineg, 1, 0, 0, 0, 0, 0) := rfl
set_option maxRecDepth 20000 in
theorem ja_C_choice_107 : jv_at jm_C_choice.2.2.2.2.2.2 107 = some (.invokestatic 313, 3, 95, 1, 784, 11, 1) := rfl
set_option maxRecDepth 20000 in
theorem ja_C_choice_110 : jv_at jm_C_choice.2.2.2.2.2.2 110 = some (.ireturn, 1, 0, 0, 0, 0, 0) := rfl
set_option maxRecDepth 20000 in
theorem ja_C_choice_111 : jv_at jm_C_choice.2.2.2.2.2.2 111 = some (.aload_n 2, 1, 0, 0, 0, 0, 0) := rfl
set_option maxRecDepth 20000 in
theorem ja_C_choice_112 : jv_at jm_C_choice.2.2.2.2.2.2 112 = some (.aload_n 1, 1, 0, 0, 0, 0, 0) := rfl
set_option maxRecDepth 20000 in
theorem ja_C_choice_113 : jv_at jm_C_choice.2.2.2.2.2.2 113 = some (.invokevirtual 185, 3, 64, 0, 661, 8, 1) := rfl
set_option maxRecDepth 20000 in
theorem ja_C_choice_116 : jv_at jm_C_choice.2.2.2.2.2.2 116 = some (.ifCond .ne 7, 3, 123, 0, 0, 0, 0) := rfl
set_option maxRecDepth 20000 in
theorem ja_C_choice_119 : jv_at jm_C_choice.2.2.2.2.2.2 119 = some (.iconst 1, 1, 0, 0, 0, 0, 1) := rfl
set_option maxRecDepth 20000 in
theorem ja_C_choice_120 : jv_at jm_C_choice.2.2.2.2.2.2 120 = some (.goto 4, 3, 124, 0, 0, 0, 0) := rfl
set_option maxRecDepth 20000 in
theorem ja_C_choice_123 : jv_at jm_C_choice.2.2.2.2.2.2 123 = some (.iconst 2, 1, 0, 0, 0, 0, 2) := rfl
set_option maxRecDepth 20000 in
theorem ja_C_choice_124 : jv_at jm_C_choice.2.2.2.2.2.2 124 = some (.ireturn, 1, 0, 0, 0, 0, 0) := rfl
set_option maxRecDepth 20000 in
theorem ja_C_choice_125 : jv_at jm_C_choice.2.2.2.2.2.2 125 = some (.aload_n 1, 1, 0, 0, 0, 0, 0) := rfl
set_option maxRecDepth 20000 in
theorem ja_C_choice_126 : jv_at jm_C_choice.2.2.2.2.2.2 126 = some (.getfield 121, 3, 5, 0, 117, 0, 0) := rfl
set_option maxRecDepth 20000 in
theorem ja_C_choice_129 : jv_at jm_C_choice.2.2.2.2.2.2 129 = some (.aload_n 0, 1, 0, 0, 0, 0, 0) := rfl
set_option maxRecDepth 20000 in
theorem ja_C_choice_130 : jv_at jm_C_choice.2.2.2.2.2.2 130 = some (.aload_n 3, 1, 0, 0, 0, 0, 0) := rfl
set_option maxRecDepth 20000 in
theorem ja_C_choice_131 : jv_at jm_C_choice.2.2.2.2.2.2 131 = some (.getfield 259, 3, 6, 3, 187, 0, 0) := rfl
set_option maxRecDepth 20000 in
theorem ja_C_choice_134 : jv_at jm_C_choice.2.2.2.2.2.2 134 = some (.iload 4, 2, 0, 0, 0, 0, 0) := rfl
set_option maxRecDepth 20000 in
theorem ja_C_choice_136 : jv_at jm_C_choice.2.2.2.2.2.2 136 = some (.iaload, 1, 0, 0, 0, 0, 0) := rfl
set_option maxRecDepth 20000 in
theorem ja_C_choice_137 : jv_at jm_C_choice.2.2.2.2.2.2 137 = some (.invokevirtual 226, 3, 88, 0, 755, 11, 1) := rfl
set_option maxRecDepth 20000 in
theorem ja_C_choice_140 : jv_at jm_C_choice.2.2.2.2.2.2 140 = some (.if_icmp .ne 7, 3, 147, 0, 0, 0, 0) := rfl
set_option maxRecDepth 20000 in
theorem ja_C_choice_143 : jv_at jm_C_choice.2.2.2.2.2.2 143 = some (.iconst 1, 1, 0, 0, 0, 0, 1) := rfl
set_option maxRecDepth 20000 in
theorem ja_C_choice_144 : jv_at jm_C_choice.2.2.2.2.2.2 144 = some (.goto 4, 3, 148, 0, 0, 0, 0) := rfl
set_option maxRecDepth 20000 in
theorem ja_C_choice_147 : jv_at jm_C_choice.2.2.2.2.2.2 147 = some (.iconst 2, 1, 0, 0, 0, 0, 2) := rfl
set_option maxRecDepth 20000 in
theorem ja_C_choice_148 : jv_at jm_C_choice.2.2.2.2.2.2 148 = some (.ireturn, 1, 0, 0, 0, 0, 0) := rfl
set_option maxRecDepth 20000 in
theorem ja_C_choice_149 : jv_at jm_C_choice.2.2.2.2.2.2 149 = some (.aload_n 2, 1, 0, 0, 0, 0, 0) := rfl
set_option maxRecDepth 20000 in
theorem ja_C_choice_150 : jv_at jm_C_choice.2.2.2.2.2.2 150 = some (.aload_n 1, 1, 0, 0, 0, 0, 0) := rfl
set_option maxRecDepth 20000 in
theorem ja_C_choice_151 : jv_at jm_C_choice.2.2.2.2.2.2 151 = some (.iload 6, 2, 0, 0, 0, 0, 0) := rfl
set_option maxRecDepth 20000 in
theorem ja_C_choice_153 : jv_at jm_C_choice.2.2.2.2.2.2 153 = some (.iload 5, 2, 0, 0, 0, 0, 0) := rfl
set_option maxRecDepth 20000 in
theorem ja_C_choice_155 : jv_at jm_C_choice.2.2.2.2.2.2 155 = some (.aload_n 3, 1, 0, 0, 0, 0, 0) := rfl
set_option maxRecDepth 20000 in
theorem ja_C_choice_156 : jv_at jm_C_choice.2.2.2.2.2.2 156 = some (.getfield 283, 3, 6, 5, 192, 0, 0) := rfl
set_option maxRecDepth 20000 in
theorem ja_C_choice_159 : jv_at jm_C_choice.2.2.2.2.2.2 159 = some (.iload 4, 2, 0, 0, 0, 0, 0) := rfl
set_option maxRecDepth 20000 in
theorem ja_C_choice_161 : jv_at jm_C_choice.2.2.2.2.2.2 161 = some (.iaload, 1, 0, 0, 0, 0, 0) := rfl
set_option maxRecDepth 20000 in
theorem ja_C_choice_162 : jv_at jm_C_choice.2.2.2.2.2.2 162 = some (.invokevirtual 316, 3, 96, 0, 787, 8, 4) := rfl
set_option maxRecDepth 20000 in
theorem ja_C_choice_165 : jv_at jm_C_choice.2.2.2.2.2.2 165 = some (.invokestatic 313, 3, 95, 1, 784, 11, 1) := rfl
set_option maxRecDepth 20000 in
theorem ja_C_choice_168 : jv_at jm_C_choice.2.2.2.2.2.2 168 = some (.ireturn, 1, 0, 0, 0, 0, 0) := rfl
set_option maxRecDepth 20000 in
theorem ja_C_bySign_0 : jv_at jm_C_bySign.2.2.2.2.2.2 0 = some (.iload_n 0, 1, 0, 0, 0, 0, 0) := rfl
set_option maxRecDepth 20000 in
theorem ja_C_bySign_1 : jv_at jm_C_bySign.2.2.2.2.2.2 1 = some (.ifCond .le 7, 3, 8, 0, 0, 0, 0) := rfl
set_option maxRecDepth 20000 in
theorem ja_C_bySign_4 : jv_at jm_C_bySign.2.2.2.2.2.2 4 = some (.iconst 1, 1, 0, 0, 0, 0, 1) := rfl
set_option maxRecDepth 20000 in
theorem ja_C_bySign_5 : jv_at jm_C_bySign.2.2.2.2.2.2 5 = some (.goto 12, 3, 17, 0, 0, 0, 0) := rfl
set_option maxRecDepth 20000 in
theorem ja_C_bySign_8 : jv_at jm_C_bySign.2.2.2.2.2.2 8 = some (.iload_n 0, 1, 0, 0, 0, 0, 0) := rfl
set_option maxRecDepth 20000 in
theorem ja_C_bySign_9 : jv_at jm_C_bySign.2.2.2.2.2.2 9 = some (.ifCond .ge 7, 3, 16, 0, 0, 0, 0) := rfl
set_option maxRecDepth 20000 in
theorem ja_C_bySign_12 : jv_at jm_C_bySign.2.2.2.2.2.2 12 = some (.iconst 2, 1, 0, 0, 0, 0, 2) := rfl
set_option maxRecDepth 20000 in
theorem ja_C_bySign_13 : jv_at jm_C_bySign.2.2.2.2.2.2 13 = some (.goto 4, 3, 17, 0, 0, 0, 0) := rfl
set_option maxRecDepth 20000 in
theorem ja_C_bySign_16 : jv_at jm_C_bySign.2.2.2.2.2.2 16 = some (.iconst 0, 1, 0, 0, 0, 0, 0) := rfl
set_option maxRecDepth 20000 in
theorem ja_C_bySign_17 : jv_at jm_C_bySign.2.2.2.2.2.2 17 = some (.ireturn, 1, 0, 0, 0, 0, 0) := rfl
set_option maxRecDepth 20000 in
theorem ja_C_carry_0 : jv_at jm_C_carry.2.2.2.2.2.2 0 = some (.iload_n 1, 1, 0, 0, 0, 0, 0) := rfl
set_option maxRecDepth 20000 in
theorem ja_C_carry_1 : jv_at jm_C_carry.2.2.2.2.2.2 1 = some (.tableswitch 75 0 6 #[43, 75, 75, 75, 51, 59, 67], 43, 0, 0, 0, 0, 0) := rfl
set_option maxRecDepth 20000 in
theorem ja_C_carry_44 : jv_at jm_C_carry.2.2.2.2.2.2 44 = some (.aload_n 0, 1, 0, 0, 0, 0, 0) := rfl
set_option maxRecDepth 20000 in
theorem ja_C_carry_45 : jv_at jm_C_carry.2.2.2.2.2.2 45 = some (.iconst 3, 1, 0, 0, 0, 0, 3) := rfl
set_option maxRecDepth 20000 in
theorem ja_C_carry_46 : jv_at jm_C_carry.2.2.2.2.2.2 46 = some (.invokevirtual 289, 3, 98, 0, 796, 11, 1) := rfl
set_option maxRecDepth 20000 in
theorem ja_C_carry_49 : jv_at jm_C_carry.2.2.2.2.2.2 49 = some (.goto 34, 3, 83, 0, 0, 0, 0) := rfl
set_option maxRecDepth 20000 in
theorem ja_C_carry_52 : jv_at jm_C_carry.2.2.2.2.2.2 52 = some (.aload_n 0, 1, 0, 0, 0, 0, 0) := rfl
set_option maxRecDepth 20000 in
theorem ja_C_carry_53 : jv_at jm_C_carry.2.2.2.2.2.2 53 = some (.iconst 4, 1, 0, 0, 0, 0, 4) := rfl
set_option maxRecDepth 20000 in
theorem ja_C_carry_54 : jv_at jm_C_carry.2.2.2.2.2.2 54 = some (.invokevirtual 289, 3, 98, 0, 796, 11, 1) := rfl
set_option maxRecDepth 20000 in
theorem ja_C_carry_57 : jv_at jm_C_carry.2.2.2.2.2.2 57 = some (.goto 26, 3, 83, 0, 0, 0, 0) := rfl
set_option maxRecDepth 20000 in
theorem ja_C_carry_60 : jv_at jm_C_carry.2.2.2.2.2.2 60 = some (.aload_n 0, 1, 0, 0, 0, 0, 0) := rfl
set_option maxRecDepth 20000 in
theorem ja_C_carry_61 : jv_at jm_C_carry.2.2.2.2.2.2 61 = some (.iconst 0, 1, 0, 0, 0, 0, 0) := rfl
set_option maxRecDepth 20000 in
theorem ja_C_carry_62 : jv_at jm_C_carry.2.2.2.2.2.2 62 = some (.invokevirtual 289, 3, 98, 0, 796, 11, 1) := rfl
set_option maxRecDepth 20000 in
theorem ja_C_carry_65 : jv_at jm_C_carry.2.2.2.2.2.2 65 = some (.goto 18, 3, 83, 0, 0, 0, 0) := rfl
set_option maxRecDepth 20000 in
theorem ja_C_carry_68 : jv_at jm_C_carry.2.2.2.2.2.2 68 = some (.aload_n 0, 1, 0, 0, 0, 0, 0) := rfl
set_option maxRecDepth 20000 in
theorem ja_C_carry_69 : jv_at jm_C_carry.2.2.2.2.2.2 69 = some (.iload_n 3, 1, 0, 0, 0, 0, 0) := rfl
set_option maxRecDepth 20000 in
theorem ja_C_carry_70 : jv_at jm_C_carry.2.2.2.2.2.2 70 = some (.putfield 229, 3, 11, 12, 509, 0, 0) := rfl
set_option maxRecDepth 20000 in
theorem ja_C_carry_73 : jv_at jm_C_carry.2.2.2.2.2.2 73 = some (.goto 10, 3, 83, 0, 0, 0, 0) := rfl
set_option maxRecDepth 20000 in
theorem ja_C_carry_76 : jv_at jm_C_carry.2.2.2.2.2.2 76 = some (.aload_n 0, 1, 0, 0, 0, 0, 0) := rfl
set_option maxRecDepth 20000 in
theorem ja_C_carry_77 : jv_at jm_C_carry.2.2.2.2.2.2 77 = some (.iload_n 1, 1, 0, 0, 0, 0, 0) := rfl
set_option maxRecDepth 20000 in
theorem ja_C_carry_78 : jv_at jm_C_carry.2.2.2.2.2.2 78 = some (.iload_n 2, 1, 0, 0, 0, 0, 0) := rfl
set_option maxRecDepth 20000 in
theorem ja_C_carry_79 : jv_at jm_C_carry.2.2.2.2.2.2 79 = some (.iload_n 3, 1, 0, 0, 0, 0, 0) := rfl
set_option maxRecDepth 20000 in
theorem ja_C_carry_80 : jv_at jm_C_carry.2.2.2.2.2.2 80 = some (.invokevirtual 292, 3, 99, 0, 800, 11, 3) := rfl
set_option maxRecDepth 20000 in
theorem ja_C_carry_83 : jv_at jm_C_carry.2.2.2.2.2.2 83 = some (.return_, 1, 0, 0, 0, 0, 0) := rfl
set_option maxRecDepth 20000 in
theorem ja_C_leaveFloor_0 : jv_at jm_C_leaveFloor.2.2.2.2.2.2 0 = some (.aload_n 0, 1, 0, 0, 0, 0, 0) := rfl
set_option maxRecDepth 20000 in
theorem ja_C_leaveFloor_1 : jv_at jm_C_leaveFloor.2.2.2.2.2.2 1 = some (.aload_n 0, 1, 0, 0, 0, 0, 0) := rfl
set_option maxRecDepth 20000 in
theorem ja_C_leaveFloor_2 : jv_at jm_C_leaveFloor.2.2.2.2.2.2 2 = some (.getfield 27, 3, 11, 6, 503, 0, 0) := rfl
set_option maxRecDepth 20000 in
theorem ja_C_leaveFloor_5 : jv_at jm_C_leaveFloor.2.2.2.2.2.2 5 = some (.invokevirtual 148, 3, 52, 0, 610, 11, 1) := rfl
set_option maxRecDepth 20000 in
theorem ja_C_leaveFloor_8 : jv_at jm_C_leaveFloor.2.2.2.2.2.2 8 = some (.ifCond .ne 4, 3, 12, 0, 0, 0, 0) := rfl
set_option maxRecDepth 20000 in
theorem ja_C_leaveFloor_11 : jv_at jm_C_leaveFloor.2.2.2.2.2.2 11 = some (.return_, 1, 0, 0, 0, 0, 0) := rfl
set_option maxRecDepth 20000 in
theorem ja_C_leaveFloor_12 : jv_at jm_C_leaveFloor.2.2.2.2.2.2 12 = some (.aload_n 0, 1, 0, 0, 0, 0, 0) := rfl
set_option maxRecDepth 20000 in
theorem ja_C_leaveFloor_13 : jv_at jm_C_leaveFloor.2.2.2.2.2.2 13 = some (.getfield 18, 3, 11, 2, 499, 0, 0) := rfl
set_option maxRecDepth 20000 in
theorem ja_C_leaveFloor_16 : jv_at jm_C_leaveFloor.2.2.2.2.2.2 16 = some (.aload_n 0, 1, 0, 0, 0, 0, 0) := rfl
set_option maxRecDepth 20000 in
theorem ja_C_leaveFloor_17 : jv_at jm_C_leaveFloor.2.2.2.2.2.2 17 = some (.getfield 27, 3, 11, 6, 503, 0, 0) := rfl
set_option maxRecDepth 20000 in
theorem ja_C_leaveFloor_20 : jv_at jm_C_leaveFloor.2.2.2.2.2.2 20 = some (.aaload, 1, 0, 0, 0, 0, 0) := rfl
set_option maxRecDepth 20000 in
theorem ja_C_leaveFloor_21 : jv_at jm_C_leaveFloor.2.2.2.2.2.2 21 = some (.iload_n 1, 1, 0, 0, 0, 0, 0) := rfl
set_option maxRecDepth 20000 in
theorem ja_C_leaveFloor_22 : jv_at jm_C_leaveFloor.2.2.2.2.2.2 22 = some (.putfield 151, 3, 1, 0, 161, 0, 0) := rfl
set_option maxRecDepth 20000 in
theorem ja_C_leaveFloor_25 : jv_at jm_C_leaveFloor.2.2.2.2.2.2 25 = some (.iload_n 1, 1, 0, 0, 0, 0, 0) := rfl
set_option maxRecDepth 20000 in
theorem ja_C_leaveFloor_26 : jv_at jm_C_leaveFloor.2.2.2.2.2.2 26 = some (.ifCond .ne 16, 3, 42, 0, 0, 0, 0) := rfl
set_option maxRecDepth 20000 in
theorem ja_C_leaveFloor_29 : jv_at jm_C_leaveFloor.2.2.2.2.2.2 29 = some (.aload_n 0, 1, 0, 0, 0, 0, 0) := rfl
set_option maxRecDepth 20000 in
theorem ja_C_leaveFloor_30 : jv_at jm_C_leaveFloor.2.2.2.2.2.2 30 = some (.getfield 18, 3, 11, 2, 499, 0, 0) := rfl
set_option maxRecDepth 20000 in
theorem ja_C_leaveFloor_33 : jv_at jm_C_leaveFloor.2.2.2.2.2.2 33 = some (.aload_n 0, 1, 0, 0, 0, 0, 0) := rfl
set_option maxRecDepth 20000 in
theorem ja_C_leaveFloor_34 : jv_at jm_C_leaveFloor.2.2.2.2.2.2 34 = some (.getfield 27, 3, 11, 6, 503, 0, 0) := rfl
set_option maxRecDepth 20000 in
theorem ja_C_leaveFloor_37 : jv_at jm_C_leaveFloor.2.2.2.2.2.2 37 = some (.aaload, 1, 0, 0, 0, 0, 0) := rfl
set_option maxRecDepth 20000 in
theorem ja_C_leaveFloor_38 : jv_at jm_C_leaveFloor.2.2.2.2.2.2 38 = some (.iconst 0, 1, 0, 0, 0, 0, 0) := rfl
set_option maxRecDepth 20000 in
theorem ja_C_leaveFloor_39 : jv_at jm_C_leaveFloor.2.2.2.2.2.2 39 = some (.putfield 172, 3, 1, 1, 162, 0, 0) := rfl
set_option maxRecDepth 20000 in
theorem ja_C_leaveFloor_42 : jv_at jm_C_leaveFloor.2.2.2.2.2.2 42 = some (.aload_n 0, 1, 0, 0, 0, 0, 0) := rfl
set_option maxRecDepth 20000 in
theorem ja_C_leaveFloor_43 : jv_at jm_C_leaveFloor.2.2.2.2.2.2 43 = some (.iconst (-1), 1, 0, 0, 0, 0, -1) := rfl
set_option maxRecDepth 20000 in
theorem ja_C_leaveFloor_44 : jv_at jm_C_leaveFloor.2.2.2.2.2.2 44 = some (.putfield 27, 3, 11, 6, 503, 0, 0) := rfl
set_option maxRecDepth 20000 in
theorem ja_C_leaveFloor_47 : jv_at jm_C_leaveFloor.2.2.2.2.2.2 47 = some (.aload_n 0, 1, 0, 0, 0, 0, 0) := rfl
set_option maxRecDepth 20000 in
theorem ja_C_leaveFloor_48 : jv_at jm_C_leaveFloor.2.2.2.2.2.2 48 = some (.getfield 43, 3, 11, 8, 505, 0, 0) := rfl
set_option maxRecDepth 20000 in
theorem ja_C_leaveFloor_51 : jv_at jm_C_leaveFloor.2.2.2.2.2.2 51 = some (.iconst 0, 1, 0, 0, 0, 0, 0) := rfl
set_option maxRecDepth 20000 in
theorem ja_C_leaveFloor_52 : jv_at jm_C_leaveFloor.2.2.2.2.2.2 52 = some (.putfield 204, 3, 6, 0, 182, 0, 0) := rfl
set_option maxRecDepth 20000 in
theorem ja_C_leaveFloor_55 : jv_at jm_C_leaveFloor.2.2.2.2.2.2 55 = some (.aload_n 0, 1, 0, 0, 0, 0, 0) := rfl
set_option maxRecDepth 20000 in
theorem ja_C_leaveFloor_56 : jv_at jm_C_leaveFloor.2.2.2.2.2.2 56 = some (.getfield 50, 3, 11, 9, 506, 0, 0) := rfl
set_option maxRecDepth 20000 in
theorem ja_C_leaveFloor_59 : jv_at jm_C_leaveFloor.2.2.2.2.2.2 59 = some (.getfield 299, 3, 3, 0, 240, 0, 0) := rfl
set_option maxRecDepth 20000 in
theorem ja_C_leaveFloor_62 : jv_at jm_C_leaveFloor.2.2.2.2.2.2 62 = some (.iconst 0, 1, 0, 0, 0, 0, 0) := rfl
set_option maxRecDepth 20000 in
theorem ja_C_leaveFloor_63 : jv_at jm_C_leaveFloor.2.2.2.2.2.2 63 = some (.putfield 204, 3, 6, 0, 182, 0, 0) := rfl
set_option maxRecDepth 20000 in
theorem ja_C_leaveFloor_66 : jv_at jm_C_leaveFloor.2.2.2.2.2.2 66 = some (.return_, 1, 0, 0, 0, 0, 0) := rfl
set_option maxRecDepth 20000 in
theorem ja_C_amendFloor_0 : jv_at jm_C_amendFloor.2.2.2.2.2.2 0 = some (.aload_n 0, 1, 0, 0, 0, 0, 0) := rfl
set_option maxRecDepth 20000 in
theorem ja_C_amendFloor_1 : jv_at jm_C_amendFloor.2.2.2.2.2.2 1 = some (.invokevirtual 246, 3, 84, 0, 739, 11, 0) := rfl
set_option maxRecDepth 20000 in
theorem ja_C_amendFloor_4 : jv_at jm_C_amendFloor.2.2.2.2.2.2 4 = some (.iload_n 1, 1, 0, 0, 0, 0, 0) := rfl
set_option maxRecDepth 20000 in
theorem ja_C_amendFloor_5 : jv_at jm_C_amendFloor.2.2.2.2.2.2 5 = some (.iload_n 2, 1, 0, 0, 0, 0, 0) := rfl
set_option maxRecDepth 20000 in
theorem ja_C_amendFloor_6 : jv_at jm_C_amendFloor.2.2.2.2.2.2 6 = some (.iload_n 3, 1, 0, 0, 0, 0, 0) := rfl
set_option maxRecDepth 20000 in
theorem ja_C_amendFloor_7 : jv_at jm_C_amendFloor.2.2.2.2.2.2 7 = some (.invokevirtual 164, 3, 54, 0, 618, 8, 3) := rfl
set_option maxRecDepth 20000 in
theorem ja_C_amendFloor_10 : jv_at jm_C_amendFloor.2.2.2.2.2.2 10 = some (.ifCond .ne 4, 3, 14, 0, 0, 0, 0) := rfl
set_option maxRecDepth 20000 in
theorem ja_C_amendFloor_13 : jv_at jm_C_amendFloor.2.2.2.2.2.2 13 = some (.return_, 1, 0, 0, 0, 0, 0) := rfl
set_option maxRecDepth 20000 in
theorem ja_C_amendFloor_14 : jv_at jm_C_amendFloor.2.2.2.2.2.2 14 = some (.aload_n 0, 1, 0, 0, 0, 0, 0) := rfl
set_option maxRecDepth 20000 in
theorem ja_C_amendFloor_15 : jv_at jm_C_amendFloor.2.2.2.2.2.2 15 = some (.getfield 43, 3, 11, 8, 505, 0, 0) := rfl
set_option maxRecDepth 20000 in
theorem ja_C_amendFloor_18 : jv_at jm_C_amendFloor.2.2.2.2.2.2 18 = some (.getfield 267, 3, 6, 4, 190, 0, 0) := rfl
set_option maxRecDepth 20000 in
theorem ja_C_amendFloor_21 : jv_at jm_C_amendFloor.2.2.2.2.2.2 21 = some (.aload_n 0, 1, 0, 0, 0, 0, 0) := rfl
set_option maxRecDepth 20000 in
theorem ja_C_amendFloor_22 : jv_at jm_C_amendFloor.2.2.2.2.2.2 22 = some (.getfield 43, 3, 11, 8, 505, 0, 0) := rfl
set_option maxRecDepth 20000 in
theorem ja_C_amendFloor_25 : jv_at jm_C_amendFloor.2.2.2.2.2.2 25 = some (.getfield 204, 3, 6, 0, 182, 0, 0) := rfl
set_option maxRecDepth 20000 in
theorem ja_C_amendFloor_28 : jv_at jm_C_amendFloor.2.2.2.2.2.2 28 = some (.iload_n 1, 1, 0, 0, 0, 0, 0) := rfl
set_option maxRecDepth 20000 in
theorem ja_C_amendFloor_29 : jv_at jm_C_amendFloor.2.2.2.2.2.2 29 = some (.iload_n 2, 1, 0, 0, 0, 0, 0) := rfl
set_option maxRecDepth 20000 in
theorem ja_C_amendFloor_30 : jv_at jm_C_amendFloor.2.2.2.2.2.2 30 = some (.invokestatic 295, 3, 100, 1, 804, 11, 4) := rfl
set_option maxRecDepth 20000 in
theorem ja_C_amendFloor_33 : jv_at jm_C_amendFloor.2.2.2.2.2.2 33 = some (.aload_n 0, 1, 0, 0, 0, 0, 0) := rfl
set_option maxRecDepth 20000 in
theorem ja_C_amendFloor_34 : jv_at jm_C_amendFloor.2.2.2.2.2.2 34 = some (.getfield 50, 3, 11, 9, 506, 0, 0) := rfl
set_option maxRecDepth 20000 in
theorem ja_C_amendFloor_37 : jv_at jm_C_amendFloor.2.2.2.2.2.2 37 = some (.getfield 299, 3, 3, 0, 240, 0, 0) := rfl
set_option maxRecDepth 20000 in
theorem ja_C_amendFloor_40 : jv_at jm_C_amendFloor.2.2.2.2.2.2 40 = some (.iconst 0, 1, 0, 0, 0, 0, 0) := rfl
set_option maxRecDepth 20000 in
theorem ja_C_amendFloor_41 : jv_at jm_C_amendFloor.2.2.2.2.2.2 41 = some (.putfield 204, 3, 6, 0, 182, 0, 0) := rfl
set_option maxRecDepth 20000 in
theorem ja_C_amendFloor_44 : jv_at jm_C_amendFloor.2.2.2.2.2.2 44 = some (.return_, 1, 0, 0, 0, 0, 0) := rfl
set_option maxRecDepth 20000 in
theorem ja_C_settle_0 : jv_at jm_C_settle.2.2.2.2.2.2 0 = some (.iconst 0, 1, 0, 0, 0, 0, 0) := rfl
set_option maxRecDepth 20000 in
theorem ja_C_settle_1 : jv_at jm_C_settle.2.2.2.2.2.2 1 = some (.istore 4, 2, 0, 0, 0, 0, 0) := rfl
set_option maxRecDepth 20000 in
theorem ja_C_settle_3 : jv_at jm_C_settle.2.2.2.2.2.2 3 = some (.iload 4, 2, 0, 0, 0, 0, 0) := rfl
set_option maxRecDepth 20000 in
theorem ja_C_settle_5 : jv_at jm_C_settle.2.2.2.2.2.2 5 = some (.iload_n 1, 1, 0, 0, 0, 0, 0) := rfl
set_option maxRecDepth 20000 in
theorem ja_C_settle_6 : jv_at jm_C_settle.2.2.2.2.2.2 6 = some (.if_icmp .ge 82, 3, 88, 0, 0, 0, 0) := rfl
set_option maxRecDepth 20000 in
theorem ja_C_settle_9 : jv_at jm_C_settle.2.2.2.2.2.2 9 = some (.iload 4, 2, 0, 0, 0, 0, 0) := rfl
set_option maxRecDepth 20000 in
theorem ja_C_settle_11 : jv_at jm_C_settle.2.2.2.2.2.2 11 = some (.aload_n 0, 1, 0, 0, 0, 0, 0) := rfl
set_option maxRecDepth 20000 in
theorem ja_C_settle_12 : jv_at jm_C_settle.2.2.2.2.2.2 12 = some (.arraylength, 1, 0, 0, 0, 0, 0) := rfl
set_option maxRecDepth 20000 in
theorem ja_C_settle_13 : jv_at jm_C_settle.2.2.2.2.2.2 13 = some (.if_icmp .ge 75, 3, 88, 0, 0, 0, 0) := rfl
set_option maxRecDepth 20000 in
theorem ja_C_settle_16 : jv_at jm_C_settle.2.2.2.2.2.2 16 = some (.iload_n 2, 1, 0, 0, 0, 0, 0) := rfl
set_option maxRecDepth 20000 in
theorem ja_C_settle_17 : jv_at jm_C_settle.2.2.2.2.2.2 17 = some (.iconst 2, 1, 0, 0, 0, 0, 2) := rfl
set_option maxRecDepth 20000 in
theorem ja_C_settle_18 : jv_at jm_C_settle.2.2.2.2.2.2 18 = some (.if_icmp .ne 22, 3, 40, 0, 0, 0, 0) := rfl
set_option maxRecDepth 20000 in
theorem ja_C_settle_21 : jv_at jm_C_settle.2.2.2.2.2.2 21 = some (.aload_n 0, 1, 0, 0, 0, 0, 0) := rfl
set_option maxRecDepth 20000 in
theorem ja_C_settle_22 : jv_at jm_C_settle.2.2.2.2.2.2 22 = some (.iload 4, 2, 0, 0, 0, 0, 0) := rfl
set_option maxRecDepth 20000 in
theorem ja_C_settle_24 : jv_at jm_C_settle.2.2.2.2.2.2 24 = some (.iaload, 1, 0, 0, 0, 0, 0) := rfl
set_option maxRecDepth 20000 in
theorem ja_C_settle_25 : jv_at jm_C_settle.2.2.2.2.2.2 25 = some (.iload_n 3, 1, 0, 0, 0, 0, 0) := rfl
set_option maxRecDepth 20000 in
theorem ja_C_settle_26 : jv_at jm_C_settle.2.2.2.2.2.2 26 = some (.if_icmp .lt 14, 3, 40, 0, 0, 0, 0) := rfl
set_option maxRecDepth 20000 in
theorem ja_C_settle_29 : jv_at jm_C_settle.2.2.2.2.2.2 29 = some (.aload_n 0, 1, 0, 0, 0, 0, 0) := rfl
set_option maxRecDepth 20000 in
theorem ja_C_settle_30 : jv_at jm_C_settle.2.2.2.2.2.2 30 = some (.iload 4, 2, 0, 0, 0, 0, 0) := rfl
set_option maxRecDepth 20000 in
theorem ja_C_settle_32 : jv_at jm_C_settle.2.2.2.2.2.2 32 = some (.dup2, 1, 0, 0, 0, 0, 0) := rfl
set_option maxRecDepth 20000 in
theorem ja_C_settle_33 : jv_at jm_C_settle.2.2.2.2.2.2 33 = some (.iaload, 1, 0, 0, 0, 0, 0) := rfl
set_option maxRecDepth 20000 in
theorem ja_C_settle_34 : jv_at jm_C_settle.2.2.2.2.2.2 34 = some (.iconst 1, 1, 0, 0, 0, 0, 1) := rfl
set_option maxRecDepth 20000 in
theorem ja_C_settle_35 : jv_at jm_C_settle.2.2.2.2.2.2 35 = some (.iadd, 1, 0, 0, 0, 0, 0) := rfl
set_option maxRecDepth 20000 in
theorem ja_C_settle_36 : jv_at jm_C_settle.2.2.2.2.2.2 36 = some (.iastore, 1, 0, 0, 0, 0, 0) := rfl
set_option maxRecDepth 20000 in
theorem ja_C_settle_37 : jv_at jm_C_settle.2.2.2.2.2.2 37 = some (.goto 45, 3, 82, 0, 0, 0, 0) := rfl
set_option maxRecDepth 20000 in
theorem ja_C_settle_40 : jv_at jm_C_settle.2.2.2.2.2.2 40 = some (.iload_n 2, 1, 0, 0, 0, 0, 0) := rfl
set_option maxRecDepth 20000 in
theorem ja_C_settle_41 : jv_at jm_C_settle.2.2.2.2.2.2 41 = some (.iconst 1, 1, 0, 0, 0, 0, 1) := rfl
set_option maxRecDepth 20000 in
theorem ja_C_settle_42 : jv_at jm_C_settle.2.2.2.2.2.2 42 = some (.if_icmp .ne 19, 3, 61, 0, 0, 0, 0) := rfl
set_option maxRecDepth 20000 in
theorem ja_C_settle_45 : jv_at jm_C_settle.2.2.2.2.2.2 45 = some (.aload_n 0, 1, 0, 0, 0, 0, 0) := rfl
set_option maxRecDepth 20000 in
theorem ja_C_settle_46 : jv_at jm_C_settle.2.2.2.2.2.2 46 = some (.iload 4, 2, 0, 0, 0, 0, 0) := rfl
set_option maxRecDepth 20000 in
theorem ja_C_settle_48 : jv_at jm_C_settle.2.2.2.2.2.2 48 = some (.iaload, 1, 0, 0, 0, 0, 0) := rfl
set_option maxRecDepth 20000 in
theorem ja_C_settle_49 : jv_at jm_C_settle.2.2.2.2.2.2 49 = some (.iload_n 3, 1, 0, 0, 0, 0, 0) := rfl
set_option maxRecDepth 20000 in
theorem ja_C_settle_50 : jv_at jm_C_settle.2.2.2.2.2.2 50 = some (.if_icmp .ne 11, 3, 61, 0, 0, 0, 0) := rfl
set_option maxRecDepth 20000 in
theorem ja_C_settle_53 : jv_at jm_C_settle.2.2.2.2.2.2 53 = some (.aload_n 0, 1, 0, 0, 0, 0, 0) := rfl
set_option maxRecDepth 20000 in
theorem ja_C_settle_54 : jv_at jm_C_settle.2.2.2.2.2.2 54 = some (.iload 4, 2, 0, 0, 0, 0, 0) := rfl
set_option maxRecDepth 20000 in
theorem ja_C_settle_56 : jv_at jm_C_settle.2.2.2.2.2.2 56 = some (.iconst (-1), 1, 0, 0, 0, 0, -1) := rfl
set_option maxRecDepth 20000 in
theorem ja_C_settle_57 : jv_at jm_C_settle.2.2.2.2.2.2 57 = some (.iastore, 1, 0, 0, 0, 0, 0) := rfl
set_option maxRecDepth 20000 in
theorem ja_C_settle_58 : jv_at jm_C_settle.2.2.2.2.2.2 58 = some (.goto 24, 3, 82, 0, 0, 0, 0) := rfl
set_option maxRecDepth 20000 in
theorem ja_C_settle_61 : jv_at jm_C_settle.2.2.2.2.2.2 61 = some (.iload_n 2, 1, 0, 0, 0, 0, 0) := rfl
set_option maxRecDepth 20000 in
theorem ja_C_settle_62 : jv_at jm_C_settle.2.2.2.2.2.2 62 = some (.iconst 1, 1, 0, 0, 0, 0, 1) := rfl
set_option maxRecDepth 20000 in
theorem ja_C_settle_63 : jv_at jm_C_settle.2.2.2.2.2.2 63 = some (.if_icmp .ne 19, 3, 82, 0, 0, 0, 0) := rfl
set_option maxRecDepth 20000 in
theorem ja_C_settle_66 : jv_at jm_C_settle.2.2.2.2.2.2 66 = some (.aload_n 0, 1, 0, 0, 0, 0, 0) := rfl
set_option maxRecDepth 20000 in
theorem ja_C_settle_67 : jv_at jm_C_settle.2.2.2.2.2.2 67 = some (.iload 4, 2, 0, 0, 0, 0, 0) := rfl
set_option maxRecDepth 20000 in
theorem ja_C_settle_69 : jv_at jm_C_settle.2.2.2.2.2.2 69 = some (.iaload, 1, 0, 0, 0, 0, 0) := rfl
set_option maxRecDepth 20000 in
theorem ja_C_settle_70 : jv_at jm_C_settle.2.2.2.2.2.2 70 = some (.iload_n 3, 1, 0, 0, 0, 0, 0) := rfl
set_option maxRecDepth 20000 in
theorem ja_C_settle_71 : jv_at jm_C_settle.2.2.2.2.2.2 71 = some (.if_icmp .le 11, 3, 82, 0, 0, 0, 0) := rfl
set_option maxRecDepth 20000 in
theorem ja_C_settle_74 : jv_at jm_C_settle.2.2.2.2.2.2 74 = some (.aload_n 0, 1, 0, 0, 0, 0, 0) := rfl
set_option maxRecDepth 20000 in
theorem ja_C_settle_75 : jv_at jm_C_settle.2.2.2.2.2.2 75 = some (.iload 4, 2, 0, 0, 0, 0, 0) := rfl
set_option maxRecDepth 20000 in
theorem ja_C_settle_77 : jv_at jm_C_settle.2.2.2.2.2.2 77 = some (.dup2, 1, 0, 0, 0, 0, 0) := rfl
set_option maxRecDepth 20000 in
theorem ja_C_settle_78 : jv_at jm_C_settle.2.2.2.2.2.2 78 = some (.iaload, 1, 0, 0, 0, 0, 0) := rfl
set_option maxRecDepth 20000 in
theorem ja_C_settle_79 : jv_at jm_C_settle.2.2.2.2.2.2 79 = some (.iconst 1, 1, 0, 0, 0, 0, 1) := rfl
set_option maxRecDepth 20000 in
theorem ja_C_settle_80 : jv_at jm_C_settle.2.2.2.2.2.2 80 = some (.isub, 1, 0, 0, 0, 0, 0) := rfl
set_option maxRecDepth 20000 in
theorem ja_C_settle_81 : jv_at jm_C_settle.2.2.2.2.2.2 81 = some (.iastore, 1, 0, 0, 0, 0, 0) := rfl
set_option maxRecDepth 20000 in
theorem ja_C_settle_82 : jv_at jm_C_settle.2.2.2.2.2.2 82 = some (.iinc 4 1, 3, 0, 0, 0, 0, 0) := rfl
set_option maxRecDepth 20000 in
theorem ja_C_settle_85 : jv_at jm_C_settle.2.2.2.2.2.2 85 = some (.goto (-82), 3, 3, 0, 0, 0, 0) := rfl
set_option maxRecDepth 20000 in
theorem ja_C_settle_88 : jv_at jm_C_settle.2.2.2.2.2.2 88 = some (.return_, 1, 0, 0, 0, 0, 0) := rfl
set_option maxRecDepth 20000 in
theorem ja_C_voted_0 : jv_at jm_C_voted.2.2.2.2.2.2 0 = some (.iload_n 1, 1, 0, 0, 0, 0, 0) := rfl
set_option maxRecDepth 20000 in
theorem ja_C_voted_1 : jv_at jm_C_voted.2.2.2.2.2.2 1 = some (.tableswitch 71 0 3 #[31, 39, 47, 55], 31, 0, 0, 0, 0, 0) := rfl
set_option maxRecDepth 20000 in
theorem ja_C_voted_32 : jv_at jm_C_voted.2.2.2.2.2.2 32 = some (.aload_n 0, 1, 0, 0, 0, 0, 0) := rfl
set_option maxRecDepth 20000 in
theorem ja_C_voted_33 : jv_at jm_C_voted.2.2.2.2.2.2 33 = some (.getfield 78, 3, 11, 15, 512, 0, 0) := rfl
set_option maxRecDepth 20000 in
theorem ja_C_voted_36 : jv_at jm_C_voted.2.2.2.2.2.2 36 = some (.getfield 274, 3, 0, 0, 224, 0, 0) := rfl
set_option maxRecDepth 20000 in
theorem ja_C_voted_39 : jv_at jm_C_voted.2.2.2.2.2.2 39 = some (.ireturn, 1, 0, 0, 0, 0, 0) := rfl
set_option maxRecDepth 20000 in
theorem ja_C_voted_40 : jv_at jm_C_voted.2.2.2.2.2.2 40 = some (.aload_n 0, 1, 0, 0, 0, 0, 0) := rfl
set_option maxRecDepth 20000 in
theorem ja_C_voted_41 : jv_at jm_C_voted.2.2.2.2.2.2 41 = some (.getfield 78, 3, 11, 15, 512, 0, 0) := rfl
set_option maxRecDepth 20000 in
theorem ja_C_voted_44 : jv_at jm_C_voted.2.2.2.2.2.2 44 = some (.getfield 277, 3, 0, 1, 225, 0, 0) := rfl
set_option maxRecDepth 20000 in
theorem ja_C_voted_47 : jv_at jm_C_voted.2.2.2.2.2.2 47 = some (.ireturn, 1, 0, 0, 0, 0, 0) := rfl
set_option maxRecDepth 20000 in
theorem ja_C_voted_48 : jv_at jm_C_voted.2.2.2.2.2.2 48 = some (.aload_n 0, 1, 0, 0, 0, 0, 0) := rfl
set_option maxRecDepth 20000 in
theorem ja_C_voted_49 : jv_at jm_C_voted.2.2.2.2.2.2 49 = some (.getfield 78, 3, 11, 15, 512, 0, 0) := rfl
set_option maxRecDepth 20000 in
theorem ja_C_voted_52 : jv_at jm_C_voted.2.2.2.2.2.2 52 = some (.getfield 302, 3, 0, 2, 227, 0, 0) := rfl
set_option maxRecDepth 20000 in
theorem ja_C_voted_55 : jv_at jm_C_voted.2.2.2.2.2.2 55 = some (.ireturn, 1, 0, 0, 0, 0, 0) := rfl
set_option maxRecDepth 20000 in
theorem ja_C_voted_56 : jv_at jm_C_voted.2.2.2.2.2.2 56 = some (.aload_n 0, 1, 0, 0, 0, 0, 0) := rfl
set_option maxRecDepth 20000 in
theorem ja_C_voted_57 : jv_at jm_C_voted.2.2.2.2.2.2 57 = some (.getfield 78, 3, 11, 15, 512, 0, 0) := rfl
set_option maxRecDepth 20000 in
theorem ja_C_voted_60 : jv_at jm_C_voted.2.2.2.2.2.2 60 = some (.getfield 280, 3, 0, 3, 228, 0, 0) := rfl
set_option maxRecDepth 20000 in
theorem ja_C_voted_63 : jv_at jm_C_voted.2.2.2.2.2.2 63 = some (.ifCond .eq 7, 3, 70, 0, 0, 0, 0) := rfl
set_option maxRecDepth 20000 in
theorem ja_C_voted_66 : jv_at jm_C_voted.2.2.2.2.2.2 66 = some (.iconst 1, 1, 0, 0, 0, 0, 1) := rfl
set_option maxRecDepth 20000 in
theorem ja_C_voted_67 : jv_at jm_C_voted.2.2.2.2.2.2 67 = some (.goto 4, 3, 71, 0, 0, 0, 0) := rfl
set_option maxRecDepth 20000 in
theorem ja_C_voted_70 : jv_at jm_C_voted.2.2.2.2.2.2 70 = some (.iconst 0, 1, 0, 0, 0, 0, 0) := rfl
set_option maxRecDepth 20000 in
theorem ja_C_voted_71 : jv_at jm_C_voted.2.2.2.2.2.2 71 = some (.ireturn, 1, 0, 0, 0, 0, 0) := rfl
set_option maxRecDepth 20000 in
theorem ja_C_voted_72 : jv_at jm_C_voted.2.2.2.2.2.2 72 = some (.bipush (-2), 2, 0, 0, 0, 0, -2) := rfl
set_option maxRecDepth 20000 in
theorem ja_C_voted_74 : jv_at jm_C_voted.2.2.2.2.2.2 74 = some (.ireturn, 1, 0, 0, 0, 0, 0) := rfl
set_option maxRecDepth 20000 in
theorem ja_C_would_0 : jv_at jm_C_would.2.2.2.2.2.2 0 = some (.aload_n 0, 1, 0, 0, 0, 0, 0) := rfl
set_option maxRecDepth 20000 in
theorem ja_C_would_1 : jv_at jm_C_would.2.2.2.2.2.2 1 = some (.iload_n 1, 1, 0, 0, 0, 0, 0) := rfl
set_option maxRecDepth 20000 in
theorem ja_C_would_2 : jv_at jm_C_would.2.2.2.2.2.2 2 = some (.invokevirtual 124, 3, 41, 0, 567, 11, 1) := rfl
set_option maxRecDepth 20000 in
theorem ja_C_would_5 : jv_at jm_C_would.2.2.2.2.2.2 5 = some (.ifCond .ne 6, 3, 11, 0, 0, 0, 0) := rfl
set_option maxRecDepth 20000 in
theorem ja_C_would_8 : jv_at jm_C_would.2.2.2.2.2.2 8 = some (.bipush (-2), 2, 0, 0, 0, 0, -2) := rfl
set_option maxRecDepth 20000 in
theorem ja_C_would_10 : jv_at jm_C_would.2.2.2.2.2.2 10 = some (.ireturn, 1, 0, 0, 0, 0, 0) := rfl
set_option maxRecDepth 20000 in
theorem ja_C_would_11 : jv_at jm_C_would.2.2.2.2.2.2 11 = some (.aload_n 0, 1, 0, 0, 0, 0, 0) := rfl
set_option maxRecDepth 20000 in
theorem ja_C_would_12 : jv_at jm_C_would.2.2.2.2.2.2 12 = some (.getfield 43, 3, 11, 8, 505, 0, 0) := rfl
set_option maxRecDepth 20000 in
theorem ja_C_would_15 : jv_at jm_C_would.2.2.2.2.2.2 15 = some (.getfield 204, 3, 6, 0, 182, 0, 0) := rfl
set_option maxRecDepth 20000 in
theorem ja_C_would_18 : jv_at jm_C_would.2.2.2.2.2.2 18 = some (.iconst 1, 1, 0, 0, 0, 0, 1) := rfl
set_option maxRecDepth 20000 in
theorem ja_C_would_19 : jv_at jm_C_would.2.2.2.2.2.2 19 = some (.isub, 1, 0, 0, 0, 0, 0) := rfl
set_option maxRecDepth 20000 in
theorem ja_C_would_20 : jv_at jm_C_would.2.2.2.2.2.2 20 = some (.istore_n 2, 1, 0, 0, 0, 0, 0) := rfl
set_option maxRecDepth 20000 in
theorem ja_C_would_21 : jv_at jm_C_would.2.2.2.2.2.2 21 = some (.aload_n 0, 1, 0, 0, 0, 0, 0) := rfl
set_option maxRecDepth 20000 in
theorem ja_C_would_22 : jv_at jm_C_would.2.2.2.2.2.2 22 = some (.getfield 43, 3, 11, 8, 505, 0, 0) := rfl
set_option maxRecDepth 20000 in
theorem ja_C_would_25 : jv_at jm_C_would.2.2.2.2.2.2 25 = some (.iload_n 2, 1, 0, 0, 0, 0, 0) := rfl
set_option maxRecDepth 20000 in
theorem ja_C_would_26 : jv_at jm_C_would.2.2.2.2.2.2 26 = some (.invokevirtual 254, 3, 86, 0, 747, 6, 1) := rfl
set_option maxRecDepth 20000 in
theorem ja_C_would_29 : jv_at jm_C_would.2.2.2.2.2.2 29 = some (.ifCond .ne 5, 3, 34, 0, 0, 0, 0) := rfl
set_option maxRecDepth 20000 in
theorem ja_C_would_32 : jv_at jm_C_would.2.2.2.2.2.2 32 = some (.iconst (-1), 1, 0, 0, 0, 0, -1) := rfl
set_option maxRecDepth 20000 in
theorem ja_C_would_33 : jv_at jm_C_would.2.2.2.2.2.2 33 = some (.ireturn, 1, 0, 0, 0, 0, 0) := rfl
set_option maxRecDepth 20000 in
theorem ja_C_would_34 : jv_at jm_C_would.2.2.2.2.2.2 34 = some (.aload_n 0, 1, 0, 0, 0, 0, 0) := rfl
set_option maxRecDepth 20000 in
theorem ja_C_would_35 : jv_at jm_C_would.2.2.2.2.2.2 35 = some (.aload_n 0, 1, 0, 0, 0, 0, 0) := rfl
set_option maxRecDepth 20000 in
theorem ja_C_would_36 : jv_at jm_C_would.2.2.2.2.2.2 36 = some (.getfield 11, 3, 11, 0, 497, 0, 0) := rfl
set_option maxRecDepth 20000 in
theorem ja_C_would_39 : jv_at jm_C_would.2.2.2.2.2.2 39 = some (.iload_n 1, 1, 0, 0, 0, 0, 0) := rfl
set_option maxRecDepth 20000 in
theorem ja_C_would_40 : jv_at jm_C_would.2.2.2.2.2.2 40 = some (.aaload, 1, 0, 0, 0, 0, 0) := rfl
set_option maxRecDepth 20000 in
theorem ja_C_would_41 : jv_at jm_C_would.2.2.2.2.2.2 41 = some (.aload_n 0, 1, 0, 0, 0, 0, 0) := rfl
set_option maxRecDepth 20000 in
theorem ja_C_would_42 : jv_at jm_C_would.2.2.2.2.2.2 42 = some (.invokevirtual 246, 3, 84, 0, 739, 11, 0) := rfl
set_option maxRecDepth 20000 in
theorem ja_C_would_45 : jv_at jm_C_would.2.2.2.2.2.2 45 = some (.aload_n 0, 1, 0, 0, 0, 0, 0) := rfl
set_option maxRecDepth 20000 in
theorem ja_C_would_46 : jv_at jm_C_would.2.2.2.2.2.2 46 = some (.getfield 43, 3, 11, 8, 505, 0, 0) := rfl
set_option maxRecDepth 20000 in
theorem ja_C_would_49 : jv_at jm_C_would.2.2.2.2.2.2 49 = some (.iload_n 2, 1, 0, 0, 0, 0, 0) := rfl
set_option maxRecDepth 20000 in
theorem ja_C_would_50 : jv_at jm_C_would.2.2.2.2.2.2 50 = some (.aload_n 0, 1, 0, 0, 0, 0, 0) := rfl
set_option maxRecDepth 20000 in
theorem ja_C_would_51 : jv_at jm_C_would.2.2.2.2.2.2 51 = some (.getfield 43, 3, 11, 8, 505, 0, 0) := rfl
set_option maxRecDepth 20000 in
theorem ja_C_would_54 : jv_at jm_C_would.2.2.2.2.2.2 54 = some (.getfield 267, 3, 6, 4, 190, 0, 0) := rfl
set_option maxRecDepth 20000 in
theorem ja_C_would_57 : jv_at jm_C_would.2.2.2.2.2.2 57 = some (.iload_n 2, 1, 0, 0, 0, 0, 0) := rfl
set_option maxRecDepth 20000 in
theorem ja_C_would_58 : jv_at jm_C_would.2.2.2.2.2.2 58 = some (.iaload, 1, 0, 0, 0, 0, 0) := rfl
set_option maxRecDepth 20000 in
theorem ja_C_would_59 : jv_at jm_C_would.2.2.2.2.2.2 59 = some (.invokevirtual 305, 3, 94, 0, 780, 11, 5) := rfl
set_option maxRecDepth 20000 in
theorem ja_C_would_62 : jv_at jm_C_would.2.2.2.2.2.2 62 = some (.ireturn, 1, 0, 0, 0, 0, 0) := rfl
set_option maxRecDepth 20000 in
theorem ja_C_motion_0 : jv_at jm_C_motion.2.2.2.2.2.2 0 = some (.aload_n 0, 1, 0, 0, 0, 0, 0) := rfl
set_option maxRecDepth 20000 in
theorem ja_C_motion_1 : jv_at jm_C_motion.2.2.2.2.2.2 1 = some (.getfield 43, 3, 11, 8, 505, 0, 0) := rfl
set_option maxRecDepth 20000 in
theorem ja_C_motion_4 : jv_at jm_C_motion.2.2.2.2.2.2 4 = some (.iload_n 1, 1, 0, 0, 0, 0, 0) := rfl
set_option maxRecDepth 20000 in
theorem ja_C_motion_5 : jv_at jm_C_motion.2.2.2.2.2.2 5 = some (.invokevirtual 254, 3, 86, 0, 747, 6, 1) := rfl
set_option maxRecDepth 20000 in
theorem ja_C_motion_8 : jv_at jm_C_motion.2.2.2.2.2.2 8 = some (.ifCond .ne 7, 3, 15, 0, 0, 0, 0) := rfl
set_option maxRecDepth 20000 in
theorem ja_C_motion_11 : jv_at jm_C_motion.2.2.2.2.2.2 11 = some (.ldc_w 309, 3, 0, 0, 819, 0, -100000) := rfl
set_option maxRecDepth 20000 in
theorem ja_C_motion_14 : jv_at jm_C_motion.2.2.2.2.2.2 14 = some (.ireturn, 1, 0, 0, 0, 0, 0) := rfl
set_option maxRecDepth 20000 in
theorem ja_C_motion_15 : jv_at jm_C_motion.2.2.2.2.2.2 15 = some (.iload_n 2, 1, 0, 0, 0, 0, 0) := rfl
set_option maxRecDepth 20000 in
theorem ja_C_motion_16 : jv_at jm_C_motion.2.2.2.2.2.2 16 = some (.tableswitch 100 0 4 #[36, 46, 56, 66, 76], 36, 0, 0, 0, 0, 0) := rfl
set_option maxRecDepth 20000 in
theorem ja_C_motion_52 : jv_at jm_C_motion.2.2.2.2.2.2 52 = some (.aload_n 0, 1, 0, 0, 0, 0, 0) := rfl
set_option maxRecDepth 20000 in
theorem ja_C_motion_53 : jv_at jm_C_motion.2.2.2.2.2.2 53 = some (.getfield 43, 3, 11, 8, 505, 0, 0) := rfl
set_option maxRecDepth 20000 in
theorem ja_C_motion_56 : jv_at jm_C_motion.2.2.2.2.2.2 56 = some (.getfield 256, 3, 6, 2, 185, 0, 0) := rfl
set_option maxRecDepth 20000 in
theorem ja_C_motion_59 : jv_at jm_C_motion.2.2.2.2.2.2 59 = some (.iload_n 1, 1, 0, 0, 0, 0, 0) := rfl
set_option maxRecDepth 20000 in
theorem ja_C_motion_60 : jv_at jm_C_motion.2.2.2.2.2.2 60 = some (.iaload, 1, 0, 0, 0, 0, 0) := rfl
set_option maxRecDepth 20000 in
theorem ja_C_motion_61 : jv_at jm_C_motion.2.2.2.2.2.2 61 = some (.ireturn, 1, 0, 0, 0, 0, 0) := rfl
set_option maxRecDepth 20000 in
theorem ja_C_motion_62 : jv_at jm_C_motion.2.2.2.2.2.2 62 = some (.aload_n 0, 1, 0, 0, 0, 0, 0) := rfl
set_option maxRecDepth 20000 in
theorem ja_C_motion_63 : jv_at jm_C_motion.2.2.2.2.2.2 63 = some (.getfield 43, 3, 11, 8, 505, 0, 0) := rfl
set_option maxRecDepth 20000 in
theorem ja_C_motion_66 : jv_at jm_C_motion.2.2.2.2.2.2 66 = some (.getfield 259, 3, 6, 3, 187, 0, 0) := rfl
set_option maxRecDepth 20000 in
theorem ja_C_motion_69 : jv_at jm_C_motion.2.2.2.2.2.2 69 = some (.iload_n 1, 1, 0, 0, 0, 0, 0) := rfl
set_option maxRecDepth 20000 in
theorem ja_C_motion_70 : jv_at jm_C_motion.2.2.2.2.2.2 70 = some (.iaload, 1, 0, 0, 0, 0, 0) := rfl
set_option maxRecDepth 20000 in
theorem ja_C_motion_71 : jv_at jm_C_motion.2.2.2.2.2.2 71 = some (.ireturn, 1, 0, 0, 0, 0, 0) := rfl
set_option maxRecDepth 20000 in
theorem ja_C_motion_72 : jv_at jm_C_motion.2.2.2.2.2.2 72 = some (.aload_n 0, 1, 0, 0, 0, 0, 0) := rfl
set_option maxRecDepth 20000 in
theorem ja_C_motion_73 : jv_at jm_C_motion.2.2.2.2.2.2 73 = some (.getfield 43, 3, 11, 8, 505, 0, 0) := rfl
set_option maxRecDepth 20000 in
theorem ja_C_motion_76 : jv_at jm_C_motion.2.2.2.2.2.2 76 = some (.getfield 267, 3, 6, 4, 190, 0, 0) := rfl
set_option maxRecDepth 20000 in
theorem ja_C_motion_79 : jv_at jm_C_motion.2.2.2.2.2.2 79 = some (.iload_n 1, 1, 0, 0, 0, 0, 0) := rfl
set_option maxRecDepth 20000 in
theorem ja_C_motion_80 : jv_at jm_C_motion.2.2.2.2.2.2 80 = some (.iaload, 1, 0, 0, 0, 0, 0) := rfl
set_option maxRecDepth 20000 in
theorem ja_C_motion_81 : jv_at jm_C_motion.2.2.2.2.2.2 81 = some (.ireturn, 1, 0, 0, 0, 0, 0) := rfl
set_option maxRecDepth 20000 in
theorem ja_C_motion_82 : jv_at jm_C_motion.2.2.2.2.2.2 82 = some (.aload_n 0, 1, 0, 0, 0, 0, 0) := rfl
set_option maxRecDepth 20000 in
theorem ja_C_motion_83 : jv_at jm_C_motion.2.2.2.2.2.2 83 = some (.getfield 43, 3, 11, 8, 505, 0, 0) := rfl
set_option maxRecDepth 20000 in
theorem ja_C_motion_86 : jv_at jm_C_motion.2.2.2.2.2.2 86 = some (.getfield 283, 3, 6, 5, 192, 0, 0) := rfl
set_option maxRecDepth 20000 in
theorem ja_C_motion_89 : jv_at jm_C_motion.2.2.2.2.2.2 89 = some (.iload_n 1, 1, 0, 0, 0, 0, 0) := rfl
set_option maxRecDepth 20000 in
theorem ja_C_motion_90 : jv_at jm_C_motion.2.2.2.2.2.2 90 = some (.iaload, 1, 0, 0, 0, 0, 0) := rfl
set_option maxRecDepth 20000 in
theorem ja_C_motion_91 : jv_at jm_C_motion.2.2.2.2.2.2 91 = some (.ireturn, 1, 0, 0, 0, 0, 0) := rfl
set_option maxRecDepth 20000 in
theorem ja_C_motion_92 : jv_at jm_C_motion.2.2.2.2.2.2 92 = some (.aload_n 0, 1, 0, 0, 0, 0, 0) := rfl
set_option maxRecDepth 20000 in
theorem ja_C_motion_93 : jv_at jm_C_motion.2.2.2.2.2.2 93 = some (.iconst 0, 1, 0, 0, 0, 0, 0) := rfl
set_option maxRecDepth 20000 in
theorem ja_C_motion_94 : jv_at jm_C_motion.2.2.2.2.2.2 94 = some (.aload_n 0, 1, 0, 0, 0, 0, 0) := rfl
set_option maxRecDepth 20000 in
theorem ja_C_motion_95 : jv_at jm_C_motion.2.2.2.2.2.2 95 = some (.getfield 43, 3, 11, 8, 505, 0, 0) := rfl
set_option maxRecDepth 20000 in
theorem ja_C_motion_98 : jv_at jm_C_motion.2.2.2.2.2.2 98 = some (.getfield 256, 3, 6, 2, 185, 0, 0) := rfl
set_option maxRecDepth 20000 in
theorem ja_C_motion_101 : jv_at jm_C_motion.2.2.2.2.2.2 101 = some (.iload_n 1, 1, 0, 0, 0, 0, 0) := rfl
set_option maxRecDepth 20000 in
theorem ja_C_motion_102 : jv_at jm_C_motion.2.2.2.2.2.2 102 = some (.iaload, 1, 0, 0, 0, 0, 0) := rfl
set_option maxRecDepth 20000 in
theorem ja_C_motion_103 : jv_at jm_C_motion.2.2.2.2.2.2 103 = some (.aload_n 0, 1, 0, 0, 0, 0, 0) := rfl
set_option maxRecDepth 20000 in
theorem ja_C_motion_104 : jv_at jm_C_motion.2.2.2.2.2.2 104 = some (.getfield 43, 3, 11, 8, 505, 0, 0) := rfl
set_option maxRecDepth 20000 in
theorem ja_C_motion_107 : jv_at jm_C_motion.2.2.2.2.2.2 107 = some (.getfield 259, 3, 6, 3, 187, 0, 0) := rfl
set_option maxRecDepth 20000 in
theorem ja_C_motion_110 : jv_at jm_C_motion.2.2.2.2.2.2 110 = some (.iload_n 1, 1, 0, 0, 0, 0, 0) := rfl
set_option maxRecDepth 20000 in
theorem ja_C_motion_111 : jv_at jm_C_motion.2.2.2.2.2.2 111 = some (.iaload, 1, 0, 0, 0, 0, 0) := rfl
set_option maxRecDepth 20000 in
theorem ja_C_motion_112 : jv_at jm_C_motion.2.2.2.2.2.2 112 = some (.invokevirtual 262, 3, 87, 0, 751, 11, 3) := rfl
set_option maxRecDepth 20000 in
theorem ja_C_motion_115 : jv_at jm_C_motion.2.2.2.2.2.2 115 = some (.ireturn, 1, 0, 0, 0, 0, 0) := rfl
set_option maxRecDepth 20000 in
theorem ja_C_motion_116 : jv_at jm_C_motion.2.2.2.2.2.2 116 = some (.ldc_w 309, 3, 0, 0, 819, 0, -100000) := rfl
set_option maxRecDepth 20000 in
theorem ja_C_motion_119 : jv_at jm_C_motion.2.2.2.2.2.2 119 = some (.ireturn, 1, 0, 0, 0, 0, 0) := rfl
set_option maxRecDepth 20000 in
theorem ja_C_yield_0 : jv_at jm_C_yield.2.2.2.2.2.2 0 = some (.aload_n 0, 1, 0, 0, 0, 0, 0) := rfl
set_option maxRecDepth 20000 in
theorem ja_C_yield_1 : jv_at jm_C_yield.2.2.2.2.2.2 1 = some (.getfield 43, 3, 11, 8, 505, 0, 0) := rfl
set_option maxRecDepth 20000 in
theorem ja_C_yield_4 : jv_at jm_C_yield.2.2.2.2.2.2 4 = some (.getfield 204, 3, 6, 0, 182, 0, 0) := rfl
set_option maxRecDepth 20000 in
theorem ja_C_yield_7 : jv_at jm_C_yield.2.2.2.2.2.2 7 = some (.ifCond .gt 6, 3, 13, 0, 0, 0, 0) := rfl
set_option maxRecDepth 20000 in
theorem ja_C_yield_10 : jv_at jm_C_yield.2.2.2.2.2.2 10 = some (.bipush (-3), 2, 0, 0, 0, 0, -3) := rfl
set_option maxRecDepth 20000 in
theorem ja_C_yield_12 : jv_at jm_C_yield.2.2.2.2.2.2 12 = some (.ireturn, 1, 0, 0, 0, 0, 0) := rfl
set_option maxRecDepth 20000 in
theorem ja_C_yield_13 : jv_at jm_C_yield.2.2.2.2.2.2 13 = some (.aload_n 0, 1, 0, 0, 0, 0, 0) := rfl
set_option maxRecDepth 20000 in
theorem ja_C_yield_14 : jv_at jm_C_yield.2.2.2.2.2.2 14 = some (.getfield 43, 3, 11, 8, 505, 0, 0) := rfl
set_option maxRecDepth 20000 in
theorem ja_C_yield_17 : jv_at jm_C_yield.2.2.2.2.2.2 17 = some (.dup, 1, 0, 0, 0, 0, 0) := rfl
set_option maxRecDepth 20000 in
theorem ja_C_yield_18 : jv_at jm_C_yield.2.2.2.2.2.2 18 = some (.getfield 204, 3, 6, 0, 182, 0, 0) := rfl
set_option maxRecDepth 20000 in
theorem ja_C_yield_21 : jv_at jm_C_yield.2.2.2.2.2.2 21 = some (.iconst 1, 1, 0, 0, 0, 0, 1) := rfl
set_option maxRecDepth 20000 in
theorem ja_C_yield_22 : jv_at jm_C_yield.2.2.2.2.2.2 22 = some (.isub, 1, 0, 0, 0, 0, 0) := rfl
set_option maxRecDepth 20000 in
theorem ja_C_yield_23 : jv_at jm_C_yield.2.2.2.2.2.2 23 = some (.putfield 204, 3, 6, 0, 182, 0, 0) := rfl
set_option maxRecDepth 20000 in
theorem ja_C_yield_26 : jv_at jm_C_yield.2.2.2.2.2.2 26 = some (.aload_n 0, 1, 0, 0, 0, 0, 0) := rfl
set_option maxRecDepth 20000 in
theorem ja_C_yield_27 : jv_at jm_C_yield.2.2.2.2.2.2 27 = some (.getfield 43, 3, 11, 8, 505, 0, 0) := rfl
set_option maxRecDepth 20000 in
theorem ja_C_yield_30 : jv_at jm_C_yield.2.2.2.2.2.2 30 = some (.getfield 204, 3, 6, 0, 182, 0, 0) := rfl
set_option maxRecDepth 20000 in
theorem ja_C_yield_33 : jv_at jm_C_yield.2.2.2.2.2.2 33 = some (.ireturn, 1, 0, 0, 0, 0, 0) := rfl
set_option maxRecDepth 20000 in
theorem ja_C_day_0 : jv_at jm_C_day.2.2.2.2.2.2 0 = some (.aload_n 0, 1, 0, 0, 0, 0, 0) := rfl
set_option maxRecDepth 20000 in
theorem ja_C_day_1 : jv_at jm_C_day.2.2.2.2.2.2 1 = some (.getfield 310, 3, 11, 18, 515, 0, 0) := rfl
set_option maxRecDepth 20000 in
theorem ja_C_day_4 : jv_at jm_C_day.2.2.2.2.2.2 4 = some (.sipush 999, 3, 0, 0, 0, 0, 999) := rfl
set_option maxRecDepth 20000 in
theorem ja_C_day_7 : jv_at jm_C_day.2.2.2.2.2.2 7 = some (.if_icmp .lt 6, 3, 13, 0, 0, 0, 0) := rfl
set_option maxRecDepth 20000 in
theorem ja_C_day_10 : jv_at jm_C_day.2.2.2.2.2.2 10 = some (.bipush (-4), 2, 0, 0, 0, 0, -4) := rfl
set_option maxRecDepth 20000 in
theorem ja_C_day_12 : jv_at jm_C_day.2.2.2.2.2.2 12 = some (.ireturn, 1, 0, 0, 0, 0, 0) := rfl
set_option maxRecDepth 20000 in
theorem ja_C_day_13 : jv_at jm_C_day.2.2.2.2.2.2 13 = some (.aload_n 0, 1, 0, 0, 0, 0, 0) := rfl
set_option maxRecDepth 20000 in
theorem ja_C_day_14 : jv_at jm_C_day.2.2.2.2.2.2 14 = some (.dup, 1, 0, 0, 0, 0, 0) := rfl
set_option maxRecDepth 20000 in
theorem ja_C_day_15 : jv_at jm_C_day.2.2.2.2.2.2 15 = some (.getfield 310, 3, 11, 18, 515, 0, 0) := rfl
set_option maxRecDepth 20000 in
theorem ja_C_day_18 : jv_at jm_C_day.2.2.2.2.2.2 18 = some (.iconst 1, 1, 0, 0, 0, 0, 1) := rfl
set_option maxRecDepth 20000 in
theorem ja_C_day_19 : jv_at jm_C_day.2.2.2.2.2.2 19 = some (.iadd, 1, 0, 0, 0, 0, 0) := rfl
set_option maxRecDepth 20000 in
theorem ja_C_day_20 : jv_at jm_C_day.2.2.2.2.2.2 20 = some (.putfield 310, 3, 11, 18, 515, 0, 0) := rfl
set_option maxRecDepth 20000 in
theorem ja_C_day_23 : jv_at jm_C_day.2.2.2.2.2.2 23 = some (.aload_n 0, 1, 0, 0, 0, 0, 0) := rfl
set_option maxRecDepth 20000 in
theorem ja_C_day_24 : jv_at jm_C_day.2.2.2.2.2.2 24 = some (.iconst 0, 1, 0, 0, 0, 0, 0) := rfl
set_option maxRecDepth 20000 in
theorem ja_C_day_25 : jv_at jm_C_day.2.2.2.2.2.2 25 = some (.putfield 212, 3, 11, 19, 516, 0, 0) := rfl
set_option maxRecDepth 20000 in
theorem ja_C_day_28 : jv_at jm_C_day.2.2.2.2.2.2 28 = some (.aload_n 0, 1, 0, 0, 0, 0, 0) := rfl
set_option maxRecDepth 20000 in
theorem ja_C_day_29 : jv_at jm_C_day.2.2.2.2.2.2 29 = some (.getfield 310, 3, 11, 18, 515, 0, 0) := rfl
set_option maxRecDepth 20000 in
theorem ja_C_day_32 : jv_at jm_C_day.2.2.2.2.2.2 32 = some (.ireturn, 1, 0, 0, 0, 0, 0) := rfl
set_option maxRecDepth 20000 in
theorem ja_C_tell_0 : jv_at jm_C_tell.2.2.2.2.2.2 0 = some (.iload_n 1, 1, 0, 0, 0, 0, 0) := rfl
set_option maxRecDepth 20000 in
theorem ja_C_tell_1 : jv_at jm_C_tell.2.2.2.2.2.2 1 = some (.invokestatic 236, 3, 83, 1, 736, 11, 1) := rfl
set_option maxRecDepth 20000 in
theorem ja_C_tell_4 : jv_at jm_C_tell.2.2.2.2.2.2 4 = some (.ifCond .eq 17, 3, 21, 0, 0, 0, 0) := rfl
set_option maxRecDepth 20000 in
theorem ja_C_tell_7 : jv_at jm_C_tell.2.2.2.2.2.2 7 = some (.iload_n 1, 1, 0, 0, 0, 0, 0) := rfl
set_option maxRecDepth 20000 in
theorem ja_C_tell_8 : jv_at jm_C_tell.2.2.2.2.2.2 8 = some (.invokestatic 239, 3, 82, 1, 733, 11, 1) := rfl
set_option maxRecDepth 20000 in
theorem ja_C_tell_11 : jv_at jm_C_tell.2.2.2.2.2.2 11 = some (.ifCond .eq 13, 3, 24, 0, 0, 0, 0) := rfl
set_option maxRecDepth 20000 in
theorem ja_C_tell_14 : jv_at jm_C_tell.2.2.2.2.2.2 14 = some (.iload_n 3, 1, 0, 0, 0, 0, 0) := rfl
set_option maxRecDepth 20000 in
theorem ja_C_tell_15 : jv_at jm_C_tell.2.2.2.2.2.2 15 = some (.invokestatic 128, 3, 42, 1, 571, 11, 1) := rfl
set_option maxRecDepth 20000 in
theorem ja_C_tell_18 : jv_at jm_C_tell.2.2.2.2.2.2 18 = some (.ifCond .ne 6, 3, 24, 0, 0, 0, 0) := rfl
set_option maxRecDepth 20000 in
theorem ja_C_tell_21 : jv_at jm_C_tell.2.2.2.2.2.2 21 = some (.bipush (-2), 2, 0, 0, 0, 0, -2) := rfl
set_option maxRecDepth 20000 in
theorem ja_C_tell_23 : jv_at jm_C_tell.2.2.2.2.2.2 23 = some (.ireturn, 1, 0, 0, 0, 0, 0) := rfl
set_option maxRecDepth 20000 in
theorem ja_C_tell_24 : jv_at jm_C_tell.2.2.2.2.2.2 24 = some (.aload_n 0, 1, 0, 0, 0, 0, 0) := rfl
set_option maxRecDepth 20000 in
theorem ja_C_tell_25 : jv_at jm_C_tell.2.2.2.2.2.2 25 = some (.getfield 27, 3, 11, 6, 503, 0, 0) := rfl
set_option maxRecDepth 20000 in
theorem ja_C_tell_28 : jv_at jm_C_tell.2.2.2.2.2.2 28 = some (.iconst (-1), 1, 0, 0, 0, 0, -1) := rfl
set_option maxRecDepth 20000 in
theorem ja_C_tell_29 : jv_at jm_C_tell.2.2.2.2.2.2 29 = some (.if_icmp .ne 6, 3, 35, 0, 0, 0, 0) := rfl
set_option maxRecDepth 20000 in
theorem ja_C_tell_32 : jv_at jm_C_tell.2.2.2.2.2.2 32 = some (.bipush (-3), 2, 0, 0, 0, 0, -3) := rfl
set_option maxRecDepth 20000 in
theorem ja_C_tell_34 : jv_at jm_C_tell.2.2.2.2.2.2 34 = some (.ireturn, 1, 0, 0, 0, 0, 0) := rfl
set_option maxRecDepth 20000 in
theorem ja_C_tell_35 : jv_at jm_C_tell.2.2.2.2.2.2 35 = some (.aload_n 0, 1, 0, 0, 0, 0, 0) := rfl
set_option maxRecDepth 20000 in
theorem ja_C_tell_36 : jv_at jm_C_tell.2.2.2.2.2.2 36 = some (.invokevirtual 246, 3, 84, 0, 739, 11, 0) := rfl
set_option maxRecDepth 20000 in
theorem ja_C_tell_39 : jv_at jm_C_tell.2.2.2.2.2.2 39 = some (.iload_n 1, 1, 0, 0, 0, 0, 0) := rfl
set_option maxRecDepth 20000 in
theorem ja_C_tell_40 : jv_at jm_C_tell.2.2.2.2.2.2 40 = some (.iload_n 2, 1, 0, 0, 0, 0, 0) := rfl
set_option maxRecDepth 20000 in
theorem ja_C_tell_41 : jv_at jm_C_tell.2.2.2.2.2.2 41 = some (.invokevirtual 250, 3, 85, 0, 743, 8, 2) := rfl
set_option maxRecDepth 20000 in
theorem ja_C_tell_44 : jv_at jm_C_tell.2.2.2.2.2.2 44 = some (.ifCond .ne 6, 3, 50, 0, 0, 0, 0) := rfl
set_option maxRecDepth 20000 in
theorem ja_C_tell_47 : jv_at jm_C_tell.2.2.2.2.2.2 47 = some (.bipush (-2), 2, 0, 0, 0, 0, -2) := rfl
set_option maxRecDepth 20000 in
theorem ja_C_tell_49 : jv_at jm_C_tell.2.2.2.2.2.2 49 = some (.ireturn, 1, 0, 0, 0, 0, 0) := rfl
set_option maxRecDepth 20000 in
theorem ja_C_tell_50 : jv_at jm_C_tell.2.2.2.2.2.2 50 = some (.aload_n 0, 1, 0, 0, 0, 0, 0) := rfl
set_option maxRecDepth 20000 in
theorem ja_C_tell_51 : jv_at jm_C_tell.2.2.2.2.2.2 51 = some (.getfield 50, 3, 11, 9, 506, 0, 0) := rfl
set_option maxRecDepth 20000 in
theorem ja_C_tell_54 : jv_at jm_C_tell.2.2.2.2.2.2 54 = some (.getfield 299, 3, 3, 0, 240, 0, 0) := rfl
set_option maxRecDepth 20000 in
theorem ja_C_tell_57 : jv_at jm_C_tell.2.2.2.2.2.2 57 = some (.invokevirtual 266, 3, 89, 0, 759, 6, 0) := rfl
set_option maxRecDepth 20000 in
theorem ja_C_tell_60 : jv_at jm_C_tell.2.2.2.2.2.2 60 = some (.ifCond .eq 6, 3, 66, 0, 0, 0, 0) := rfl
set_option maxRecDepth 20000 in
theorem ja_C_tell_63 : jv_at jm_C_tell.2.2.2.2.2.2 63 = some (.bipush (-4), 2, 0, 0, 0, 0, -4) := rfl
set_option maxRecDepth 20000 in
theorem ja_C_tell_65 : jv_at jm_C_tell.2.2.2.2.2.2 65 = some (.ireturn, 1, 0, 0, 0, 0, 0) := rfl
set_option maxRecDepth 20000 in
theorem ja_C_tell_66 : jv_at jm_C_tell.2.2.2.2.2.2 66 = some (.aload_n 0, 1, 0, 0, 0, 0, 0) := rfl
set_option maxRecDepth 20000 in
theorem ja_C_tell_67 : jv_at jm_C_tell.2.2.2.2.2.2 67 = some (.getfield 50, 3, 11, 9, 506, 0, 0) := rfl
set_option maxRecDepth 20000 in
theorem ja_C_tell_70 : jv_at jm_C_tell.2.2.2.2.2.2 70 = some (.getfield 299, 3, 3, 0, 240, 0, 0) := rfl
set_option maxRecDepth 20000 in
theorem ja_C_tell_73 : jv_at jm_C_tell.2.2.2.2.2.2 73 = some (.iload_n 1, 1, 0, 0, 0, 0, 0) := rfl
set_option maxRecDepth 20000 in
theorem ja_C_tell_74 : jv_at jm_C_tell.2.2.2.2.2.2 74 = some (.iconst (-1), 1, 0, 0, 0, 0, -1) := rfl
set_option maxRecDepth 20000 in
theorem ja_C_tell_75 : jv_at jm_C_tell.2.2.2.2.2.2 75 = some (.iload_n 2, 1, 0, 0, 0, 0, 0) := rfl
set_option maxRecDepth 20000 in
theorem ja_C_tell_76 : jv_at jm_C_tell.2.2.2.2.2.2 76 = some (.iload_n 1, 1, 0, 0, 0, 0, 0) := rfl
set_option maxRecDepth 20000 in
theorem ja_C_tell_77 : jv_at jm_C_tell.2.2.2.2.2.2 77 = some (.invokestatic 239, 3, 82, 1, 733, 11, 1) := rfl
set_option maxRecDepth 20000 in
theorem ja_C_tell_80 : jv_at jm_C_tell.2.2.2.2.2.2 80 = some (.ifCond .eq 7, 3, 87, 0, 0, 0, 0) := rfl
set_option maxRecDepth 20000 in
theorem ja_C_tell_83 : jv_at jm_C_tell.2.2.2.2.2.2 83 = some (.iload_n 3, 1, 0, 0, 0, 0, 0) := rfl
set_option maxRecDepth 20000 in
theorem ja_C_tell_84 : jv_at jm_C_tell.2.2.2.2.2.2 84 = some (.goto 4, 3, 88, 0, 0, 0, 0) := rfl
set_option maxRecDepth 20000 in
theorem ja_C_tell_87 : jv_at jm_C_tell.2.2.2.2.2.2 87 = some (.iconst (-1), 1, 0, 0, 0, 0, -1) := rfl
set_option maxRecDepth 20000 in
theorem ja_C_tell_88 : jv_at jm_C_tell.2.2.2.2.2.2 88 = some (.invokevirtual 242, 3, 90, 0, 763, 6, 4) := rfl
set_option maxRecDepth 20000 in
theorem ja_C_tell_91 : jv_at jm_C_tell.2.2.2.2.2.2 91 = some (.aload_n 0, 1, 0, 0, 0, 0, 0) := rfl
set_option maxRecDepth 20000 in
theorem ja_C_tell_92 : jv_at jm_C_tell.2.2.2.2.2.2 92 = some (.getfield 50, 3, 11, 9, 506, 0, 0) := rfl
set_option maxRecDepth 20000 in
theorem ja_C_tell_95 : jv_at jm_C_tell.2.2.2.2.2.2 95 = some (.getfield 299, 3, 3, 0, 240, 0, 0) := rfl
set_option maxRecDepth 20000 in
theorem ja_C_tell_98 : jv_at jm_C_tell.2.2.2.2.2.2 98 = some (.getfield 204, 3, 6, 0, 182, 0, 0) := rfl
set_option maxRecDepth 20000 in
theorem ja_C_tell_101 : jv_at jm_C_tell.2.2.2.2.2.2 101 = some (.ireturn, 1, 0, 0, 0, 0, 0) := rfl
set_option maxRecDepth 20000 in
theorem ja_C_foresee_0 : jv_at jm_C_foresee.2.2.2.2.2.2 0 = some (.aload_n 0, 1, 0, 0, 0, 0, 0) := rfl
set_option maxRecDepth 20000 in
theorem ja_C_foresee_1 : jv_at jm_C_foresee.2.2.2.2.2.2 1 = some (.iload_n 2, 1, 0, 0, 0, 0, 0) := rfl
set_option maxRecDepth 20000 in
theorem ja_C_foresee_2 : jv_at jm_C_foresee.2.2.2.2.2.2 2 = some (.invokevirtual 124, 3, 41, 0, 567, 11, 1) := rfl
set_option maxRecDepth 20000 in
theorem ja_C_foresee_5 : jv_at jm_C_foresee.2.2.2.2.2.2 5 = some (.ifCond .eq 22, 3, 27, 0, 0, 0, 0) := rfl
set_option maxRecDepth 20000 in
theorem ja_C_foresee_8 : jv_at jm_C_foresee.2.2.2.2.2.2 8 = some (.aload_n 0, 1, 0, 0, 0, 0, 0) := rfl
set_option maxRecDepth 20000 in
theorem ja_C_foresee_9 : jv_at jm_C_foresee.2.2.2.2.2.2 9 = some (.getfield 27, 3, 11, 6, 503, 0, 0) := rfl
set_option maxRecDepth 20000 in
theorem ja_C_foresee_12 : jv_at jm_C_foresee.2.2.2.2.2.2 12 = some (.iconst (-1), 1, 0, 0, 0, 0, -1) := rfl
set_option maxRecDepth 20000 in
theorem ja_C_foresee_13 : jv_at jm_C_foresee.2.2.2.2.2.2 13 = some (.if_icmp .eq 14, 3, 27, 0, 0, 0, 0) := rfl
set_option maxRecDepth 20000 in
theorem ja_C_foresee_16 : jv_at jm_C_foresee.2.2.2.2.2.2 16 = some (.aload_n 0, 1, 0, 0, 0, 0, 0) := rfl
set_option maxRecDepth 20000 in
theorem ja_C_foresee_17 : jv_at jm_C_foresee.2.2.2.2.2.2 17 = some (.getfield 50, 3, 11, 9, 506, 0, 0) := rfl
set_option maxRecDepth 20000 in
theorem ja_C_foresee_20 : jv_at jm_C_foresee.2.2.2.2.2.2 20 = some (.iload_n 1, 1, 0, 0, 0, 0, 0) := rfl
set_option maxRecDepth 20000 in
theorem ja_C_foresee_21 : jv_at jm_C_foresee.2.2.2.2.2.2 21 = some (.invokevirtual 320, 3, 108, 0, 836, 3, 1) := rfl
set_option maxRecDepth 20000 in
theorem ja_C_foresee_24 : jv_at jm_C_foresee.2.2.2.2.2.2 24 = some (.ifCond .ne 7, 3, 31, 0, 0, 0, 0) := rfl
set_option maxRecDepth 20000 in
theorem ja_C_foresee_27 : jv_at jm_C_foresee.2.2.2.2.2.2 27 = some (.ldc2_w 183, 3, 0, 0, 660, 0, -4611686018427387904) := rfl
set_option maxRecDepth 20000 in
theorem ja_C_foresee_30 : jv_at jm_C_foresee.2.2.2.2.2.2 30 = some (.lreturn, 1, 0, 0, 0, 0, 0) := rfl
set_option maxRecDepth 20000 in
theorem ja_C_foresee_31 : jv_at jm_C_foresee.2.2.2.2.2.2 31 = some (.aload_n 0, 1, 0, 0, 0, 0, 0) := rfl
set_option maxRecDepth 20000 in
theorem ja_C_foresee_32 : jv_at jm_C_foresee.2.2.2.2.2.2 32 = some (.getfield 50, 3, 11, 9, 506, 0, 0) := rfl
set_option maxRecDepth 20000 in
theorem ja_C_foresee_35 : jv_at jm_C_foresee.2.2.2.2.2.2 35 = some (.aload_n 0, 1, 0, 0, 0, 0, 0) := rfl
set_option maxRecDepth 20000 in
theorem ja_C_foresee_36 : jv_at jm_C_foresee.2.2.2.2.2.2 36 = some (.invokevirtual 246, 3, 84, 0, 739, 11, 0) := rfl
set_option maxRecDepth 20000 in
theorem ja_C_foresee_39 : jv_at jm_C_foresee.2.2.2.2.2.2 39 = some (.invokevirtual 323, 3, 109, 0, 841, 3, 1) := rfl
set_option maxRecDepth 20000 in
theorem ja_C_foresee_42 : jv_at jm_C_foresee.2.2.2.2.2.2 42 = some (.iload_n 1, 1, 0, 0, 0, 0, 0) := rfl
set_option maxRecDepth 20000 in
theorem ja_C_foresee_43 : jv_at jm_C_foresee.2.2.2.2.2.2 43 = some (.istore_n 3, 1, 0, 0, 0, 0, 0) := rfl
set_option maxRecDepth 20000 in
theorem ja_C_foresee_44 : jv_at jm_C_foresee.2.2.2.2.2.2 44 = some (.iconst 0, 1, 0, 0, 0, 0, 0) := rfl
set_option maxRecDepth 20000 in
theorem ja_C_foresee_45 : jv_at jm_C_foresee.2.2.2.2.2.2 45 = some (.istore 4, 2, 0, 0, 0, 0, 0) := rfl
set_option maxRecDepth 20000 in
theorem ja_C_foresee_47 : jv_at jm_C_foresee.2.2.2.2.2.2 47 = some (.iload 4, 2, 0, 0, 0, 0, 0) := rfl
set_option maxRecDepth 20000 in
theorem ja_C_foresee_49 : jv_at jm_C_foresee.2.2.2.2.2.2 49 = some (.aload_n 0, 1, 0, 0, 0, 0, 0) := rfl
set_option maxRecDepth 20000 in
theorem ja_C_foresee_50 : jv_at jm_C_foresee.2.2.2.2.2.2 50 = some (.getfield 50, 3, 11, 9, 506, 0, 0) := rfl
set_option maxRecDepth 20000 in
theorem ja_C_foresee_53 : jv_at jm_C_foresee.2.2.2.2.2.2 53 = some (.getfield 299, 3, 3, 0, 240, 0, 0) := rfl
set_option maxRecDepth 20000 in
theorem ja_C_foresee_56 : jv_at jm_C_foresee.2.2.2.2.2.2 56 = some (.getfield 204, 3, 6, 0, 182, 0, 0) := rfl
set_option maxRecDepth 20000 in
theorem ja_C_foresee_59 : jv_at jm_C_foresee.2.2.2.2.2.2 59 = some (.if_icmp .ge 24, 3, 83, 0, 0, 0, 0) := rfl
set_option maxRecDepth 20000 in
theorem ja_C_foresee_62 : jv_at jm_C_foresee.2.2.2.2.2.2 62 = some (.aload_n 0, 1, 0, 0, 0, 0, 0) := rfl
set_option maxRecDepth 20000 in
theorem ja_C_foresee_63 : jv_at jm_C_foresee.2.2.2.2.2.2 63 = some (.iload 4, 2, 0, 0, 0, 0, 0) := rfl
set_option maxRecDepth 20000 in
theorem ja_C_foresee_65 : jv_at jm_C_foresee.2.2.2.2.2.2 65 = some (.iload_n 3, 1, 0, 0, 0, 0, 0) := rfl
set_option maxRecDepth 20000 in
theorem ja_C_foresee_66 : jv_at jm_C_foresee.2.2.2.2.2.2 66 = some (.bipush 6, 2, 0, 0, 0, 0, 6) := rfl
set_option maxRecDepth 20000 in
theorem ja_C_foresee_68 : jv_at jm_C_foresee.2.2.2.2.2.2 68 = some (.irem, 1, 0, 0, 0, 0, 0) := rfl
set_option maxRecDepth 20000 in
theorem ja_C_foresee_69 : jv_at jm_C_foresee.2.2.2.2.2.2 69 = some (.invokevirtual 327, 3, 111, 0, 849, 11, 2) := rfl
set_option maxRecDepth 20000 in
theorem ja_C_foresee_72 : jv_at jm_C_foresee.2.2.2.2.2.2 72 = some (.iload_n 3, 1, 0, 0, 0, 0, 0) := rfl
set_option maxRecDepth 20000 in
theorem ja_C_foresee_73 : jv_at jm_C_foresee.2.2.2.2.2.2 73 = some (.bipush 6, 2, 0, 0, 0, 0, 6) := rfl
set_option maxRecDepth 20000 in
theorem ja_C_foresee_75 : jv_at jm_C_foresee.2.2.2.2.2.2 75 = some (.idiv, 1, 0, 0, 0, 0, 0) := rfl
set_option maxRecDepth 20000 in
theorem ja_C_foresee_76 : jv_at jm_C_foresee.2.2.2.2.2.2 76 = some (.istore_n 3, 1, 0, 0, 0, 0, 0) := rfl
set_option maxRecDepth 20000 in
theorem ja_C_foresee_77 : jv_at jm_C_foresee.2.2.2.2.2.2 77 = some (.iinc 4 1, 3, 0, 0, 0, 0, 0) := rfl
set_option maxRecDepth 20000 in
theorem ja_C_foresee_80 : jv_at jm_C_foresee.2.2.2.2.2.2 80 = some (.goto (-33), 3, 47, 0, 0, 0, 0) := rfl
set_option maxRecDepth 20000 in
theorem ja_C_foresee_83 : jv_at jm_C_foresee.2.2.2.2.2.2 83 = some (.aload_n 0, 1, 0, 0, 0, 0, 0) := rfl
set_option maxRecDepth 20000 in
theorem ja_C_foresee_84 : jv_at jm_C_foresee.2.2.2.2.2.2 84 = some (.getfield 50, 3, 11, 9, 506, 0, 0) := rfl
set_option maxRecDepth 20000 in
theorem ja_C_foresee_87 : jv_at jm_C_foresee.2.2.2.2.2.2 87 = some (.aload_n 0, 1, 0, 0, 0, 0, 0) := rfl
set_option maxRecDepth 20000 in
theorem ja_C_foresee_88 : jv_at jm_C_foresee.2.2.2.2.2.2 88 = some (.getfield 11, 3, 11, 0, 497, 0, 0) := rfl
set_option maxRecDepth 20000 in
theorem ja_C_foresee_91 : jv_at jm_C_foresee.2.2.2.2.2.2 91 = some (.iload_n 2, 1, 0, 0, 0, 0, 0) := rfl
set_option maxRecDepth 20000 in
theorem ja_C_foresee_92 : jv_at jm_C_foresee.2.2.2.2.2.2 92 = some (.aaload, 1, 0, 0, 0, 0, 0) := rfl
set_option maxRecDepth 20000 in
theorem ja_C_foresee_93 : jv_at jm_C_foresee.2.2.2.2.2.2 93 = some (.invokevirtual 331, 3, 113, 0, 858, 3, 1) := rfl
set_option maxRecDepth 20000 in
theorem ja_C_foresee_96 : jv_at jm_C_foresee.2.2.2.2.2.2 96 = some (.i2l, 1, 0, 0, 0, 0, 0) := rfl
set_option maxRecDepth 20000 in
theorem ja_C_foresee_97 : jv_at jm_C_foresee.2.2.2.2.2.2 97 = some (.lreturn, 1, 0, 0, 0, 0, 0) := rfl
set_option maxRecDepth 20000 in
theorem ja_C_foreseeOne_0 : jv_at jm_C_foreseeOne.2.2.2.2.2.2 0 = some (.aload_n 0, 1, 0, 0, 0, 0, 0) := rfl
set_option maxRecDepth 20000 in
theorem ja_C_foreseeOne_1 : jv_at jm_C_foreseeOne.2.2.2.2.2.2 1 = some (.getfield 50, 3, 11, 9, 506, 0, 0) := rfl
set_option maxRecDepth 20000 in
theorem ja_C_foreseeOne_4 : jv_at jm_C_foreseeOne.2.2.2.2.2.2 4 = some (.getfield 299, 3, 3, 0, 240, 0, 0) := rfl
set_option maxRecDepth 20000 in
theorem ja_C_foreseeOne_7 : jv_at jm_C_foreseeOne.2.2.2.2.2.2 7 = some (.iload_n 2, 1, 0, 0, 0, 0, 0) := rfl
set_option maxRecDepth 20000 in
theorem ja_C_foreseeOne_8 : jv_at jm_C_foreseeOne.2.2.2.2.2.2 8 = some (.invokevirtual 254, 3, 86, 0, 747, 6, 1) := rfl
set_option maxRecDepth 20000 in
theorem ja_C_foreseeOne_11 : jv_at jm_C_foreseeOne.2.2.2.2.2.2 11 = some (.ifCond .eq 14, 3, 25, 0, 0, 0, 0) := rfl
set_option maxRecDepth 20000 in
theorem ja_C_foreseeOne_14 : jv_at jm_C_foreseeOne.2.2.2.2.2.2 14 = some (.aload_n 0, 1, 0, 0, 0, 0, 0) := rfl
set_option maxRecDepth 20000 in
theorem ja_C_foreseeOne_15 : jv_at jm_C_foreseeOne.2.2.2.2.2.2 15 = some (.getfield 50, 3, 11, 9, 506, 0, 0) := rfl
set_option maxRecDepth 20000 in
theorem ja_C_foreseeOne_18 : jv_at jm_C_foreseeOne.2.2.2.2.2.2 18 = some (.iload_n 1, 1, 0, 0, 0, 0, 0) := rfl
set_option maxRecDepth 20000 in
theorem ja_C_foreseeOne_19 : jv_at jm_C_foreseeOne.2.2.2.2.2.2 19 = some (.invokevirtual 344, 3, 112, 0, 853, 3, 1) := rfl
set_option maxRecDepth 20000 in
theorem ja_C_foreseeOne_22 : jv_at jm_C_foreseeOne.2.2.2.2.2.2 22 = some (.ifCond .ne 4, 3, 26, 0, 0, 0, 0) := rfl
set_option maxRecDepth 20000 in
theorem ja_C_foreseeOne_25 : jv_at jm_C_foreseeOne.2.2.2.2.2.2 25 = some (.return_, 1, 0, 0, 0, 0, 0) := rfl
set_option maxRecDepth 20000 in
theorem ja_C_foreseeOne_26 : jv_at jm_C_foreseeOne.2.2.2.2.2.2 26 = some (.aload_n 0, 1, 0, 0, 0, 0, 0) := rfl
set_option maxRecDepth 20000 in
theorem ja_C_foreseeOne_27 : jv_at jm_C_foreseeOne.2.2.2.2.2.2 27 = some (.getfield 50, 3, 11, 9, 506, 0, 0) := rfl
set_option maxRecDepth 20000 in
theorem ja_C_foreseeOne_30 : jv_at jm_C_foreseeOne.2.2.2.2.2.2 30 = some (.getfield 347, 3, 3, 1, 242, 0, 0) := rfl
set_option maxRecDepth 20000 in
theorem ja_C_foreseeOne_33 : jv_at jm_C_foreseeOne.2.2.2.2.2.2 33 = some (.iload_n 1, 1, 0, 0, 0, 0, 0) := rfl
set_option maxRecDepth 20000 in
theorem ja_C_foreseeOne_34 : jv_at jm_C_foreseeOne.2.2.2.2.2.2 34 = some (.iconst 1, 1, 0, 0, 0, 0, 1) := rfl
set_option maxRecDepth 20000 in
theorem ja_C_foreseeOne_35 : jv_at jm_C_foreseeOne.2.2.2.2.2.2 35 = some (.iadd, 1, 0, 0, 0, 0, 0) := rfl
set_option maxRecDepth 20000 in
theorem ja_C_foreseeOne_36 : jv_at jm_C_foreseeOne.2.2.2.2.2.2 36 = some (.aaload, 1, 0, 0, 0, 0, 0) := rfl
set_option maxRecDepth 20000 in
theorem ja_C_foreseeOne_37 : jv_at jm_C_foreseeOne.2.2.2.2.2.2 37 = some (.astore_n 3, 1, 0, 0, 0, 0, 0) := rfl
set_option maxRecDepth 20000 in
theorem ja_C_foreseeOne_38 : jv_at jm_C_foreseeOne.2.2.2.2.2.2 38 = some (.aload_n 0, 1, 0, 0, 0, 0, 0) := rfl
set_option maxRecDepth 20000 in
theorem ja_C_foreseeOne_39 : jv_at jm_C_foreseeOne.2.2.2.2.2.2 39 = some (.getfield 50, 3, 11, 9, 506, 0, 0) := rfl
set_option maxRecDepth 20000 in
theorem ja_C_foreseeOne_42 : jv_at jm_C_foreseeOne.2.2.2.2.2.2 42 = some (.getfield 351, 3, 3, 2, 244, 0, 0) := rfl
set_option maxRecDepth 20000 in
theorem ja_C_foreseeOne_45 : jv_at jm_C_foreseeOne.2.2.2.2.2.2 45 = some (.iload_n 1, 1, 0, 0, 0, 0, 0) := rfl
set_option maxRecDepth 20000 in
theorem ja_C_foreseeOne_46 : jv_at jm_C_foreseeOne.2.2.2.2.2.2 46 = some (.iconst 1, 1, 0, 0, 0, 0, 1) := rfl
set_option maxRecDepth 20000 in
theorem ja_C_foreseeOne_47 : jv_at jm_C_foreseeOne.2.2.2.2.2.2 47 = some (.iadd, 1, 0, 0, 0, 0, 0) := rfl
set_option maxRecDepth 20000 in
theorem ja_C_foreseeOne_48 : jv_at jm_C_foreseeOne.2.2.2.2.2.2 48 = some (.aaload, 1, 0, 0, 0, 0, 0) := rfl
set_option maxRecDepth 20000 in
theorem ja_C_foreseeOne_49 : jv_at jm_C_foreseeOne.2.2.2.2.2.2 49 = some (.astore 4, 2, 0, 0, 0, 0, 0) := rfl
set_option maxRecDepth 20000 in
theorem ja_C_foreseeOne_51 : jv_at jm_C_foreseeOne.2.2.2.2.2.2 51 = some (.aload_n 0, 1, 0, 0, 0, 0, 0) := rfl
set_option maxRecDepth 20000 in
theorem ja_C_foreseeOne_52 : jv_at jm_C_foreseeOne.2.2.2.2.2.2 52 = some (.getfield 50, 3, 11, 9, 506, 0, 0) := rfl
set_option maxRecDepth 20000 in
theorem ja_C_foreseeOne_55 : jv_at jm_C_foreseeOne.2.2.2.2.2.2 55 = some (.getfield 299, 3, 3, 0, 240, 0, 0) := rfl
set_option maxRecDepth 20000 in
theorem ja_C_foreseeOne_58 : jv_at jm_C_foreseeOne.2.2.2.2.2.2 58 = some (.getfield 256, 3, 6, 2, 185, 0, 0) := rfl
set_option maxRecDepth 20000 in
theorem ja_C_foreseeOne_61 : jv_at jm_C_foreseeOne.2.2.2.2.2.2 61 = some (.iload_n 2, 1, 0, 0, 0, 0, 0) := rfl
set_option maxRecDepth 20000 in
theorem ja_C_foreseeOne_62 : jv_at jm_C_foreseeOne.2.2.2.2.2.2 62 = some (.iaload, 1, 0, 0, 0, 0, 0) := rfl
set_option maxRecDepth 20000 in
theorem ja_C_foreseeOne_63 : jv_at jm_C_foreseeOne.2.2.2.2.2.2 63 = some (.istore 5, 2, 0, 0, 0, 0, 0) := rfl
set_option maxRecDepth 20000 in
theorem ja_C_foreseeOne_65 : jv_at jm_C_foreseeOne.2.2.2.2.2.2 65 = some (.aload 4, 2, 0, 0, 0, 0, 0) := rfl
set_option maxRecDepth 20000 in
theorem ja_C_foreseeOne_67 : jv_at jm_C_foreseeOne.2.2.2.2.2.2 67 = some (.iload_n 2, 1, 0, 0, 0, 0, 0) := rfl
set_option maxRecDepth 20000 in
theorem ja_C_foreseeOne_68 : jv_at jm_C_foreseeOne.2.2.2.2.2.2 68 = some (.iaload, 1, 0, 0, 0, 0, 0) := rfl
set_option maxRecDepth 20000 in
theorem ja_C_foreseeOne_69 : jv_at jm_C_foreseeOne.2.2.2.2.2.2 69 = some (.istore 6, 2, 0, 0, 0, 0, 0) := rfl
set_option maxRecDepth 20000 in
theorem ja_C_foreseeOne_71 : jv_at jm_C_foreseeOne.2.2.2.2.2.2 71 = some (.aload_n 3, 1, 0, 0, 0, 0, 0) := rfl
set_option maxRecDepth 20000 in
theorem ja_C_foreseeOne_72 : jv_at jm_C_foreseeOne.2.2.2.2.2.2 72 = some (.iload 5, 2, 0, 0, 0, 0, 0) := rfl
set_option maxRecDepth 20000 in
theorem ja_C_foreseeOne_74 : jv_at jm_C_foreseeOne.2.2.2.2.2.2 74 = some (.iload 6, 2, 0, 0, 0, 0, 0) := rfl
set_option maxRecDepth 20000 in
theorem ja_C_foreseeOne_76 : jv_at jm_C_foreseeOne.2.2.2.2.2.2 76 = some (.invokevirtual 354, 3, 55, 0, 857, 8, 2) := rfl
set_option maxRecDepth 20000 in
theorem ja_C_foreseeOne_79 : jv_at jm_C_foreseeOne.2.2.2.2.2.2 79 = some (.ifCond .ne 4, 3, 83, 0, 0, 0, 0) := rfl
set_option maxRecDepth 20000 in
theorem ja_C_foreseeOne_82 : jv_at jm_C_foreseeOne.2.2.2.2.2.2 82 = some (.return_, 1, 0, 0, 0, 0, 0) := rfl
set_option maxRecDepth 20000 in
theorem ja_C_foreseeOne_83 : jv_at jm_C_foreseeOne.2.2.2.2.2.2 83 = some (.aload_n 0, 1, 0, 0, 0, 0, 0) := rfl
set_option maxRecDepth 20000 in
theorem ja_C_foreseeOne_84 : jv_at jm_C_foreseeOne.2.2.2.2.2.2 84 = some (.getfield 50, 3, 11, 9, 506, 0, 0) := rfl
set_option maxRecDepth 20000 in
theorem ja_C_foreseeOne_87 : jv_at jm_C_foreseeOne.2.2.2.2.2.2 87 = some (.getfield 357, 3, 3, 3, 246, 0, 0) := rfl
set_option maxRecDepth 20000 in
theorem ja_C_foreseeOne_90 : jv_at jm_C_foreseeOne.2.2.2.2.2.2 90 = some (.astore 7, 2, 0, 0, 0, 0, 0) := rfl
set_option maxRecDepth 20000 in
theorem ja_C_foreseeOne_92 : jv_at jm_C_foreseeOne.2.2.2.2.2.2 92 = some (.aload_n 0, 1, 0, 0, 0, 0, 0) := rfl
set_option maxRecDepth 20000 in
theorem ja_C_foreseeOne_93 : jv_at jm_C_foreseeOne.2.2.2.2.2.2 93 = some (.aload 7, 2, 0, 0, 0, 0, 0) := rfl
set_option maxRecDepth 20000 in
theorem ja_C_foreseeOne_95 : jv_at jm_C_foreseeOne.2.2.2.2.2.2 95 = some (.aload_n 3, 1, 0, 0, 0, 0, 0) := rfl
set_option maxRecDepth 20000 in
theorem ja_C_foreseeOne_96 : jv_at jm_C_foreseeOne.2.2.2.2.2.2 96 = some (.aload_n 0, 1, 0, 0, 0, 0, 0) := rfl
set_option maxRecDepth 20000 in
theorem ja_C_foreseeOne_97 : jv_at jm_C_foreseeOne.2.2.2.2.2.2 97 = some (.getfield 50, 3, 11, 9, 506, 0, 0) := rfl
set_option maxRecDepth 20000 in
theorem ja_C_foreseeOne_100 : jv_at jm_C_foreseeOne.2.2.2.2.2.2 100 = some (.getfield 299, 3, 3, 0, 240, 0, 0) := rfl
set_option maxRecDepth 20000 in
theorem ja_C_foreseeOne_103 : jv_at jm_C_foreseeOne.2.2.2.2.2.2 103 = some (.iload_n 2, 1, 0, 0, 0, 0, 0) := rfl
set_option maxRecDepth 20000 in
theorem ja_C_foreseeOne_104 : jv_at jm_C_foreseeOne.2.2.2.2.2.2 104 = some (.iload 6, 2, 0, 0, 0, 0, 0) := rfl
set_option maxRecDepth 20000 in
theorem ja_C_foreseeOne_106 : jv_at jm_C_foreseeOne.2.2.2.2.2.2 106 = some (.invokevirtual 270, 3, 93, 0, 776, 11, 5) := rfl
set_option maxRecDepth 20000 in
theorem ja_C_foreseeOne_109 : jv_at jm_C_foreseeOne.2.2.2.2.2.2 109 = some (.aload_n 0, 1, 0, 0, 0, 0, 0) := rfl
set_option maxRecDepth 20000 in
theorem ja_C_foreseeOne_110 : jv_at jm_C_foreseeOne.2.2.2.2.2.2 110 = some (.getfield 71, 3, 11, 14, 511, 0, 0) := rfl
set_option maxRecDepth 20000 in
theorem ja_C_foreseeOne_113 : jv_at jm_C_foreseeOne.2.2.2.2.2.2 113 = some (.iload 5, 2, 0, 0, 0, 0, 0) := rfl
set_option maxRecDepth 20000 in
theorem ja_C_foreseeOne_115 : jv_at jm_C_foreseeOne.2.2.2.2.2.2 115 = some (.iconst 0, 1, 0, 0, 0, 0, 0) := rfl
set_option maxRecDepth 20000 in
theorem ja_C_foreseeOne_116 : jv_at jm_C_foreseeOne.2.2.2.2.2.2 116 = some (.iconst 0, 1, 0, 0, 0, 0, 0) := rfl
set_option maxRecDepth 20000 in
theorem ja_C_foreseeOne_117 : jv_at jm_C_foreseeOne.2.2.2.2.2.2 117 = some (.aload 7, 2, 0, 0, 0, 0, 0) := rfl
set_option maxRecDepth 20000 in
theorem ja_C_foreseeOne_119 : jv_at jm_C_foreseeOne.2.2.2.2.2.2 119 = some (.getfield 274, 3, 0, 0, 224, 0, 0) := rfl
set_option maxRecDepth 20000 in
theorem ja_C_foreseeOne_122 : jv_at jm_C_foreseeOne.2.2.2.2.2.2 122 = some (.aload 7, 2, 0, 0, 0, 0, 0) := rfl
set_option maxRecDepth 20000 in
theorem ja_C_foreseeOne_124 : jv_at jm_C_foreseeOne.2.2.2.2.2.2 124 = some (.getfield 277, 3, 0, 1, 225, 0, 0) := rfl
set_option maxRecDepth 20000 in
theorem ja_C_foreseeOne_127 : jv_at jm_C_foreseeOne.2.2.2.2.2.2 127 = some (.invokevirtual 205, 3, 74, 0, 702, 4, 5) := rfl
set_option maxRecDepth 20000 in
theorem ja_C_foreseeOne_130 : jv_at jm_C_foreseeOne.2.2.2.2.2.2 130 = some (.aload_n 0, 1, 0, 0, 0, 0, 0) := rfl
set_option maxRecDepth 20000 in
theorem ja_C_foreseeOne_131 : jv_at jm_C_foreseeOne.2.2.2.2.2.2 131 = some (.aload_n 0, 1, 0, 0, 0, 0, 0) := rfl
set_option maxRecDepth 20000 in
theorem ja_C_foreseeOne_132 : jv_at jm_C_foreseeOne.2.2.2.2.2.2 132 = some (.getfield 229, 3, 11, 12, 509, 0, 0) := rfl
set_option maxRecDepth 20000 in
theorem ja_C_foreseeOne_135 : jv_at jm_C_foreseeOne.2.2.2.2.2.2 135 = some (.iconst 2, 1, 0, 0, 0, 0, 2) := rfl
set_option maxRecDepth 20000 in
theorem ja_C_foreseeOne_136 : jv_at jm_C_foreseeOne.2.2.2.2.2.2 136 = some (.invokevirtual 209, 3, 75, 0, 706, 11, 2) := rfl
set_option maxRecDepth 20000 in
theorem ja_C_foreseeOne_139 : jv_at jm_C_foreseeOne.2.2.2.2.2.2 139 = some (.ifCond .ne 4, 3, 143, 0, 0, 0, 0) := rfl
set_option maxRecDepth 20000 in
theorem ja_C_foreseeOne_142 : jv_at jm_C_foreseeOne.2.2.2.2.2.2 142 = some (.return_, 1, 0, 0, 0, 0, 0) := rfl
set_option maxRecDepth 20000 in
theorem ja_C_foreseeOne_143 : jv_at jm_C_foreseeOne.2.2.2.2.2.2 143 = some (.aload_n 3, 1, 0, 0, 0, 0, 0) := rfl
set_option maxRecDepth 20000 in
theorem ja_C_foreseeOne_144 : jv_at jm_C_foreseeOne.2.2.2.2.2.2 144 = some (.iload 5, 2, 0, 0, 0, 0, 0) := rfl
set_option maxRecDepth 20000 in
theorem ja_C_foreseeOne_146 : jv_at jm_C_foreseeOne.2.2.2.2.2.2 146 = some (.iload 6, 2, 0, 0, 0, 0, 0) := rfl
set_option maxRecDepth 20000 in
theorem ja_C_foreseeOne_148 : jv_at jm_C_foreseeOne.2.2.2.2.2.2 148 = some (.aload_n 0, 1, 0, 0, 0, 0, 0) := rfl
set_option maxRecDepth 20000 in
theorem ja_C_foreseeOne_149 : jv_at jm_C_foreseeOne.2.2.2.2.2.2 149 = some (.getfield 50, 3, 11, 9, 506, 0, 0) := rfl
set_option maxRecDepth 20000 in
theorem ja_C_foreseeOne_152 : jv_at jm_C_foreseeOne.2.2.2.2.2.2 152 = some (.getfield 299, 3, 3, 0, 240, 0, 0) := rfl
set_option maxRecDepth 20000 in
theorem ja_C_foreseeOne_155 : jv_at jm_C_foreseeOne.2.2.2.2.2.2 155 = some (.getfield 283, 3, 6, 5, 192, 0, 0) := rfl
set_option maxRecDepth 20000 in
theorem ja_C_foreseeOne_158 : jv_at jm_C_foreseeOne.2.2.2.2.2.2 158 = some (.iload_n 2, 1, 0, 0, 0, 0, 0) := rfl
set_option maxRecDepth 20000 in
theorem ja_C_foreseeOne_159 : jv_at jm_C_foreseeOne.2.2.2.2.2.2 159 = some (.iaload, 1, 0, 0, 0, 0, 0) := rfl
set_option maxRecDepth 20000 in
theorem ja_C_foreseeOne_160 : jv_at jm_C_foreseeOne.2.2.2.2.2.2 160 = some (.invokevirtual 164, 3, 54, 0, 618, 8, 3) := rfl
set_option maxRecDepth 20000 in
theorem ja_C_foreseeOne_163 : jv_at jm_C_foreseeOne.2.2.2.2.2.2 163 = some (.pop, 1, 0, 0, 0, 0, 0) := rfl
set_option maxRecDepth 20000 in
theorem ja_C_foreseeOne_164 : jv_at jm_C_foreseeOne.2.2.2.2.2.2 164 = some (.aload 4, 2, 0, 0, 0, 0, 0) := rfl
set_option maxRecDepth 20000 in
theorem ja_C_foreseeOne_166 : jv_at jm_C_foreseeOne.2.2.2.2.2.2 166 = some (.aload_n 0, 1, 0, 0, 0, 0, 0) := rfl
set_option maxRecDepth 20000 in
theorem ja_C_foreseeOne_167 : jv_at jm_C_foreseeOne.2.2.2.2.2.2 167 = some (.getfield 50, 3, 11, 9, 506, 0, 0) := rfl
set_option maxRecDepth 20000 in
theorem ja_C_foreseeOne_170 : jv_at jm_C_foreseeOne.2.2.2.2.2.2 170 = some (.getfield 299, 3, 3, 0, 240, 0, 0) := rfl
set_option maxRecDepth 20000 in
theorem ja_C_foreseeOne_173 : jv_at jm_C_foreseeOne.2.2.2.2.2.2 173 = some (.getfield 204, 3, 6, 0, 182, 0, 0) := rfl
set_option maxRecDepth 20000 in
theorem ja_C_foreseeOne_176 : jv_at jm_C_foreseeOne.2.2.2.2.2.2 176 = some (.iload 5, 2, 0, 0, 0, 0, 0) := rfl
set_option maxRecDepth 20000 in
theorem ja_C_foreseeOne_178 : jv_at jm_C_foreseeOne.2.2.2.2.2.2 178 = some (.iload 6, 2, 0, 0, 0, 0, 0) := rfl
set_option maxRecDepth 20000 in
theorem ja_C_foreseeOne_180 : jv_at jm_C_foreseeOne.2.2.2.2.2.2 180 = some (.invokestatic 295, 3, 100, 1, 804, 11, 4) := rfl
set_option maxRecDepth 20000 in
theorem ja_C_foreseeOne_183 : jv_at jm_C_foreseeOne.2.2.2.2.2.2 183 = some (.return_, 1, 0, 0, 0, 0, 0) := rfl
set_option maxRecDepth 20000 in
theorem ja_C_best_0 : jv_at jm_C_best.2.2.2.2.2.2 0 = some (.aload_n 0, 1, 0, 0, 0, 0, 0) := rfl
set_option maxRecDepth 20000 in
theorem ja_C_best_1 : jv_at jm_C_best.2.2.2.2.2.2 1 = some (.iload_n 1, 1, 0, 0, 0, 0, 0) := rfl
set_option maxRecDepth 20000 in
theorem ja_C_best_2 : jv_at jm_C_best.2.2.2.2.2.2 2 = some (.invokevirtual 124, 3, 41, 0, 567, 11, 1) := rfl
set_option maxRecDepth 20000 in
theorem ja_C_best_5 : jv_at jm_C_best.2.2.2.2.2.2 5 = some (.ifCond .ne 6, 3, 11, 0, 0, 0, 0) := rfl
set_option maxRecDepth 20000 in
theorem ja_C_best_8 : jv_at jm_C_best.2.2.2.2.2.2 8 = some (.bipush (-2), 2, 0, 0, 0, 0, -2) := rfl
set_option maxRecDepth 20000 in
theorem ja_C_best_10 : jv_at jm_C_best.2.2.2.2.2.2 10 = some (.ireturn, 1, 0, 0, 0, 0, 0) := rfl
set_option maxRecDepth 20000 in
theorem ja_C_best_11 : jv_at jm_C_best.2.2.2.2.2.2 11 = some (.aload_n 0, 1, 0, 0, 0, 0, 0) := rfl
set_option maxRecDepth 20000 in
theorem ja_C_best_12 : jv_at jm_C_best.2.2.2.2.2.2 12 = some (.getfield 27, 3, 11, 6, 503, 0, 0) := rfl
set_option maxRecDepth 20000 in
theorem ja_C_best_15 : jv_at jm_C_best.2.2.2.2.2.2 15 = some (.iconst (-1), 1, 0, 0, 0, 0, -1) := rfl
set_option maxRecDepth 20000 in
theorem ja_C_best_16 : jv_at jm_C_best.2.2.2.2.2.2 16 = some (.if_icmp .ne 6, 3, 22, 0, 0, 0, 0) := rfl
set_option maxRecDepth 20000 in
theorem ja_C_best_19 : jv_at jm_C_best.2.2.2.2.2.2 19 = some (.bipush (-3), 2, 0, 0, 0, 0, -3) := rfl
set_option maxRecDepth 20000 in
theorem ja_C_best_21 : jv_at jm_C_best.2.2.2.2.2.2 21 = some (.ireturn, 1, 0, 0, 0, 0, 0) := rfl
set_option maxRecDepth 20000 in
theorem ja_C_best_22 : jv_at jm_C_best.2.2.2.2.2.2 22 = some (.aload_n 0, 1, 0, 0, 0, 0, 0) := rfl
set_option maxRecDepth 20000 in
theorem ja_C_best_23 : jv_at jm_C_best.2.2.2.2.2.2 23 = some (.getfield 50, 3, 11, 9, 506, 0, 0) := rfl
set_option maxRecDepth 20000 in
theorem ja_C_best_26 : jv_at jm_C_best.2.2.2.2.2.2 26 = some (.aload_n 0, 1, 0, 0, 0, 0, 0) := rfl
set_option maxRecDepth 20000 in
theorem ja_C_best_27 : jv_at jm_C_best.2.2.2.2.2.2 27 = some (.invokevirtual 246, 3, 84, 0, 739, 11, 0) := rfl
set_option maxRecDepth 20000 in
theorem ja_C_best_30 : jv_at jm_C_best.2.2.2.2.2.2 30 = some (.invokevirtual 323, 3, 109, 0, 841, 3, 1) := rfl
set_option maxRecDepth 20000 in
theorem ja_C_best_33 : jv_at jm_C_best.2.2.2.2.2.2 33 = some (.aload_n 0, 1, 0, 0, 0, 0, 0) := rfl
set_option maxRecDepth 20000 in
theorem ja_C_best_34 : jv_at jm_C_best.2.2.2.2.2.2 34 = some (.aload_n 0, 1, 0, 0, 0, 0, 0) := rfl
set_option maxRecDepth 20000 in
theorem ja_C_best_35 : jv_at jm_C_best.2.2.2.2.2.2 35 = some (.getfield 11, 3, 11, 0, 497, 0, 0) := rfl
set_option maxRecDepth 20000 in
theorem ja_C_best_38 : jv_at jm_C_best.2.2.2.2.2.2 38 = some (.iload_n 1, 1, 0, 0, 0, 0, 0) := rfl
set_option maxRecDepth 20000 in
theorem ja_C_best_39 : jv_at jm_C_best.2.2.2.2.2.2 39 = some (.aaload, 1, 0, 0, 0, 0, 0) := rfl
set_option maxRecDepth 20000 in
theorem ja_C_best_40 : jv_at jm_C_best.2.2.2.2.2.2 40 = some (.iconst 0, 1, 0, 0, 0, 0, 0) := rfl
set_option maxRecDepth 20000 in
theorem ja_C_best_41 : jv_at jm_C_best.2.2.2.2.2.2 41 = some (.iconst 0, 1, 0, 0, 0, 0, 0) := rfl
set_option maxRecDepth 20000 in
theorem ja_C_best_42 : jv_at jm_C_best.2.2.2.2.2.2 42 = some (.iconst 0, 1, 0, 0, 0, 0, 0) := rfl
set_option maxRecDepth 20000 in
theorem ja_C_best_43 : jv_at jm_C_best.2.2.2.2.2.2 43 = some (.iconst 1, 1, 0, 0, 0, 0, 1) := rfl
set_option maxRecDepth 20000 in
theorem ja_C_best_44 : jv_at jm_C_best.2.2.2.2.2.2 44 = some (.invokestatic 334, 3, 115, 1, 867, 11, 6) := rfl
set_option maxRecDepth 20000 in
theorem ja_C_best_47 : jv_at jm_C_best.2.2.2.2.2.2 47 = some (.aload_n 0, 1, 0, 0, 0, 0, 0) := rfl
set_option maxRecDepth 20000 in
theorem ja_C_best_48 : jv_at jm_C_best.2.2.2.2.2.2 48 = some (.getfield 50, 3, 11, 9, 506, 0, 0) := rfl
set_option maxRecDepth 20000 in
theorem ja_C_best_51 : jv_at jm_C_best.2.2.2.2.2.2 51 = some (.getfield 338, 3, 3, 4, 248, 0, 0) := rfl
set_option maxRecDepth 20000 in
theorem ja_C_best_54 : jv_at jm_C_best.2.2.2.2.2.2 54 = some (.ireturn, 1, 0, 0, 0, 0, 0) := rfl
set_option maxRecDepth 20000 in
theorem ja_C_search_0 : jv_at jm_C_search.2.2.2.2.2.2 0 = some (.aload_n 0, 1, 0, 0, 0, 0, 0) := rfl
set_option maxRecDepth 20000 in
theorem ja_C_search_1 : jv_at jm_C_search.2.2.2.2.2.2 1 = some (.getfield 50, 3, 11, 9, 506, 0, 0) := rfl
set_option maxRecDepth 20000 in
theorem ja_C_search_4 : jv_at jm_C_search.2.2.2.2.2.2 4 = some (.astore 6, 2, 0, 0, 0, 0, 0) := rfl
set_option maxRecDepth 20000 in
theorem ja_C_search_6 : jv_at jm_C_search.2.2.2.2.2.2 6 = some (.iload_n 2, 1, 0, 0, 0, 0, 0) := rfl
set_option maxRecDepth 20000 in
theorem ja_C_search_7 : jv_at jm_C_search.2.2.2.2.2.2 7 = some (.aload 6, 2, 0, 0, 0, 0, 0) := rfl
set_option maxRecDepth 20000 in
theorem ja_C_search_9 : jv_at jm_C_search.2.2.2.2.2.2 9 = some (.getfield 299, 3, 3, 0, 240, 0, 0) := rfl
set_option maxRecDepth 20000 in
theorem ja_C_search_12 : jv_at jm_C_search.2.2.2.2.2.2 12 = some (.getfield 204, 3, 6, 0, 182, 0, 0) := rfl
set_option maxRecDepth 20000 in
theorem ja_C_search_15 : jv_at jm_C_search.2.2.2.2.2.2 15 = some (.if_icmp .ge 8, 3, 23, 0, 0, 0, 0) := rfl
set_option maxRecDepth 20000 in
theorem ja_C_search_18 : jv_at jm_C_search.2.2.2.2.2.2 18 = some (.iload_n 2, 1, 0, 0, 0, 0, 0) := rfl
set_option maxRecDepth 20000 in
theorem ja_C_search_19 : jv_at jm_C_search.2.2.2.2.2.2 19 = some (.iconst 5, 1, 0, 0, 0, 0, 5) := rfl
set_option maxRecDepth 20000 in
theorem ja_C_search_20 : jv_at jm_C_search.2.2.2.2.2.2 20 = some (.if_icmp .lt 17, 3, 37, 0, 0, 0, 0) := rfl
set_option maxRecDepth 20000 in
theorem ja_C_search_23 : jv_at jm_C_search.2.2.2.2.2.2 23 = some (.aload 6, 2, 0, 0, 0, 0, 0) := rfl
set_option maxRecDepth 20000 in
theorem ja_C_search_25 : jv_at jm_C_search.2.2.2.2.2.2 25 = some (.iload 4, 2, 0, 0, 0, 0, 0) := rfl
set_option maxRecDepth 20000 in
theorem ja_C_search_27 : jv_at jm_C_search.2.2.2.2.2.2 27 = some (.aload 6, 2, 0, 0, 0, 0, 0) := rfl
set_option maxRecDepth 20000 in
theorem ja_C_search_29 : jv_at jm_C_search.2.2.2.2.2.2 29 = some (.aload_n 1, 1, 0, 0, 0, 0, 0) := rfl
set_option maxRecDepth 20000 in
theorem ja_C_search_30 : jv_at jm_C_search.2.2.2.2.2.2 30 = some (.invokevirtual 331, 3, 113, 0, 858, 3, 1) := rfl
set_option maxRecDepth 20000 in
theorem ja_C_search_33 : jv_at jm_C_search.2.2.2.2.2.2 33 = some (.invokevirtual 341, 3, 116, 0, 870, 3, 2) := rfl
set_option maxRecDepth 20000 in
theorem ja_C_search_36 : jv_at jm_C_search.2.2.2.2.2.2 36 = some (.return_, 1, 0, 0, 0, 0, 0) := rfl
set_option maxRecDepth 20000 in
theorem ja_C_search_37 : jv_at jm_C_search.2.2.2.2.2.2 37 = some (.iconst 0, 1, 0, 0, 0, 0, 0) := rfl
set_option maxRecDepth 20000 in
theorem ja_C_search_38 : jv_at jm_C_search.2.2.2.2.2.2 38 = some (.istore 7, 2, 0, 0, 0, 0, 0) := rfl
set_option maxRecDepth 20000 in
theorem ja_C_search_40 : jv_at jm_C_search.2.2.2.2.2.2 40 = some (.iload 7, 2, 0, 0, 0, 0, 0) := rfl
set_option maxRecDepth 20000 in
theorem ja_C_search_42 : jv_at jm_C_search.2.2.2.2.2.2 42 = some (.aload 6, 2, 0, 0, 0, 0, 0) := rfl
set_option maxRecDepth 20000 in
theorem ja_C_search_44 : jv_at jm_C_search.2.2.2.2.2.2 44 = some (.getfield 299, 3, 3, 0, 240, 0, 0) := rfl
set_option maxRecDepth 20000 in
theorem ja_C_search_47 : jv_at jm_C_search.2.2.2.2.2.2 47 = some (.getfield 204, 3, 6, 0, 182, 0, 0) := rfl
set_option maxRecDepth 20000 in
theorem ja_C_search_50 : jv_at jm_C_search.2.2.2.2.2.2 50 = some (.if_icmp .ge 55, 3, 105, 0, 0, 0, 0) := rfl
set_option maxRecDepth 20000 in
theorem ja_C_search_53 : jv_at jm_C_search.2.2.2.2.2.2 53 = some (.iload_n 3, 1, 0, 0, 0, 0, 0) := rfl
set_option maxRecDepth 20000 in
theorem ja_C_search_54 : jv_at jm_C_search.2.2.2.2.2.2 54 = some (.iload 7, 2, 0, 0, 0, 0, 0) := rfl
set_option maxRecDepth 20000 in
theorem ja_C_search_56 : jv_at jm_C_search.2.2.2.2.2.2 56 = some (.ishr, 1, 0, 0, 0, 0, 0) := rfl
set_option maxRecDepth 20000 in
theorem ja_C_search_57 : jv_at jm_C_search.2.2.2.2.2.2 57 = some (.iconst 1, 1, 0, 0, 0, 0, 1) := rfl
set_option maxRecDepth 20000 in
theorem ja_C_search_58 : jv_at jm_C_search.2.2.2.2.2.2 58 = some (.iand, 1, 0, 0, 0, 0, 0) := rfl
set_option maxRecDepth 20000 in
theorem ja_C_search_59 : jv_at jm_C_search.2.2.2.2.2.2 59 = some (.ifCond .eq 6, 3, 65, 0, 0, 0, 0) := rfl
set_option maxRecDepth 20000 in
theorem ja_C_search_62 : jv_at jm_C_search.2.2.2.2.2.2 62 = some (.goto 37, 3, 99, 0, 0, 0, 0) := rfl
set_option maxRecDepth 20000 in
theorem ja_C_search_65 : jv_at jm_C_search.2.2.2.2.2.2 65 = some (.aload_n 0, 1, 0, 0, 0, 0, 0) := rfl
set_option maxRecDepth 20000 in
theorem ja_C_search_66 : jv_at jm_C_search.2.2.2.2.2.2 66 = some (.iload_n 2, 1, 0, 0, 0, 0, 0) := rfl
set_option maxRecDepth 20000 in
theorem ja_C_search_67 : jv_at jm_C_search.2.2.2.2.2.2 67 = some (.iload 7, 2, 0, 0, 0, 0, 0) := rfl
set_option maxRecDepth 20000 in
theorem ja_C_search_69 : jv_at jm_C_search.2.2.2.2.2.2 69 = some (.invokevirtual 327, 3, 111, 0, 849, 11, 2) := rfl
set_option maxRecDepth 20000 in
theorem ja_C_search_72 : jv_at jm_C_search.2.2.2.2.2.2 72 = some (.aload_n 0, 1, 0, 0, 0, 0, 0) := rfl
set_option maxRecDepth 20000 in
theorem ja_C_search_73 : jv_at jm_C_search.2.2.2.2.2.2 73 = some (.aload_n 1, 1, 0, 0, 0, 0, 0) := rfl
set_option maxRecDepth 20000 in
theorem ja_C_search_74 : jv_at jm_C_search.2.2.2.2.2.2 74 = some (.iload_n 2, 1, 0, 0, 0, 0, 0) := rfl
set_option maxRecDepth 20000 in
theorem ja_C_search_75 : jv_at jm_C_search.2.2.2.2.2.2 75 = some (.iconst 1, 1, 0, 0, 0, 0, 1) := rfl
set_option maxRecDepth 20000 in
theorem ja_C_search_76 : jv_at jm_C_search.2.2.2.2.2.2 76 = some (.iadd, 1, 0, 0, 0, 0, 0) := rfl
set_option maxRecDepth 20000 in
theorem ja_C_search_77 : jv_at jm_C_search.2.2.2.2.2.2 77 = some (.iload_n 3, 1, 0, 0, 0, 0, 0) := rfl
set_option maxRecDepth 20000 in
theorem ja_C_search_78 : jv_at jm_C_search.2.2.2.2.2.2 78 = some (.iconst 1, 1, 0, 0, 0, 0, 1) := rfl
set_option maxRecDepth 20000 in
theorem ja_C_search_79 : jv_at jm_C_search.2.2.2.2.2.2 79 = some (.iload 7, 2, 0, 0, 0, 0, 0) := rfl
set_option maxRecDepth 20000 in
theorem ja_C_search_81 : jv_at jm_C_search.2.2.2.2.2.2 81 = some (.ishl, 1, 0, 0, 0, 0, 0) := rfl
set_option maxRecDepth 20000 in
theorem ja_C_search_82 : jv_at jm_C_search.2.2.2.2.2.2 82 = some (.ior, 1, 0, 0, 0, 0, 0) := rfl
set_option maxRecDepth 20000 in
theorem ja_C_search_83 : jv_at jm_C_search.2.2.2.2.2.2 83 = some (.iload 4, 2, 0, 0, 0, 0, 0) := rfl
set_option maxRecDepth 20000 in
theorem ja_C_search_85 : jv_at jm_C_search.2.2.2.2.2.2 85 = some (.iload 7, 2, 0, 0, 0, 0, 0) := rfl
set_option maxRecDepth 20000 in
theorem ja_C_search_87 : jv_at jm_C_search.2.2.2.2.2.2 87 = some (.iload 5, 2, 0, 0, 0, 0, 0) := rfl
set_option maxRecDepth 20000 in
theorem ja_C_search_89 : jv_at jm_C_search.2.2.2.2.2.2 89 = some (.imul, 1, 0, 0, 0, 0, 0) := rfl
set_option maxRecDepth 20000 in
theorem ja_C_search_90 : jv_at jm_C_search.2.2.2.2.2.2 90 = some (.iadd, 1, 0, 0, 0, 0, 0) := rfl
set_option maxRecDepth 20000 in
theorem ja_C_search_91 : jv_at jm_C_search.2.2.2.2.2.2 91 = some (.iload 5, 2, 0, 0, 0, 0, 0) := rfl
set_option maxRecDepth 20000 in
theorem ja_C_search_93 : jv_at jm_C_search.2.2.2.2.2.2 93 = some (.bipush 6, 2, 0, 0, 0, 0, 6) := rfl
set_option maxRecDepth 20000 in
theorem ja_C_search_95 : jv_at jm_C_search.2.2.2.2.2.2 95 = some (.imul, 1, 0, 0, 0, 0, 0) := rfl
set_option maxRecDepth 20000 in
theorem ja_C_search_96 : jv_at jm_C_search.2.2.2.2.2.2 96 = some (.invokestatic 334, 3, 115, 1, 867, 11, 6) := rfl
set_option maxRecDepth 20000 in
theorem ja_C_search_99 : jv_at jm_C_search.2.2.2.2.2.2 99 = some (.iinc 7 1, 3, 0, 0, 0, 0, 0) := rfl
set_option maxRecDepth 20000 in
theorem ja_C_search_102 : jv_at jm_C_search.2.2.2.2.2.2 102 = some (.goto (-62), 3, 40, 0, 0, 0, 0) := rfl
set_option maxRecDepth 20000 in
theorem ja_C_search_105 : jv_at jm_C_search.2.2.2.2.2.2 105 = some (.return_, 1, 0, 0, 0, 0, 0) := rfl
set_option maxRecDepth 20000 in
theorem ja_C_confer_0 : jv_at jm_C_confer.2.2.2.2.2.2 0 = some (.aload_n 0, 1, 0, 0, 0, 0, 0) := rfl
set_option maxRecDepth 20000 in
theorem ja_C_confer_1 : jv_at jm_C_confer.2.2.2.2.2.2 1 = some (.iload_n 1, 1, 0, 0, 0, 0, 0) := rfl
set_option maxRecDepth 20000 in
theorem ja_C_confer_2 : jv_at jm_C_confer.2.2.2.2.2.2 2 = some (.invokevirtual 148, 3, 52, 0, 610, 11, 1) := rfl
set_option maxRecDepth 20000 in
theorem ja_C_confer_5 : jv_at jm_C_confer.2.2.2.2.2.2 5 = some (.ifCond .eq 16, 3, 21, 0, 0, 0, 0) := rfl
set_option maxRecDepth 20000 in
theorem ja_C_confer_8 : jv_at jm_C_confer.2.2.2.2.2.2 8 = some (.aload_n 0, 1, 0, 0, 0, 0, 0) := rfl
set_option maxRecDepth 20000 in
theorem ja_C_confer_9 : jv_at jm_C_confer.2.2.2.2.2.2 9 = some (.iload_n 2, 1, 0, 0, 0, 0, 0) := rfl
set_option maxRecDepth 20000 in
theorem ja_C_confer_10 : jv_at jm_C_confer.2.2.2.2.2.2 10 = some (.invokevirtual 148, 3, 52, 0, 610, 11, 1) := rfl
set_option maxRecDepth 20000 in
theorem ja_C_confer_13 : jv_at jm_C_confer.2.2.2.2.2.2 13 = some (.ifCond .eq 8, 3, 21, 0, 0, 0, 0) := rfl
set_option maxRecDepth 20000 in
theorem ja_C_confer_16 : jv_at jm_C_confer.2.2.2.2.2.2 16 = some (.iload_n 1, 1, 0, 0, 0, 0, 0) := rfl
set_option maxRecDepth 20000 in
theorem ja_C_confer_17 : jv_at jm_C_confer.2.2.2.2.2.2 17 = some (.iload_n 2, 1, 0, 0, 0, 0, 0) := rfl
set_option maxRecDepth 20000 in
theorem ja_C_confer_18 : jv_at jm_C_confer.2.2.2.2.2.2 18 = some (.if_icmp .ne 6, 3, 24, 0, 0, 0, 0) := rfl
set_option maxRecDepth 20000 in
theorem ja_C_confer_21 : jv_at jm_C_confer.2.2.2.2.2.2 21 = some (.bipush (-2), 2, 0, 0, 0, 0, -2) := rfl
set_option maxRecDepth 20000 in
theorem ja_C_confer_23 : jv_at jm_C_confer.2.2.2.2.2.2 23 = some (.ireturn, 1, 0, 0, 0, 0, 0) := rfl
set_option maxRecDepth 20000 in
theorem ja_C_confer_24 : jv_at jm_C_confer.2.2.2.2.2.2 24 = some (.aload_n 0, 1, 0, 0, 0, 0, 0) := rfl
set_option maxRecDepth 20000 in
theorem ja_C_confer_25 : jv_at jm_C_confer.2.2.2.2.2.2 25 = some (.getfield 85, 3, 11, 16, 513, 0, 0) := rfl
set_option maxRecDepth 20000 in
theorem ja_C_confer_28 : jv_at jm_C_confer.2.2.2.2.2.2 28 = some (.aload_n 0, 1, 0, 0, 0, 0, 0) := rfl
set_option maxRecDepth 20000 in
theorem ja_C_confer_29 : jv_at jm_C_confer.2.2.2.2.2.2 29 = some (.getfield 18, 3, 11, 2, 499, 0, 0) := rfl
set_option maxRecDepth 20000 in
theorem ja_C_confer_32 : jv_at jm_C_confer.2.2.2.2.2.2 32 = some (.iload_n 1, 1, 0, 0, 0, 0, 0) := rfl
set_option maxRecDepth 20000 in
theorem ja_C_confer_33 : jv_at jm_C_confer.2.2.2.2.2.2 33 = some (.aaload, 1, 0, 0, 0, 0, 0) := rfl
set_option maxRecDepth 20000 in
theorem ja_C_confer_34 : jv_at jm_C_confer.2.2.2.2.2.2 34 = some (.getfield 154, 3, 1, 2, 164, 0, 0) := rfl
set_option maxRecDepth 20000 in
theorem ja_C_confer_37 : jv_at jm_C_confer.2.2.2.2.2.2 37 = some (.aload_n 0, 1, 0, 0, 0, 0, 0) := rfl
set_option maxRecDepth 20000 in
theorem ja_C_confer_38 : jv_at jm_C_confer.2.2.2.2.2.2 38 = some (.getfield 18, 3, 11, 2, 499, 0, 0) := rfl
set_option maxRecDepth 20000 in
theorem ja_C_confer_41 : jv_at jm_C_confer.2.2.2.2.2.2 41 = some (.iload_n 2, 1, 0, 0, 0, 0, 0) := rfl
set_option maxRecDepth 20000 in
theorem ja_C_confer_42 : jv_at jm_C_confer.2.2.2.2.2.2 42 = some (.aaload, 1, 0, 0, 0, 0, 0) := rfl
set_option maxRecDepth 20000 in
theorem ja_C_confer_43 : jv_at jm_C_confer.2.2.2.2.2.2 43 = some (.getfield 154, 3, 1, 2, 164, 0, 0) := rfl
set_option maxRecDepth 20000 in
theorem ja_C_confer_46 : jv_at jm_C_confer.2.2.2.2.2.2 46 = some (.invokevirtual 360, 3, 118, 0, 878, 2, 2) := rfl
set_option maxRecDepth 20000 in
theorem ja_C_confer_49 : jv_at jm_C_confer.2.2.2.2.2.2 49 = some (.ireturn, 1, 0, 0, 0, 0, 0) := rfl
set_option maxRecDepth 20000 in
theorem ja_C_conferred_0 : jv_at jm_C_conferred.2.2.2.2.2.2 0 = some (.aload_n 0, 1, 0, 0, 0, 0, 0) := rfl
set_option maxRecDepth 20000 in
theorem ja_C_conferred_1 : jv_at jm_C_conferred.2.2.2.2.2.2 1 = some (.iload_n 1, 1, 0, 0, 0, 0, 0) := rfl
set_option maxRecDepth 20000 in
theorem ja_C_conferred_2 : jv_at jm_C_conferred.2.2.2.2.2.2 2 = some (.invokevirtual 148, 3, 52, 0, 610, 11, 1) := rfl
set_option maxRecDepth 20000 in
theorem ja_C_conferred_5 : jv_at jm_C_conferred.2.2.2.2.2.2 5 = some (.ifCond .eq 16, 3, 21, 0, 0, 0, 0) := rfl
set_option maxRecDepth 20000 in
theorem ja_C_conferred_8 : jv_at jm_C_conferred.2.2.2.2.2.2 8 = some (.aload_n 0, 1, 0, 0, 0, 0, 0) := rfl
set_option maxRecDepth 20000 in
theorem ja_C_conferred_9 : jv_at jm_C_conferred.2.2.2.2.2.2 9 = some (.iload_n 2, 1, 0, 0, 0, 0, 0) := rfl
set_option maxRecDepth 20000 in
theorem ja_C_conferred_10 : jv_at jm_C_conferred.2.2.2.2.2.2 10 = some (.invokevirtual 148, 3, 52, 0, 610, 11, 1) := rfl
set_option maxRecDepth 20000 in
theorem ja_C_conferred_13 : jv_at jm_C_conferred.2.2.2.2.2.2 13 = some (.ifCond .eq 8, 3, 21, 0, 0, 0, 0) := rfl
set_option maxRecDepth 20000 in
theorem ja_C_conferred_16 : jv_at jm_C_conferred.2.2.2.2.2.2 16 = some (.iload_n 1, 1, 0, 0, 0, 0, 0) := rfl
set_option maxRecDepth 20000 in
theorem ja_C_conferred_17 : jv_at jm_C_conferred.2.2.2.2.2.2 17 = some (.iload_n 2, 1, 0, 0, 0, 0, 0) := rfl
set_option maxRecDepth 20000 in
theorem ja_C_conferred_18 : jv_at jm_C_conferred.2.2.2.2.2.2 18 = some (.if_icmp .ne 6, 3, 24, 0, 0, 0, 0) := rfl
set_option maxRecDepth 20000 in
theorem ja_C_conferred_21 : jv_at jm_C_conferred.2.2.2.2.2.2 21 = some (.bipush (-2), 2, 0, 0, 0, 0, -2) := rfl
set_option maxRecDepth 20000 in
theorem ja_C_conferred_23 : jv_at jm_C_conferred.2.2.2.2.2.2 23 = some (.ireturn, 1, 0, 0, 0, 0, 0) := rfl
set_option maxRecDepth 20000 in
theorem ja_C_conferred_24 : jv_at jm_C_conferred.2.2.2.2.2.2 24 = some (.aload_n 0, 1, 0, 0, 0, 0, 0) := rfl
set_option maxRecDepth 20000 in
theorem ja_C_conferred_25 : jv_at jm_C_conferred.2.2.2.2.2.2 25 = some (.getfield 85, 3, 11, 16, 513, 0, 0) := rfl
set_option maxRecDepth 20000 in
theorem ja_C_conferred_28 : jv_at jm_C_conferred.2.2.2.2.2.2 28 = some (.aload_n 0, 1, 0, 0, 0, 0, 0) := rfl
set_option maxRecDepth 20000 in
theorem ja_C_conferred_29 : jv_at jm_C_conferred.2.2.2.2.2.2 29 = some (.getfield 18, 3, 11, 2, 499, 0, 0) := rfl
set_option maxRecDepth 20000 in
theorem ja_C_conferred_32 : jv_at jm_C_conferred.2.2.2.2.2.2 32 = some (.iload_n 1, 1, 0, 0, 0, 0, 0) := rfl
set_option maxRecDepth 20000 in
theorem ja_C_conferred_33 : jv_at jm_C_conferred.2.2.2.2.2.2 33 = some (.aaload, 1, 0, 0, 0, 0, 0) := rfl
set_option maxRecDepth 20000 in
theorem ja_C_conferred_34 : jv_at jm_C_conferred.2.2.2.2.2.2 34 = some (.getfield 154, 3, 1, 2, 164, 0, 0) := rfl
set_option maxRecDepth 20000 in
theorem ja_C_conferred_37 : jv_at jm_C_conferred.2.2.2.2.2.2 37 = some (.aload_n 0, 1, 0, 0, 0, 0, 0) := rfl
set_option maxRecDepth 20000 in
theorem ja_C_conferred_38 : jv_at jm_C_conferred.2.2.2.2.2.2 38 = some (.getfield 18, 3, 11, 2, 499, 0, 0) := rfl
set_option maxRecDepth 20000 in
theorem ja_C_conferred_41 : jv_at jm_C_conferred.2.2.2.2.2.2 41 = some (.iload_n 2, 1, 0, 0, 0, 0, 0) := rfl
set_option maxRecDepth 20000 in
theorem ja_C_conferred_42 : jv_at jm_C_conferred.2.2.2.2.2.2 42 = some (.aaload, 1, 0, 0, 0, 0, 0) := rfl
set_option maxRecDepth 20000 in
theorem ja_C_conferred_43 : jv_at jm_C_conferred.2.2.2.2.2.2 43 = some (.getfield 154, 3, 1, 2, 164, 0, 0) := rfl
set_option maxRecDepth 20000 in
theorem ja_C_conferred_46 : jv_at jm_C_conferred.2.2.2.2.2.2 46 = some (.invokevirtual 360, 3, 118, 0, 878, 2, 2) := rfl
set_option maxRecDepth 20000 in
theorem ja_C_conferred_49 : jv_at jm_C_conferred.2.2.2.2.2.2 49 = some (.istore 4, 2, 0, 0, 0, 0, 0) := rfl
set_option maxRecDepth 20000 in
theorem ja_C_conferred_51 : jv_at jm_C_conferred.2.2.2.2.2.2 51 = some (.iload_n 3, 1, 0, 0, 0, 0, 0) := rfl
set_option maxRecDepth 20000 in
theorem ja_C_conferred_52 : jv_at jm_C_conferred.2.2.2.2.2.2 52 = some (.ifCond .lt 27, 3, 79, 0, 0, 0, 0) := rfl
set_option maxRecDepth 20000 in
theorem ja_C_conferred_55 : jv_at jm_C_conferred.2.2.2.2.2.2 55 = some (.iload_n 3, 1, 0, 0, 0, 0, 0) := rfl
set_option maxRecDepth 20000 in
theorem ja_C_conferred_56 : jv_at jm_C_conferred.2.2.2.2.2.2 56 = some (.iload 4, 2, 0, 0, 0, 0, 0) := rfl
set_option maxRecDepth 20000 in
theorem ja_C_conferred_58 : jv_at jm_C_conferred.2.2.2.2.2.2 58 = some (.if_icmp .ge 21, 3, 79, 0, 0, 0, 0) := rfl
set_option maxRecDepth 20000 in
theorem ja_C_conferred_61 : jv_at jm_C_conferred.2.2.2.2.2.2 61 = some (.iload_n 3, 1, 0, 0, 0, 0, 0) := rfl
set_option maxRecDepth 20000 in
theorem ja_C_conferred_62 : jv_at jm_C_conferred.2.2.2.2.2.2 62 = some (.bipush 10, 2, 0, 0, 0, 0, 10) := rfl
set_option maxRecDepth 20000 in
theorem ja_C_conferred_64 : jv_at jm_C_conferred.2.2.2.2.2.2 64 = some (.if_icmp .ge 15, 3, 79, 0, 0, 0, 0) := rfl
set_option maxRecDepth 20000 in
theorem ja_C_conferred_67 : jv_at jm_C_conferred.2.2.2.2.2.2 67 = some (.aload_n 0, 1, 0, 0, 0, 0, 0) := rfl
set_option maxRecDepth 20000 in
theorem ja_C_conferred_68 : jv_at jm_C_conferred.2.2.2.2.2.2 68 = some (.getfield 85, 3, 11, 16, 513, 0, 0) := rfl
set_option maxRecDepth 20000 in
theorem ja_C_conferred_71 : jv_at jm_C_conferred.2.2.2.2.2.2 71 = some (.getfield 364, 3, 2, 0, 342, 0, 0) := rfl
set_option maxRecDepth 20000 in
theorem ja_C_conferred_74 : jv_at jm_C_conferred.2.2.2.2.2.2 74 = some (.iload_n 3, 1, 0, 0, 0, 0, 0) := rfl
set_option maxRecDepth 20000 in
theorem ja_C_conferred_75 : jv_at jm_C_conferred.2.2.2.2.2.2 75 = some (.iaload, 1, 0, 0, 0, 0, 0) := rfl
set_option maxRecDepth 20000 in
theorem ja_C_conferred_76 : jv_at jm_C_conferred.2.2.2.2.2.2 76 = some (.goto 4, 3, 80, 0, 0, 0, 0) := rfl
set_option maxRecDepth 20000 in
theorem ja_C_conferred_79 : jv_at jm_C_conferred.2.2.2.2.2.2 79 = some (.iconst (-1), 1, 0, 0, 0, 0, -1) := rfl
set_option maxRecDepth 20000 in
theorem ja_C_conferred_80 : jv_at jm_C_conferred.2.2.2.2.2.2 80 = some (.ireturn, 1, 0, 0, 0, 0, 0) := rfl
set_option maxRecDepth 20000 in
theorem ja_C_count_0 : jv_at jm_C_count.2.2.2.2.2.2 0 = some (.iload_n 1, 1, 0, 0, 0, 0, 0) := rfl
set_option maxRecDepth 20000 in
theorem ja_C_count_1 : jv_at jm_C_count.2.2.2.2.2.2 1 = some (.tableswitch 135 0 11 #[63, 68, 73, 78, 83, 91, 99, 104, 109, 114, 119, 130], 63, 0, 0, 0, 0, 0) := rfl
set_option maxRecDepth 20000 in
theorem ja_C_count_64 : jv_at jm_C_count.2.2.2.2.2.2 64 = some (.aload_n 0, 1, 0, 0, 0, 0, 0) := rfl
set_option maxRecDepth 20000 in
theorem ja_C_count_65 : jv_at jm_C_count.2.2.2.2.2.2 65 = some (.getfield 118, 3, 11, 1, 498, 0, 0) := rfl
set_option maxRecDepth 20000 in
theorem ja_C_count_68 : jv_at jm_C_count.2.2.2.2.2.2 68 = some (.ireturn, 1, 0, 0, 0, 0, 0) := rfl
set_option maxRecDepth 20000 in
theorem ja_C_count_69 : jv_at jm_C_count.2.2.2.2.2.2 69 = some (.aload_n 0, 1, 0, 0, 0, 0, 0) := rfl
set_option maxRecDepth 20000 in
theorem ja_C_count_70 : jv_at jm_C_count.2.2.2.2.2.2 70 = some (.invokevirtual 215, 3, 76, 0, 710, 11, 0) := rfl
set_option maxRecDepth 20000 in
theorem ja_C_count_73 : jv_at jm_C_count.2.2.2.2.2.2 73 = some (.ireturn, 1, 0, 0, 0, 0, 0) := rfl
set_option maxRecDepth 20000 in
theorem ja_C_count_74 : jv_at jm_C_count.2.2.2.2.2.2 74 = some (.aload_n 0, 1, 0, 0, 0, 0, 0) := rfl
set_option maxRecDepth 20000 in
theorem ja_C_count_75 : jv_at jm_C_count.2.2.2.2.2.2 75 = some (.getfield 145, 3, 11, 3, 500, 0, 0) := rfl
set_option maxRecDepth 20000 in
theorem ja_C_count_78 : jv_at jm_C_count.2.2.2.2.2.2 78 = some (.ireturn, 1, 0, 0, 0, 0, 0) := rfl
set_option maxRecDepth 20000 in
theorem ja_C_count_79 : jv_at jm_C_count.2.2.2.2.2.2 79 = some (.aload_n 0, 1, 0, 0, 0, 0, 0) := rfl
set_option maxRecDepth 20000 in
theorem ja_C_count_80 : jv_at jm_C_count.2.2.2.2.2.2 80 = some (.getfield 115, 3, 11, 11, 508, 0, 0) := rfl
set_option maxRecDepth 20000 in
theorem ja_C_count_83 : jv_at jm_C_count.2.2.2.2.2.2 83 = some (.ireturn, 1, 0, 0, 0, 0, 0) := rfl
set_option maxRecDepth 20000 in
theorem ja_C_count_84 : jv_at jm_C_count.2.2.2.2.2.2 84 = some (.aload_n 0, 1, 0, 0, 0, 0, 0) := rfl
set_option maxRecDepth 20000 in
theorem ja_C_count_85 : jv_at jm_C_count.2.2.2.2.2.2 85 = some (.getfield 43, 3, 11, 8, 505, 0, 0) := rfl
set_option maxRecDepth 20000 in
theorem ja_C_count_88 : jv_at jm_C_count.2.2.2.2.2.2 88 = some (.getfield 204, 3, 6, 0, 182, 0, 0) := rfl
set_option maxRecDepth 20000 in
theorem ja_C_count_91 : jv_at jm_C_count.2.2.2.2.2.2 91 = some (.ireturn, 1, 0, 0, 0, 0, 0) := rfl
set_option maxRecDepth 20000 in
theorem ja_C_count_92 : jv_at jm_C_count.2.2.2.2.2.2 92 = some (.aload_n 0, 1, 0, 0, 0, 0, 0) := rfl
set_option maxRecDepth 20000 in
theorem ja_C_count_93 : jv_at jm_C_count.2.2.2.2.2.2 93 = some (.getfield 64, 3, 11, 13, 510, 0, 0) := rfl
set_option maxRecDepth 20000 in
theorem ja_C_count_96 : jv_at jm_C_count.2.2.2.2.2.2 96 = some (.getfield 195, 3, 7, 1, 292, 0, 0) := rfl
set_option maxRecDepth 20000 in
theorem ja_C_count_99 : jv_at jm_C_count.2.2.2.2.2.2 99 = some (.ireturn, 1, 0, 0, 0, 0, 0) := rfl
set_option maxRecDepth 20000 in
theorem ja_C_count_100 : jv_at jm_C_count.2.2.2.2.2.2 100 = some (.aload_n 0, 1, 0, 0, 0, 0, 0) := rfl
set_option maxRecDepth 20000 in
theorem ja_C_count_101 : jv_at jm_C_count.2.2.2.2.2.2 101 = some (.getfield 310, 3, 11, 18, 515, 0, 0) := rfl
set_option maxRecDepth 20000 in
theorem ja_C_count_104 : jv_at jm_C_count.2.2.2.2.2.2 104 = some (.ireturn, 1, 0, 0, 0, 0, 0) := rfl
set_option maxRecDepth 20000 in
theorem ja_C_count_105 : jv_at jm_C_count.2.2.2.2.2.2 105 = some (.aload_n 0, 1, 0, 0, 0, 0, 0) := rfl
set_option maxRecDepth 20000 in
theorem ja_C_count_106 : jv_at jm_C_count.2.2.2.2.2.2 106 = some (.getfield 212, 3, 11, 19, 516, 0, 0) := rfl
set_option maxRecDepth 20000 in
theorem ja_C_count_109 : jv_at jm_C_count.2.2.2.2.2.2 109 = some (.ireturn, 1, 0, 0, 0, 0, 0) := rfl
set_option maxRecDepth 20000 in
theorem ja_C_count_110 : jv_at jm_C_count.2.2.2.2.2.2 110 = some (.aload_n 0, 1, 0, 0, 0, 0, 0) := rfl
set_option maxRecDepth 20000 in
theorem ja_C_count_111 : jv_at jm_C_count.2.2.2.2.2.2 111 = some (.getfield 27, 3, 11, 6, 503, 0, 0) := rfl
set_option maxRecDepth 20000 in
theorem ja_C_count_114 : jv_at jm_C_count.2.2.2.2.2.2 114 = some (.ireturn, 1, 0, 0, 0, 0, 0) := rfl
set_option maxRecDepth 20000 in
theorem ja_C_count_115 : jv_at jm_C_count.2.2.2.2.2.2 115 = some (.aload_n 0, 1, 0, 0, 0, 0, 0) := rfl
set_option maxRecDepth 20000 in
theorem ja_C_count_116 : jv_at jm_C_count.2.2.2.2.2.2 116 = some (.getfield 229, 3, 11, 12, 509, 0, 0) := rfl
set_option maxRecDepth 20000 in
theorem ja_C_count_119 : jv_at jm_C_count.2.2.2.2.2.2 119 = some (.ireturn, 1, 0, 0, 0, 0, 0) := rfl
set_option maxRecDepth 20000 in
theorem ja_C_count_120 : jv_at jm_C_count.2.2.2.2.2.2 120 = some (.aload_n 0, 1, 0, 0, 0, 0, 0) := rfl
set_option maxRecDepth 20000 in
theorem ja_C_count_121 : jv_at jm_C_count.2.2.2.2.2.2 121 = some (.getfield 50, 3, 11, 9, 506, 0, 0) := rfl
set_option maxRecDepth 20000 in
theorem ja_C_count_124 : jv_at jm_C_count.2.2.2.2.2.2 124 = some (.getfield 299, 3, 3, 0, 240, 0, 0) := rfl
set_option maxRecDepth 20000 in
theorem ja_C_count_127 : jv_at jm_C_count.2.2.2.2.2.2 127 = some (.getfield 204, 3, 6, 0, 182, 0, 0) := rfl
set_option maxRecDepth 20000 in
theorem ja_C_count_130 : jv_at jm_C_count.2.2.2.2.2.2 130 = some (.ireturn, 1, 0, 0, 0, 0, 0) := rfl
set_option maxRecDepth 20000 in
theorem ja_C_count_131 : jv_at jm_C_count.2.2.2.2.2.2 131 = some (.aload_n 0, 1, 0, 0, 0, 0, 0) := rfl
set_option maxRecDepth 20000 in
theorem ja_C_count_132 : jv_at jm_C_count.2.2.2.2.2.2 132 = some (.getfield 192, 3, 11, 5, 502, 0, 0) := rfl
set_option maxRecDepth 20000 in
theorem ja_C_count_135 : jv_at jm_C_count.2.2.2.2.2.2 135 = some (.ireturn, 1, 0, 0, 0, 0, 0) := rfl
set_option maxRecDepth 20000 in
theorem ja_C_count_136 : jv_at jm_C_count.2.2.2.2.2.2 136 = some (.bipush (-2), 2, 0, 0, 0, 0, -2) := rfl
set_option maxRecDepth 20000 in
theorem ja_C_count_138 : jv_at jm_C_count.2.2.2.2.2.2 138 = some (.ireturn, 1, 0, 0, 0, 0, 0) := rfl
set_option maxRecDepth 20000 in
theorem ja_C_tray_0 : jv_at jm_C_tray.2.2.2.2.2.2 0 = some (.iload_n 1, 1, 0, 0, 0, 0, 0) := rfl
set_option maxRecDepth 20000 in
theorem ja_C_tray_1 : jv_at jm_C_tray.2.2.2.2.2.2 1 = some (.invokestatic 367, 3, 125, 1, 909, 11, 1) := rfl
set_option maxRecDepth 20000 in
theorem ja_C_tray_4 : jv_at jm_C_tray.2.2.2.2.2.2 4 = some (.ifCond .eq 9, 3, 13, 0, 0, 0, 0) := rfl
set_option maxRecDepth 20000 in
theorem ja_C_tray_7 : jv_at jm_C_tray.2.2.2.2.2.2 7 = some (.iload_n 2, 1, 0, 0, 0, 0, 0) := rfl
set_option maxRecDepth 20000 in
theorem ja_C_tray_8 : jv_at jm_C_tray.2.2.2.2.2.2 8 = some (.bipush 40, 2, 0, 0, 0, 0, 40) := rfl
set_option maxRecDepth 20000 in
theorem ja_C_tray_10 : jv_at jm_C_tray.2.2.2.2.2.2 10 = some (.if_icmp .le 6, 3, 16, 0, 0, 0, 0) := rfl
set_option maxRecDepth 20000 in
theorem ja_C_tray_13 : jv_at jm_C_tray.2.2.2.2.2.2 13 = some (.bipush (-2), 2, 0, 0, 0, 0, -2) := rfl
set_option maxRecDepth 20000 in
theorem ja_C_tray_15 : jv_at jm_C_tray.2.2.2.2.2.2 15 = some (.ireturn, 1, 0, 0, 0, 0, 0) := rfl
set_option maxRecDepth 20000 in
theorem ja_C_tray_16 : jv_at jm_C_tray.2.2.2.2.2.2 16 = some (.iload_n 2, 1, 0, 0, 0, 0, 0) := rfl
set_option maxRecDepth 20000 in
theorem ja_C_tray_17 : jv_at jm_C_tray.2.2.2.2.2.2 17 = some (.iconst (-1), 1, 0, 0, 0, 0, -1) := rfl
set_option maxRecDepth 20000 in
theorem ja_C_tray_18 : jv_at jm_C_tray.2.2.2.2.2.2 18 = some (.if_icmp .ge 6, 3, 24, 0, 0, 0, 0) := rfl
set_option maxRecDepth 20000 in
theorem ja_C_tray_21 : jv_at jm_C_tray.2.2.2.2.2.2 21 = some (.bipush (-14), 2, 0, 0, 0, 0, -14) := rfl
set_option maxRecDepth 20000 in
theorem ja_C_tray_23 : jv_at jm_C_tray.2.2.2.2.2.2 23 = some (.ireturn, 1, 0, 0, 0, 0, 0) := rfl
set_option maxRecDepth 20000 in
theorem ja_C_tray_24 : jv_at jm_C_tray.2.2.2.2.2.2 24 = some (.aload_n 0, 1, 0, 0, 0, 0, 0) := rfl
set_option maxRecDepth 20000 in
theorem ja_C_tray_25 : jv_at jm_C_tray.2.2.2.2.2.2 25 = some (.getfield 91, 3, 11, 17, 514, 0, 0) := rfl
set_option maxRecDepth 20000 in
theorem ja_C_tray_28 : jv_at jm_C_tray.2.2.2.2.2.2 28 = some (.iload_n 1, 1, 0, 0, 0, 0, 0) := rfl
set_option maxRecDepth 20000 in
theorem ja_C_tray_29 : jv_at jm_C_tray.2.2.2.2.2.2 29 = some (.aaload, 1, 0, 0, 0, 0, 0) := rfl
set_option maxRecDepth 20000 in
theorem ja_C_tray_30 : jv_at jm_C_tray.2.2.2.2.2.2 30 = some (.iload_n 2, 1, 0, 0, 0, 0, 0) := rfl
set_option maxRecDepth 20000 in
theorem ja_C_tray_31 : jv_at jm_C_tray.2.2.2.2.2.2 31 = some (.invokevirtual 370, 3, 126, 0, 912, 10, 1) := rfl
set_option maxRecDepth 20000 in
theorem ja_C_tray_34 : jv_at jm_C_tray.2.2.2.2.2.2 34 = some (.iconst 1, 1, 0, 0, 0, 0, 1) := rfl
set_option maxRecDepth 20000 in
theorem ja_C_tray_35 : jv_at jm_C_tray.2.2.2.2.2.2 35 = some (.ireturn, 1, 0, 0, 0, 0, 0) := rfl
set_option maxRecDepth 20000 in
theorem ja_C_isTray_0 : jv_at jm_C_isTray.2.2.2.2.2.2 0 = some (.iload_n 0, 1, 0, 0, 0, 0, 0) := rfl
set_option maxRecDepth 20000 in
theorem ja_C_isTray_1 : jv_at jm_C_isTray.2.2.2.2.2.2 1 = some (.ifCond .lt 12, 3, 13, 0, 0, 0, 0) := rfl
set_option maxRecDepth 20000 in
theorem ja_C_isTray_4 : jv_at jm_C_isTray.2.2.2.2.2.2 4 = some (.iload_n 0, 1, 0, 0, 0, 0, 0) := rfl
set_option maxRecDepth 20000 in
theorem ja_C_isTray_5 : jv_at jm_C_isTray.2.2.2.2.2.2 5 = some (.iconst 4, 1, 0, 0, 0, 0, 4) := rfl
set_option maxRecDepth 20000 in
theorem ja_C_isTray_6 : jv_at jm_C_isTray.2.2.2.2.2.2 6 = some (.if_icmp .ge 7, 3, 13, 0, 0, 0, 0) := rfl
set_option maxRecDepth 20000 in
theorem ja_C_isTray_9 : jv_at jm_C_isTray.2.2.2.2.2.2 9 = some (.iconst 1, 1, 0, 0, 0, 0, 1) := rfl
set_option maxRecDepth 20000 in
theorem ja_C_isTray_10 : jv_at jm_C_isTray.2.2.2.2.2.2 10 = some (.goto 4, 3, 14, 0, 0, 0, 0) := rfl
set_option maxRecDepth 20000 in
theorem ja_C_isTray_13 : jv_at jm_C_isTray.2.2.2.2.2.2 13 = some (.iconst 0, 1, 0, 0, 0, 0, 0) := rfl
set_option maxRecDepth 20000 in
theorem ja_C_isTray_14 : jv_at jm_C_isTray.2.2.2.2.2.2 14 = some (.ireturn, 1, 0, 0, 0, 0, 0) := rfl
set_option maxRecDepth 20000 in
theorem ja_C_cell_0 : jv_at jm_C_cell.2.2.2.2.2.2 0 = some (.iload_n 1, 1, 0, 0, 0, 0, 0) := rfl
set_option maxRecDepth 20000 in
theorem ja_C_cell_1 : jv_at jm_C_cell.2.2.2.2.2.2 1 = some (.invokestatic 367, 3, 125, 1, 909, 11, 1) := rfl
set_option maxRecDepth 20000 in
theorem ja_C_cell_4 : jv_at jm_C_cell.2.2.2.2.2.2 4 = some (.ifCond .ne 6, 3, 10, 0, 0, 0, 0) := rfl
set_option maxRecDepth 20000 in
theorem ja_C_cell_7 : jv_at jm_C_cell.2.2.2.2.2.2 7 = some (.bipush (-2), 2, 0, 0, 0, 0, -2) := rfl
set_option maxRecDepth 20000 in
theorem ja_C_cell_9 : jv_at jm_C_cell.2.2.2.2.2.2 9 = some (.ireturn, 1, 0, 0, 0, 0, 0) := rfl
set_option maxRecDepth 20000 in
theorem ja_C_cell_10 : jv_at jm_C_cell.2.2.2.2.2.2 10 = some (.aload_n 0, 1, 0, 0, 0, 0, 0) := rfl
set_option maxRecDepth 20000 in
theorem ja_C_cell_11 : jv_at jm_C_cell.2.2.2.2.2.2 11 = some (.getfield 91, 3, 11, 17, 514, 0, 0) := rfl
set_option maxRecDepth 20000 in
theorem ja_C_cell_14 : jv_at jm_C_cell.2.2.2.2.2.2 14 = some (.iload_n 1, 1, 0, 0, 0, 0, 0) := rfl
set_option maxRecDepth 20000 in
theorem ja_C_cell_15 : jv_at jm_C_cell.2.2.2.2.2.2 15 = some (.aaload, 1, 0, 0, 0, 0, 0) := rfl
set_option maxRecDepth 20000 in
theorem ja_C_cell_16 : jv_at jm_C_cell.2.2.2.2.2.2 16 = some (.astore 4, 2, 0, 0, 0, 0, 0) := rfl
set_option maxRecDepth 20000 in
theorem ja_C_cell_18 : jv_at jm_C_cell.2.2.2.2.2.2 18 = some (.aload 4, 2, 0, 0, 0, 0, 0) := rfl
set_option maxRecDepth 20000 in
theorem ja_C_cell_20 : jv_at jm_C_cell.2.2.2.2.2.2 20 = some (.getfield 373, 3, 10, 0, 357, 0, 0) := rfl
set_option maxRecDepth 20000 in
theorem ja_C_cell_23 : jv_at jm_C_cell.2.2.2.2.2.2 23 = some (.iconst (-1), 1, 0, 0, 0, 0, -1) := rfl
set_option maxRecDepth 20000 in
theorem ja_C_cell_24 : jv_at jm_C_cell.2.2.2.2.2.2 24 = some (.if_icmp .ne 6, 3, 30, 0, 0, 0, 0) := rfl
set_option maxRecDepth 20000 in
theorem ja_C_cell_27 : jv_at jm_C_cell.2.2.2.2.2.2 27 = some (.bipush (-11), 2, 0, 0, 0, 0, -11) := rfl
set_option maxRecDepth 20000 in
theorem ja_C_cell_29 : jv_at jm_C_cell.2.2.2.2.2.2 29 = some (.ireturn, 1, 0, 0, 0, 0, 0) := rfl
set_option maxRecDepth 20000 in
theorem ja_C_cell_30 : jv_at jm_C_cell.2.2.2.2.2.2 30 = some (.aload 4, 2, 0, 0, 0, 0, 0) := rfl
set_option maxRecDepth 20000 in
theorem ja_C_cell_32 : jv_at jm_C_cell.2.2.2.2.2.2 32 = some (.iload_n 2, 1, 0, 0, 0, 0, 0) := rfl
set_option maxRecDepth 20000 in
theorem ja_C_cell_33 : jv_at jm_C_cell.2.2.2.2.2.2 33 = some (.invokevirtual 374, 3, 128, 0, 920, 10, 1) := rfl
set_option maxRecDepth 20000 in
theorem ja_C_cell_36 : jv_at jm_C_cell.2.2.2.2.2.2 36 = some (.ifCond .ne 6, 3, 42, 0, 0, 0, 0) := rfl
set_option maxRecDepth 20000 in
theorem ja_C_cell_39 : jv_at jm_C_cell.2.2.2.2.2.2 39 = some (.bipush (-12), 2, 0, 0, 0, 0, -12) := rfl
set_option maxRecDepth 20000 in
theorem ja_C_cell_41 : jv_at jm_C_cell.2.2.2.2.2.2 41 = some (.ireturn, 1, 0, 0, 0, 0, 0) := rfl
set_option maxRecDepth 20000 in
theorem ja_C_cell_42 : jv_at jm_C_cell.2.2.2.2.2.2 42 = some (.aload 4, 2, 0, 0, 0, 0, 0) := rfl
set_option maxRecDepth 20000 in
theorem ja_C_cell_44 : jv_at jm_C_cell.2.2.2.2.2.2 44 = some (.getfield 375, 3, 10, 1, 359, 0, 0) := rfl
set_option maxRecDepth 20000 in
theorem ja_C_cell_47 : jv_at jm_C_cell.2.2.2.2.2.2 47 = some (.iload_n 2, 1, 0, 0, 0, 0, 0) := rfl
set_option maxRecDepth 20000 in
theorem ja_C_cell_48 : jv_at jm_C_cell.2.2.2.2.2.2 48 = some (.iload_n 3, 1, 0, 0, 0, 0, 0) := rfl
set_option maxRecDepth 20000 in
theorem ja_C_cell_49 : jv_at jm_C_cell.2.2.2.2.2.2 49 = some (.sipush 255, 3, 0, 0, 0, 0, 255) := rfl
set_option maxRecDepth 20000 in
theorem ja_C_cell_52 : jv_at jm_C_cell.2.2.2.2.2.2 52 = some (.iand, 1, 0, 0, 0, 0, 0) := rfl
set_option maxRecDepth 20000 in
theorem ja_C_cell_53 : jv_at jm_C_cell.2.2.2.2.2.2 53 = some (.iastore, 1, 0, 0, 0, 0, 0) := rfl
set_option maxRecDepth 20000 in
theorem ja_C_cell_54 : jv_at jm_C_cell.2.2.2.2.2.2 54 = some (.iconst 1, 1, 0, 0, 0, 0, 1) := rfl
set_option maxRecDepth 20000 in
theorem ja_C_cell_55 : jv_at jm_C_cell.2.2.2.2.2.2 55 = some (.ireturn, 1, 0, 0, 0, 0, 0) := rfl
set_option maxRecDepth 20000 in
theorem ja_C_made_0 : jv_at jm_C_made.2.2.2.2.2.2 0 = some (.iload_n 1, 1, 0, 0, 0, 0, 0) := rfl
set_option maxRecDepth 20000 in
theorem ja_C_made_1 : jv_at jm_C_made.2.2.2.2.2.2 1 = some (.invokestatic 367, 3, 125, 1, 909, 11, 1) := rfl
set_option maxRecDepth 20000 in
theorem ja_C_made_4 : jv_at jm_C_made.2.2.2.2.2.2 4 = some (.ifCond .ne 6, 3, 10, 0, 0, 0, 0) := rfl
set_option maxRecDepth 20000 in
theorem ja_C_made_7 : jv_at jm_C_made.2.2.2.2.2.2 7 = some (.bipush (-2), 2, 0, 0, 0, 0, -2) := rfl
set_option maxRecDepth 20000 in
theorem ja_C_made_9 : jv_at jm_C_made.2.2.2.2.2.2 9 = some (.ireturn, 1, 0, 0, 0, 0, 0) := rfl
set_option maxRecDepth 20000 in
theorem ja_C_made_10 : jv_at jm_C_made.2.2.2.2.2.2 10 = some (.aload_n 0, 1, 0, 0, 0, 0, 0) := rfl
set_option maxRecDepth 20000 in
theorem ja_C_made_11 : jv_at jm_C_made.2.2.2.2.2.2 11 = some (.getfield 91, 3, 11, 17, 514, 0, 0) := rfl
set_option maxRecDepth 20000 in
theorem ja_C_made_14 : jv_at jm_C_made.2.2.2.2.2.2 14 = some (.iload_n 1, 1, 0, 0, 0, 0, 0) := rfl
set_option maxRecDepth 20000 in
theorem ja_C_made_15 : jv_at jm_C_made.2.2.2.2.2.2 15 = some (.aaload, 1, 0, 0, 0, 0, 0) := rfl
set_option maxRecDepth 20000 in
theorem ja_C_made_16 : jv_at jm_C_made.2.2.2.2.2.2 16 = some (.astore_n 3, 1, 0, 0, 0, 0, 0) := rfl
set_option maxRecDepth 20000 in
theorem ja_C_made_17 : jv_at jm_C_made.2.2.2.2.2.2 17 = some (.aload_n 3, 1, 0, 0, 0, 0, 0) := rfl
set_option maxRecDepth 20000 in
theorem ja_C_made_18 : jv_at jm_C_made.2.2.2.2.2.2 18 = some (.getfield 373, 3, 10, 0, 357, 0, 0) := rfl
set_option maxRecDepth 20000 in
theorem ja_C_made_21 : jv_at jm_C_made.2.2.2.2.2.2 21 = some (.iconst (-1), 1, 0, 0, 0, 0, -1) := rfl
set_option maxRecDepth 20000 in
theorem ja_C_made_22 : jv_at jm_C_made.2.2.2.2.2.2 22 = some (.if_icmp .ne 6, 3, 28, 0, 0, 0, 0) := rfl
set_option maxRecDepth 20000 in
theorem ja_C_made_25 : jv_at jm_C_made.2.2.2.2.2.2 25 = some (.bipush (-11), 2, 0, 0, 0, 0, -11) := rfl
set_option maxRecDepth 20000 in
theorem ja_C_made_27 : jv_at jm_C_made.2.2.2.2.2.2 27 = some (.ireturn, 1, 0, 0, 0, 0, 0) := rfl
set_option maxRecDepth 20000 in
theorem ja_C_made_28 : jv_at jm_C_made.2.2.2.2.2.2 28 = some (.iload_n 2, 1, 0, 0, 0, 0, 0) := rfl
set_option maxRecDepth 20000 in
theorem ja_C_made_29 : jv_at jm_C_made.2.2.2.2.2.2 29 = some (.bipush 40, 2, 0, 0, 0, 0, 40) := rfl
set_option maxRecDepth 20000 in
theorem ja_C_made_31 : jv_at jm_C_made.2.2.2.2.2.2 31 = some (.if_icmp .gt 21, 3, 52, 0, 0, 0, 0) := rfl
set_option maxRecDepth 20000 in
theorem ja_C_made_34 : jv_at jm_C_made.2.2.2.2.2.2 34 = some (.aload_n 3, 1, 0, 0, 0, 0, 0) := rfl
set_option maxRecDepth 20000 in
theorem ja_C_made_35 : jv_at jm_C_made.2.2.2.2.2.2 35 = some (.iload_n 2, 1, 0, 0, 0, 0, 0) := rfl
set_option maxRecDepth 20000 in
theorem ja_C_made_36 : jv_at jm_C_made.2.2.2.2.2.2 36 = some (.invokevirtual 374, 3, 128, 0, 920, 10, 1) := rfl
set_option maxRecDepth 20000 in
theorem ja_C_made_39 : jv_at jm_C_made.2.2.2.2.2.2 39 = some (.ifCond .eq 13, 3, 52, 0, 0, 0, 0) := rfl
set_option maxRecDepth 20000 in
theorem ja_C_made_42 : jv_at jm_C_made.2.2.2.2.2.2 42 = some (.aload_n 3, 1, 0, 0, 0, 0, 0) := rfl
set_option maxRecDepth 20000 in
theorem ja_C_made_43 : jv_at jm_C_made.2.2.2.2.2.2 43 = some (.iload_n 2, 1, 0, 0, 0, 0, 0) := rfl
set_option maxRecDepth 20000 in
theorem ja_C_made_44 : jv_at jm_C_made.2.2.2.2.2.2 44 = some (.iconst 3, 1, 0, 0, 0, 0, 3) := rfl
set_option maxRecDepth 20000 in
theorem ja_C_made_45 : jv_at jm_C_made.2.2.2.2.2.2 45 = some (.iadd, 1, 0, 0, 0, 0, 0) := rfl
set_option maxRecDepth 20000 in
theorem ja_C_made_46 : jv_at jm_C_made.2.2.2.2.2.2 46 = some (.invokevirtual 374, 3, 128, 0, 920, 10, 1) := rfl
set_option maxRecDepth 20000 in
theorem ja_C_made_49 : jv_at jm_C_made.2.2.2.2.2.2 49 = some (.ifCond .ne 6, 3, 55, 0, 0, 0, 0) := rfl
set_option maxRecDepth 20000 in
theorem ja_C_made_52 : jv_at jm_C_made.2.2.2.2.2.2 52 = some (.bipush (-12), 2, 0, 0, 0, 0, -12) := rfl
set_option maxRecDepth 20000 in
theorem ja_C_made_54 : jv_at jm_C_made.2.2.2.2.2.2 54 = some (.ireturn, 1, 0, 0, 0, 0, 0) := rfl
set_option maxRecDepth 20000 in
theorem ja_C_made_55 : jv_at jm_C_made.2.2.2.2.2.2 55 = some (.aload_n 0, 1, 0, 0, 0, 0, 0) := rfl
set_option maxRecDepth 20000 in
theorem ja_C_made_56 : jv_at jm_C_made.2.2.2.2.2.2 56 = some (.aload_n 3, 1, 0, 0, 0, 0, 0) := rfl
set_option maxRecDepth 20000 in
theorem ja_C_made_57 : jv_at jm_C_made.2.2.2.2.2.2 57 = some (.getfield 375, 3, 10, 1, 359, 0, 0) := rfl
set_option maxRecDepth 20000 in
theorem ja_C_made_60 : jv_at jm_C_made.2.2.2.2.2.2 60 = some (.iload_n 2, 1, 0, 0, 0, 0, 0) := rfl
set_option maxRecDepth 20000 in
theorem ja_C_made_61 : jv_at jm_C_made.2.2.2.2.2.2 61 = some (.iaload, 1, 0, 0, 0, 0, 0) := rfl
set_option maxRecDepth 20000 in
theorem ja_C_made_62 : jv_at jm_C_made.2.2.2.2.2.2 62 = some (.aload_n 3, 1, 0, 0, 0, 0, 0) := rfl
set_option maxRecDepth 20000 in
theorem ja_C_made_63 : jv_at jm_C_made.2.2.2.2.2.2 63 = some (.getfield 375, 3, 10, 1, 359, 0, 0) := rfl
set_option maxRecDepth 20000 in
theorem ja_C_made_66 : jv_at jm_C_made.2.2.2.2.2.2 66 = some (.iload_n 2, 1, 0, 0, 0, 0, 0) := rfl
set_option maxRecDepth 20000 in
theorem ja_C_made_67 : jv_at jm_C_made.2.2.2.2.2.2 67 = some (.iconst 1, 1, 0, 0, 0, 0, 1) := rfl
set_option maxRecDepth 20000 in
theorem ja_C_made_68 : jv_at jm_C_made.2.2.2.2.2.2 68 = some (.iadd, 1, 0, 0, 0, 0, 0) := rfl
set_option maxRecDepth 20000 in
theorem ja_C_made_69 : jv_at jm_C_made.2.2.2.2.2.2 69 = some (.iaload, 1, 0, 0, 0, 0, 0) := rfl
set_option maxRecDepth 20000 in
theorem ja_C_made_70 : jv_at jm_C_made.2.2.2.2.2.2 70 = some (.aload_n 3, 1, 0, 0, 0, 0, 0) := rfl
set_option maxRecDepth 20000 in
theorem ja_C_made_71 : jv_at jm_C_made.2.2.2.2.2.2 71 = some (.getfield 375, 3, 10, 1, 359, 0, 0) := rfl
set_option maxRecDepth 20000 in
theorem ja_C_made_74 : jv_at jm_C_made.2.2.2.2.2.2 74 = some (.iload_n 2, 1, 0, 0, 0, 0, 0) := rfl
set_option maxRecDepth 20000 in
theorem ja_C_made_75 : jv_at jm_C_made.2.2.2.2.2.2 75 = some (.iconst 2, 1, 0, 0, 0, 0, 2) := rfl
set_option maxRecDepth 20000 in
theorem ja_C_made_76 : jv_at jm_C_made.2.2.2.2.2.2 76 = some (.iadd, 1, 0, 0, 0, 0, 0) := rfl
set_option maxRecDepth 20000 in
theorem ja_C_made_77 : jv_at jm_C_made.2.2.2.2.2.2 77 = some (.iaload, 1, 0, 0, 0, 0, 0) := rfl
set_option maxRecDepth 20000 in
theorem ja_C_made_78 : jv_at jm_C_made.2.2.2.2.2.2 78 = some (.aload_n 3, 1, 0, 0, 0, 0, 0) := rfl
set_option maxRecDepth 20000 in
theorem ja_C_made_79 : jv_at jm_C_made.2.2.2.2.2.2 79 = some (.getfield 375, 3, 10, 1, 359, 0, 0) := rfl
set_option maxRecDepth 20000 in
theorem ja_C_made_82 : jv_at jm_C_made.2.2.2.2.2.2 82 = some (.iload_n 2, 1, 0, 0, 0, 0, 0) := rfl
set_option maxRecDepth 20000 in
theorem ja_C_made_83 : jv_at jm_C_made.2.2.2.2.2.2 83 = some (.iconst 3, 1, 0, 0, 0, 0, 3) := rfl
set_option maxRecDepth 20000 in
theorem ja_C_made_84 : jv_at jm_C_made.2.2.2.2.2.2 84 = some (.iadd, 1, 0, 0, 0, 0, 0) := rfl
set_option maxRecDepth 20000 in
theorem ja_C_made_85 : jv_at jm_C_made.2.2.2.2.2.2 85 = some (.iaload, 1, 0, 0, 0, 0, 0) := rfl
set_option maxRecDepth 20000 in
theorem ja_C_made_86 : jv_at jm_C_made.2.2.2.2.2.2 86 = some (.invokevirtual 378, 3, 80, 0, 928, 11, 4) := rfl
set_option maxRecDepth 20000 in
theorem ja_C_made_89 : jv_at jm_C_made.2.2.2.2.2.2 89 = some (.ireturn, 1, 0, 0, 0, 0, 0) := rfl
set_option maxRecDepth 20000 in
theorem ja_C_taken_0 : jv_at jm_C_taken.2.2.2.2.2.2 0 = some (.iload_n 2, 1, 0, 0, 0, 0, 0) := rfl
set_option maxRecDepth 20000 in
theorem ja_C_taken_1 : jv_at jm_C_taken.2.2.2.2.2.2 1 = some (.invokestatic 201, 3, 73, 1, 699, 11, 1) := rfl
set_option maxRecDepth 20000 in
theorem ja_C_taken_4 : jv_at jm_C_taken.2.2.2.2.2.2 4 = some (.ifCond .ne 6, 3, 10, 0, 0, 0, 0) := rfl
set_option maxRecDepth 20000 in
theorem ja_C_taken_7 : jv_at jm_C_taken.2.2.2.2.2.2 7 = some (.bipush (-2), 2, 0, 0, 0, 0, -2) := rfl
set_option maxRecDepth 20000 in
theorem ja_C_taken_9 : jv_at jm_C_taken.2.2.2.2.2.2 9 = some (.ireturn, 1, 0, 0, 0, 0, 0) := rfl
set_option maxRecDepth 20000 in
theorem ja_C_taken_10 : jv_at jm_C_taken.2.2.2.2.2.2 10 = some (.aload_n 0, 1, 0, 0, 0, 0, 0) := rfl
set_option maxRecDepth 20000 in
theorem ja_C_taken_11 : jv_at jm_C_taken.2.2.2.2.2.2 11 = some (.getfield 43, 3, 11, 8, 505, 0, 0) := rfl
set_option maxRecDepth 20000 in
theorem ja_C_taken_14 : jv_at jm_C_taken.2.2.2.2.2.2 14 = some (.iload_n 1, 1, 0, 0, 0, 0, 0) := rfl
set_option maxRecDepth 20000 in
theorem ja_C_taken_15 : jv_at jm_C_taken.2.2.2.2.2.2 15 = some (.invokevirtual 254, 3, 86, 0, 747, 6, 1) := rfl
set_option maxRecDepth 20000 in
theorem ja_C_taken_18 : jv_at jm_C_taken.2.2.2.2.2.2 18 = some (.ifCond .ne 6, 3, 24, 0, 0, 0, 0) := rfl
set_option maxRecDepth 20000 in
theorem ja_C_taken_21 : jv_at jm_C_taken.2.2.2.2.2.2 21 = some (.bipush (-11), 2, 0, 0, 0, 0, -11) := rfl
set_option maxRecDepth 20000 in
theorem ja_C_taken_23 : jv_at jm_C_taken.2.2.2.2.2.2 23 = some (.ireturn, 1, 0, 0, 0, 0, 0) := rfl
set_option maxRecDepth 20000 in
theorem ja_C_taken_24 : jv_at jm_C_taken.2.2.2.2.2.2 24 = some (.aload_n 0, 1, 0, 0, 0, 0, 0) := rfl
set_option maxRecDepth 20000 in
theorem ja_C_taken_25 : jv_at jm_C_taken.2.2.2.2.2.2 25 = some (.getfield 43, 3, 11, 8, 505, 0, 0) := rfl
set_option maxRecDepth 20000 in
theorem ja_C_taken_28 : jv_at jm_C_taken.2.2.2.2.2.2 28 = some (.getfield 256, 3, 6, 2, 185, 0, 0) := rfl
set_option maxRecDepth 20000 in
theorem ja_C_taken_31 : jv_at jm_C_taken.2.2.2.2.2.2 31 = some (.iload_n 1, 1, 0, 0, 0, 0, 0) := rfl
set_option maxRecDepth 20000 in
theorem ja_C_taken_32 : jv_at jm_C_taken.2.2.2.2.2.2 32 = some (.iaload, 1, 0, 0, 0, 0, 0) := rfl
set_option maxRecDepth 20000 in
theorem ja_C_taken_33 : jv_at jm_C_taken.2.2.2.2.2.2 33 = some (.iload_n 2, 1, 0, 0, 0, 0, 0) := rfl
set_option maxRecDepth 20000 in
theorem ja_C_taken_34 : jv_at jm_C_taken.2.2.2.2.2.2 34 = some (.invokestatic 381, 3, 131, 1, 933, 11, 2) := rfl
set_option maxRecDepth 20000 in
theorem ja_C_taken_37 : jv_at jm_C_taken.2.2.2.2.2.2 37 = some (.ifCond .eq 15, 3, 52, 0, 0, 0, 0) := rfl
set_option maxRecDepth 20000 in
theorem ja_C_taken_40 : jv_at jm_C_taken.2.2.2.2.2.2 40 = some (.aload_n 0, 1, 0, 0, 0, 0, 0) := rfl
set_option maxRecDepth 20000 in
theorem ja_C_taken_41 : jv_at jm_C_taken.2.2.2.2.2.2 41 = some (.getfield 43, 3, 11, 8, 505, 0, 0) := rfl
set_option maxRecDepth 20000 in
theorem ja_C_taken_44 : jv_at jm_C_taken.2.2.2.2.2.2 44 = some (.getfield 259, 3, 6, 3, 187, 0, 0) := rfl
set_option maxRecDepth 20000 in
theorem ja_C_taken_47 : jv_at jm_C_taken.2.2.2.2.2.2 47 = some (.iload_n 1, 1, 0, 0, 0, 0, 0) := rfl
set_option maxRecDepth 20000 in
theorem ja_C_taken_48 : jv_at jm_C_taken.2.2.2.2.2.2 48 = some (.iaload, 1, 0, 0, 0, 0, 0) := rfl
set_option maxRecDepth 20000 in
theorem ja_C_taken_49 : jv_at jm_C_taken.2.2.2.2.2.2 49 = some (.goto 5, 3, 54, 0, 0, 0, 0) := rfl
set_option maxRecDepth 20000 in
theorem ja_C_taken_52 : jv_at jm_C_taken.2.2.2.2.2.2 52 = some (.bipush (-13), 2, 0, 0, 0, 0, -13) := rfl
set_option maxRecDepth 20000 in
theorem ja_C_taken_54 : jv_at jm_C_taken.2.2.2.2.2.2 54 = some (.ireturn, 1, 0, 0, 0, 0, 0) := rfl
set_option maxRecDepth 20000 in
theorem ja_C_isUnder_0 : jv_at jm_C_isUnder.2.2.2.2.2.2 0 = some (.iload_n 0, 1, 0, 0, 0, 0, 0) := rfl
set_option maxRecDepth 20000 in
theorem ja_C_isUnder_1 : jv_at jm_C_isUnder.2.2.2.2.2.2 1 = some (.iload_n 1, 1, 0, 0, 0, 0, 0) := rfl
set_option maxRecDepth 20000 in
theorem ja_C_isUnder_2 : jv_at jm_C_isUnder.2.2.2.2.2.2 2 = some (.if_icmp .eq 19, 3, 21, 0, 0, 0, 0) := rfl
set_option maxRecDepth 20000 in
theorem ja_C_isUnder_5 : jv_at jm_C_isUnder.2.2.2.2.2.2 5 = some (.iload_n 1, 1, 0, 0, 0, 0, 0) := rfl
set_option maxRecDepth 20000 in
theorem ja_C_isUnder_6 : jv_at jm_C_isUnder.2.2.2.2.2.2 6 = some (.ifCond .eq 15, 3, 21, 0, 0, 0, 0) := rfl
set_option maxRecDepth 20000 in
theorem ja_C_isUnder_9 : jv_at jm_C_isUnder.2.2.2.2.2.2 9 = some (.iload_n 1, 1, 0, 0, 0, 0, 0) := rfl
set_option maxRecDepth 20000 in
theorem ja_C_isUnder_10 : jv_at jm_C_isUnder.2.2.2.2.2.2 10 = some (.iconst 1, 1, 0, 0, 0, 0, 1) := rfl
set_option maxRecDepth 20000 in
theorem ja_C_isUnder_11 : jv_at jm_C_isUnder.2.2.2.2.2.2 11 = some (.if_icmp .ne 14, 3, 25, 0, 0, 0, 0) := rfl
set_option maxRecDepth 20000 in
theorem ja_C_isUnder_14 : jv_at jm_C_isUnder.2.2.2.2.2.2 14 = some (.iload_n 0, 1, 0, 0, 0, 0, 0) := rfl
set_option maxRecDepth 20000 in
theorem ja_C_isUnder_15 : jv_at jm_C_isUnder.2.2.2.2.2.2 15 = some (.invokestatic 236, 3, 83, 1, 736, 11, 1) := rfl
set_option maxRecDepth 20000 in
theorem ja_C_isUnder_18 : jv_at jm_C_isUnder.2.2.2.2.2.2 18 = some (.ifCond .eq 7, 3, 25, 0, 0, 0, 0) := rfl
set_option maxRecDepth 20000 in
theorem ja_C_isUnder_21 : jv_at jm_C_isUnder.2.2.2.2.2.2 21 = some (.iconst 1, 1, 0, 0, 0, 0, 1) := rfl
set_option maxRecDepth 20000 in
theorem ja_C_isUnder_22 : jv_at jm_C_isUnder.2.2.2.2.2.2 22 = some (.goto 4, 3, 26, 0, 0, 0, 0) := rfl
set_option maxRecDepth 20000 in
theorem ja_C_isUnder_25 : jv_at jm_C_isUnder.2.2.2.2.2.2 25 = some (.iconst 0, 1, 0, 0, 0, 0, 0) := rfl
set_option maxRecDepth 20000 in
theorem ja_C_isUnder_26 : jv_at jm_C_isUnder.2.2.2.2.2.2 26 = some (.ireturn, 1, 0, 0, 0, 0, 0) := rfl
