theorem dX9_init_0 : Dx cX9_init 0 (.aload_n 0) 1 1 := ⟨by decide +kernel, rfl⟩
theorem dX9_init_1 : Dx cX9_init 1 (.invokespecial 3) 3 4 := ⟨by decide +kernel, rfl⟩
theorem dX9_init_4 : Dx cX9_init 4 (.aload_n 0) 1 5 := ⟨by decide +kernel, rfl⟩
theorem dX9_init_5 : Dx cX9_init 5 (.bipush 111) 2 7 := ⟨by decide +kernel, rfl⟩
theorem dX9_init_7 : Dx cX9_init 7 (.newarray .int) 2 9 := ⟨by decide +kernel, rfl⟩
theorem dX9_init_9 : Dx cX9_init 9 (.putfield 9) 3 12 := ⟨by decide +kernel, rfl⟩
theorem dX9_init_12 : Dx cX9_init 12 (.aload_n 0) 1 13 := ⟨by decide +kernel, rfl⟩
theorem dX9_init_13 : Dx cX9_init 13 (.bipush 111) 2 15 := ⟨by decide +kernel, rfl⟩
theorem dX9_init_15 : Dx cX9_init 15 (.newarray .int) 2 17 := ⟨by decide +kernel, rfl⟩
theorem dX9_init_17 : Dx cX9_init 17 (.putfield 13) 3 20 := ⟨by decide +kernel, rfl⟩
theorem dX9_init_20 : Dx cX9_init 20 (.aload_n 0) 1 21 := ⟨by decide +kernel, rfl⟩
theorem dX9_init_21 : Dx cX9_init 21 (.bipush 111) 2 23 := ⟨by decide +kernel, rfl⟩
theorem dX9_init_23 : Dx cX9_init 23 (.newarray .int) 2 25 := ⟨by decide +kernel, rfl⟩
theorem dX9_init_25 : Dx cX9_init 25 (.putfield 16) 3 28 := ⟨by decide +kernel, rfl⟩
theorem dX9_init_28 : Dx cX9_init 28 (.aload_n 0) 1 29 := ⟨by decide +kernel, rfl⟩
theorem dX9_init_29 : Dx cX9_init 29 (.bipush 111) 2 31 := ⟨by decide +kernel, rfl⟩
theorem dX9_init_31 : Dx cX9_init 31 (.newarray .int) 2 33 := ⟨by decide +kernel, rfl⟩
theorem dX9_init_33 : Dx cX9_init 33 (.putfield 19) 3 36 := ⟨by decide +kernel, rfl⟩
theorem dX9_init_36 : Dx cX9_init 36 (.aload_n 0) 1 37 := ⟨by decide +kernel, rfl⟩
theorem dX9_init_37 : Dx cX9_init 37 (.sipush 888) 3 40 := ⟨by decide +kernel, rfl⟩
theorem dX9_init_40 : Dx cX9_init 40 (.newarray .int) 2 42 := ⟨by decide +kernel, rfl⟩
theorem dX9_init_42 : Dx cX9_init 42 (.putfield 22) 3 45 := ⟨by decide +kernel, rfl⟩
theorem dX9_init_45 : Dx cX9_init 45 (.aload_n 0) 1 46 := ⟨by decide +kernel, rfl⟩
theorem dX9_init_46 : Dx cX9_init 46 (.iconst (-1)) 1 47 := ⟨by decide +kernel, rfl⟩
theorem dX9_init_47 : Dx cX9_init 47 (.putfield 25) 3 50 := ⟨by decide +kernel, rfl⟩
theorem dX9_init_50 : Dx cX9_init 50 (.aload_n 0) 1 51 := ⟨by decide +kernel, rfl⟩
theorem dX9_init_51 : Dx cX9_init 51 (.bipush 60) 2 53 := ⟨by decide +kernel, rfl⟩
theorem dX9_init_53 : Dx cX9_init 53 (.newarray .int) 2 55 := ⟨by decide +kernel, rfl⟩
theorem dX9_init_55 : Dx cX9_init 55 (.putfield 29) 3 58 := ⟨by decide +kernel, rfl⟩
theorem dX9_init_58 : Dx cX9_init 58 (.aload_n 0) 1 59 := ⟨by decide +kernel, rfl⟩
theorem dX9_init_59 : Dx cX9_init 59 (.bipush 63) 2 61 := ⟨by decide +kernel, rfl⟩
theorem dX9_init_61 : Dx cX9_init 61 (.newarray .int) 2 63 := ⟨by decide +kernel, rfl⟩
theorem dX9_init_63 : Dx cX9_init 63 (.putfield 32) 3 66 := ⟨by decide +kernel, rfl⟩
theorem dX9_init_66 : Dx cX9_init 66 (.aload_n 0) 1 67 := ⟨by decide +kernel, rfl⟩
theorem dX9_init_67 : Dx cX9_init 67 (.bipush 40) 2 69 := ⟨by decide +kernel, rfl⟩
theorem dX9_init_69 : Dx cX9_init 69 (.newarray .int) 2 71 := ⟨by decide +kernel, rfl⟩
theorem dX9_init_71 : Dx cX9_init 71 (.putfield 35) 3 74 := ⟨by decide +kernel, rfl⟩
theorem dX9_init_74 : Dx cX9_init 74 (.aload_n 0) 1 75 := ⟨by decide +kernel, rfl⟩
theorem dX9_init_75 : Dx cX9_init 75 (.getfield 9) 3 78 := ⟨by decide +kernel, rfl⟩
theorem dX9_init_78 : Dx cX9_init 78 (.bipush 7) 2 80 := ⟨by decide +kernel, rfl⟩
theorem dX9_init_80 : Dx cX9_init 80 (.bipush 8) 2 82 := ⟨by decide +kernel, rfl⟩
theorem dX9_init_82 : Dx cX9_init 82 (.iastore) 1 83 := ⟨by decide +kernel, rfl⟩
theorem dX9_init_83 : Dx cX9_init 83 (.return_) 1 84 := ⟨by decide +kernel, rfl⟩
theorem dX9_thrown_0 : Dx cX9_thrown 0 (.aload_n 0) 1 1 := ⟨by decide +kernel, rfl⟩
theorem dX9_thrown_1 : Dx cX9_thrown 1 (.getfield 38) 3 4 := ⟨by decide +kernel, rfl⟩
theorem dX9_thrown_4 : Dx cX9_thrown 4 (.ireturn) 1 5 := ⟨by decide +kernel, rfl⟩
theorem dX9_isIn_0 : Dx cX9_isIn 0 (.iload_n 0) 1 1 := ⟨by decide +kernel, rfl⟩
theorem dX9_isIn_1 : Dx cX9_isIn 1 (.iload_n 1) 1 2 := ⟨by decide +kernel, rfl⟩
theorem dX9_isIn_2 : Dc cX9_isIn 2 (fun o => .if_icmp .lt o) 14 5 := ⟨12, by decide +kernel, by decide, rfl⟩
theorem dX9_isIn_5 : Dx cX9_isIn 5 (.iload_n 0) 1 6 := ⟨by decide +kernel, rfl⟩
theorem dX9_isIn_6 : Dx cX9_isIn 6 (.iload_n 2) 1 7 := ⟨by decide +kernel, rfl⟩
theorem dX9_isIn_7 : Dc cX9_isIn 7 (fun o => .if_icmp .gt o) 14 10 := ⟨7, by decide +kernel, by decide, rfl⟩
theorem dX9_isIn_10 : Dx cX9_isIn 10 (.iconst 1) 1 11 := ⟨by decide +kernel, rfl⟩
theorem dX9_isIn_11 : Dc cX9_isIn 11 (fun o => .goto o) 15 14 := ⟨4, by decide +kernel, by decide, rfl⟩
theorem dX9_isIn_14 : Dx cX9_isIn 14 (.iconst 0) 1 15 := ⟨by decide +kernel, rfl⟩
theorem dX9_isIn_15 : Dx cX9_isIn 15 (.ireturn) 1 16 := ⟨by decide +kernel, rfl⟩
theorem dX9_greater_0 : Dx cX9_greater 0 (.iload_n 0) 1 1 := ⟨by decide +kernel, rfl⟩
theorem dX9_greater_1 : Dx cX9_greater 1 (.iload_n 1) 1 2 := ⟨by decide +kernel, rfl⟩
theorem dX9_greater_2 : Dc cX9_greater 2 (fun o => .if_icmp .le o) 9 5 := ⟨7, by decide +kernel, by decide, rfl⟩
theorem dX9_greater_5 : Dx cX9_greater 5 (.iload_n 0) 1 6 := ⟨by decide +kernel, rfl⟩
theorem dX9_greater_6 : Dc cX9_greater 6 (fun o => .goto o) 10 9 := ⟨4, by decide +kernel, by decide, rfl⟩
theorem dX9_greater_9 : Dx cX9_greater 9 (.iload_n 1) 1 10 := ⟨by decide +kernel, rfl⟩
theorem dX9_greater_10 : Dx cX9_greater 10 (.ireturn) 1 11 := ⟨by decide +kernel, rfl⟩
theorem dX9_copies_0 : Dx cX9_copies 0 (.iconst 0) 1 1 := ⟨by decide +kernel, rfl⟩
theorem dX9_copies_1 : Dx cX9_copies 1 (.istore 4) 2 3 := ⟨by decide +kernel, rfl⟩
theorem dX9_copies_3 : Dx cX9_copies 3 (.iload 4) 2 5 := ⟨by decide +kernel, rfl⟩
theorem dX9_copies_5 : Dx cX9_copies 5 (.bipush 111) 2 7 := ⟨by decide +kernel, rfl⟩
theorem dX9_copies_7 : Dc cX9_copies 7 (fun o => .if_icmp .ge o) 28 10 := ⟨21, by decide +kernel, by decide, rfl⟩
theorem dX9_copies_10 : Dx cX9_copies 10 (.aload_n 2) 1 11 := ⟨by decide +kernel, rfl⟩
theorem dX9_copies_11 : Dx cX9_copies 11 (.iload_n 3) 1 12 := ⟨by decide +kernel, rfl⟩
theorem dX9_copies_12 : Dx cX9_copies 12 (.iload 4) 2 14 := ⟨by decide +kernel, rfl⟩
theorem dX9_copies_14 : Dx cX9_copies 14 (.iadd) 1 15 := ⟨by decide +kernel, rfl⟩
theorem dX9_copies_15 : Dx cX9_copies 15 (.aload_n 0) 1 16 := ⟨by decide +kernel, rfl⟩
theorem dX9_copies_16 : Dx cX9_copies 16 (.iload_n 1) 1 17 := ⟨by decide +kernel, rfl⟩
theorem dX9_copies_17 : Dx cX9_copies 17 (.iload 4) 2 19 := ⟨by decide +kernel, rfl⟩
theorem dX9_copies_19 : Dx cX9_copies 19 (.iadd) 1 20 := ⟨by decide +kernel, rfl⟩
theorem dX9_copies_20 : Dx cX9_copies 20 (.iaload) 1 21 := ⟨by decide +kernel, rfl⟩
theorem dX9_copies_21 : Dx cX9_copies 21 (.iastore) 1 22 := ⟨by decide +kernel, rfl⟩
theorem dX9_copies_22 : Dx cX9_copies 22 (.iinc 4 1) 3 25 := ⟨by decide +kernel, rfl⟩
theorem dX9_copies_25 : Dc cX9_copies 25 (fun o => .goto o) 3 28 := ⟨(-22), by decide +kernel, by decide, rfl⟩
theorem dX9_copies_28 : Dx cX9_copies 28 (.return_) 1 29 := ⟨by decide +kernel, rfl⟩
theorem dX9_keeps_0 : Dx cX9_keeps 0 (.aload_n 0) 1 1 := ⟨by decide +kernel, rfl⟩
theorem dX9_keeps_1 : Dx cX9_keeps 1 (.getfield 9) 3 4 := ⟨by decide +kernel, rfl⟩
theorem dX9_keeps_4 : Dx cX9_keeps 4 (.iconst 0) 1 5 := ⟨by decide +kernel, rfl⟩
theorem dX9_keeps_5 : Dx cX9_keeps 5 (.aload_n 0) 1 6 := ⟨by decide +kernel, rfl⟩
theorem dX9_keeps_6 : Dx cX9_keeps 6 (.getfield 13) 3 9 := ⟨by decide +kernel, rfl⟩
theorem dX9_keeps_9 : Dx cX9_keeps 9 (.iconst 0) 1 10 := ⟨by decide +kernel, rfl⟩
theorem dX9_keeps_10 : Dx cX9_keeps 10 (.invokestatic 41) 3 13 := ⟨by decide +kernel, rfl⟩
theorem dX9_keeps_13 : Dx cX9_keeps 13 (.aload_n 0) 1 14 := ⟨by decide +kernel, rfl⟩
theorem dX9_keeps_14 : Dx cX9_keeps 14 (.iconst 0) 1 15 := ⟨by decide +kernel, rfl⟩
theorem dX9_keeps_15 : Dx cX9_keeps 15 (.putfield 38) 3 18 := ⟨by decide +kernel, rfl⟩
theorem dX9_keeps_18 : Dx cX9_keeps 18 (.return_) 1 19 := ⟨by decide +kernel, rfl⟩
theorem dX9_changed_0 : Dx cX9_changed 0 (.aload_n 0) 1 1 := ⟨by decide +kernel, rfl⟩
theorem dX9_changed_1 : Dx cX9_changed 1 (.getfield 45) 3 4 := ⟨by decide +kernel, rfl⟩
theorem dX9_changed_4 : Dx cX9_changed 4 (.bipush 8) 2 6 := ⟨by decide +kernel, rfl⟩
theorem dX9_changed_6 : Dc cX9_changed 6 (fun o => .if_icmp .ne o) 54 9 := ⟨48, by decide +kernel, by decide, rfl⟩
theorem dX9_changed_9 : Dx cX9_changed 9 (.iconst 1) 1 10 := ⟨by decide +kernel, rfl⟩
theorem dX9_changed_10 : Dx cX9_changed 10 (.istore_n 1) 1 11 := ⟨by decide +kernel, rfl⟩
theorem dX9_changed_11 : Dx cX9_changed 11 (.iload_n 1) 1 12 := ⟨by decide +kernel, rfl⟩
theorem dX9_changed_12 : Dx cX9_changed 12 (.bipush 8) 2 14 := ⟨by decide +kernel, rfl⟩
theorem dX9_changed_14 : Dc cX9_changed 14 (fun o => .if_icmp .ge o) 44 17 := ⟨30, by decide +kernel, by decide, rfl⟩
theorem dX9_changed_17 : Dx cX9_changed 17 (.aload_n 0) 1 18 := ⟨by decide +kernel, rfl⟩
theorem dX9_changed_18 : Dx cX9_changed 18 (.getfield 22) 3 21 := ⟨by decide +kernel, rfl⟩
theorem dX9_changed_21 : Dx cX9_changed 21 (.bipush 111) 2 23 := ⟨by decide +kernel, rfl⟩
theorem dX9_changed_23 : Dx cX9_changed 23 (.iload_n 1) 1 24 := ⟨by decide +kernel, rfl⟩
theorem dX9_changed_24 : Dx cX9_changed 24 (.imul) 1 25 := ⟨by decide +kernel, rfl⟩
theorem dX9_changed_25 : Dx cX9_changed 25 (.aload_n 0) 1 26 := ⟨by decide +kernel, rfl⟩
theorem dX9_changed_26 : Dx cX9_changed 26 (.getfield 22) 3 29 := ⟨by decide +kernel, rfl⟩
theorem dX9_changed_29 : Dx cX9_changed 29 (.bipush 111) 2 31 := ⟨by decide +kernel, rfl⟩
theorem dX9_changed_31 : Dx cX9_changed 31 (.iload_n 1) 1 32 := ⟨by decide +kernel, rfl⟩
theorem dX9_changed_32 : Dx cX9_changed 32 (.iconst 1) 1 33 := ⟨by decide +kernel, rfl⟩
theorem dX9_changed_33 : Dx cX9_changed 33 (.isub) 1 34 := ⟨by decide +kernel, rfl⟩
theorem dX9_changed_34 : Dx cX9_changed 34 (.imul) 1 35 := ⟨by decide +kernel, rfl⟩
theorem dX9_changed_35 : Dx cX9_changed 35 (.invokestatic 41) 3 38 := ⟨by decide +kernel, rfl⟩
theorem dX9_changed_38 : Dx cX9_changed 38 (.iinc 1 1) 3 41 := ⟨by decide +kernel, rfl⟩
theorem dX9_changed_41 : Dc cX9_changed 41 (fun o => .goto o) 11 44 := ⟨(-30), by decide +kernel, by decide, rfl⟩
theorem dX9_changed_44 : Dx cX9_changed 44 (.aload_n 0) 1 45 := ⟨by decide +kernel, rfl⟩
theorem dX9_changed_45 : Dx cX9_changed 45 (.dup) 1 46 := ⟨by decide +kernel, rfl⟩
theorem dX9_changed_46 : Dx cX9_changed 46 (.getfield 45) 3 49 := ⟨by decide +kernel, rfl⟩
theorem dX9_changed_49 : Dx cX9_changed 49 (.iconst 1) 1 50 := ⟨by decide +kernel, rfl⟩
theorem dX9_changed_50 : Dx cX9_changed 50 (.isub) 1 51 := ⟨by decide +kernel, rfl⟩
theorem dX9_changed_51 : Dx cX9_changed 51 (.putfield 45) 3 54 := ⟨by decide +kernel, rfl⟩
theorem dX9_changed_54 : Dx cX9_changed 54 (.aload_n 0) 1 55 := ⟨by decide +kernel, rfl⟩
theorem dX9_changed_55 : Dx cX9_changed 55 (.getfield 13) 3 58 := ⟨by decide +kernel, rfl⟩
theorem dX9_changed_58 : Dx cX9_changed 58 (.iconst 0) 1 59 := ⟨by decide +kernel, rfl⟩
theorem dX9_changed_59 : Dx cX9_changed 59 (.aload_n 0) 1 60 := ⟨by decide +kernel, rfl⟩
theorem dX9_changed_60 : Dx cX9_changed 60 (.getfield 22) 3 63 := ⟨by decide +kernel, rfl⟩
theorem dX9_changed_63 : Dx cX9_changed 63 (.bipush 111) 2 65 := ⟨by decide +kernel, rfl⟩
theorem dX9_changed_65 : Dx cX9_changed 65 (.aload_n 0) 1 66 := ⟨by decide +kernel, rfl⟩
theorem dX9_changed_66 : Dx cX9_changed 66 (.getfield 45) 3 69 := ⟨by decide +kernel, rfl⟩
theorem dX9_changed_69 : Dx cX9_changed 69 (.imul) 1 70 := ⟨by decide +kernel, rfl⟩
theorem dX9_changed_70 : Dx cX9_changed 70 (.invokestatic 41) 3 73 := ⟨by decide +kernel, rfl⟩
theorem dX9_changed_73 : Dx cX9_changed 73 (.aload_n 0) 1 74 := ⟨by decide +kernel, rfl⟩
theorem dX9_changed_74 : Dx cX9_changed 74 (.dup) 1 75 := ⟨by decide +kernel, rfl⟩
theorem dX9_changed_75 : Dx cX9_changed 75 (.getfield 45) 3 78 := ⟨by decide +kernel, rfl⟩
theorem dX9_changed_78 : Dx cX9_changed 78 (.iconst 1) 1 79 := ⟨by decide +kernel, rfl⟩
theorem dX9_changed_79 : Dx cX9_changed 79 (.iadd) 1 80 := ⟨by decide +kernel, rfl⟩
theorem dX9_changed_80 : Dx cX9_changed 80 (.putfield 45) 3 83 := ⟨by decide +kernel, rfl⟩
theorem dX9_changed_83 : Dx cX9_changed 83 (.return_) 1 84 := ⟨by decide +kernel, rfl⟩
theorem dX9_ends_0 : Dx cX9_ends 0 (.aload_n 0) 1 1 := ⟨by decide +kernel, rfl⟩
theorem dX9_ends_1 : Dx cX9_ends 1 (.getfield 38) 3 4 := ⟨by decide +kernel, rfl⟩
theorem dX9_ends_4 : Dc cX9_ends 4 (fun o => .ifCond .eq o) 30 7 := ⟨26, by decide +kernel, by decide, rfl⟩
theorem dX9_ends_7 : Dx cX9_ends 7 (.aload_n 0) 1 8 := ⟨by decide +kernel, rfl⟩
theorem dX9_ends_8 : Dx cX9_ends 8 (.aload_n 0) 1 9 := ⟨by decide +kernel, rfl⟩
theorem dX9_ends_9 : Dx cX9_ends 9 (.getfield 38) 3 12 := ⟨by decide +kernel, rfl⟩
theorem dX9_ends_12 : Dx cX9_ends 12 (.bipush 9) 2 14 := ⟨by decide +kernel, rfl⟩
theorem dX9_ends_14 : Dc cX9_ends 14 (fun o => .if_icmp .ne o) 21 17 := ⟨7, by decide +kernel, by decide, rfl⟩
theorem dX9_ends_17 : Dx cX9_ends 17 (.iload_n 2) 1 18 := ⟨by decide +kernel, rfl⟩
theorem dX9_ends_18 : Dc cX9_ends 18 (fun o => .goto o) 25 21 := ⟨7, by decide +kernel, by decide, rfl⟩
theorem dX9_ends_21 : Dx cX9_ends 21 (.aload_n 0) 1 22 := ⟨by decide +kernel, rfl⟩
theorem dX9_ends_22 : Dx cX9_ends 22 (.getfield 38) 3 25 := ⟨by decide +kernel, rfl⟩
theorem dX9_ends_25 : Dx cX9_ends 25 (.putfield 38) 3 28 := ⟨by decide +kernel, rfl⟩
theorem dX9_ends_28 : Dx cX9_ends 28 (.iconst 0) 1 29 := ⟨by decide +kernel, rfl⟩
theorem dX9_ends_29 : Dx cX9_ends 29 (.ireturn) 1 30 := ⟨by decide +kernel, rfl⟩
theorem dX9_ends_30 : Dx cX9_ends 30 (.aload_n 0) 1 31 := ⟨by decide +kernel, rfl⟩
theorem dX9_ends_31 : Dx cX9_ends 31 (.invokevirtual 48) 3 34 := ⟨by decide +kernel, rfl⟩
theorem dX9_ends_34 : Dx cX9_ends 34 (.iload_n 1) 1 35 := ⟨by decide +kernel, rfl⟩
theorem dX9_ends_35 : Dx cX9_ends 35 (.ireturn) 1 36 := ⟨by decide +kernel, rfl⟩
theorem dX9_isThrown_0 : Dx cX9_isThrown 0 (.aload_n 0) 1 1 := ⟨by decide +kernel, rfl⟩
theorem dX9_isThrown_1 : Dx cX9_isThrown 1 (.iload_n 1) 1 2 := ⟨by decide +kernel, rfl⟩
theorem dX9_isThrown_2 : Dc cX9_isThrown 2 (fun o => .ifCond .eq o) 9 5 := ⟨7, by decide +kernel, by decide, rfl⟩
theorem dX9_isThrown_5 : Dx cX9_isThrown 5 (.iload_n 2) 1 6 := ⟨by decide +kernel, rfl⟩
theorem dX9_isThrown_6 : Dc cX9_isThrown 6 (fun o => .goto o) 10 9 := ⟨4, by decide +kernel, by decide, rfl⟩
theorem dX9_isThrown_9 : Dx cX9_isThrown 9 (.iconst 0) 1 10 := ⟨by decide +kernel, rfl⟩
theorem dX9_isThrown_10 : Dx cX9_isThrown 10 (.putfield 38) 3 13 := ⟨by decide +kernel, rfl⟩
theorem dX9_isThrown_13 : Dx cX9_isThrown 13 (.iload_n 1) 1 14 := ⟨by decide +kernel, rfl⟩
theorem dX9_isThrown_14 : Dx cX9_isThrown 14 (.ireturn) 1 15 := ⟨by decide +kernel, rfl⟩
theorem dX9_isRefused_0 : Dx cX9_isRefused 0 (.iload_n 1) 1 1 := ⟨by decide +kernel, rfl⟩
theorem dX9_isRefused_1 : Dc cX9_isRefused 1 (fun o => .ifCond .eq o) 25 4 := ⟨24, by decide +kernel, by decide, rfl⟩
theorem dX9_isRefused_4 : Dx cX9_isRefused 4 (.aload_n 0) 1 5 := ⟨by decide +kernel, rfl⟩
theorem dX9_isRefused_5 : Dx cX9_isRefused 5 (.iload_n 2) 1 6 := ⟨by decide +kernel, rfl⟩
theorem dX9_isRefused_6 : Dx cX9_isRefused 6 (.putfield 51) 3 9 := ⟨by decide +kernel, rfl⟩
theorem dX9_isRefused_9 : Dx cX9_isRefused 9 (.aload_n 0) 1 10 := ⟨by decide +kernel, rfl⟩
theorem dX9_isRefused_10 : Dx cX9_isRefused 10 (.iload_n 3) 1 11 := ⟨by decide +kernel, rfl⟩
theorem dX9_isRefused_11 : Dx cX9_isRefused 11 (.putfield 54) 3 14 := ⟨by decide +kernel, rfl⟩
theorem dX9_isRefused_14 : Dx cX9_isRefused 14 (.aload_n 0) 1 15 := ⟨by decide +kernel, rfl⟩
theorem dX9_isRefused_15 : Dx cX9_isRefused 15 (.iconst 0) 1 16 := ⟨by decide +kernel, rfl⟩
theorem dX9_isRefused_16 : Dx cX9_isRefused 16 (.putfield 57) 3 19 := ⟨by decide +kernel, rfl⟩
theorem dX9_isRefused_19 : Dx cX9_isRefused 19 (.aload_n 0) 1 20 := ⟨by decide +kernel, rfl⟩
theorem dX9_isRefused_20 : Dx cX9_isRefused 20 (.bipush 9) 2 22 := ⟨by decide +kernel, rfl⟩
theorem dX9_isRefused_22 : Dx cX9_isRefused 22 (.putfield 38) 3 25 := ⟨by decide +kernel, rfl⟩
theorem dX9_isRefused_25 : Dx cX9_isRefused 25 (.iload_n 1) 1 26 := ⟨by decide +kernel, rfl⟩
theorem dX9_isRefused_26 : Dx cX9_isRefused 26 (.ireturn) 1 27 := ⟨by decide +kernel, rfl⟩
theorem dX9_of_0 : Dx cX9_of 0 (.aload_n 0) 1 1 := ⟨by decide +kernel, rfl⟩
theorem dX9_of_1 : Dx cX9_of 1 (.getfield 9) 3 4 := ⟨by decide +kernel, rfl⟩
theorem dX9_of_4 : Dx cX9_of 4 (.bipush 8) 2 6 := ⟨by decide +kernel, rfl⟩
theorem dX9_of_6 : Dx cX9_of 6 (.bipush 7) 2 8 := ⟨by decide +kernel, rfl⟩
theorem dX9_of_8 : Dx cX9_of 8 (.iload_n 1) 1 9 := ⟨by decide +kernel, rfl⟩
theorem dX9_of_9 : Dx cX9_of 9 (.imul) 1 10 := ⟨by decide +kernel, rfl⟩
theorem dX9_of_10 : Dx cX9_of 10 (.iadd) 1 11 := ⟨by decide +kernel, rfl⟩
theorem dX9_of_11 : Dx cX9_of 11 (.iload_n 2) 1 12 := ⟨by decide +kernel, rfl⟩
theorem dX9_of_12 : Dx cX9_of 12 (.iadd) 1 13 := ⟨by decide +kernel, rfl⟩
theorem dX9_of_13 : Dx cX9_of 13 (.iaload) 1 14 := ⟨by decide +kernel, rfl⟩
theorem dX9_of_14 : Dx cX9_of 14 (.ireturn) 1 15 := ⟨by decide +kernel, rfl⟩
theorem dX9_sets_0 : Dx cX9_sets 0 (.aload_n 0) 1 1 := ⟨by decide +kernel, rfl⟩
theorem dX9_sets_1 : Dx cX9_sets 1 (.getfield 9) 3 4 := ⟨by decide +kernel, rfl⟩
theorem dX9_sets_4 : Dx cX9_sets 4 (.bipush 8) 2 6 := ⟨by decide +kernel, rfl⟩
theorem dX9_sets_6 : Dx cX9_sets 6 (.bipush 7) 2 8 := ⟨by decide +kernel, rfl⟩
theorem dX9_sets_8 : Dx cX9_sets 8 (.iload_n 1) 1 9 := ⟨by decide +kernel, rfl⟩
theorem dX9_sets_9 : Dx cX9_sets 9 (.imul) 1 10 := ⟨by decide +kernel, rfl⟩
theorem dX9_sets_10 : Dx cX9_sets 10 (.iadd) 1 11 := ⟨by decide +kernel, rfl⟩
theorem dX9_sets_11 : Dx cX9_sets 11 (.iload_n 2) 1 12 := ⟨by decide +kernel, rfl⟩
theorem dX9_sets_12 : Dx cX9_sets 12 (.iadd) 1 13 := ⟨by decide +kernel, rfl⟩
theorem dX9_sets_13 : Dx cX9_sets 13 (.iload_n 3) 1 14 := ⟨by decide +kernel, rfl⟩
theorem dX9_sets_14 : Dx cX9_sets 14 (.iastore) 1 15 := ⟨by decide +kernel, rfl⟩
theorem dX9_sets_15 : Dx cX9_sets 15 (.return_) 1 16 := ⟨by decide +kernel, rfl⟩
theorem dX9_ofBoat_0 : Dx cX9_ofBoat 0 (.aload_n 0) 1 1 := ⟨by decide +kernel, rfl⟩
theorem dX9_ofBoat_1 : Dx cX9_ofBoat 1 (.getfield 9) 3 4 := ⟨by decide +kernel, rfl⟩
theorem dX9_ofBoat_4 : Dx cX9_ofBoat 4 (.bipush 78) 2 6 := ⟨by decide +kernel, rfl⟩
theorem dX9_ofBoat_6 : Dx cX9_ofBoat 6 (.bipush 7) 2 8 := ⟨by decide +kernel, rfl⟩
theorem dX9_ofBoat_8 : Dx cX9_ofBoat 8 (.iload_n 1) 1 9 := ⟨by decide +kernel, rfl⟩
theorem dX9_ofBoat_9 : Dx cX9_ofBoat 9 (.imul) 1 10 := ⟨by decide +kernel, rfl⟩
theorem dX9_ofBoat_10 : Dx cX9_ofBoat 10 (.iadd) 1 11 := ⟨by decide +kernel, rfl⟩
theorem dX9_ofBoat_11 : Dx cX9_ofBoat 11 (.iload_n 2) 1 12 := ⟨by decide +kernel, rfl⟩
theorem dX9_ofBoat_12 : Dx cX9_ofBoat 12 (.iadd) 1 13 := ⟨by decide +kernel, rfl⟩
theorem dX9_ofBoat_13 : Dx cX9_ofBoat 13 (.iaload) 1 14 := ⟨by decide +kernel, rfl⟩
theorem dX9_ofBoat_14 : Dx cX9_ofBoat 14 (.ireturn) 1 15 := ⟨by decide +kernel, rfl⟩
theorem dX9_setsBoat_0 : Dx cX9_setsBoat 0 (.aload_n 0) 1 1 := ⟨by decide +kernel, rfl⟩
theorem dX9_setsBoat_1 : Dx cX9_setsBoat 1 (.getfield 9) 3 4 := ⟨by decide +kernel, rfl⟩
theorem dX9_setsBoat_4 : Dx cX9_setsBoat 4 (.bipush 78) 2 6 := ⟨by decide +kernel, rfl⟩
theorem dX9_setsBoat_6 : Dx cX9_setsBoat 6 (.bipush 7) 2 8 := ⟨by decide +kernel, rfl⟩
theorem dX9_setsBoat_8 : Dx cX9_setsBoat 8 (.iload_n 1) 1 9 := ⟨by decide +kernel, rfl⟩
theorem dX9_setsBoat_9 : Dx cX9_setsBoat 9 (.imul) 1 10 := ⟨by decide +kernel, rfl⟩
theorem dX9_setsBoat_10 : Dx cX9_setsBoat 10 (.iadd) 1 11 := ⟨by decide +kernel, rfl⟩
theorem dX9_setsBoat_11 : Dx cX9_setsBoat 11 (.iload_n 2) 1 12 := ⟨by decide +kernel, rfl⟩
theorem dX9_setsBoat_12 : Dx cX9_setsBoat 12 (.iadd) 1 13 := ⟨by decide +kernel, rfl⟩
theorem dX9_setsBoat_13 : Dx cX9_setsBoat 13 (.iload_n 3) 1 14 := ⟨by decide +kernel, rfl⟩
theorem dX9_setsBoat_14 : Dx cX9_setsBoat 14 (.iastore) 1 15 := ⟨by decide +kernel, rfl⟩
theorem dX9_setsBoat_15 : Dx cX9_setsBoat 15 (.return_) 1 16 := ⟨by decide +kernel, rfl⟩
theorem dX9_ofLoan_0 : Dx cX9_ofLoan 0 (.aload_n 0) 1 1 := ⟨by decide +kernel, rfl⟩
theorem dX9_ofLoan_1 : Dx cX9_ofLoan 1 (.getfield 9) 3 4 := ⟨by decide +kernel, rfl⟩
theorem dX9_ofLoan_4 : Dx cX9_ofLoan 4 (.bipush 99) 2 6 := ⟨by decide +kernel, rfl⟩
theorem dX9_ofLoan_6 : Dx cX9_ofLoan 6 (.iconst 3) 1 7 := ⟨by decide +kernel, rfl⟩
theorem dX9_ofLoan_7 : Dx cX9_ofLoan 7 (.iload_n 1) 1 8 := ⟨by decide +kernel, rfl⟩
theorem dX9_ofLoan_8 : Dx cX9_ofLoan 8 (.imul) 1 9 := ⟨by decide +kernel, rfl⟩
theorem dX9_ofLoan_9 : Dx cX9_ofLoan 9 (.iadd) 1 10 := ⟨by decide +kernel, rfl⟩
theorem dX9_ofLoan_10 : Dx cX9_ofLoan 10 (.iload_n 2) 1 11 := ⟨by decide +kernel, rfl⟩
theorem dX9_ofLoan_11 : Dx cX9_ofLoan 11 (.iadd) 1 12 := ⟨by decide +kernel, rfl⟩
theorem dX9_ofLoan_12 : Dx cX9_ofLoan 12 (.iaload) 1 13 := ⟨by decide +kernel, rfl⟩
theorem dX9_ofLoan_13 : Dx cX9_ofLoan 13 (.ireturn) 1 14 := ⟨by decide +kernel, rfl⟩
theorem dX9_isMember_0 : Dx cX9_isMember 0 (.iload_n 1) 1 1 := ⟨by decide +kernel, rfl⟩
theorem dX9_isMember_1 : Dx cX9_isMember 1 (.iconst 0) 1 2 := ⟨by decide +kernel, rfl⟩
theorem dX9_isMember_2 : Dx cX9_isMember 2 (.aload_n 0) 1 3 := ⟨by decide +kernel, rfl⟩
theorem dX9_isMember_3 : Dx cX9_isMember 3 (.getfield 9) 3 6 := ⟨by decide +kernel, rfl⟩
theorem dX9_isMember_6 : Dx cX9_isMember 6 (.iconst 1) 1 7 := ⟨by decide +kernel, rfl⟩
theorem dX9_isMember_7 : Dx cX9_isMember 7 (.iaload) 1 8 := ⟨by decide +kernel, rfl⟩
theorem dX9_isMember_8 : Dx cX9_isMember 8 (.iconst 1) 1 9 := ⟨by decide +kernel, rfl⟩
theorem dX9_isMember_9 : Dx cX9_isMember 9 (.isub) 1 10 := ⟨by decide +kernel, rfl⟩
theorem dX9_isMember_10 : Dx cX9_isMember 10 (.invokestatic 60) 3 13 := ⟨by decide +kernel, rfl⟩
theorem dX9_isMember_13 : Dx cX9_isMember 13 (.ireturn) 1 14 := ⟨by decide +kernel, rfl⟩
theorem dX9_isBoat_0 : Dx cX9_isBoat 0 (.iload_n 1) 1 1 := ⟨by decide +kernel, rfl⟩
theorem dX9_isBoat_1 : Dx cX9_isBoat 1 (.iconst 0) 1 2 := ⟨by decide +kernel, rfl⟩
theorem dX9_isBoat_2 : Dx cX9_isBoat 2 (.aload_n 0) 1 3 := ⟨by decide +kernel, rfl⟩
theorem dX9_isBoat_3 : Dx cX9_isBoat 3 (.getfield 9) 3 6 := ⟨by decide +kernel, rfl⟩
theorem dX9_isBoat_6 : Dx cX9_isBoat 6 (.iconst 2) 1 7 := ⟨by decide +kernel, rfl⟩
theorem dX9_isBoat_7 : Dx cX9_isBoat 7 (.iaload) 1 8 := ⟨by decide +kernel, rfl⟩
theorem dX9_isBoat_8 : Dx cX9_isBoat 8 (.iconst 1) 1 9 := ⟨by decide +kernel, rfl⟩
theorem dX9_isBoat_9 : Dx cX9_isBoat 9 (.isub) 1 10 := ⟨by decide +kernel, rfl⟩
theorem dX9_isBoat_10 : Dx cX9_isBoat 10 (.invokestatic 60) 3 13 := ⟨by decide +kernel, rfl⟩
theorem dX9_isBoat_13 : Dx cX9_isBoat 13 (.ireturn) 1 14 := ⟨by decide +kernel, rfl⟩
theorem dX9_isLoan_0 : Dx cX9_isLoan 0 (.iload_n 1) 1 1 := ⟨by decide +kernel, rfl⟩
theorem dX9_isLoan_1 : Dx cX9_isLoan 1 (.iconst 0) 1 2 := ⟨by decide +kernel, rfl⟩
theorem dX9_isLoan_2 : Dx cX9_isLoan 2 (.aload_n 0) 1 3 := ⟨by decide +kernel, rfl⟩
theorem dX9_isLoan_3 : Dx cX9_isLoan 3 (.getfield 9) 3 6 := ⟨by decide +kernel, rfl⟩
theorem dX9_isLoan_6 : Dx cX9_isLoan 6 (.iconst 3) 1 7 := ⟨by decide +kernel, rfl⟩
theorem dX9_isLoan_7 : Dx cX9_isLoan 7 (.iaload) 1 8 := ⟨by decide +kernel, rfl⟩
theorem dX9_isLoan_8 : Dx cX9_isLoan 8 (.iconst 1) 1 9 := ⟨by decide +kernel, rfl⟩
theorem dX9_isLoan_9 : Dx cX9_isLoan 9 (.isub) 1 10 := ⟨by decide +kernel, rfl⟩
theorem dX9_isLoan_10 : Dx cX9_isLoan 10 (.invokestatic 60) 3 13 := ⟨by decide +kernel, rfl⟩
theorem dX9_isLoan_13 : Dx cX9_isLoan 13 (.ireturn) 1 14 := ⟨by decide +kernel, rfl⟩
theorem dX9_isOutside_0 : Dx cX9_isOutside 0 (.aload_n 0) 1 1 := ⟨by decide +kernel, rfl⟩
theorem dX9_isOutside_1 : Dx cX9_isOutside 1 (.iload_n 1) 1 2 := ⟨by decide +kernel, rfl⟩
theorem dX9_isOutside_2 : Dc cX9_isOutside 2 (fun o => .ifCond .ne o) 9 5 := ⟨7, by decide +kernel, by decide, rfl⟩
theorem dX9_isOutside_5 : Dx cX9_isOutside 5 (.iconst 1) 1 6 := ⟨by decide +kernel, rfl⟩
theorem dX9_isOutside_6 : Dc cX9_isOutside 6 (fun o => .goto o) 10 9 := ⟨4, by decide +kernel, by decide, rfl⟩
theorem dX9_isOutside_9 : Dx cX9_isOutside 9 (.iconst 0) 1 10 := ⟨by decide +kernel, rfl⟩
theorem dX9_isOutside_10 : Dx cX9_isOutside 10 (.iconst 1) 1 11 := ⟨by decide +kernel, rfl⟩
theorem dX9_isOutside_11 : Dx cX9_isOutside 11 (.iconst 0) 1 12 := ⟨by decide +kernel, rfl⟩
theorem dX9_isOutside_12 : Dx cX9_isOutside 12 (.invokevirtual 64) 3 15 := ⟨by decide +kernel, rfl⟩
theorem dX9_isOutside_15 : Dx cX9_isOutside 15 (.ireturn) 1 16 := ⟨by decide +kernel, rfl⟩
theorem dX9_heightAt_0 : Dx cX9_heightAt 0 (.iload_n 1) 1 1 := ⟨by decide +kernel, rfl⟩
theorem dX9_heightAt_1 : Dx cX9_heightAt 1 (.bipush 12) 2 3 := ⟨by decide +kernel, rfl⟩
theorem dX9_heightAt_3 : Dx cX9_heightAt 3 (.irem) 1 4 := ⟨by decide +kernel, rfl⟩
theorem dX9_heightAt_4 : Dx cX9_heightAt 4 (.istore_n 2) 1 5 := ⟨by decide +kernel, rfl⟩
theorem dX9_heightAt_5 : Dx cX9_heightAt 5 (.iload_n 2) 1 6 := ⟨by decide +kernel, rfl⟩
theorem dX9_heightAt_6 : Dx cX9_heightAt 6 (.bipush 6) 2 8 := ⟨by decide +kernel, rfl⟩
theorem dX9_heightAt_8 : Dc cX9_heightAt 8 (fun o => .if_icmp .gt o) 15 11 := ⟨7, by decide +kernel, by decide, rfl⟩
theorem dX9_heightAt_11 : Dx cX9_heightAt 11 (.iload_n 2) 1 12 := ⟨by decide +kernel, rfl⟩
theorem dX9_heightAt_12 : Dc cX9_heightAt 12 (fun o => .goto o) 19 15 := ⟨7, by decide +kernel, by decide, rfl⟩
theorem dX9_heightAt_15 : Dx cX9_heightAt 15 (.bipush 12) 2 17 := ⟨by decide +kernel, rfl⟩
theorem dX9_heightAt_17 : Dx cX9_heightAt 17 (.iload_n 2) 1 18 := ⟨by decide +kernel, rfl⟩
theorem dX9_heightAt_18 : Dx cX9_heightAt 18 (.isub) 1 19 := ⟨by decide +kernel, rfl⟩
theorem dX9_heightAt_19 : Dx cX9_heightAt 19 (.ireturn) 1 20 := ⟨by decide +kernel, rfl⟩
theorem dX9_isLow_0 : Dx cX9_isLow 0 (.aload_n 0) 1 1 := ⟨by decide +kernel, rfl⟩
theorem dX9_isLow_1 : Dx cX9_isLow 1 (.aload_n 0) 1 2 := ⟨by decide +kernel, rfl⟩
theorem dX9_isLow_2 : Dx cX9_isLow 2 (.getfield 9) 3 5 := ⟨by decide +kernel, rfl⟩
theorem dX9_isLow_5 : Dx cX9_isLow 5 (.iconst 0) 1 6 := ⟨by decide +kernel, rfl⟩
theorem dX9_isLow_6 : Dx cX9_isLow 6 (.iaload) 1 7 := ⟨by decide +kernel, rfl⟩
theorem dX9_isLow_7 : Dx cX9_isLow 7 (.invokevirtual 68) 3 10 := ⟨by decide +kernel, rfl⟩
theorem dX9_isLow_10 : Dx cX9_isLow 10 (.aload_n 0) 1 11 := ⟨by decide +kernel, rfl⟩
theorem dX9_isLow_11 : Dx cX9_isLow 11 (.iload_n 1) 1 12 := ⟨by decide +kernel, rfl⟩
theorem dX9_isLow_12 : Dx cX9_isLow 12 (.iconst 0) 1 13 := ⟨by decide +kernel, rfl⟩
theorem dX9_isLow_13 : Dx cX9_isLow 13 (.invokevirtual 72) 3 16 := ⟨by decide +kernel, rfl⟩
theorem dX9_isLow_16 : Dc cX9_isLow 16 (fun o => .if_icmp .ge o) 23 19 := ⟨7, by decide +kernel, by decide, rfl⟩
theorem dX9_isLow_19 : Dx cX9_isLow 19 (.iconst 1) 1 20 := ⟨by decide +kernel, rfl⟩
theorem dX9_isLow_20 : Dc cX9_isLow 20 (fun o => .goto o) 24 23 := ⟨4, by decide +kernel, by decide, rfl⟩
theorem dX9_isLow_23 : Dx cX9_isLow 23 (.iconst 0) 1 24 := ⟨by decide +kernel, rfl⟩
theorem dX9_isLow_24 : Dx cX9_isLow 24 (.ireturn) 1 25 := ⟨by decide +kernel, rfl⟩
theorem dX9_allOars_0 : Dx cX9_allOars 0 (.bipush 6) 2 2 := ⟨by decide +kernel, rfl⟩
theorem dX9_allOars_2 : Dx cX9_allOars 2 (.istore_n 1) 1 3 := ⟨by decide +kernel, rfl⟩
theorem dX9_allOars_3 : Dx cX9_allOars 3 (.iconst 0) 1 4 := ⟨by decide +kernel, rfl⟩
theorem dX9_allOars_4 : Dx cX9_allOars 4 (.istore_n 2) 1 5 := ⟨by decide +kernel, rfl⟩
theorem dX9_allOars_5 : Dx cX9_allOars 5 (.iload_n 2) 1 6 := ⟨by decide +kernel, rfl⟩
theorem dX9_allOars_6 : Dx cX9_allOars 6 (.aload_n 0) 1 7 := ⟨by decide +kernel, rfl⟩
theorem dX9_allOars_7 : Dx cX9_allOars 7 (.getfield 9) 3 10 := ⟨by decide +kernel, rfl⟩
theorem dX9_allOars_10 : Dx cX9_allOars 10 (.iconst 3) 1 11 := ⟨by decide +kernel, rfl⟩
theorem dX9_allOars_11 : Dx cX9_allOars 11 (.iaload) 1 12 := ⟨by decide +kernel, rfl⟩
theorem dX9_allOars_12 : Dc cX9_allOars 12 (fun o => .if_icmp .ge o) 30 15 := ⟨18, by decide +kernel, by decide, rfl⟩
theorem dX9_allOars_15 : Dx cX9_allOars 15 (.iload_n 1) 1 16 := ⟨by decide +kernel, rfl⟩
theorem dX9_allOars_16 : Dx cX9_allOars 16 (.aload_n 0) 1 17 := ⟨by decide +kernel, rfl⟩
theorem dX9_allOars_17 : Dx cX9_allOars 17 (.iload_n 2) 1 18 := ⟨by decide +kernel, rfl⟩
theorem dX9_allOars_18 : Dx cX9_allOars 18 (.iconst 0) 1 19 := ⟨by decide +kernel, rfl⟩
theorem dX9_allOars_19 : Dx cX9_allOars 19 (.invokevirtual 76) 3 22 := ⟨by decide +kernel, rfl⟩
theorem dX9_allOars_22 : Dx cX9_allOars 22 (.iadd) 1 23 := ⟨by decide +kernel, rfl⟩
theorem dX9_allOars_23 : Dx cX9_allOars 23 (.istore_n 1) 1 24 := ⟨by decide +kernel, rfl⟩
theorem dX9_allOars_24 : Dx cX9_allOars 24 (.iinc 2 1) 3 27 := ⟨by decide +kernel, rfl⟩
theorem dX9_allOars_27 : Dc cX9_allOars 27 (fun o => .goto o) 5 30 := ⟨(-22), by decide +kernel, by decide, rfl⟩
theorem dX9_allOars_30 : Dx cX9_allOars 30 (.iload_n 1) 1 31 := ⟨by decide +kernel, rfl⟩
theorem dX9_allOars_31 : Dx cX9_allOars 31 (.ireturn) 1 32 := ⟨by decide +kernel, rfl⟩
theorem dX9_oarsOut_0 : Dx cX9_oarsOut 0 (.iconst 0) 1 1 := ⟨by decide +kernel, rfl⟩
theorem dX9_oarsOut_1 : Dx cX9_oarsOut 1 (.istore_n 1) 1 2 := ⟨by decide +kernel, rfl⟩
theorem dX9_oarsOut_2 : Dx cX9_oarsOut 2 (.iconst 0) 1 3 := ⟨by decide +kernel, rfl⟩
theorem dX9_oarsOut_3 : Dx cX9_oarsOut 3 (.istore_n 2) 1 4 := ⟨by decide +kernel, rfl⟩
theorem dX9_oarsOut_4 : Dx cX9_oarsOut 4 (.iload_n 2) 1 5 := ⟨by decide +kernel, rfl⟩
theorem dX9_oarsOut_5 : Dx cX9_oarsOut 5 (.aload_n 0) 1 6 := ⟨by decide +kernel, rfl⟩
theorem dX9_oarsOut_6 : Dx cX9_oarsOut 6 (.getfield 9) 3 9 := ⟨by decide +kernel, rfl⟩
theorem dX9_oarsOut_9 : Dx cX9_oarsOut 9 (.iconst 2) 1 10 := ⟨by decide +kernel, rfl⟩
theorem dX9_oarsOut_10 : Dx cX9_oarsOut 10 (.iaload) 1 11 := ⟨by decide +kernel, rfl⟩
theorem dX9_oarsOut_11 : Dc cX9_oarsOut 11 (fun o => .if_icmp .ge o) 45 14 := ⟨34, by decide +kernel, by decide, rfl⟩
theorem dX9_oarsOut_14 : Dx cX9_oarsOut 14 (.iload_n 1) 1 15 := ⟨by decide +kernel, rfl⟩
theorem dX9_oarsOut_15 : Dx cX9_oarsOut 15 (.aload_n 0) 1 16 := ⟨by decide +kernel, rfl⟩
theorem dX9_oarsOut_16 : Dx cX9_oarsOut 16 (.iload_n 2) 1 17 := ⟨by decide +kernel, rfl⟩
theorem dX9_oarsOut_17 : Dx cX9_oarsOut 17 (.iconst 2) 1 18 := ⟨by decide +kernel, rfl⟩
theorem dX9_oarsOut_18 : Dx cX9_oarsOut 18 (.invokevirtual 72) 3 21 := ⟨by decide +kernel, rfl⟩
theorem dX9_oarsOut_21 : Dx cX9_oarsOut 21 (.iconst 1) 1 22 := ⟨by decide +kernel, rfl⟩
theorem dX9_oarsOut_22 : Dc cX9_oarsOut 22 (fun o => .if_icmp .ne o) 36 25 := ⟨14, by decide +kernel, by decide, rfl⟩
theorem dX9_oarsOut_25 : Dx cX9_oarsOut 25 (.aload_n 0) 1 26 := ⟨by decide +kernel, rfl⟩
theorem dX9_oarsOut_26 : Dx cX9_oarsOut 26 (.iload_n 2) 1 27 := ⟨by decide +kernel, rfl⟩
theorem dX9_oarsOut_27 : Dx cX9_oarsOut 27 (.iconst 1) 1 28 := ⟨by decide +kernel, rfl⟩
theorem dX9_oarsOut_28 : Dx cX9_oarsOut 28 (.invokevirtual 72) 3 31 := ⟨by decide +kernel, rfl⟩
theorem dX9_oarsOut_31 : Dx cX9_oarsOut 31 (.iconst 1) 1 32 := ⟨by decide +kernel, rfl⟩
theorem dX9_oarsOut_32 : Dx cX9_oarsOut 32 (.isub) 1 33 := ⟨by decide +kernel, rfl⟩
theorem dX9_oarsOut_33 : Dc cX9_oarsOut 33 (fun o => .goto o) 37 36 := ⟨4, by decide +kernel, by decide, rfl⟩
theorem dX9_oarsOut_36 : Dx cX9_oarsOut 36 (.iconst 0) 1 37 := ⟨by decide +kernel, rfl⟩
theorem dX9_oarsOut_37 : Dx cX9_oarsOut 37 (.iadd) 1 38 := ⟨by decide +kernel, rfl⟩
theorem dX9_oarsOut_38 : Dx cX9_oarsOut 38 (.istore_n 1) 1 39 := ⟨by decide +kernel, rfl⟩
theorem dX9_oarsOut_39 : Dx cX9_oarsOut 39 (.iinc 2 1) 3 42 := ⟨by decide +kernel, rfl⟩
theorem dX9_oarsOut_42 : Dc cX9_oarsOut 42 (fun o => .goto o) 4 45 := ⟨(-38), by decide +kernel, by decide, rfl⟩
theorem dX9_oarsOut_45 : Dx cX9_oarsOut 45 (.iload_n 1) 1 46 := ⟨by decide +kernel, rfl⟩
theorem dX9_oarsOut_46 : Dx cX9_oarsOut 46 (.ireturn) 1 47 := ⟨by decide +kernel, rfl⟩
theorem dX9_freeOars_0 : Dx cX9_freeOars 0 (.aload_n 0) 1 1 := ⟨by decide +kernel, rfl⟩
theorem dX9_freeOars_1 : Dx cX9_freeOars 1 (.invokevirtual 79) 3 4 := ⟨by decide +kernel, rfl⟩
theorem dX9_freeOars_4 : Dx cX9_freeOars 4 (.aload_n 0) 1 5 := ⟨by decide +kernel, rfl⟩
theorem dX9_freeOars_5 : Dx cX9_freeOars 5 (.invokevirtual 83) 3 8 := ⟨by decide +kernel, rfl⟩
theorem dX9_freeOars_8 : Dx cX9_freeOars 8 (.isub) 1 9 := ⟨by decide +kernel, rfl⟩
theorem dX9_freeOars_9 : Dx cX9_freeOars 9 (.ireturn) 1 10 := ⟨by decide +kernel, rfl⟩
theorem dX9_comes_0 : Dx cX9_comes 0 (.aload_n 0) 1 1 := ⟨by decide +kernel, rfl⟩
theorem dX9_comes_1 : Dx cX9_comes 1 (.iload_n 1) 1 2 := ⟨by decide +kernel, rfl⟩
theorem dX9_comes_2 : Dx cX9_comes 2 (.iconst 0) 1 3 := ⟨by decide +kernel, rfl⟩
theorem dX9_comes_3 : Dx cX9_comes 3 (.iconst 2) 1 4 := ⟨by decide +kernel, rfl⟩
theorem dX9_comes_4 : Dx cX9_comes 4 (.invokestatic 60) 3 7 := ⟨by decide +kernel, rfl⟩
theorem dX9_comes_7 : Dx cX9_comes 7 (.invokevirtual 86) 3 10 := ⟨by decide +kernel, rfl⟩
theorem dX9_comes_10 : Dc cX9_comes 10 (fun o => .ifCond .ne o) 39 13 := ⟨29, by decide +kernel, by decide, rfl⟩
theorem dX9_comes_13 : Dx cX9_comes 13 (.aload_n 0) 1 14 := ⟨by decide +kernel, rfl⟩
theorem dX9_comes_14 : Dx cX9_comes 14 (.aload_n 0) 1 15 := ⟨by decide +kernel, rfl⟩
theorem dX9_comes_15 : Dx cX9_comes 15 (.getfield 9) 3 18 := ⟨by decide +kernel, rfl⟩
theorem dX9_comes_18 : Dx cX9_comes 18 (.iconst 1) 1 19 := ⟨by decide +kernel, rfl⟩
theorem dX9_comes_19 : Dx cX9_comes 19 (.iaload) 1 20 := ⟨by decide +kernel, rfl⟩
theorem dX9_comes_20 : Dx cX9_comes 20 (.bipush 10) 2 22 := ⟨by decide +kernel, rfl⟩
theorem dX9_comes_22 : Dc cX9_comes 22 (fun o => .if_icmp .ne o) 29 25 := ⟨7, by decide +kernel, by decide, rfl⟩
theorem dX9_comes_25 : Dx cX9_comes 25 (.iconst 1) 1 26 := ⟨by decide +kernel, rfl⟩
theorem dX9_comes_26 : Dc cX9_comes 26 (fun o => .goto o) 30 29 := ⟨4, by decide +kernel, by decide, rfl⟩
theorem dX9_comes_29 : Dx cX9_comes 29 (.iconst 0) 1 30 := ⟨by decide +kernel, rfl⟩
theorem dX9_comes_30 : Dx cX9_comes 30 (.iconst 2) 1 31 := ⟨by decide +kernel, rfl⟩
theorem dX9_comes_31 : Dx cX9_comes 31 (.bipush 10) 2 33 := ⟨by decide +kernel, rfl⟩
theorem dX9_comes_33 : Dx cX9_comes 33 (.invokevirtual 64) 3 36 := ⟨by decide +kernel, rfl⟩
theorem dX9_comes_36 : Dc cX9_comes 36 (fun o => .ifCond .eq o) 41 39 := ⟨5, by decide +kernel, by decide, rfl⟩
theorem dX9_comes_39 : Dx cX9_comes 39 (.iconst 0) 1 40 := ⟨by decide +kernel, rfl⟩
theorem dX9_comes_40 : Dx cX9_comes 40 (.ireturn) 1 41 := ⟨by decide +kernel, rfl⟩
theorem dX9_comes_41 : Dx cX9_comes 41 (.aload_n 0) 1 42 := ⟨by decide +kernel, rfl⟩
theorem dX9_comes_42 : Dx cX9_comes 42 (.getfield 9) 3 45 := ⟨by decide +kernel, rfl⟩
theorem dX9_comes_45 : Dx cX9_comes 45 (.iconst 1) 1 46 := ⟨by decide +kernel, rfl⟩
theorem dX9_comes_46 : Dx cX9_comes 46 (.iaload) 1 47 := ⟨by decide +kernel, rfl⟩
theorem dX9_comes_47 : Dx cX9_comes 47 (.istore_n 2) 1 48 := ⟨by decide +kernel, rfl⟩
theorem dX9_comes_48 : Dx cX9_comes 48 (.iconst 0) 1 49 := ⟨by decide +kernel, rfl⟩
theorem dX9_comes_49 : Dx cX9_comes 49 (.istore_n 3) 1 50 := ⟨by decide +kernel, rfl⟩
theorem dX9_comes_50 : Dx cX9_comes 50 (.iload_n 3) 1 51 := ⟨by decide +kernel, rfl⟩
theorem dX9_comes_51 : Dx cX9_comes 51 (.bipush 7) 2 53 := ⟨by decide +kernel, rfl⟩
theorem dX9_comes_53 : Dc cX9_comes 53 (fun o => .if_icmp .ge o) 69 56 := ⟨16, by decide +kernel, by decide, rfl⟩
theorem dX9_comes_56 : Dx cX9_comes 56 (.aload_n 0) 1 57 := ⟨by decide +kernel, rfl⟩
theorem dX9_comes_57 : Dx cX9_comes 57 (.iload_n 2) 1 58 := ⟨by decide +kernel, rfl⟩
theorem dX9_comes_58 : Dx cX9_comes 58 (.iload_n 3) 1 59 := ⟨by decide +kernel, rfl⟩
theorem dX9_comes_59 : Dx cX9_comes 59 (.iconst 0) 1 60 := ⟨by decide +kernel, rfl⟩
theorem dX9_comes_60 : Dx cX9_comes 60 (.invokevirtual 90) 3 63 := ⟨by decide +kernel, rfl⟩
theorem dX9_comes_63 : Dx cX9_comes 63 (.iinc 3 1) 3 66 := ⟨by decide +kernel, rfl⟩
theorem dX9_comes_66 : Dc cX9_comes 66 (fun o => .goto o) 50 69 := ⟨(-16), by decide +kernel, by decide, rfl⟩
theorem dX9_comes_69 : Dx cX9_comes 69 (.aload_n 0) 1 70 := ⟨by decide +kernel, rfl⟩
theorem dX9_comes_70 : Dx cX9_comes 70 (.iload_n 2) 1 71 := ⟨by decide +kernel, rfl⟩
theorem dX9_comes_71 : Dx cX9_comes 71 (.iconst 0) 1 72 := ⟨by decide +kernel, rfl⟩
theorem dX9_comes_72 : Dx cX9_comes 72 (.iload_n 1) 1 73 := ⟨by decide +kernel, rfl⟩
theorem dX9_comes_73 : Dx cX9_comes 73 (.invokevirtual 90) 3 76 := ⟨by decide +kernel, rfl⟩
theorem dX9_comes_76 : Dx cX9_comes 76 (.aload_n 0) 1 77 := ⟨by decide +kernel, rfl⟩
theorem dX9_comes_77 : Dx cX9_comes 77 (.iload_n 2) 1 78 := ⟨by decide +kernel, rfl⟩
theorem dX9_comes_78 : Dx cX9_comes 78 (.iconst 3) 1 79 := ⟨by decide +kernel, rfl⟩
theorem dX9_comes_79 : Dx cX9_comes 79 (.iconst (-1)) 1 80 := ⟨by decide +kernel, rfl⟩
theorem dX9_comes_80 : Dx cX9_comes 80 (.invokevirtual 90) 3 83 := ⟨by decide +kernel, rfl⟩
theorem dX9_comes_83 : Dx cX9_comes 83 (.aload_n 0) 1 84 := ⟨by decide +kernel, rfl⟩
theorem dX9_comes_84 : Dx cX9_comes 84 (.getfield 9) 3 87 := ⟨by decide +kernel, rfl⟩
theorem dX9_comes_87 : Dx cX9_comes 87 (.iconst 1) 1 88 := ⟨by decide +kernel, rfl⟩
theorem dX9_comes_88 : Dx cX9_comes 88 (.dup2) 1 89 := ⟨by decide +kernel, rfl⟩
theorem dX9_comes_89 : Dx cX9_comes 89 (.iaload) 1 90 := ⟨by decide +kernel, rfl⟩
theorem dX9_comes_90 : Dx cX9_comes 90 (.iconst 1) 1 91 := ⟨by decide +kernel, rfl⟩
theorem dX9_comes_91 : Dx cX9_comes 91 (.iadd) 1 92 := ⟨by decide +kernel, rfl⟩
theorem dX9_comes_92 : Dx cX9_comes 92 (.iastore) 1 93 := ⟨by decide +kernel, rfl⟩
theorem dX9_comes_93 : Dx cX9_comes 93 (.iload_n 2) 1 94 := ⟨by decide +kernel, rfl⟩
theorem dX9_comes_94 : Dx cX9_comes 94 (.ireturn) 1 95 := ⟨by decide +kernel, rfl⟩
theorem dX9_member_0 : Dx cX9_member 0 (.aload_n 0) 1 1 := ⟨by decide +kernel, rfl⟩
theorem dX9_member_1 : Dx cX9_member 1 (.invokevirtual 94) 3 4 := ⟨by decide +kernel, rfl⟩
theorem dX9_member_4 : Dx cX9_member 4 (.aload_n 0) 1 5 := ⟨by decide +kernel, rfl⟩
theorem dX9_member_5 : Dx cX9_member 5 (.aload_n 0) 1 6 := ⟨by decide +kernel, rfl⟩
theorem dX9_member_6 : Dx cX9_member 6 (.iload_n 1) 1 7 := ⟨by decide +kernel, rfl⟩
theorem dX9_member_7 : Dx cX9_member 7 (.invokevirtual 97) 3 10 := ⟨by decide +kernel, rfl⟩
theorem dX9_member_10 : Dx cX9_member 10 (.iconst 1) 1 11 := ⟨by decide +kernel, rfl⟩
theorem dX9_member_11 : Dx cX9_member 11 (.invokevirtual 100) 3 14 := ⟨by decide +kernel, rfl⟩
theorem dX9_member_14 : Dx cX9_member 14 (.ireturn) 1 15 := ⟨by decide +kernel, rfl⟩
theorem dX9_remaining_0 : Dx cX9_remaining 0 (.iconst 0) 1 1 := ⟨by decide +kernel, rfl⟩
theorem dX9_remaining_1 : Dx cX9_remaining 1 (.istore_n 1) 1 2 := ⟨by decide +kernel, rfl⟩
theorem dX9_remaining_2 : Dx cX9_remaining 2 (.iconst 0) 1 3 := ⟨by decide +kernel, rfl⟩
theorem dX9_remaining_3 : Dx cX9_remaining 3 (.istore_n 2) 1 4 := ⟨by decide +kernel, rfl⟩
theorem dX9_remaining_4 : Dx cX9_remaining 4 (.iload_n 2) 1 5 := ⟨by decide +kernel, rfl⟩
theorem dX9_remaining_5 : Dx cX9_remaining 5 (.aload_n 0) 1 6 := ⟨by decide +kernel, rfl⟩
theorem dX9_remaining_6 : Dx cX9_remaining 6 (.getfield 9) 3 9 := ⟨by decide +kernel, rfl⟩
theorem dX9_remaining_9 : Dx cX9_remaining 9 (.iconst 1) 1 10 := ⟨by decide +kernel, rfl⟩
theorem dX9_remaining_10 : Dx cX9_remaining 10 (.iaload) 1 11 := ⟨by decide +kernel, rfl⟩
theorem dX9_remaining_11 : Dc cX9_remaining 11 (fun o => .if_icmp .ge o) 38 14 := ⟨27, by decide +kernel, by decide, rfl⟩
theorem dX9_remaining_14 : Dx cX9_remaining 14 (.iload_n 1) 1 15 := ⟨by decide +kernel, rfl⟩
theorem dX9_remaining_15 : Dx cX9_remaining 15 (.aload_n 0) 1 16 := ⟨by decide +kernel, rfl⟩
theorem dX9_remaining_16 : Dx cX9_remaining 16 (.iload_n 2) 1 17 := ⟨by decide +kernel, rfl⟩
theorem dX9_remaining_17 : Dx cX9_remaining 17 (.iconst 1) 1 18 := ⟨by decide +kernel, rfl⟩
theorem dX9_remaining_18 : Dx cX9_remaining 18 (.invokevirtual 103) 3 21 := ⟨by decide +kernel, rfl⟩
theorem dX9_remaining_21 : Dx cX9_remaining 21 (.iconst 2) 1 22 := ⟨by decide +kernel, rfl⟩
theorem dX9_remaining_22 : Dc cX9_remaining 22 (fun o => .if_icmp .ne o) 29 25 := ⟨7, by decide +kernel, by decide, rfl⟩
theorem dX9_remaining_25 : Dx cX9_remaining 25 (.iconst 0) 1 26 := ⟨by decide +kernel, rfl⟩
theorem dX9_remaining_26 : Dc cX9_remaining 26 (fun o => .goto o) 30 29 := ⟨4, by decide +kernel, by decide, rfl⟩
theorem dX9_remaining_29 : Dx cX9_remaining 29 (.iconst 1) 1 30 := ⟨by decide +kernel, rfl⟩
theorem dX9_remaining_30 : Dx cX9_remaining 30 (.iadd) 1 31 := ⟨by decide +kernel, rfl⟩
theorem dX9_remaining_31 : Dx cX9_remaining 31 (.istore_n 1) 1 32 := ⟨by decide +kernel, rfl⟩
theorem dX9_remaining_32 : Dx cX9_remaining 32 (.iinc 2 1) 3 35 := ⟨by decide +kernel, rfl⟩
theorem dX9_remaining_35 : Dc cX9_remaining 35 (fun o => .goto o) 4 38 := ⟨(-31), by decide +kernel, by decide, rfl⟩
theorem dX9_remaining_38 : Dx cX9_remaining 38 (.iload_n 1) 1 39 := ⟨by decide +kernel, rfl⟩
theorem dX9_remaining_39 : Dx cX9_remaining 39 (.ireturn) 1 40 := ⟨by decide +kernel, rfl⟩
theorem dX9_isNotAshore_0 : Dx cX9_isNotAshore 0 (.aload_n 0) 1 1 := ⟨by decide +kernel, rfl⟩
theorem dX9_isNotAshore_1 : Dx cX9_isNotAshore 1 (.aload_n 0) 1 2 := ⟨by decide +kernel, rfl⟩
theorem dX9_isNotAshore_2 : Dx cX9_isNotAshore 2 (.iload_n 1) 1 3 := ⟨by decide +kernel, rfl⟩
theorem dX9_isNotAshore_3 : Dx cX9_isNotAshore 3 (.invokevirtual 106) 3 6 := ⟨by decide +kernel, rfl⟩
theorem dX9_isNotAshore_6 : Dc cX9_isNotAshore 6 (fun o => .ifCond .ne o) 13 9 := ⟨7, by decide +kernel, by decide, rfl⟩
theorem dX9_isNotAshore_9 : Dx cX9_isNotAshore 9 (.iconst 1) 1 10 := ⟨by decide +kernel, rfl⟩
theorem dX9_isNotAshore_10 : Dc cX9_isNotAshore 10 (fun o => .goto o) 14 13 := ⟨4, by decide +kernel, by decide, rfl⟩
theorem dX9_isNotAshore_13 : Dx cX9_isNotAshore 13 (.iconst 0) 1 14 := ⟨by decide +kernel, rfl⟩
theorem dX9_isNotAshore_14 : Dx cX9_isNotAshore 14 (.iconst 3) 1 15 := ⟨by decide +kernel, rfl⟩
theorem dX9_isNotAshore_15 : Dx cX9_isNotAshore 15 (.iload_n 1) 1 16 := ⟨by decide +kernel, rfl⟩
theorem dX9_isNotAshore_16 : Dx cX9_isNotAshore 16 (.invokevirtual 64) 3 19 := ⟨by decide +kernel, rfl⟩
theorem dX9_isNotAshore_19 : Dc cX9_isNotAshore 19 (fun o => .ifCond .eq o) 24 22 := ⟨5, by decide +kernel, by decide, rfl⟩
theorem dX9_isNotAshore_22 : Dx cX9_isNotAshore 22 (.iconst 1) 1 23 := ⟨by decide +kernel, rfl⟩
theorem dX9_isNotAshore_23 : Dx cX9_isNotAshore 23 (.ireturn) 1 24 := ⟨by decide +kernel, rfl⟩
theorem dX9_isNotAshore_24 : Dx cX9_isNotAshore 24 (.aload_n 0) 1 25 := ⟨by decide +kernel, rfl⟩
theorem dX9_isNotAshore_25 : Dx cX9_isNotAshore 25 (.aload_n 0) 1 26 := ⟨by decide +kernel, rfl⟩
theorem dX9_isNotAshore_26 : Dx cX9_isNotAshore 26 (.iload_n 1) 1 27 := ⟨by decide +kernel, rfl⟩
theorem dX9_isNotAshore_27 : Dx cX9_isNotAshore 27 (.iconst 1) 1 28 := ⟨by decide +kernel, rfl⟩
theorem dX9_isNotAshore_28 : Dx cX9_isNotAshore 28 (.invokevirtual 103) 3 31 := ⟨by decide +kernel, rfl⟩
theorem dX9_isNotAshore_31 : Dx cX9_isNotAshore 31 (.iconst 2) 1 32 := ⟨by decide +kernel, rfl⟩
theorem dX9_isNotAshore_32 : Dc cX9_isNotAshore 32 (fun o => .if_icmp .ne o) 39 35 := ⟨7, by decide +kernel, by decide, rfl⟩
theorem dX9_isNotAshore_35 : Dx cX9_isNotAshore 35 (.iconst 1) 1 36 := ⟨by decide +kernel, rfl⟩
theorem dX9_isNotAshore_36 : Dc cX9_isNotAshore 36 (fun o => .goto o) 40 39 := ⟨4, by decide +kernel, by decide, rfl⟩
theorem dX9_isNotAshore_39 : Dx cX9_isNotAshore 39 (.iconst 0) 1 40 := ⟨by decide +kernel, rfl⟩
theorem dX9_isNotAshore_40 : Dx cX9_isNotAshore 40 (.iconst 4) 1 41 := ⟨by decide +kernel, rfl⟩
theorem dX9_isNotAshore_41 : Dx cX9_isNotAshore 41 (.iconst 0) 1 42 := ⟨by decide +kernel, rfl⟩
theorem dX9_isNotAshore_42 : Dx cX9_isNotAshore 42 (.invokevirtual 64) 3 45 := ⟨by decide +kernel, rfl⟩
theorem dX9_isNotAshore_45 : Dc cX9_isNotAshore 45 (fun o => .ifCond .ne o) 77 48 := ⟨32, by decide +kernel, by decide, rfl⟩
theorem dX9_isNotAshore_48 : Dx cX9_isNotAshore 48 (.aload_n 0) 1 49 := ⟨by decide +kernel, rfl⟩
theorem dX9_isNotAshore_49 : Dx cX9_isNotAshore 49 (.aload_n 0) 1 50 := ⟨by decide +kernel, rfl⟩
theorem dX9_isNotAshore_50 : Dx cX9_isNotAshore 50 (.iload_n 1) 1 51 := ⟨by decide +kernel, rfl⟩
theorem dX9_isNotAshore_51 : Dx cX9_isNotAshore 51 (.iconst 1) 1 52 := ⟨by decide +kernel, rfl⟩
theorem dX9_isNotAshore_52 : Dx cX9_isNotAshore 52 (.invokevirtual 103) 3 55 := ⟨by decide +kernel, rfl⟩
theorem dX9_isNotAshore_55 : Dx cX9_isNotAshore 55 (.iconst 1) 1 56 := ⟨by decide +kernel, rfl⟩
theorem dX9_isNotAshore_56 : Dc cX9_isNotAshore 56 (fun o => .if_icmp .ne o) 63 59 := ⟨7, by decide +kernel, by decide, rfl⟩
theorem dX9_isNotAshore_59 : Dx cX9_isNotAshore 59 (.iconst 1) 1 60 := ⟨by decide +kernel, rfl⟩
theorem dX9_isNotAshore_60 : Dc cX9_isNotAshore 60 (fun o => .goto o) 64 63 := ⟨4, by decide +kernel, by decide, rfl⟩
theorem dX9_isNotAshore_63 : Dx cX9_isNotAshore 63 (.iconst 0) 1 64 := ⟨by decide +kernel, rfl⟩
theorem dX9_isNotAshore_64 : Dx cX9_isNotAshore 64 (.iconst 5) 1 65 := ⟨by decide +kernel, rfl⟩
theorem dX9_isNotAshore_65 : Dx cX9_isNotAshore 65 (.aload_n 0) 1 66 := ⟨by decide +kernel, rfl⟩
theorem dX9_isNotAshore_66 : Dx cX9_isNotAshore 66 (.iload_n 1) 1 67 := ⟨by decide +kernel, rfl⟩
theorem dX9_isNotAshore_67 : Dx cX9_isNotAshore 67 (.iconst 3) 1 68 := ⟨by decide +kernel, rfl⟩
theorem dX9_isNotAshore_68 : Dx cX9_isNotAshore 68 (.invokevirtual 103) 3 71 := ⟨by decide +kernel, rfl⟩
theorem dX9_isNotAshore_71 : Dx cX9_isNotAshore 71 (.invokevirtual 64) 3 74 := ⟨by decide +kernel, rfl⟩
theorem dX9_isNotAshore_74 : Dc cX9_isNotAshore 74 (fun o => .ifCond .eq o) 81 77 := ⟨7, by decide +kernel, by decide, rfl⟩
theorem dX9_isNotAshore_77 : Dx cX9_isNotAshore 77 (.iconst 1) 1 78 := ⟨by decide +kernel, rfl⟩
theorem dX9_isNotAshore_78 : Dc cX9_isNotAshore 78 (fun o => .goto o) 82 81 := ⟨4, by decide +kernel, by decide, rfl⟩
theorem dX9_isNotAshore_81 : Dx cX9_isNotAshore 81 (.iconst 0) 1 82 := ⟨by decide +kernel, rfl⟩
theorem dX9_isNotAshore_82 : Dx cX9_isNotAshore 82 (.ireturn) 1 83 := ⟨by decide +kernel, rfl⟩
theorem dX9_leaves_0 : Dx cX9_leaves 0 (.aload_n 0) 1 1 := ⟨by decide +kernel, rfl⟩
theorem dX9_leaves_1 : Dx cX9_leaves 1 (.iload_n 1) 1 2 := ⟨by decide +kernel, rfl⟩
theorem dX9_leaves_2 : Dx cX9_leaves 2 (.invokevirtual 110) 3 5 := ⟨by decide +kernel, rfl⟩
theorem dX9_leaves_5 : Dc cX9_leaves 5 (fun o => .ifCond .eq o) 10 8 := ⟨5, by decide +kernel, by decide, rfl⟩
theorem dX9_leaves_8 : Dx cX9_leaves 8 (.iconst 0) 1 9 := ⟨by decide +kernel, rfl⟩
theorem dX9_leaves_9 : Dx cX9_leaves 9 (.ireturn) 1 10 := ⟨by decide +kernel, rfl⟩
theorem dX9_leaves_10 : Dx cX9_leaves 10 (.aload_n 0) 1 11 := ⟨by decide +kernel, rfl⟩
theorem dX9_leaves_11 : Dx cX9_leaves 11 (.iload_n 1) 1 12 := ⟨by decide +kernel, rfl⟩
theorem dX9_leaves_12 : Dx cX9_leaves 12 (.iconst 1) 1 13 := ⟨by decide +kernel, rfl⟩
theorem dX9_leaves_13 : Dx cX9_leaves 13 (.iconst 2) 1 14 := ⟨by decide +kernel, rfl⟩
theorem dX9_leaves_14 : Dx cX9_leaves 14 (.invokevirtual 90) 3 17 := ⟨by decide +kernel, rfl⟩
theorem dX9_leaves_17 : Dx cX9_leaves 17 (.aload_n 0) 1 18 := ⟨by decide +kernel, rfl⟩
theorem dX9_leaves_18 : Dx cX9_leaves 18 (.invokevirtual 113) 3 21 := ⟨by decide +kernel, rfl⟩
theorem dX9_leaves_21 : Dx cX9_leaves 21 (.ireturn) 1 22 := ⟨by decide +kernel, rfl⟩
theorem dX9_leave_0 : Dx cX9_leave 0 (.aload_n 0) 1 1 := ⟨by decide +kernel, rfl⟩
theorem dX9_leave_1 : Dx cX9_leave 1 (.invokevirtual 94) 3 4 := ⟨by decide +kernel, rfl⟩
theorem dX9_leave_4 : Dx cX9_leave 4 (.aload_n 0) 1 5 := ⟨by decide +kernel, rfl⟩
theorem dX9_leave_5 : Dx cX9_leave 5 (.aload_n 0) 1 6 := ⟨by decide +kernel, rfl⟩
theorem dX9_leave_6 : Dx cX9_leave 6 (.iload_n 1) 1 7 := ⟨by decide +kernel, rfl⟩
theorem dX9_leave_7 : Dx cX9_leave 7 (.invokevirtual 116) 3 10 := ⟨by decide +kernel, rfl⟩
theorem dX9_leave_10 : Dx cX9_leave 10 (.iconst 1) 1 11 := ⟨by decide +kernel, rfl⟩
theorem dX9_leave_11 : Dx cX9_leave 11 (.invokevirtual 100) 3 14 := ⟨by decide +kernel, rfl⟩
theorem dX9_leave_14 : Dx cX9_leave 14 (.ireturn) 1 15 := ⟨by decide +kernel, rfl⟩
theorem dX9_trains_0 : Dx cX9_trains 0 (.aload_n 0) 1 1 := ⟨by decide +kernel, rfl⟩
theorem dX9_trains_1 : Dx cX9_trains 1 (.iload_n 1) 1 2 := ⟨by decide +kernel, rfl⟩
theorem dX9_trains_2 : Dx cX9_trains 2 (.invokevirtual 110) 3 5 := ⟨by decide +kernel, rfl⟩
theorem dX9_trains_5 : Dc cX9_trains 5 (fun o => .ifCond .ne o) 33 8 := ⟨28, by decide +kernel, by decide, rfl⟩
theorem dX9_trains_8 : Dx cX9_trains 8 (.aload_n 0) 1 9 := ⟨by decide +kernel, rfl⟩
theorem dX9_trains_9 : Dx cX9_trains 9 (.aload_n 0) 1 10 := ⟨by decide +kernel, rfl⟩
theorem dX9_trains_10 : Dx cX9_trains 10 (.iload_n 1) 1 11 := ⟨by decide +kernel, rfl⟩
theorem dX9_trains_11 : Dx cX9_trains 11 (.iconst 0) 1 12 := ⟨by decide +kernel, rfl⟩
theorem dX9_trains_12 : Dx cX9_trains 12 (.invokevirtual 103) 3 15 := ⟨by decide +kernel, rfl⟩
theorem dX9_trains_15 : Dx cX9_trains 15 (.iconst 2) 1 16 := ⟨by decide +kernel, rfl⟩
theorem dX9_trains_16 : Dc cX9_trains 16 (fun o => .if_icmp .ne o) 23 19 := ⟨7, by decide +kernel, by decide, rfl⟩
theorem dX9_trains_19 : Dx cX9_trains 19 (.iconst 1) 1 20 := ⟨by decide +kernel, rfl⟩
theorem dX9_trains_20 : Dc cX9_trains 20 (fun o => .goto o) 24 23 := ⟨4, by decide +kernel, by decide, rfl⟩
theorem dX9_trains_23 : Dx cX9_trains 23 (.iconst 0) 1 24 := ⟨by decide +kernel, rfl⟩
theorem dX9_trains_24 : Dx cX9_trains 24 (.bipush 6) 2 26 := ⟨by decide +kernel, rfl⟩
theorem dX9_trains_26 : Dx cX9_trains 26 (.iconst 0) 1 27 := ⟨by decide +kernel, rfl⟩
theorem dX9_trains_27 : Dx cX9_trains 27 (.invokevirtual 64) 3 30 := ⟨by decide +kernel, rfl⟩
theorem dX9_trains_30 : Dc cX9_trains 30 (fun o => .ifCond .eq o) 35 33 := ⟨5, by decide +kernel, by decide, rfl⟩
theorem dX9_trains_33 : Dx cX9_trains 33 (.iconst 0) 1 34 := ⟨by decide +kernel, rfl⟩
theorem dX9_trains_34 : Dx cX9_trains 34 (.ireturn) 1 35 := ⟨by decide +kernel, rfl⟩
theorem dX9_trains_35 : Dx cX9_trains 35 (.aload_n 0) 1 36 := ⟨by decide +kernel, rfl⟩
theorem dX9_trains_36 : Dx cX9_trains 36 (.iload_n 1) 1 37 := ⟨by decide +kernel, rfl⟩
theorem dX9_trains_37 : Dx cX9_trains 37 (.iconst 0) 1 38 := ⟨by decide +kernel, rfl⟩
theorem dX9_trains_38 : Dx cX9_trains 38 (.aload_n 0) 1 39 := ⟨by decide +kernel, rfl⟩
theorem dX9_trains_39 : Dx cX9_trains 39 (.iload_n 1) 1 40 := ⟨by decide +kernel, rfl⟩
theorem dX9_trains_40 : Dx cX9_trains 40 (.iconst 0) 1 41 := ⟨by decide +kernel, rfl⟩
theorem dX9_trains_41 : Dx cX9_trains 41 (.invokevirtual 103) 3 44 := ⟨by decide +kernel, rfl⟩
theorem dX9_trains_44 : Dx cX9_trains 44 (.iconst 1) 1 45 := ⟨by decide +kernel, rfl⟩
theorem dX9_trains_45 : Dx cX9_trains 45 (.iadd) 1 46 := ⟨by decide +kernel, rfl⟩
theorem dX9_trains_46 : Dx cX9_trains 46 (.invokevirtual 90) 3 49 := ⟨by decide +kernel, rfl⟩
theorem dX9_trains_49 : Dx cX9_trains 49 (.aload_n 0) 1 50 := ⟨by decide +kernel, rfl⟩
theorem dX9_trains_50 : Dx cX9_trains 50 (.iload_n 1) 1 51 := ⟨by decide +kernel, rfl⟩
theorem dX9_trains_51 : Dx cX9_trains 51 (.iconst 0) 1 52 := ⟨by decide +kernel, rfl⟩
theorem dX9_trains_52 : Dx cX9_trains 52 (.invokevirtual 103) 3 55 := ⟨by decide +kernel, rfl⟩
theorem dX9_trains_55 : Dx cX9_trains 55 (.ireturn) 1 56 := ⟨by decide +kernel, rfl⟩
theorem dX9_train_0 : Dx cX9_train 0 (.aload_n 0) 1 1 := ⟨by decide +kernel, rfl⟩
theorem dX9_train_1 : Dx cX9_train 1 (.invokevirtual 94) 3 4 := ⟨by decide +kernel, rfl⟩
theorem dX9_train_4 : Dx cX9_train 4 (.aload_n 0) 1 5 := ⟨by decide +kernel, rfl⟩
theorem dX9_train_5 : Dx cX9_train 5 (.aload_n 0) 1 6 := ⟨by decide +kernel, rfl⟩
theorem dX9_train_6 : Dx cX9_train 6 (.iload_n 1) 1 7 := ⟨by decide +kernel, rfl⟩
theorem dX9_train_7 : Dx cX9_train 7 (.invokevirtual 119) 3 10 := ⟨by decide +kernel, rfl⟩
theorem dX9_train_10 : Dx cX9_train 10 (.iconst 1) 1 11 := ⟨by decide +kernel, rfl⟩
theorem dX9_train_11 : Dx cX9_train 11 (.invokevirtual 100) 3 14 := ⟨by decide +kernel, rfl⟩
theorem dX9_train_14 : Dx cX9_train 14 (.ireturn) 1 15 := ⟨by decide +kernel, rfl⟩
theorem dX9_isAble_0 : Dx cX9_isAble 0 (.aload_n 0) 1 1 := ⟨by decide +kernel, rfl⟩
theorem dX9_isAble_1 : Dx cX9_isAble 1 (.iload_n 1) 1 2 := ⟨by decide +kernel, rfl⟩
theorem dX9_isAble_2 : Dx cX9_isAble 2 (.iconst 1) 1 3 := ⟨by decide +kernel, rfl⟩
theorem dX9_isAble_3 : Dx cX9_isAble 3 (.invokevirtual 103) 3 6 := ⟨by decide +kernel, rfl⟩
theorem dX9_isAble_6 : Dc cX9_isAble 6 (fun o => .ifCond .ne o) 29 9 := ⟨23, by decide +kernel, by decide, rfl⟩
theorem dX9_isAble_9 : Dx cX9_isAble 9 (.aload_n 0) 1 10 := ⟨by decide +kernel, rfl⟩
theorem dX9_isAble_10 : Dx cX9_isAble 10 (.iload_n 1) 1 11 := ⟨by decide +kernel, rfl⟩
theorem dX9_isAble_11 : Dx cX9_isAble 11 (.iconst 2) 1 12 := ⟨by decide +kernel, rfl⟩
theorem dX9_isAble_12 : Dx cX9_isAble 12 (.invokevirtual 103) 3 15 := ⟨by decide +kernel, rfl⟩
theorem dX9_isAble_15 : Dx cX9_isAble 15 (.aload_n 0) 1 16 := ⟨by decide +kernel, rfl⟩
theorem dX9_isAble_16 : Dx cX9_isAble 16 (.getfield 9) 3 19 := ⟨by decide +kernel, rfl⟩
theorem dX9_isAble_19 : Dx cX9_isAble 19 (.bipush 7) 2 21 := ⟨by decide +kernel, rfl⟩
theorem dX9_isAble_21 : Dx cX9_isAble 21 (.iaload) 1 22 := ⟨by decide +kernel, rfl⟩
theorem dX9_isAble_22 : Dc cX9_isAble 22 (fun o => .if_icmp .ge o) 29 25 := ⟨7, by decide +kernel, by decide, rfl⟩
theorem dX9_isAble_25 : Dx cX9_isAble 25 (.iconst 1) 1 26 := ⟨by decide +kernel, rfl⟩
theorem dX9_isAble_26 : Dc cX9_isAble 26 (fun o => .goto o) 30 29 := ⟨4, by decide +kernel, by decide, rfl⟩
theorem dX9_isAble_29 : Dx cX9_isAble 29 (.iconst 0) 1 30 := ⟨by decide +kernel, rfl⟩
theorem dX9_isAble_30 : Dx cX9_isAble 30 (.ireturn) 1 31 := ⟨by decide +kernel, rfl⟩
theorem dX9_ableSet_0 : Dx cX9_ableSet 0 (.iconst 0) 1 1 := ⟨by decide +kernel, rfl⟩
theorem dX9_ableSet_1 : Dx cX9_ableSet 1 (.istore_n 1) 1 2 := ⟨by decide +kernel, rfl⟩
theorem dX9_ableSet_2 : Dx cX9_ableSet 2 (.iconst 0) 1 3 := ⟨by decide +kernel, rfl⟩
theorem dX9_ableSet_3 : Dx cX9_ableSet 3 (.istore_n 2) 1 4 := ⟨by decide +kernel, rfl⟩
theorem dX9_ableSet_4 : Dx cX9_ableSet 4 (.iload_n 2) 1 5 := ⟨by decide +kernel, rfl⟩
theorem dX9_ableSet_5 : Dx cX9_ableSet 5 (.aload_n 0) 1 6 := ⟨by decide +kernel, rfl⟩
theorem dX9_ableSet_6 : Dx cX9_ableSet 6 (.getfield 9) 3 9 := ⟨by decide +kernel, rfl⟩
theorem dX9_ableSet_9 : Dx cX9_ableSet 9 (.iconst 1) 1 10 := ⟨by decide +kernel, rfl⟩
theorem dX9_ableSet_10 : Dx cX9_ableSet 10 (.iaload) 1 11 := ⟨by decide +kernel, rfl⟩
theorem dX9_ableSet_11 : Dc cX9_ableSet 11 (fun o => .if_icmp .ge o) 38 14 := ⟨27, by decide +kernel, by decide, rfl⟩
theorem dX9_ableSet_14 : Dx cX9_ableSet 14 (.iload_n 1) 1 15 := ⟨by decide +kernel, rfl⟩
theorem dX9_ableSet_15 : Dx cX9_ableSet 15 (.aload_n 0) 1 16 := ⟨by decide +kernel, rfl⟩
theorem dX9_ableSet_16 : Dx cX9_ableSet 16 (.iload_n 2) 1 17 := ⟨by decide +kernel, rfl⟩
theorem dX9_ableSet_17 : Dx cX9_ableSet 17 (.invokevirtual 122) 3 20 := ⟨by decide +kernel, rfl⟩
theorem dX9_ableSet_20 : Dc cX9_ableSet 20 (fun o => .ifCond .eq o) 29 23 := ⟨9, by decide +kernel, by decide, rfl⟩
theorem dX9_ableSet_23 : Dx cX9_ableSet 23 (.iconst 1) 1 24 := ⟨by decide +kernel, rfl⟩
theorem dX9_ableSet_24 : Dx cX9_ableSet 24 (.iload_n 2) 1 25 := ⟨by decide +kernel, rfl⟩
theorem dX9_ableSet_25 : Dx cX9_ableSet 25 (.ishl) 1 26 := ⟨by decide +kernel, rfl⟩
theorem dX9_ableSet_26 : Dc cX9_ableSet 26 (fun o => .goto o) 30 29 := ⟨4, by decide +kernel, by decide, rfl⟩
theorem dX9_ableSet_29 : Dx cX9_ableSet 29 (.iconst 0) 1 30 := ⟨by decide +kernel, rfl⟩
theorem dX9_ableSet_30 : Dx cX9_ableSet 30 (.ior) 1 31 := ⟨by decide +kernel, rfl⟩
theorem dX9_ableSet_31 : Dx cX9_ableSet 31 (.istore_n 1) 1 32 := ⟨by decide +kernel, rfl⟩
theorem dX9_ableSet_32 : Dx cX9_ableSet 32 (.iinc 2 1) 3 35 := ⟨by decide +kernel, rfl⟩
theorem dX9_ableSet_35 : Dc cX9_ableSet 35 (fun o => .goto o) 4 38 := ⟨(-31), by decide +kernel, by decide, rfl⟩
theorem dX9_ableSet_38 : Dx cX9_ableSet 38 (.iload_n 1) 1 39 := ⟨by decide +kernel, rfl⟩
theorem dX9_ableSet_39 : Dx cX9_ableSet 39 (.ireturn) 1 40 := ⟨by decide +kernel, rfl⟩
theorem dX9_bits_0 : Dx cX9_bits 0 (.iconst 0) 1 1 := ⟨by decide +kernel, rfl⟩
theorem dX9_bits_1 : Dx cX9_bits 1 (.istore_n 1) 1 2 := ⟨by decide +kernel, rfl⟩
theorem dX9_bits_2 : Dx cX9_bits 2 (.iconst 0) 1 3 := ⟨by decide +kernel, rfl⟩
theorem dX9_bits_3 : Dx cX9_bits 3 (.istore_n 2) 1 4 := ⟨by decide +kernel, rfl⟩
theorem dX9_bits_4 : Dx cX9_bits 4 (.iload_n 2) 1 5 := ⟨by decide +kernel, rfl⟩
theorem dX9_bits_5 : Dx cX9_bits 5 (.bipush 10) 2 7 := ⟨by decide +kernel, rfl⟩
theorem dX9_bits_7 : Dc cX9_bits 7 (fun o => .if_icmp .ge o) 24 10 := ⟨17, by decide +kernel, by decide, rfl⟩
theorem dX9_bits_10 : Dx cX9_bits 10 (.iload_n 1) 1 11 := ⟨by decide +kernel, rfl⟩
theorem dX9_bits_11 : Dx cX9_bits 11 (.iload_n 0) 1 12 := ⟨by decide +kernel, rfl⟩
theorem dX9_bits_12 : Dx cX9_bits 12 (.iload_n 2) 1 13 := ⟨by decide +kernel, rfl⟩
theorem dX9_bits_13 : Dx cX9_bits 13 (.ishr) 1 14 := ⟨by decide +kernel, rfl⟩
theorem dX9_bits_14 : Dx cX9_bits 14 (.iconst 1) 1 15 := ⟨by decide +kernel, rfl⟩
theorem dX9_bits_15 : Dx cX9_bits 15 (.iand) 1 16 := ⟨by decide +kernel, rfl⟩
theorem dX9_bits_16 : Dx cX9_bits 16 (.iadd) 1 17 := ⟨by decide +kernel, rfl⟩
theorem dX9_bits_17 : Dx cX9_bits 17 (.istore_n 1) 1 18 := ⟨by decide +kernel, rfl⟩
theorem dX9_bits_18 : Dx cX9_bits 18 (.iinc 2 1) 3 21 := ⟨by decide +kernel, rfl⟩
theorem dX9_bits_21 : Dc cX9_bits 21 (fun o => .goto o) 4 24 := ⟨(-17), by decide +kernel, by decide, rfl⟩
theorem dX9_bits_24 : Dx cX9_bits 24 (.iload_n 1) 1 25 := ⟨by decide +kernel, rfl⟩
theorem dX9_bits_25 : Dx cX9_bits 25 (.ireturn) 1 26 := ⟨by decide +kernel, rfl⟩
theorem dX9_builds_0 : Dx cX9_builds 0 (.aload_n 0) 1 1 := ⟨by decide +kernel, rfl⟩
theorem dX9_builds_1 : Dx cX9_builds 1 (.iload_n 1) 1 2 := ⟨by decide +kernel, rfl⟩
theorem dX9_builds_2 : Dx cX9_builds 2 (.iconst 0) 1 3 := ⟨by decide +kernel, rfl⟩
theorem dX9_builds_3 : Dx cX9_builds 3 (.bipush 6) 2 5 := ⟨by decide +kernel, rfl⟩
theorem dX9_builds_5 : Dx cX9_builds 5 (.invokestatic 60) 3 8 := ⟨by decide +kernel, rfl⟩
theorem dX9_builds_8 : Dc cX9_builds 8 (fun o => .ifCond .eq o) 25 11 := ⟨17, by decide +kernel, by decide, rfl⟩
theorem dX9_builds_11 : Dx cX9_builds 11 (.iload_n 2) 1 12 := ⟨by decide +kernel, rfl⟩
theorem dX9_builds_12 : Dx cX9_builds 12 (.iconst 2) 1 13 := ⟨by decide +kernel, rfl⟩
theorem dX9_builds_13 : Dx cX9_builds 13 (.bipush 6) 2 15 := ⟨by decide +kernel, rfl⟩
theorem dX9_builds_15 : Dx cX9_builds 15 (.invokestatic 60) 3 18 := ⟨by decide +kernel, rfl⟩
theorem dX9_builds_18 : Dc cX9_builds 18 (fun o => .ifCond .eq o) 25 21 := ⟨7, by decide +kernel, by decide, rfl⟩
theorem dX9_builds_21 : Dx cX9_builds 21 (.iconst 1) 1 22 := ⟨by decide +kernel, rfl⟩
theorem dX9_builds_22 : Dc cX9_builds 22 (fun o => .goto o) 26 25 := ⟨4, by decide +kernel, by decide, rfl⟩
theorem dX9_builds_25 : Dx cX9_builds 25 (.iconst 0) 1 26 := ⟨by decide +kernel, rfl⟩
theorem dX9_builds_26 : Dx cX9_builds 26 (.invokevirtual 86) 3 29 := ⟨by decide +kernel, rfl⟩
theorem dX9_builds_29 : Dc cX9_builds 29 (fun o => .ifCond .ne o) 56 32 := ⟨27, by decide +kernel, by decide, rfl⟩
theorem dX9_builds_32 : Dx cX9_builds 32 (.aload_n 0) 1 33 := ⟨by decide +kernel, rfl⟩
theorem dX9_builds_33 : Dx cX9_builds 33 (.aload_n 0) 1 34 := ⟨by decide +kernel, rfl⟩
theorem dX9_builds_34 : Dx cX9_builds 34 (.getfield 9) 3 37 := ⟨by decide +kernel, rfl⟩
theorem dX9_builds_37 : Dx cX9_builds 37 (.iconst 2) 1 38 := ⟨by decide +kernel, rfl⟩
theorem dX9_builds_38 : Dx cX9_builds 38 (.iaload) 1 39 := ⟨by decide +kernel, rfl⟩
theorem dX9_builds_39 : Dx cX9_builds 39 (.iconst 3) 1 40 := ⟨by decide +kernel, rfl⟩
theorem dX9_builds_40 : Dc cX9_builds 40 (fun o => .if_icmp .ne o) 47 43 := ⟨7, by decide +kernel, by decide, rfl⟩
theorem dX9_builds_43 : Dx cX9_builds 43 (.iconst 1) 1 44 := ⟨by decide +kernel, rfl⟩
theorem dX9_builds_44 : Dc cX9_builds 44 (fun o => .goto o) 48 47 := ⟨4, by decide +kernel, by decide, rfl⟩
theorem dX9_builds_47 : Dx cX9_builds 47 (.iconst 0) 1 48 := ⟨by decide +kernel, rfl⟩
theorem dX9_builds_48 : Dx cX9_builds 48 (.iconst 2) 1 49 := ⟨by decide +kernel, rfl⟩
theorem dX9_builds_49 : Dx cX9_builds 49 (.iconst 3) 1 50 := ⟨by decide +kernel, rfl⟩
theorem dX9_builds_50 : Dx cX9_builds 50 (.invokevirtual 64) 3 53 := ⟨by decide +kernel, rfl⟩
theorem dX9_builds_53 : Dc cX9_builds 53 (fun o => .ifCond .eq o) 58 56 := ⟨5, by decide +kernel, by decide, rfl⟩
theorem dX9_builds_56 : Dx cX9_builds 56 (.iconst 0) 1 57 := ⟨by decide +kernel, rfl⟩
theorem dX9_builds_57 : Dx cX9_builds 57 (.ireturn) 1 58 := ⟨by decide +kernel, rfl⟩
theorem dX9_builds_58 : Dx cX9_builds 58 (.aload_n 0) 1 59 := ⟨by decide +kernel, rfl⟩
theorem dX9_builds_59 : Dx cX9_builds 59 (.getfield 9) 3 62 := ⟨by decide +kernel, rfl⟩
theorem dX9_builds_62 : Dx cX9_builds 62 (.iconst 2) 1 63 := ⟨by decide +kernel, rfl⟩
theorem dX9_builds_63 : Dx cX9_builds 63 (.iaload) 1 64 := ⟨by decide +kernel, rfl⟩
theorem dX9_builds_64 : Dx cX9_builds 64 (.istore_n 3) 1 65 := ⟨by decide +kernel, rfl⟩
theorem dX9_builds_65 : Dx cX9_builds 65 (.iconst 0) 1 66 := ⟨by decide +kernel, rfl⟩
theorem dX9_builds_66 : Dx cX9_builds 66 (.istore 4) 2 68 := ⟨by decide +kernel, rfl⟩
theorem dX9_builds_68 : Dx cX9_builds 68 (.iload 4) 2 70 := ⟨by decide +kernel, rfl⟩
theorem dX9_builds_70 : Dx cX9_builds 70 (.bipush 7) 2 72 := ⟨by decide +kernel, rfl⟩
theorem dX9_builds_72 : Dc cX9_builds 72 (fun o => .if_icmp .ge o) 89 75 := ⟨17, by decide +kernel, by decide, rfl⟩
theorem dX9_builds_75 : Dx cX9_builds 75 (.aload_n 0) 1 76 := ⟨by decide +kernel, rfl⟩
theorem dX9_builds_76 : Dx cX9_builds 76 (.iload_n 3) 1 77 := ⟨by decide +kernel, rfl⟩
theorem dX9_builds_77 : Dx cX9_builds 77 (.iload 4) 2 79 := ⟨by decide +kernel, rfl⟩
theorem dX9_builds_79 : Dx cX9_builds 79 (.iconst 0) 1 80 := ⟨by decide +kernel, rfl⟩
theorem dX9_builds_80 : Dx cX9_builds 80 (.invokevirtual 125) 3 83 := ⟨by decide +kernel, rfl⟩
theorem dX9_builds_83 : Dx cX9_builds 83 (.iinc 4 1) 3 86 := ⟨by decide +kernel, rfl⟩
theorem dX9_builds_86 : Dc cX9_builds 86 (fun o => .goto o) 68 89 := ⟨(-18), by decide +kernel, by decide, rfl⟩
theorem dX9_builds_89 : Dx cX9_builds 89 (.aload_n 0) 1 90 := ⟨by decide +kernel, rfl⟩
theorem dX9_builds_90 : Dx cX9_builds 90 (.iload_n 3) 1 91 := ⟨by decide +kernel, rfl⟩
theorem dX9_builds_91 : Dx cX9_builds 91 (.iconst 0) 1 92 := ⟨by decide +kernel, rfl⟩
theorem dX9_builds_92 : Dx cX9_builds 92 (.iload_n 1) 1 93 := ⟨by decide +kernel, rfl⟩
theorem dX9_builds_93 : Dx cX9_builds 93 (.invokevirtual 125) 3 96 := ⟨by decide +kernel, rfl⟩
theorem dX9_builds_96 : Dx cX9_builds 96 (.aload_n 0) 1 97 := ⟨by decide +kernel, rfl⟩
theorem dX9_builds_97 : Dx cX9_builds 97 (.iload_n 3) 1 98 := ⟨by decide +kernel, rfl⟩
theorem dX9_builds_98 : Dx cX9_builds 98 (.iconst 1) 1 99 := ⟨by decide +kernel, rfl⟩
theorem dX9_builds_99 : Dx cX9_builds 99 (.iload_n 2) 1 100 := ⟨by decide +kernel, rfl⟩
theorem dX9_builds_100 : Dx cX9_builds 100 (.invokevirtual 125) 3 103 := ⟨by decide +kernel, rfl⟩
theorem dX9_builds_103 : Dx cX9_builds 103 (.aload_n 0) 1 104 := ⟨by decide +kernel, rfl⟩
theorem dX9_builds_104 : Dx cX9_builds 104 (.iload_n 3) 1 105 := ⟨by decide +kernel, rfl⟩
theorem dX9_builds_105 : Dx cX9_builds 105 (.iconst 5) 1 106 := ⟨by decide +kernel, rfl⟩
theorem dX9_builds_106 : Dx cX9_builds 106 (.iconst (-1)) 1 107 := ⟨by decide +kernel, rfl⟩
theorem dX9_builds_107 : Dx cX9_builds 107 (.invokevirtual 125) 3 110 := ⟨by decide +kernel, rfl⟩
theorem dX9_builds_110 : Dx cX9_builds 110 (.aload_n 0) 1 111 := ⟨by decide +kernel, rfl⟩
theorem dX9_builds_111 : Dx cX9_builds 111 (.getfield 9) 3 114 := ⟨by decide +kernel, rfl⟩
theorem dX9_builds_114 : Dx cX9_builds 114 (.iconst 2) 1 115 := ⟨by decide +kernel, rfl⟩
theorem dX9_builds_115 : Dx cX9_builds 115 (.dup2) 1 116 := ⟨by decide +kernel, rfl⟩
theorem dX9_builds_116 : Dx cX9_builds 116 (.iaload) 1 117 := ⟨by decide +kernel, rfl⟩
theorem dX9_builds_117 : Dx cX9_builds 117 (.iconst 1) 1 118 := ⟨by decide +kernel, rfl⟩
theorem dX9_builds_118 : Dx cX9_builds 118 (.iadd) 1 119 := ⟨by decide +kernel, rfl⟩
theorem dX9_builds_119 : Dx cX9_builds 119 (.iastore) 1 120 := ⟨by decide +kernel, rfl⟩
theorem dX9_builds_120 : Dx cX9_builds 120 (.iload_n 3) 1 121 := ⟨by decide +kernel, rfl⟩
theorem dX9_builds_121 : Dx cX9_builds 121 (.ireturn) 1 122 := ⟨by decide +kernel, rfl⟩
theorem dX9_boat_0 : Dx cX9_boat 0 (.aload_n 0) 1 1 := ⟨by decide +kernel, rfl⟩
theorem dX9_boat_1 : Dx cX9_boat 1 (.invokevirtual 94) 3 4 := ⟨by decide +kernel, rfl⟩
theorem dX9_boat_4 : Dx cX9_boat 4 (.aload_n 0) 1 5 := ⟨by decide +kernel, rfl⟩
theorem dX9_boat_5 : Dx cX9_boat 5 (.aload_n 0) 1 6 := ⟨by decide +kernel, rfl⟩
theorem dX9_boat_6 : Dx cX9_boat 6 (.iload_n 1) 1 7 := ⟨by decide +kernel, rfl⟩
theorem dX9_boat_7 : Dx cX9_boat 7 (.iload_n 2) 1 8 := ⟨by decide +kernel, rfl⟩
theorem dX9_boat_8 : Dx cX9_boat 8 (.invokevirtual 128) 3 11 := ⟨by decide +kernel, rfl⟩
theorem dX9_boat_11 : Dx cX9_boat 11 (.iconst 1) 1 12 := ⟨by decide +kernel, rfl⟩
theorem dX9_boat_12 : Dx cX9_boat 12 (.invokevirtual 100) 3 15 := ⟨by decide +kernel, rfl⟩
theorem dX9_boat_15 : Dx cX9_boat 15 (.ireturn) 1 16 := ⟨by decide +kernel, rfl⟩
theorem dX9_leastOf_0 : Dx cX9_leastOf 0 (.iconst (-1)) 1 1 := ⟨by decide +kernel, rfl⟩
theorem dX9_leastOf_1 : Dx cX9_leastOf 1 (.istore_n 3) 1 2 := ⟨by decide +kernel, rfl⟩
theorem dX9_leastOf_2 : Dx cX9_leastOf 2 (.iconst 0) 1 3 := ⟨by decide +kernel, rfl⟩
theorem dX9_leastOf_3 : Dx cX9_leastOf 3 (.istore 4) 2 5 := ⟨by decide +kernel, rfl⟩
theorem dX9_leastOf_5 : Dx cX9_leastOf 5 (.iload 4) 2 7 := ⟨by decide +kernel, rfl⟩
theorem dX9_leastOf_7 : Dx cX9_leastOf 7 (.aload_n 0) 1 8 := ⟨by decide +kernel, rfl⟩
theorem dX9_leastOf_8 : Dx cX9_leastOf 8 (.getfield 9) 3 11 := ⟨by decide +kernel, rfl⟩
theorem dX9_leastOf_11 : Dx cX9_leastOf 11 (.iconst 1) 1 12 := ⟨by decide +kernel, rfl⟩
theorem dX9_leastOf_12 : Dx cX9_leastOf 12 (.iaload) 1 13 := ⟨by decide +kernel, rfl⟩
theorem dX9_leastOf_13 : Dc cX9_leastOf 13 (fun o => .if_icmp .ge o) 82 16 := ⟨69, by decide +kernel, by decide, rfl⟩
theorem dX9_leastOf_16 : Dx cX9_leastOf 16 (.iload_n 1) 1 17 := ⟨by decide +kernel, rfl⟩
theorem dX9_leastOf_17 : Dx cX9_leastOf 17 (.iload 4) 2 19 := ⟨by decide +kernel, rfl⟩
theorem dX9_leastOf_19 : Dx cX9_leastOf 19 (.ishr) 1 20 := ⟨by decide +kernel, rfl⟩
theorem dX9_leastOf_20 : Dx cX9_leastOf 20 (.iconst 1) 1 21 := ⟨by decide +kernel, rfl⟩
theorem dX9_leastOf_21 : Dx cX9_leastOf 21 (.iand) 1 22 := ⟨by decide +kernel, rfl⟩
theorem dX9_leastOf_22 : Dx cX9_leastOf 22 (.iconst 1) 1 23 := ⟨by decide +kernel, rfl⟩
theorem dX9_leastOf_23 : Dc cX9_leastOf 23 (fun o => .if_icmp .ne o) 41 26 := ⟨18, by decide +kernel, by decide, rfl⟩
theorem dX9_leastOf_26 : Dx cX9_leastOf 26 (.aload_n 0) 1 27 := ⟨by decide +kernel, rfl⟩
theorem dX9_leastOf_27 : Dx cX9_leastOf 27 (.iload 4) 2 29 := ⟨by decide +kernel, rfl⟩
theorem dX9_leastOf_29 : Dx cX9_leastOf 29 (.iconst 0) 1 30 := ⟨by decide +kernel, rfl⟩
theorem dX9_leastOf_30 : Dx cX9_leastOf 30 (.invokevirtual 103) 3 33 := ⟨by decide +kernel, rfl⟩
theorem dX9_leastOf_33 : Dx cX9_leastOf 33 (.iload_n 2) 1 34 := ⟨by decide +kernel, rfl⟩
theorem dX9_leastOf_34 : Dc cX9_leastOf 34 (fun o => .if_icmp .lt o) 41 37 := ⟨7, by decide +kernel, by decide, rfl⟩
theorem dX9_leastOf_37 : Dx cX9_leastOf 37 (.iconst 1) 1 38 := ⟨by decide +kernel, rfl⟩
theorem dX9_leastOf_38 : Dc cX9_leastOf 38 (fun o => .goto o) 42 41 := ⟨4, by decide +kernel, by decide, rfl⟩
theorem dX9_leastOf_41 : Dx cX9_leastOf 41 (.iconst 0) 1 42 := ⟨by decide +kernel, rfl⟩
theorem dX9_leastOf_42 : Dx cX9_leastOf 42 (.istore 5) 2 44 := ⟨by decide +kernel, rfl⟩
theorem dX9_leastOf_44 : Dx cX9_leastOf 44 (.iload 5) 2 46 := ⟨by decide +kernel, rfl⟩
theorem dX9_leastOf_46 : Dc cX9_leastOf 46 (fun o => .ifCond .eq o) 74 49 := ⟨28, by decide +kernel, by decide, rfl⟩
theorem dX9_leastOf_49 : Dx cX9_leastOf 49 (.iload_n 3) 1 50 := ⟨by decide +kernel, rfl⟩
theorem dX9_leastOf_50 : Dc cX9_leastOf 50 (fun o => .ifCond .lt o) 69 53 := ⟨19, by decide +kernel, by decide, rfl⟩
theorem dX9_leastOf_53 : Dx cX9_leastOf 53 (.aload_n 0) 1 54 := ⟨by decide +kernel, rfl⟩
theorem dX9_leastOf_54 : Dx cX9_leastOf 54 (.iload 4) 2 56 := ⟨by decide +kernel, rfl⟩
theorem dX9_leastOf_56 : Dx cX9_leastOf 56 (.iconst 2) 1 57 := ⟨by decide +kernel, rfl⟩
theorem dX9_leastOf_57 : Dx cX9_leastOf 57 (.invokevirtual 103) 3 60 := ⟨by decide +kernel, rfl⟩
theorem dX9_leastOf_60 : Dx cX9_leastOf 60 (.aload_n 0) 1 61 := ⟨by decide +kernel, rfl⟩
theorem dX9_leastOf_61 : Dx cX9_leastOf 61 (.iload_n 3) 1 62 := ⟨by decide +kernel, rfl⟩
theorem dX9_leastOf_62 : Dx cX9_leastOf 62 (.iconst 2) 1 63 := ⟨by decide +kernel, rfl⟩
theorem dX9_leastOf_63 : Dx cX9_leastOf 63 (.invokevirtual 103) 3 66 := ⟨by decide +kernel, rfl⟩
theorem dX9_leastOf_66 : Dc cX9_leastOf 66 (fun o => .if_icmp .ge o) 74 69 := ⟨8, by decide +kernel, by decide, rfl⟩
theorem dX9_leastOf_69 : Dx cX9_leastOf 69 (.iload 4) 2 71 := ⟨by decide +kernel, rfl⟩
theorem dX9_leastOf_71 : Dc cX9_leastOf 71 (fun o => .goto o) 75 74 := ⟨4, by decide +kernel, by decide, rfl⟩
theorem dX9_leastOf_74 : Dx cX9_leastOf 74 (.iload_n 3) 1 75 := ⟨by decide +kernel, rfl⟩
theorem dX9_leastOf_75 : Dx cX9_leastOf 75 (.istore_n 3) 1 76 := ⟨by decide +kernel, rfl⟩
theorem dX9_leastOf_76 : Dx cX9_leastOf 76 (.iinc 4 1) 3 79 := ⟨by decide +kernel, rfl⟩
theorem dX9_leastOf_79 : Dc cX9_leastOf 79 (fun o => .goto o) 5 82 := ⟨(-74), by decide +kernel, by decide, rfl⟩
theorem dX9_leastOf_82 : Dx cX9_leastOf 82 (.iload_n 3) 1 83 := ⟨by decide +kernel, rfl⟩
theorem dX9_leastOf_83 : Dx cX9_leastOf 83 (.ireturn) 1 84 := ⟨by decide +kernel, rfl⟩
theorem dX9_skilled_0 : Dx cX9_skilled 0 (.iconst 0) 1 1 := ⟨by decide +kernel, rfl⟩
theorem dX9_skilled_1 : Dx cX9_skilled 1 (.istore_n 2) 1 2 := ⟨by decide +kernel, rfl⟩
theorem dX9_skilled_2 : Dx cX9_skilled 2 (.iconst 0) 1 3 := ⟨by decide +kernel, rfl⟩
theorem dX9_skilled_3 : Dx cX9_skilled 3 (.istore_n 3) 1 4 := ⟨by decide +kernel, rfl⟩
theorem dX9_skilled_4 : Dx cX9_skilled 4 (.iload_n 3) 1 5 := ⟨by decide +kernel, rfl⟩
theorem dX9_skilled_5 : Dx cX9_skilled 5 (.aload_n 0) 1 6 := ⟨by decide +kernel, rfl⟩
theorem dX9_skilled_6 : Dx cX9_skilled 6 (.getfield 9) 3 9 := ⟨by decide +kernel, rfl⟩
theorem dX9_skilled_9 : Dx cX9_skilled 9 (.iconst 1) 1 10 := ⟨by decide +kernel, rfl⟩
theorem dX9_skilled_10 : Dx cX9_skilled 10 (.iaload) 1 11 := ⟨by decide +kernel, rfl⟩
theorem dX9_skilled_11 : Dc cX9_skilled 11 (fun o => .if_icmp .ge o) 46 14 := ⟨35, by decide +kernel, by decide, rfl⟩
theorem dX9_skilled_14 : Dx cX9_skilled 14 (.iload_n 2) 1 15 := ⟨by decide +kernel, rfl⟩
theorem dX9_skilled_15 : Dx cX9_skilled 15 (.iload_n 1) 1 16 := ⟨by decide +kernel, rfl⟩
theorem dX9_skilled_16 : Dx cX9_skilled 16 (.iload_n 3) 1 17 := ⟨by decide +kernel, rfl⟩
theorem dX9_skilled_17 : Dx cX9_skilled 17 (.ishr) 1 18 := ⟨by decide +kernel, rfl⟩
theorem dX9_skilled_18 : Dx cX9_skilled 18 (.iconst 1) 1 19 := ⟨by decide +kernel, rfl⟩
theorem dX9_skilled_19 : Dx cX9_skilled 19 (.iand) 1 20 := ⟨by decide +kernel, rfl⟩
theorem dX9_skilled_20 : Dx cX9_skilled 20 (.iconst 1) 1 21 := ⟨by decide +kernel, rfl⟩
theorem dX9_skilled_21 : Dc cX9_skilled 21 (fun o => .if_icmp .ne o) 37 24 := ⟨16, by decide +kernel, by decide, rfl⟩
theorem dX9_skilled_24 : Dx cX9_skilled 24 (.aload_n 0) 1 25 := ⟨by decide +kernel, rfl⟩
theorem dX9_skilled_25 : Dx cX9_skilled 25 (.iload_n 3) 1 26 := ⟨by decide +kernel, rfl⟩
theorem dX9_skilled_26 : Dx cX9_skilled 26 (.iconst 0) 1 27 := ⟨by decide +kernel, rfl⟩
theorem dX9_skilled_27 : Dx cX9_skilled 27 (.invokevirtual 103) 3 30 := ⟨by decide +kernel, rfl⟩
theorem dX9_skilled_30 : Dc cX9_skilled 30 (fun o => .ifCond .le o) 37 33 := ⟨7, by decide +kernel, by decide, rfl⟩
theorem dX9_skilled_33 : Dx cX9_skilled 33 (.iconst 1) 1 34 := ⟨by decide +kernel, rfl⟩
theorem dX9_skilled_34 : Dc cX9_skilled 34 (fun o => .goto o) 38 37 := ⟨4, by decide +kernel, by decide, rfl⟩
theorem dX9_skilled_37 : Dx cX9_skilled 37 (.iconst 0) 1 38 := ⟨by decide +kernel, rfl⟩
theorem dX9_skilled_38 : Dx cX9_skilled 38 (.iadd) 1 39 := ⟨by decide +kernel, rfl⟩
theorem dX9_skilled_39 : Dx cX9_skilled 39 (.istore_n 2) 1 40 := ⟨by decide +kernel, rfl⟩
theorem dX9_skilled_40 : Dx cX9_skilled 40 (.iinc 3 1) 3 43 := ⟨by decide +kernel, rfl⟩
theorem dX9_skilled_43 : Dc cX9_skilled 43 (fun o => .goto o) 4 46 := ⟨(-39), by decide +kernel, by decide, rfl⟩
theorem dX9_skilled_46 : Dx cX9_skilled 46 (.iload_n 2) 1 47 := ⟨by decide +kernel, rfl⟩
theorem dX9_skilled_47 : Dx cX9_skilled 47 (.ireturn) 1 48 := ⟨by decide +kernel, rfl⟩
theorem dX9_must_0 : Dx cX9_must 0 (.aload_n 0) 1 1 := ⟨by decide +kernel, rfl⟩
theorem dX9_must_1 : Dx cX9_must 1 (.iload_n 1) 1 2 := ⟨by decide +kernel, rfl⟩
theorem dX9_must_2 : Dx cX9_must 2 (.iconst 1) 1 3 := ⟨by decide +kernel, rfl⟩
theorem dX9_must_3 : Dx cX9_must 3 (.invokevirtual 72) 3 6 := ⟨by decide +kernel, rfl⟩
theorem dX9_must_6 : Dx cX9_must 6 (.iconst 1) 1 7 := ⟨by decide +kernel, rfl⟩
theorem dX9_must_7 : Dx cX9_must 7 (.isub) 1 8 := ⟨by decide +kernel, rfl⟩
theorem dX9_must_8 : Dx cX9_must 8 (.iconst 2) 1 9 := ⟨by decide +kernel, rfl⟩
theorem dX9_must_9 : Dx cX9_must 9 (.idiv) 1 10 := ⟨by decide +kernel, rfl⟩
theorem dX9_must_10 : Dx cX9_must 10 (.ireturn) 1 11 := ⟨by decide +kernel, rfl⟩
theorem dX9_whyNoCrew_0 : Dx cX9_whyNoCrew 0 (.aload_n 0) 1 1 := ⟨by decide +kernel, rfl⟩
theorem dX9_whyNoCrew_1 : Dx cX9_whyNoCrew 1 (.invokevirtual 131) 3 4 := ⟨by decide +kernel, rfl⟩
theorem dX9_whyNoCrew_4 : Dx cX9_whyNoCrew 4 (.istore_n 2) 1 5 := ⟨by decide +kernel, rfl⟩
theorem dX9_whyNoCrew_5 : Dx cX9_whyNoCrew 5 (.aload_n 0) 1 6 := ⟨by decide +kernel, rfl⟩
theorem dX9_whyNoCrew_6 : Dx cX9_whyNoCrew 6 (.iload_n 2) 1 7 := ⟨by decide +kernel, rfl⟩
theorem dX9_whyNoCrew_7 : Dx cX9_whyNoCrew 7 (.iconst 2) 1 8 := ⟨by decide +kernel, rfl⟩
theorem dX9_whyNoCrew_8 : Dx cX9_whyNoCrew 8 (.invokevirtual 134) 3 11 := ⟨by decide +kernel, rfl⟩
theorem dX9_whyNoCrew_11 : Dx cX9_whyNoCrew 11 (.istore_n 3) 1 12 := ⟨by decide +kernel, rfl⟩
theorem dX9_whyNoCrew_12 : Dx cX9_whyNoCrew 12 (.iload_n 3) 1 13 := ⟨by decide +kernel, rfl⟩
theorem dX9_whyNoCrew_13 : Dc cX9_whyNoCrew 13 (fun o => .ifCond .ge o) 19 16 := ⟨6, by decide +kernel, by decide, rfl⟩
theorem dX9_whyNoCrew_16 : Dx cX9_whyNoCrew 16 (.bipush 8) 2 18 := ⟨by decide +kernel, rfl⟩
theorem dX9_whyNoCrew_18 : Dx cX9_whyNoCrew 18 (.ireturn) 1 19 := ⟨by decide +kernel, rfl⟩
theorem dX9_whyNoCrew_19 : Dx cX9_whyNoCrew 19 (.iload_n 2) 1 20 := ⟨by decide +kernel, rfl⟩
theorem dX9_whyNoCrew_20 : Dx cX9_whyNoCrew 20 (.invokestatic 137) 3 23 := ⟨by decide +kernel, rfl⟩
theorem dX9_whyNoCrew_23 : Dx cX9_whyNoCrew 23 (.aload_n 0) 1 24 := ⟨by decide +kernel, rfl⟩
theorem dX9_whyNoCrew_24 : Dx cX9_whyNoCrew 24 (.iload_n 1) 1 25 := ⟨by decide +kernel, rfl⟩
theorem dX9_whyNoCrew_25 : Dx cX9_whyNoCrew 25 (.iconst 1) 1 26 := ⟨by decide +kernel, rfl⟩
theorem dX9_whyNoCrew_26 : Dx cX9_whyNoCrew 26 (.invokevirtual 72) 3 29 := ⟨by decide +kernel, rfl⟩
theorem dX9_whyNoCrew_29 : Dc cX9_whyNoCrew 29 (fun o => .if_icmp .ge o) 35 32 := ⟨6, by decide +kernel, by decide, rfl⟩
theorem dX9_whyNoCrew_32 : Dx cX9_whyNoCrew 32 (.bipush 9) 2 34 := ⟨by decide +kernel, rfl⟩
theorem dX9_whyNoCrew_34 : Dx cX9_whyNoCrew 34 (.ireturn) 1 35 := ⟨by decide +kernel, rfl⟩
theorem dX9_whyNoCrew_35 : Dx cX9_whyNoCrew 35 (.aload_n 0) 1 36 := ⟨by decide +kernel, rfl⟩
theorem dX9_whyNoCrew_36 : Dx cX9_whyNoCrew 36 (.iload_n 2) 1 37 := ⟨by decide +kernel, rfl⟩
theorem dX9_whyNoCrew_37 : Dx cX9_whyNoCrew 37 (.iconst 1) 1 38 := ⟨by decide +kernel, rfl⟩
theorem dX9_whyNoCrew_38 : Dx cX9_whyNoCrew 38 (.iload_n 3) 1 39 := ⟨by decide +kernel, rfl⟩
theorem dX9_whyNoCrew_39 : Dx cX9_whyNoCrew 39 (.ishl) 1 40 := ⟨by decide +kernel, rfl⟩
theorem dX9_whyNoCrew_40 : Dx cX9_whyNoCrew 40 (.iconst (-1)) 1 41 := ⟨by decide +kernel, rfl⟩
theorem dX9_whyNoCrew_41 : Dx cX9_whyNoCrew 41 (.ixor) 1 42 := ⟨by decide +kernel, rfl⟩
theorem dX9_whyNoCrew_42 : Dx cX9_whyNoCrew 42 (.iand) 1 43 := ⟨by decide +kernel, rfl⟩
theorem dX9_whyNoCrew_43 : Dx cX9_whyNoCrew 43 (.invokevirtual 140) 3 46 := ⟨by decide +kernel, rfl⟩
theorem dX9_whyNoCrew_46 : Dx cX9_whyNoCrew 46 (.aload_n 0) 1 47 := ⟨by decide +kernel, rfl⟩
theorem dX9_whyNoCrew_47 : Dx cX9_whyNoCrew 47 (.iload_n 1) 1 48 := ⟨by decide +kernel, rfl⟩
theorem dX9_whyNoCrew_48 : Dx cX9_whyNoCrew 48 (.invokevirtual 143) 3 51 := ⟨by decide +kernel, rfl⟩
theorem dX9_whyNoCrew_51 : Dc cX9_whyNoCrew 51 (fun o => .if_icmp .ge o) 59 54 := ⟨8, by decide +kernel, by decide, rfl⟩
theorem dX9_whyNoCrew_54 : Dx cX9_whyNoCrew 54 (.bipush 10) 2 56 := ⟨by decide +kernel, rfl⟩
theorem dX9_whyNoCrew_56 : Dc cX9_whyNoCrew 56 (fun o => .goto o) 60 59 := ⟨4, by decide +kernel, by decide, rfl⟩
theorem dX9_whyNoCrew_59 : Dx cX9_whyNoCrew 59 (.iconst 0) 1 60 := ⟨by decide +kernel, rfl⟩
theorem dX9_whyNoCrew_60 : Dx cX9_whyNoCrew 60 (.ireturn) 1 61 := ⟨by decide +kernel, rfl⟩
theorem dX9_crewFor_0 : Dx cX9_crewFor 0 (.aload_n 0) 1 1 := ⟨by decide +kernel, rfl⟩
theorem dX9_crewFor_1 : Dx cX9_crewFor 1 (.invokevirtual 131) 3 4 := ⟨by decide +kernel, rfl⟩
theorem dX9_crewFor_4 : Dx cX9_crewFor 4 (.istore_n 2) 1 5 := ⟨by decide +kernel, rfl⟩
theorem dX9_crewFor_5 : Dx cX9_crewFor 5 (.aload_n 0) 1 6 := ⟨by decide +kernel, rfl⟩
theorem dX9_crewFor_6 : Dx cX9_crewFor 6 (.iload_n 2) 1 7 := ⟨by decide +kernel, rfl⟩
theorem dX9_crewFor_7 : Dx cX9_crewFor 7 (.iconst 2) 1 8 := ⟨by decide +kernel, rfl⟩
theorem dX9_crewFor_8 : Dx cX9_crewFor 8 (.invokevirtual 134) 3 11 := ⟨by decide +kernel, rfl⟩
theorem dX9_crewFor_11 : Dx cX9_crewFor 11 (.istore_n 3) 1 12 := ⟨by decide +kernel, rfl⟩
theorem dX9_crewFor_12 : Dx cX9_crewFor 12 (.iconst 1) 1 13 := ⟨by decide +kernel, rfl⟩
theorem dX9_crewFor_13 : Dx cX9_crewFor 13 (.iload_n 3) 1 14 := ⟨by decide +kernel, rfl⟩
theorem dX9_crewFor_14 : Dx cX9_crewFor 14 (.ishl) 1 15 := ⟨by decide +kernel, rfl⟩
theorem dX9_crewFor_15 : Dx cX9_crewFor 15 (.istore 4) 2 17 := ⟨by decide +kernel, rfl⟩
theorem dX9_crewFor_17 : Dx cX9_crewFor 17 (.iload_n 2) 1 18 := ⟨by decide +kernel, rfl⟩
theorem dX9_crewFor_18 : Dx cX9_crewFor 18 (.iload 4) 2 20 := ⟨by decide +kernel, rfl⟩
theorem dX9_crewFor_20 : Dx cX9_crewFor 20 (.iconst (-1)) 1 21 := ⟨by decide +kernel, rfl⟩
theorem dX9_crewFor_21 : Dx cX9_crewFor 21 (.ixor) 1 22 := ⟨by decide +kernel, rfl⟩
theorem dX9_crewFor_22 : Dx cX9_crewFor 22 (.iand) 1 23 := ⟨by decide +kernel, rfl⟩
theorem dX9_crewFor_23 : Dx cX9_crewFor 23 (.istore_n 2) 1 24 := ⟨by decide +kernel, rfl⟩
theorem dX9_crewFor_24 : Dx cX9_crewFor 24 (.iconst 0) 1 25 := ⟨by decide +kernel, rfl⟩
theorem dX9_crewFor_25 : Dx cX9_crewFor 25 (.istore 5) 2 27 := ⟨by decide +kernel, rfl⟩
theorem dX9_crewFor_27 : Dx cX9_crewFor 27 (.iload 5) 2 29 := ⟨by decide +kernel, rfl⟩
theorem dX9_crewFor_29 : Dx cX9_crewFor 29 (.aload_n 0) 1 30 := ⟨by decide +kernel, rfl⟩
theorem dX9_crewFor_30 : Dx cX9_crewFor 30 (.iload_n 1) 1 31 := ⟨by decide +kernel, rfl⟩
theorem dX9_crewFor_31 : Dx cX9_crewFor 31 (.iconst 1) 1 32 := ⟨by decide +kernel, rfl⟩
theorem dX9_crewFor_32 : Dx cX9_crewFor 32 (.invokevirtual 72) 3 35 := ⟨by decide +kernel, rfl⟩
theorem dX9_crewFor_35 : Dx cX9_crewFor 35 (.iconst 1) 1 36 := ⟨by decide +kernel, rfl⟩
theorem dX9_crewFor_36 : Dx cX9_crewFor 36 (.isub) 1 37 := ⟨by decide +kernel, rfl⟩
theorem dX9_crewFor_37 : Dc cX9_crewFor 37 (fun o => .if_icmp .ge o) 86 40 := ⟨49, by decide +kernel, by decide, rfl⟩
theorem dX9_crewFor_40 : Dx cX9_crewFor 40 (.aload_n 0) 1 41 := ⟨by decide +kernel, rfl⟩
theorem dX9_crewFor_41 : Dx cX9_crewFor 41 (.iload_n 2) 1 42 := ⟨by decide +kernel, rfl⟩
theorem dX9_crewFor_42 : Dx cX9_crewFor 42 (.iload 5) 2 44 := ⟨by decide +kernel, rfl⟩
theorem dX9_crewFor_44 : Dx cX9_crewFor 44 (.aload_n 0) 1 45 := ⟨by decide +kernel, rfl⟩
theorem dX9_crewFor_45 : Dx cX9_crewFor 45 (.iload_n 1) 1 46 := ⟨by decide +kernel, rfl⟩
theorem dX9_crewFor_46 : Dx cX9_crewFor 46 (.invokevirtual 143) 3 49 := ⟨by decide +kernel, rfl⟩
theorem dX9_crewFor_49 : Dc cX9_crewFor 49 (fun o => .if_icmp .ge o) 56 52 := ⟨7, by decide +kernel, by decide, rfl⟩
theorem dX9_crewFor_52 : Dx cX9_crewFor 52 (.iconst 1) 1 53 := ⟨by decide +kernel, rfl⟩
theorem dX9_crewFor_53 : Dc cX9_crewFor 53 (fun o => .goto o) 57 56 := ⟨4, by decide +kernel, by decide, rfl⟩
theorem dX9_crewFor_56 : Dx cX9_crewFor 56 (.iconst 0) 1 57 := ⟨by decide +kernel, rfl⟩
theorem dX9_crewFor_57 : Dx cX9_crewFor 57 (.invokevirtual 134) 3 60 := ⟨by decide +kernel, rfl⟩
theorem dX9_crewFor_60 : Dx cX9_crewFor 60 (.istore 6) 2 62 := ⟨by decide +kernel, rfl⟩
theorem dX9_crewFor_62 : Dx cX9_crewFor 62 (.iload 4) 2 64 := ⟨by decide +kernel, rfl⟩
theorem dX9_crewFor_64 : Dx cX9_crewFor 64 (.iconst 1) 1 65 := ⟨by decide +kernel, rfl⟩
theorem dX9_crewFor_65 : Dx cX9_crewFor 65 (.iload 6) 2 67 := ⟨by decide +kernel, rfl⟩
theorem dX9_crewFor_67 : Dx cX9_crewFor 67 (.ishl) 1 68 := ⟨by decide +kernel, rfl⟩
theorem dX9_crewFor_68 : Dx cX9_crewFor 68 (.ior) 1 69 := ⟨by decide +kernel, rfl⟩
theorem dX9_crewFor_69 : Dx cX9_crewFor 69 (.istore 4) 2 71 := ⟨by decide +kernel, rfl⟩
theorem dX9_crewFor_71 : Dx cX9_crewFor 71 (.iload_n 2) 1 72 := ⟨by decide +kernel, rfl⟩
theorem dX9_crewFor_72 : Dx cX9_crewFor 72 (.iconst 1) 1 73 := ⟨by decide +kernel, rfl⟩
theorem dX9_crewFor_73 : Dx cX9_crewFor 73 (.iload 6) 2 75 := ⟨by decide +kernel, rfl⟩
theorem dX9_crewFor_75 : Dx cX9_crewFor 75 (.ishl) 1 76 := ⟨by decide +kernel, rfl⟩
theorem dX9_crewFor_76 : Dx cX9_crewFor 76 (.iconst (-1)) 1 77 := ⟨by decide +kernel, rfl⟩
theorem dX9_crewFor_77 : Dx cX9_crewFor 77 (.ixor) 1 78 := ⟨by decide +kernel, rfl⟩
theorem dX9_crewFor_78 : Dx cX9_crewFor 78 (.iand) 1 79 := ⟨by decide +kernel, rfl⟩
theorem dX9_crewFor_79 : Dx cX9_crewFor 79 (.istore_n 2) 1 80 := ⟨by decide +kernel, rfl⟩
theorem dX9_crewFor_80 : Dx cX9_crewFor 80 (.iinc 5 1) 3 83 := ⟨by decide +kernel, rfl⟩
theorem dX9_crewFor_83 : Dc cX9_crewFor 83 (fun o => .goto o) 27 86 := ⟨(-56), by decide +kernel, by decide, rfl⟩
theorem dX9_crewFor_86 : Dx cX9_crewFor 86 (.iload 4) 2 88 := ⟨by decide +kernel, rfl⟩
theorem dX9_crewFor_88 : Dx cX9_crewFor 88 (.ireturn) 1 89 := ⟨by decide +kernel, rfl⟩
theorem dX9_whyNot_0 : Dx cX9_whyNot 0 (.aload_n 0) 1 1 := ⟨by decide +kernel, rfl⟩
theorem dX9_whyNot_1 : Dx cX9_whyNot 1 (.iload_n 1) 1 2 := ⟨by decide +kernel, rfl⟩
theorem dX9_whyNot_2 : Dx cX9_whyNot 2 (.iconst 2) 1 3 := ⟨by decide +kernel, rfl⟩
theorem dX9_whyNot_3 : Dx cX9_whyNot 3 (.invokevirtual 72) 3 6 := ⟨by decide +kernel, rfl⟩
theorem dX9_whyNot_6 : Dx cX9_whyNot 6 (.iconst 1) 1 7 := ⟨by decide +kernel, rfl⟩
theorem dX9_whyNot_7 : Dc cX9_whyNot 7 (fun o => .if_icmp .ne o) 12 10 := ⟨5, by decide +kernel, by decide, rfl⟩
theorem dX9_whyNot_10 : Dx cX9_whyNot 10 (.iconst 5) 1 11 := ⟨by decide +kernel, rfl⟩
theorem dX9_whyNot_11 : Dx cX9_whyNot 11 (.ireturn) 1 12 := ⟨by decide +kernel, rfl⟩
theorem dX9_whyNot_12 : Dx cX9_whyNot 12 (.aload_n 0) 1 13 := ⟨by decide +kernel, rfl⟩
theorem dX9_whyNot_13 : Dx cX9_whyNot 13 (.iload_n 1) 1 14 := ⟨by decide +kernel, rfl⟩
theorem dX9_whyNot_14 : Dx cX9_whyNot 14 (.invokevirtual 146) 3 17 := ⟨by decide +kernel, rfl⟩
theorem dX9_whyNot_17 : Dc cX9_whyNot 17 (fun o => .ifCond .eq o) 23 20 := ⟨6, by decide +kernel, by decide, rfl⟩
theorem dX9_whyNot_20 : Dx cX9_whyNot 20 (.bipush 7) 2 22 := ⟨by decide +kernel, rfl⟩
theorem dX9_whyNot_22 : Dx cX9_whyNot 22 (.ireturn) 1 23 := ⟨by decide +kernel, rfl⟩
theorem dX9_whyNot_23 : Dx cX9_whyNot 23 (.aload_n 0) 1 24 := ⟨by decide +kernel, rfl⟩
theorem dX9_whyNot_24 : Dx cX9_whyNot 24 (.iload_n 1) 1 25 := ⟨by decide +kernel, rfl⟩
theorem dX9_whyNot_25 : Dx cX9_whyNot 25 (.invokevirtual 149) 3 28 := ⟨by decide +kernel, rfl⟩
theorem dX9_whyNot_28 : Dx cX9_whyNot 28 (.istore_n 2) 1 29 := ⟨by decide +kernel, rfl⟩
theorem dX9_whyNot_29 : Dx cX9_whyNot 29 (.iload_n 2) 1 30 := ⟨by decide +kernel, rfl⟩
theorem dX9_whyNot_30 : Dc cX9_whyNot 30 (fun o => .ifCond .le o) 37 33 := ⟨7, by decide +kernel, by decide, rfl⟩
theorem dX9_whyNot_33 : Dx cX9_whyNot 33 (.iload_n 2) 1 34 := ⟨by decide +kernel, rfl⟩
theorem dX9_whyNot_34 : Dc cX9_whyNot 34 (fun o => .goto o) 58 37 := ⟨24, by decide +kernel, by decide, rfl⟩
theorem dX9_whyNot_37 : Dx cX9_whyNot 37 (.aload_n 0) 1 38 := ⟨by decide +kernel, rfl⟩
theorem dX9_whyNot_38 : Dx cX9_whyNot 38 (.invokevirtual 152) 3 41 := ⟨by decide +kernel, rfl⟩
theorem dX9_whyNot_41 : Dx cX9_whyNot 41 (.aload_n 0) 1 42 := ⟨by decide +kernel, rfl⟩
theorem dX9_whyNot_42 : Dx cX9_whyNot 42 (.iload_n 1) 1 43 := ⟨by decide +kernel, rfl⟩
theorem dX9_whyNot_43 : Dx cX9_whyNot 43 (.iconst 1) 1 44 := ⟨by decide +kernel, rfl⟩
theorem dX9_whyNot_44 : Dx cX9_whyNot 44 (.invokevirtual 72) 3 47 := ⟨by decide +kernel, rfl⟩
theorem dX9_whyNot_47 : Dx cX9_whyNot 47 (.iconst 1) 1 48 := ⟨by decide +kernel, rfl⟩
theorem dX9_whyNot_48 : Dx cX9_whyNot 48 (.isub) 1 49 := ⟨by decide +kernel, rfl⟩
theorem dX9_whyNot_49 : Dc cX9_whyNot 49 (fun o => .if_icmp .ge o) 57 52 := ⟨8, by decide +kernel, by decide, rfl⟩
theorem dX9_whyNot_52 : Dx cX9_whyNot 52 (.bipush 11) 2 54 := ⟨by decide +kernel, rfl⟩
theorem dX9_whyNot_54 : Dc cX9_whyNot 54 (fun o => .goto o) 58 57 := ⟨4, by decide +kernel, by decide, rfl⟩
theorem dX9_whyNot_57 : Dx cX9_whyNot 57 (.iconst 0) 1 58 := ⟨by decide +kernel, rfl⟩
theorem dX9_whyNot_58 : Dx cX9_whyNot 58 (.ireturn) 1 59 := ⟨by decide +kernel, rfl⟩
theorem dX9_lacking_0 : Dx cX9_lacking 0 (.aload_n 0) 1 1 := ⟨by decide +kernel, rfl⟩
theorem dX9_lacking_1 : Dx cX9_lacking 1 (.invokevirtual 131) 3 4 := ⟨by decide +kernel, rfl⟩
theorem dX9_lacking_4 : Dx cX9_lacking 4 (.istore_n 3) 1 5 := ⟨by decide +kernel, rfl⟩
theorem dX9_lacking_5 : Dx cX9_lacking 5 (.iload_n 2) 1 6 := ⟨by decide +kernel, rfl⟩
theorem dX9_lacking_6 : Dx cX9_lacking 6 (.tableswitch 111 5 11 #[42, 111, 44, 111, 62, 74, 97]) 42 48 := ⟨by decide +kernel, rfl⟩
theorem dX9_lacking_48 : Dx cX9_lacking 48 (.iload_n 1) 1 49 := ⟨by decide +kernel, rfl⟩
theorem dX9_lacking_49 : Dx cX9_lacking 49 (.ireturn) 1 50 := ⟨by decide +kernel, rfl⟩
theorem dX9_lacking_50 : Dx cX9_lacking 50 (.aload_n 0) 1 51 := ⟨by decide +kernel, rfl⟩
theorem dX9_lacking_51 : Dx cX9_lacking 51 (.iload_n 1) 1 52 := ⟨by decide +kernel, rfl⟩
theorem dX9_lacking_52 : Dx cX9_lacking 52 (.iconst 0) 1 53 := ⟨by decide +kernel, rfl⟩
theorem dX9_lacking_53 : Dx cX9_lacking 53 (.invokevirtual 72) 3 56 := ⟨by decide +kernel, rfl⟩
theorem dX9_lacking_56 : Dx cX9_lacking 56 (.aload_n 0) 1 57 := ⟨by decide +kernel, rfl⟩
theorem dX9_lacking_57 : Dx cX9_lacking 57 (.aload_n 0) 1 58 := ⟨by decide +kernel, rfl⟩
theorem dX9_lacking_58 : Dx cX9_lacking 58 (.getfield 9) 3 61 := ⟨by decide +kernel, rfl⟩
theorem dX9_lacking_61 : Dx cX9_lacking 61 (.iconst 0) 1 62 := ⟨by decide +kernel, rfl⟩
theorem dX9_lacking_62 : Dx cX9_lacking 62 (.iaload) 1 63 := ⟨by decide +kernel, rfl⟩
theorem dX9_lacking_63 : Dx cX9_lacking 63 (.invokevirtual 68) 3 66 := ⟨by decide +kernel, rfl⟩
theorem dX9_lacking_66 : Dx cX9_lacking 66 (.isub) 1 67 := ⟨by decide +kernel, rfl⟩
theorem dX9_lacking_67 : Dx cX9_lacking 67 (.ireturn) 1 68 := ⟨by decide +kernel, rfl⟩
theorem dX9_lacking_68 : Dx cX9_lacking 68 (.aload_n 0) 1 69 := ⟨by decide +kernel, rfl⟩
theorem dX9_lacking_69 : Dx cX9_lacking 69 (.iload_n 1) 1 70 := ⟨by decide +kernel, rfl⟩
theorem dX9_lacking_70 : Dx cX9_lacking 70 (.iconst 1) 1 71 := ⟨by decide +kernel, rfl⟩
theorem dX9_lacking_71 : Dx cX9_lacking 71 (.invokevirtual 72) 3 74 := ⟨by decide +kernel, rfl⟩
theorem dX9_lacking_74 : Dx cX9_lacking 74 (.iload_n 3) 1 75 := ⟨by decide +kernel, rfl⟩
theorem dX9_lacking_75 : Dx cX9_lacking 75 (.invokestatic 137) 3 78 := ⟨by decide +kernel, rfl⟩
theorem dX9_lacking_78 : Dx cX9_lacking 78 (.isub) 1 79 := ⟨by decide +kernel, rfl⟩
theorem dX9_lacking_79 : Dx cX9_lacking 79 (.ireturn) 1 80 := ⟨by decide +kernel, rfl⟩
theorem dX9_lacking_80 : Dx cX9_lacking 80 (.aload_n 0) 1 81 := ⟨by decide +kernel, rfl⟩
theorem dX9_lacking_81 : Dx cX9_lacking 81 (.iload_n 1) 1 82 := ⟨by decide +kernel, rfl⟩
theorem dX9_lacking_82 : Dx cX9_lacking 82 (.invokevirtual 143) 3 85 := ⟨by decide +kernel, rfl⟩
theorem dX9_lacking_85 : Dx cX9_lacking 85 (.aload_n 0) 1 86 := ⟨by decide +kernel, rfl⟩
theorem dX9_lacking_86 : Dx cX9_lacking 86 (.iload_n 3) 1 87 := ⟨by decide +kernel, rfl⟩
theorem dX9_lacking_87 : Dx cX9_lacking 87 (.iconst 1) 1 88 := ⟨by decide +kernel, rfl⟩
theorem dX9_lacking_88 : Dx cX9_lacking 88 (.aload_n 0) 1 89 := ⟨by decide +kernel, rfl⟩
theorem dX9_lacking_89 : Dx cX9_lacking 89 (.iload_n 3) 1 90 := ⟨by decide +kernel, rfl⟩
theorem dX9_lacking_90 : Dx cX9_lacking 90 (.iconst 2) 1 91 := ⟨by decide +kernel, rfl⟩
theorem dX9_lacking_91 : Dx cX9_lacking 91 (.invokevirtual 134) 3 94 := ⟨by decide +kernel, rfl⟩
theorem dX9_lacking_94 : Dx cX9_lacking 94 (.ishl) 1 95 := ⟨by decide +kernel, rfl⟩
theorem dX9_lacking_95 : Dx cX9_lacking 95 (.iconst (-1)) 1 96 := ⟨by decide +kernel, rfl⟩
theorem dX9_lacking_96 : Dx cX9_lacking 96 (.ixor) 1 97 := ⟨by decide +kernel, rfl⟩
theorem dX9_lacking_97 : Dx cX9_lacking 97 (.iand) 1 98 := ⟨by decide +kernel, rfl⟩
theorem dX9_lacking_98 : Dx cX9_lacking 98 (.invokevirtual 140) 3 101 := ⟨by decide +kernel, rfl⟩
theorem dX9_lacking_101 : Dx cX9_lacking 101 (.isub) 1 102 := ⟨by decide +kernel, rfl⟩
theorem dX9_lacking_102 : Dx cX9_lacking 102 (.ireturn) 1 103 := ⟨by decide +kernel, rfl⟩
theorem dX9_lacking_103 : Dx cX9_lacking 103 (.aload_n 0) 1 104 := ⟨by decide +kernel, rfl⟩
theorem dX9_lacking_104 : Dx cX9_lacking 104 (.iload_n 1) 1 105 := ⟨by decide +kernel, rfl⟩
theorem dX9_lacking_105 : Dx cX9_lacking 105 (.iconst 1) 1 106 := ⟨by decide +kernel, rfl⟩
theorem dX9_lacking_106 : Dx cX9_lacking 106 (.invokevirtual 72) 3 109 := ⟨by decide +kernel, rfl⟩
theorem dX9_lacking_109 : Dx cX9_lacking 109 (.iconst 1) 1 110 := ⟨by decide +kernel, rfl⟩
theorem dX9_lacking_110 : Dx cX9_lacking 110 (.isub) 1 111 := ⟨by decide +kernel, rfl⟩
theorem dX9_lacking_111 : Dx cX9_lacking 111 (.aload_n 0) 1 112 := ⟨by decide +kernel, rfl⟩
theorem dX9_lacking_112 : Dx cX9_lacking 112 (.invokevirtual 152) 3 115 := ⟨by decide +kernel, rfl⟩
theorem dX9_lacking_115 : Dx cX9_lacking 115 (.isub) 1 116 := ⟨by decide +kernel, rfl⟩
theorem dX9_lacking_116 : Dx cX9_lacking 116 (.ireturn) 1 117 := ⟨by decide +kernel, rfl⟩
theorem dX9_lacking_117 : Dx cX9_lacking 117 (.iconst 0) 1 118 := ⟨by decide +kernel, rfl⟩
theorem dX9_lacking_118 : Dx cX9_lacking 118 (.ireturn) 1 119 := ⟨by decide +kernel, rfl⟩
theorem dX9_calls_0 : Dx cX9_calls 0 (.aload_n 0) 1 1 := ⟨by decide +kernel, rfl⟩
theorem dX9_calls_1 : Dx cX9_calls 1 (.aload_n 0) 1 2 := ⟨by decide +kernel, rfl⟩
theorem dX9_calls_2 : Dx cX9_calls 2 (.iload_n 1) 1 3 := ⟨by decide +kernel, rfl⟩
theorem dX9_calls_3 : Dx cX9_calls 3 (.invokevirtual 155) 3 6 := ⟨by decide +kernel, rfl⟩
theorem dX9_calls_6 : Dc cX9_calls 6 (fun o => .ifCond .ne o) 13 9 := ⟨7, by decide +kernel, by decide, rfl⟩
theorem dX9_calls_9 : Dx cX9_calls 9 (.iconst 1) 1 10 := ⟨by decide +kernel, rfl⟩
theorem dX9_calls_10 : Dc cX9_calls 10 (fun o => .goto o) 14 13 := ⟨4, by decide +kernel, by decide, rfl⟩
theorem dX9_calls_13 : Dx cX9_calls 13 (.iconst 0) 1 14 := ⟨by decide +kernel, rfl⟩
theorem dX9_calls_14 : Dx cX9_calls 14 (.iconst 3) 1 15 := ⟨by decide +kernel, rfl⟩
theorem dX9_calls_15 : Dx cX9_calls 15 (.iload_n 1) 1 16 := ⟨by decide +kernel, rfl⟩
theorem dX9_calls_16 : Dx cX9_calls 16 (.invokevirtual 64) 3 19 := ⟨by decide +kernel, rfl⟩
theorem dX9_calls_19 : Dc cX9_calls 19 (fun o => .ifCond .ne o) 36 22 := ⟨17, by decide +kernel, by decide, rfl⟩
theorem dX9_calls_22 : Dx cX9_calls 22 (.aload_n 0) 1 23 := ⟨by decide +kernel, rfl⟩
theorem dX9_calls_23 : Dx cX9_calls 23 (.iload_n 2) 1 24 := ⟨by decide +kernel, rfl⟩
theorem dX9_calls_24 : Dx cX9_calls 24 (.iconst 1) 1 25 := ⟨by decide +kernel, rfl⟩
theorem dX9_calls_25 : Dx cX9_calls 25 (.bipush 9) 2 27 := ⟨by decide +kernel, rfl⟩
theorem dX9_calls_27 : Dx cX9_calls 27 (.invokestatic 60) 3 30 := ⟨by decide +kernel, rfl⟩
theorem dX9_calls_30 : Dx cX9_calls 30 (.invokevirtual 86) 3 33 := ⟨by decide +kernel, rfl⟩
theorem dX9_calls_33 : Dc cX9_calls 33 (fun o => .ifCond .eq o) 38 36 := ⟨5, by decide +kernel, by decide, rfl⟩
theorem dX9_calls_36 : Dx cX9_calls 36 (.iconst 0) 1 37 := ⟨by decide +kernel, rfl⟩
theorem dX9_calls_37 : Dx cX9_calls 37 (.ireturn) 1 38 := ⟨by decide +kernel, rfl⟩
theorem dX9_calls_38 : Dx cX9_calls 38 (.aload_n 0) 1 39 := ⟨by decide +kernel, rfl⟩
theorem dX9_calls_39 : Dx cX9_calls 39 (.iload_n 1) 1 40 := ⟨by decide +kernel, rfl⟩
theorem dX9_calls_40 : Dx cX9_calls 40 (.invokevirtual 158) 3 43 := ⟨by decide +kernel, rfl⟩
theorem dX9_calls_43 : Dx cX9_calls 43 (.istore_n 3) 1 44 := ⟨by decide +kernel, rfl⟩
theorem dX9_calls_44 : Dx cX9_calls 44 (.aload_n 0) 1 45 := ⟨by decide +kernel, rfl⟩
theorem dX9_calls_45 : Dx cX9_calls 45 (.iload_n 3) 1 46 := ⟨by decide +kernel, rfl⟩
theorem dX9_calls_46 : Dc cX9_calls 46 (fun o => .ifCond .le o) 53 49 := ⟨7, by decide +kernel, by decide, rfl⟩
theorem dX9_calls_49 : Dx cX9_calls 49 (.iconst 1) 1 50 := ⟨by decide +kernel, rfl⟩
theorem dX9_calls_50 : Dc cX9_calls 50 (fun o => .goto o) 54 53 := ⟨4, by decide +kernel, by decide, rfl⟩
theorem dX9_calls_53 : Dx cX9_calls 53 (.iconst 0) 1 54 := ⟨by decide +kernel, rfl⟩
theorem dX9_calls_54 : Dx cX9_calls 54 (.iload_n 3) 1 55 := ⟨by decide +kernel, rfl⟩
theorem dX9_calls_55 : Dx cX9_calls 55 (.iload_n 3) 1 56 := ⟨by decide +kernel, rfl⟩
theorem dX9_calls_56 : Dc cX9_calls 56 (fun o => .ifCond .le o) 68 59 := ⟨12, by decide +kernel, by decide, rfl⟩
theorem dX9_calls_59 : Dx cX9_calls 59 (.aload_n 0) 1 60 := ⟨by decide +kernel, rfl⟩
theorem dX9_calls_60 : Dx cX9_calls 60 (.iload_n 1) 1 61 := ⟨by decide +kernel, rfl⟩
theorem dX9_calls_61 : Dx cX9_calls 61 (.iload_n 3) 1 62 := ⟨by decide +kernel, rfl⟩
theorem dX9_calls_62 : Dx cX9_calls 62 (.invokevirtual 161) 3 65 := ⟨by decide +kernel, rfl⟩
theorem dX9_calls_65 : Dc cX9_calls 65 (fun o => .goto o) 69 68 := ⟨4, by decide +kernel, by decide, rfl⟩
theorem dX9_calls_68 : Dx cX9_calls 68 (.iconst 0) 1 69 := ⟨by decide +kernel, rfl⟩
theorem dX9_calls_69 : Dx cX9_calls 69 (.invokevirtual 64) 3 72 := ⟨by decide +kernel, rfl⟩
theorem dX9_calls_72 : Dc cX9_calls 72 (fun o => .ifCond .eq o) 77 75 := ⟨5, by decide +kernel, by decide, rfl⟩
theorem dX9_calls_75 : Dx cX9_calls 75 (.iconst 0) 1 76 := ⟨by decide +kernel, rfl⟩
theorem dX9_calls_76 : Dx cX9_calls 76 (.ireturn) 1 77 := ⟨by decide +kernel, rfl⟩
theorem dX9_calls_77 : Dx cX9_calls 77 (.aload_n 0) 1 78 := ⟨by decide +kernel, rfl⟩
theorem dX9_calls_78 : Dx cX9_calls 78 (.iload_n 1) 1 79 := ⟨by decide +kernel, rfl⟩
theorem dX9_calls_79 : Dx cX9_calls 79 (.invokevirtual 164) 3 82 := ⟨by decide +kernel, rfl⟩
theorem dX9_calls_82 : Dx cX9_calls 82 (.istore 4) 2 84 := ⟨by decide +kernel, rfl⟩
theorem dX9_calls_84 : Dx cX9_calls 84 (.aload_n 0) 1 85 := ⟨by decide +kernel, rfl⟩
theorem dX9_calls_85 : Dx cX9_calls 85 (.aload_n 0) 1 86 := ⟨by decide +kernel, rfl⟩
theorem dX9_calls_86 : Dx cX9_calls 86 (.invokevirtual 131) 3 89 := ⟨by decide +kernel, rfl⟩
theorem dX9_calls_89 : Dx cX9_calls 89 (.iconst 2) 1 90 := ⟨by decide +kernel, rfl⟩
theorem dX9_calls_90 : Dx cX9_calls 90 (.invokevirtual 134) 3 93 := ⟨by decide +kernel, rfl⟩
theorem dX9_calls_93 : Dx cX9_calls 93 (.istore 5) 2 95 := ⟨by decide +kernel, rfl⟩
theorem dX9_calls_95 : Dx cX9_calls 95 (.iconst 0) 1 96 := ⟨by decide +kernel, rfl⟩
theorem dX9_calls_96 : Dx cX9_calls 96 (.istore 6) 2 98 := ⟨by decide +kernel, rfl⟩
theorem dX9_calls_98 : Dx cX9_calls 98 (.iload 6) 2 100 := ⟨by decide +kernel, rfl⟩
theorem dX9_calls_100 : Dx cX9_calls 100 (.aload_n 0) 1 101 := ⟨by decide +kernel, rfl⟩
theorem dX9_calls_101 : Dx cX9_calls 101 (.getfield 9) 3 104 := ⟨by decide +kernel, rfl⟩
theorem dX9_calls_104 : Dx cX9_calls 104 (.iconst 1) 1 105 := ⟨by decide +kernel, rfl⟩
theorem dX9_calls_105 : Dx cX9_calls 105 (.iaload) 1 106 := ⟨by decide +kernel, rfl⟩
theorem dX9_calls_106 : Dc cX9_calls 106 (fun o => .if_icmp .ge o) 187 109 := ⟨81, by decide +kernel, by decide, rfl⟩
theorem dX9_calls_109 : Dx cX9_calls 109 (.iload 4) 2 111 := ⟨by decide +kernel, rfl⟩
theorem dX9_calls_111 : Dx cX9_calls 111 (.iload 6) 2 113 := ⟨by decide +kernel, rfl⟩
theorem dX9_calls_113 : Dx cX9_calls 113 (.ishr) 1 114 := ⟨by decide +kernel, rfl⟩
theorem dX9_calls_114 : Dx cX9_calls 114 (.iconst 1) 1 115 := ⟨by decide +kernel, rfl⟩
theorem dX9_calls_115 : Dx cX9_calls 115 (.iand) 1 116 := ⟨by decide +kernel, rfl⟩
theorem dX9_calls_116 : Dx cX9_calls 116 (.iconst 1) 1 117 := ⟨by decide +kernel, rfl⟩
theorem dX9_calls_117 : Dc cX9_calls 117 (fun o => .if_icmp .ne o) 181 120 := ⟨64, by decide +kernel, by decide, rfl⟩
theorem dX9_calls_120 : Dx cX9_calls 120 (.aload_n 0) 1 121 := ⟨by decide +kernel, rfl⟩
theorem dX9_calls_121 : Dx cX9_calls 121 (.iload 6) 2 123 := ⟨by decide +kernel, rfl⟩
theorem dX9_calls_123 : Dx cX9_calls 123 (.iconst 1) 1 124 := ⟨by decide +kernel, rfl⟩
theorem dX9_calls_124 : Dx cX9_calls 124 (.iconst 1) 1 125 := ⟨by decide +kernel, rfl⟩
theorem dX9_calls_125 : Dx cX9_calls 125 (.invokevirtual 90) 3 128 := ⟨by decide +kernel, rfl⟩
theorem dX9_calls_128 : Dx cX9_calls 128 (.aload_n 0) 1 129 := ⟨by decide +kernel, rfl⟩
theorem dX9_calls_129 : Dx cX9_calls 129 (.iload 6) 2 131 := ⟨by decide +kernel, rfl⟩
theorem dX9_calls_131 : Dx cX9_calls 131 (.iconst 3) 1 132 := ⟨by decide +kernel, rfl⟩
theorem dX9_calls_132 : Dx cX9_calls 132 (.iload_n 1) 1 133 := ⟨by decide +kernel, rfl⟩
theorem dX9_calls_133 : Dx cX9_calls 133 (.invokevirtual 90) 3 136 := ⟨by decide +kernel, rfl⟩
theorem dX9_calls_136 : Dx cX9_calls 136 (.aload_n 0) 1 137 := ⟨by decide +kernel, rfl⟩
theorem dX9_calls_137 : Dx cX9_calls 137 (.iload 6) 2 139 := ⟨by decide +kernel, rfl⟩
theorem dX9_calls_139 : Dx cX9_calls 139 (.iconst 5) 1 140 := ⟨by decide +kernel, rfl⟩
theorem dX9_calls_140 : Dx cX9_calls 140 (.aload_n 0) 1 141 := ⟨by decide +kernel, rfl⟩
theorem dX9_calls_141 : Dx cX9_calls 141 (.iload 6) 2 143 := ⟨by decide +kernel, rfl⟩
theorem dX9_calls_143 : Dx cX9_calls 143 (.iconst 5) 1 144 := ⟨by decide +kernel, rfl⟩
theorem dX9_calls_144 : Dx cX9_calls 144 (.invokevirtual 103) 3 147 := ⟨by decide +kernel, rfl⟩
theorem dX9_calls_147 : Dx cX9_calls 147 (.iconst 1) 1 148 := ⟨by decide +kernel, rfl⟩
theorem dX9_calls_148 : Dx cX9_calls 148 (.iadd) 1 149 := ⟨by decide +kernel, rfl⟩
theorem dX9_calls_149 : Dx cX9_calls 149 (.invokevirtual 90) 3 152 := ⟨by decide +kernel, rfl⟩
theorem dX9_calls_152 : Dx cX9_calls 152 (.aload_n 0) 1 153 := ⟨by decide +kernel, rfl⟩
theorem dX9_calls_153 : Dx cX9_calls 153 (.iload 6) 2 155 := ⟨by decide +kernel, rfl⟩
theorem dX9_calls_155 : Dx cX9_calls 155 (.bipush 6) 2 157 := ⟨by decide +kernel, rfl⟩
theorem dX9_calls_157 : Dx cX9_calls 157 (.aload_n 0) 1 158 := ⟨by decide +kernel, rfl⟩
theorem dX9_calls_158 : Dx cX9_calls 158 (.iload 6) 2 160 := ⟨by decide +kernel, rfl⟩
theorem dX9_calls_160 : Dx cX9_calls 160 (.bipush 6) 2 162 := ⟨by decide +kernel, rfl⟩
theorem dX9_calls_162 : Dx cX9_calls 162 (.invokevirtual 103) 3 165 := ⟨by decide +kernel, rfl⟩
theorem dX9_calls_165 : Dx cX9_calls 165 (.iload 6) 2 167 := ⟨by decide +kernel, rfl⟩
theorem dX9_calls_167 : Dx cX9_calls 167 (.iload 5) 2 169 := ⟨by decide +kernel, rfl⟩
theorem dX9_calls_169 : Dc cX9_calls 169 (fun o => .if_icmp .ne o) 176 172 := ⟨7, by decide +kernel, by decide, rfl⟩
theorem dX9_calls_172 : Dx cX9_calls 172 (.iconst 1) 1 173 := ⟨by decide +kernel, rfl⟩
theorem dX9_calls_173 : Dc cX9_calls 173 (fun o => .goto o) 177 176 := ⟨4, by decide +kernel, by decide, rfl⟩
theorem dX9_calls_176 : Dx cX9_calls 176 (.iconst 0) 1 177 := ⟨by decide +kernel, rfl⟩
theorem dX9_calls_177 : Dx cX9_calls 177 (.iadd) 1 178 := ⟨by decide +kernel, rfl⟩
theorem dX9_calls_178 : Dx cX9_calls 178 (.invokevirtual 90) 3 181 := ⟨by decide +kernel, rfl⟩
theorem dX9_calls_181 : Dx cX9_calls 181 (.iinc 6 1) 3 184 := ⟨by decide +kernel, rfl⟩
theorem dX9_calls_184 : Dc cX9_calls 184 (fun o => .goto o) 98 187 := ⟨(-86), by decide +kernel, by decide, rfl⟩
theorem dX9_calls_187 : Dx cX9_calls 187 (.aload_n 0) 1 188 := ⟨by decide +kernel, rfl⟩
theorem dX9_calls_188 : Dx cX9_calls 188 (.iload_n 1) 1 189 := ⟨by decide +kernel, rfl⟩
theorem dX9_calls_189 : Dx cX9_calls 189 (.iconst 2) 1 190 := ⟨by decide +kernel, rfl⟩
theorem dX9_calls_190 : Dx cX9_calls 190 (.iconst 1) 1 191 := ⟨by decide +kernel, rfl⟩
theorem dX9_calls_191 : Dx cX9_calls 191 (.invokevirtual 125) 3 194 := ⟨by decide +kernel, rfl⟩
theorem dX9_calls_194 : Dx cX9_calls 194 (.aload_n 0) 1 195 := ⟨by decide +kernel, rfl⟩
theorem dX9_calls_195 : Dx cX9_calls 195 (.iload_n 1) 1 196 := ⟨by decide +kernel, rfl⟩
theorem dX9_calls_196 : Dx cX9_calls 196 (.iconst 3) 1 197 := ⟨by decide +kernel, rfl⟩
theorem dX9_calls_197 : Dx cX9_calls 197 (.iload_n 2) 1 198 := ⟨by decide +kernel, rfl⟩
theorem dX9_calls_198 : Dx cX9_calls 198 (.invokevirtual 125) 3 201 := ⟨by decide +kernel, rfl⟩
theorem dX9_calls_201 : Dx cX9_calls 201 (.aload_n 0) 1 202 := ⟨by decide +kernel, rfl⟩
theorem dX9_calls_202 : Dx cX9_calls 202 (.iload_n 1) 1 203 := ⟨by decide +kernel, rfl⟩
theorem dX9_calls_203 : Dx cX9_calls 203 (.iconst 5) 1 204 := ⟨by decide +kernel, rfl⟩
theorem dX9_calls_204 : Dx cX9_calls 204 (.iload 5) 2 206 := ⟨by decide +kernel, rfl⟩
theorem dX9_calls_206 : Dx cX9_calls 206 (.invokevirtual 125) 3 209 := ⟨by decide +kernel, rfl⟩
theorem dX9_calls_209 : Dx cX9_calls 209 (.aload_n 0) 1 210 := ⟨by decide +kernel, rfl⟩
theorem dX9_calls_210 : Dx cX9_calls 210 (.iload_n 1) 1 211 := ⟨by decide +kernel, rfl⟩
theorem dX9_calls_211 : Dx cX9_calls 211 (.bipush 6) 2 213 := ⟨by decide +kernel, rfl⟩
theorem dX9_calls_213 : Dx cX9_calls 213 (.aload_n 0) 1 214 := ⟨by decide +kernel, rfl⟩
theorem dX9_calls_214 : Dx cX9_calls 214 (.iload_n 1) 1 215 := ⟨by decide +kernel, rfl⟩
theorem dX9_calls_215 : Dx cX9_calls 215 (.bipush 6) 2 217 := ⟨by decide +kernel, rfl⟩
theorem dX9_calls_217 : Dx cX9_calls 217 (.invokevirtual 72) 3 220 := ⟨by decide +kernel, rfl⟩
theorem dX9_calls_220 : Dx cX9_calls 220 (.iconst 1) 1 221 := ⟨by decide +kernel, rfl⟩
theorem dX9_calls_221 : Dx cX9_calls 221 (.iadd) 1 222 := ⟨by decide +kernel, rfl⟩
theorem dX9_calls_222 : Dx cX9_calls 222 (.invokevirtual 125) 3 225 := ⟨by decide +kernel, rfl⟩
theorem dX9_calls_225 : Dx cX9_calls 225 (.aload_n 0) 1 226 := ⟨by decide +kernel, rfl⟩
theorem dX9_calls_226 : Dx cX9_calls 226 (.getfield 9) 3 229 := ⟨by decide +kernel, rfl⟩
theorem dX9_calls_229 : Dx cX9_calls 229 (.iconst 4) 1 230 := ⟨by decide +kernel, rfl⟩
theorem dX9_calls_230 : Dx cX9_calls 230 (.dup2) 1 231 := ⟨by decide +kernel, rfl⟩
theorem dX9_calls_231 : Dx cX9_calls 231 (.iaload) 1 232 := ⟨by decide +kernel, rfl⟩
theorem dX9_calls_232 : Dx cX9_calls 232 (.iconst 1) 1 233 := ⟨by decide +kernel, rfl⟩
theorem dX9_calls_233 : Dx cX9_calls 233 (.iadd) 1 234 := ⟨by decide +kernel, rfl⟩
theorem dX9_calls_234 : Dx cX9_calls 234 (.iastore) 1 235 := ⟨by decide +kernel, rfl⟩
theorem dX9_calls_235 : Dx cX9_calls 235 (.iload 5) 2 237 := ⟨by decide +kernel, rfl⟩
theorem dX9_calls_237 : Dx cX9_calls 237 (.ireturn) 1 238 := ⟨by decide +kernel, rfl⟩
theorem dX9_call_0 : Dx cX9_call 0 (.aload_n 0) 1 1 := ⟨by decide +kernel, rfl⟩
theorem dX9_call_1 : Dx cX9_call 1 (.invokevirtual 94) 3 4 := ⟨by decide +kernel, rfl⟩
theorem dX9_call_4 : Dx cX9_call 4 (.aload_n 0) 1 5 := ⟨by decide +kernel, rfl⟩
theorem dX9_call_5 : Dx cX9_call 5 (.aload_n 0) 1 6 := ⟨by decide +kernel, rfl⟩
theorem dX9_call_6 : Dx cX9_call 6 (.iload_n 1) 1 7 := ⟨by decide +kernel, rfl⟩
theorem dX9_call_7 : Dx cX9_call 7 (.iload_n 2) 1 8 := ⟨by decide +kernel, rfl⟩
theorem dX9_call_8 : Dx cX9_call 8 (.invokevirtual 167) 3 11 := ⟨by decide +kernel, rfl⟩
theorem dX9_call_11 : Dx cX9_call 11 (.iconst 1) 1 12 := ⟨by decide +kernel, rfl⟩
theorem dX9_call_12 : Dx cX9_call 12 (.invokevirtual 100) 3 15 := ⟨by decide +kernel, rfl⟩
theorem dX9_call_15 : Dx cX9_call 15 (.ireturn) 1 16 := ⟨by decide +kernel, rfl⟩
theorem dX9_borrows_0 : Dx cX9_borrows 0 (.aload_n 0) 1 1 := ⟨by decide +kernel, rfl⟩
theorem dX9_borrows_1 : Dx cX9_borrows 1 (.iload_n 1) 1 2 := ⟨by decide +kernel, rfl⟩
theorem dX9_borrows_2 : Dx cX9_borrows 2 (.iconst 1) 1 3 := ⟨by decide +kernel, rfl⟩
theorem dX9_borrows_3 : Dx cX9_borrows 3 (.bipush 9) 2 5 := ⟨by decide +kernel, rfl⟩
theorem dX9_borrows_5 : Dx cX9_borrows 5 (.invokestatic 60) 3 8 := ⟨by decide +kernel, rfl⟩
theorem dX9_borrows_8 : Dx cX9_borrows 8 (.invokevirtual 86) 3 11 := ⟨by decide +kernel, rfl⟩
theorem dX9_borrows_11 : Dc cX9_borrows 11 (fun o => .ifCond .ne o) 52 14 := ⟨41, by decide +kernel, by decide, rfl⟩
theorem dX9_borrows_14 : Dx cX9_borrows 14 (.aload_n 0) 1 15 := ⟨by decide +kernel, rfl⟩
theorem dX9_borrows_15 : Dx cX9_borrows 15 (.iload_n 2) 1 16 := ⟨by decide +kernel, rfl⟩
theorem dX9_borrows_16 : Dx cX9_borrows 16 (.iconst 1) 1 17 := ⟨by decide +kernel, rfl⟩
theorem dX9_borrows_17 : Dx cX9_borrows 17 (.bipush 48) 2 19 := ⟨by decide +kernel, rfl⟩
theorem dX9_borrows_19 : Dx cX9_borrows 19 (.invokestatic 60) 3 22 := ⟨by decide +kernel, rfl⟩
theorem dX9_borrows_22 : Dx cX9_borrows 22 (.invokevirtual 86) 3 25 := ⟨by decide +kernel, rfl⟩
theorem dX9_borrows_25 : Dc cX9_borrows 25 (fun o => .ifCond .ne o) 52 28 := ⟨27, by decide +kernel, by decide, rfl⟩
theorem dX9_borrows_28 : Dx cX9_borrows 28 (.aload_n 0) 1 29 := ⟨by decide +kernel, rfl⟩
theorem dX9_borrows_29 : Dx cX9_borrows 29 (.aload_n 0) 1 30 := ⟨by decide +kernel, rfl⟩
theorem dX9_borrows_30 : Dx cX9_borrows 30 (.getfield 9) 3 33 := ⟨by decide +kernel, rfl⟩
theorem dX9_borrows_33 : Dx cX9_borrows 33 (.iconst 3) 1 34 := ⟨by decide +kernel, rfl⟩
theorem dX9_borrows_34 : Dx cX9_borrows 34 (.iaload) 1 35 := ⟨by decide +kernel, rfl⟩
theorem dX9_borrows_35 : Dx cX9_borrows 35 (.iconst 4) 1 36 := ⟨by decide +kernel, rfl⟩
theorem dX9_borrows_36 : Dc cX9_borrows 36 (fun o => .if_icmp .ne o) 43 39 := ⟨7, by decide +kernel, by decide, rfl⟩
theorem dX9_borrows_39 : Dx cX9_borrows 39 (.iconst 1) 1 40 := ⟨by decide +kernel, rfl⟩
theorem dX9_borrows_40 : Dc cX9_borrows 40 (fun o => .goto o) 44 43 := ⟨4, by decide +kernel, by decide, rfl⟩
theorem dX9_borrows_43 : Dx cX9_borrows 43 (.iconst 0) 1 44 := ⟨by decide +kernel, rfl⟩
theorem dX9_borrows_44 : Dx cX9_borrows 44 (.iconst 2) 1 45 := ⟨by decide +kernel, rfl⟩
theorem dX9_borrows_45 : Dx cX9_borrows 45 (.iconst 4) 1 46 := ⟨by decide +kernel, rfl⟩
theorem dX9_borrows_46 : Dx cX9_borrows 46 (.invokevirtual 64) 3 49 := ⟨by decide +kernel, rfl⟩
theorem dX9_borrows_49 : Dc cX9_borrows 49 (fun o => .ifCond .eq o) 54 52 := ⟨5, by decide +kernel, by decide, rfl⟩
theorem dX9_borrows_52 : Dx cX9_borrows 52 (.iconst 0) 1 53 := ⟨by decide +kernel, rfl⟩
theorem dX9_borrows_53 : Dx cX9_borrows 53 (.ireturn) 1 54 := ⟨by decide +kernel, rfl⟩
theorem dX9_borrows_54 : Dx cX9_borrows 54 (.bipush 99) 2 56 := ⟨by decide +kernel, rfl⟩
theorem dX9_borrows_56 : Dx cX9_borrows 56 (.iconst 3) 1 57 := ⟨by decide +kernel, rfl⟩
theorem dX9_borrows_57 : Dx cX9_borrows 57 (.aload_n 0) 1 58 := ⟨by decide +kernel, rfl⟩
theorem dX9_borrows_58 : Dx cX9_borrows 58 (.getfield 9) 3 61 := ⟨by decide +kernel, rfl⟩
theorem dX9_borrows_61 : Dx cX9_borrows 61 (.iconst 3) 1 62 := ⟨by decide +kernel, rfl⟩
theorem dX9_borrows_62 : Dx cX9_borrows 62 (.iaload) 1 63 := ⟨by decide +kernel, rfl⟩
theorem dX9_borrows_63 : Dx cX9_borrows 63 (.imul) 1 64 := ⟨by decide +kernel, rfl⟩
theorem dX9_borrows_64 : Dx cX9_borrows 64 (.iadd) 1 65 := ⟨by decide +kernel, rfl⟩
theorem dX9_borrows_65 : Dx cX9_borrows 65 (.istore_n 3) 1 66 := ⟨by decide +kernel, rfl⟩
theorem dX9_borrows_66 : Dx cX9_borrows 66 (.aload_n 0) 1 67 := ⟨by decide +kernel, rfl⟩
theorem dX9_borrows_67 : Dx cX9_borrows 67 (.getfield 9) 3 70 := ⟨by decide +kernel, rfl⟩
theorem dX9_borrows_70 : Dx cX9_borrows 70 (.iload_n 3) 1 71 := ⟨by decide +kernel, rfl⟩
theorem dX9_borrows_71 : Dx cX9_borrows 71 (.iconst 0) 1 72 := ⟨by decide +kernel, rfl⟩
theorem dX9_borrows_72 : Dx cX9_borrows 72 (.iadd) 1 73 := ⟨by decide +kernel, rfl⟩
theorem dX9_borrows_73 : Dx cX9_borrows 73 (.iload_n 1) 1 74 := ⟨by decide +kernel, rfl⟩
theorem dX9_borrows_74 : Dx cX9_borrows 74 (.iastore) 1 75 := ⟨by decide +kernel, rfl⟩
theorem dX9_borrows_75 : Dx cX9_borrows 75 (.aload_n 0) 1 76 := ⟨by decide +kernel, rfl⟩
theorem dX9_borrows_76 : Dx cX9_borrows 76 (.getfield 9) 3 79 := ⟨by decide +kernel, rfl⟩
theorem dX9_borrows_79 : Dx cX9_borrows 79 (.iload_n 3) 1 80 := ⟨by decide +kernel, rfl⟩
theorem dX9_borrows_80 : Dx cX9_borrows 80 (.iconst 1) 1 81 := ⟨by decide +kernel, rfl⟩
theorem dX9_borrows_81 : Dx cX9_borrows 81 (.iadd) 1 82 := ⟨by decide +kernel, rfl⟩
theorem dX9_borrows_82 : Dx cX9_borrows 82 (.iload_n 2) 1 83 := ⟨by decide +kernel, rfl⟩
theorem dX9_borrows_83 : Dx cX9_borrows 83 (.iastore) 1 84 := ⟨by decide +kernel, rfl⟩
theorem dX9_borrows_84 : Dx cX9_borrows 84 (.aload_n 0) 1 85 := ⟨by decide +kernel, rfl⟩
theorem dX9_borrows_85 : Dx cX9_borrows 85 (.getfield 9) 3 88 := ⟨by decide +kernel, rfl⟩
theorem dX9_borrows_88 : Dx cX9_borrows 88 (.iload_n 3) 1 89 := ⟨by decide +kernel, rfl⟩
theorem dX9_borrows_89 : Dx cX9_borrows 89 (.iconst 2) 1 90 := ⟨by decide +kernel, rfl⟩
theorem dX9_borrows_90 : Dx cX9_borrows 90 (.iadd) 1 91 := ⟨by decide +kernel, rfl⟩
theorem dX9_borrows_91 : Dx cX9_borrows 91 (.iconst 0) 1 92 := ⟨by decide +kernel, rfl⟩
theorem dX9_borrows_92 : Dx cX9_borrows 92 (.iastore) 1 93 := ⟨by decide +kernel, rfl⟩
theorem dX9_borrows_93 : Dx cX9_borrows 93 (.aload_n 0) 1 94 := ⟨by decide +kernel, rfl⟩
theorem dX9_borrows_94 : Dx cX9_borrows 94 (.getfield 9) 3 97 := ⟨by decide +kernel, rfl⟩
theorem dX9_borrows_97 : Dx cX9_borrows 97 (.iconst 3) 1 98 := ⟨by decide +kernel, rfl⟩
theorem dX9_borrows_98 : Dx cX9_borrows 98 (.dup2) 1 99 := ⟨by decide +kernel, rfl⟩
theorem dX9_borrows_99 : Dx cX9_borrows 99 (.iaload) 1 100 := ⟨by decide +kernel, rfl⟩
theorem dX9_borrows_100 : Dx cX9_borrows 100 (.iconst 1) 1 101 := ⟨by decide +kernel, rfl⟩
theorem dX9_borrows_101 : Dx cX9_borrows 101 (.iadd) 1 102 := ⟨by decide +kernel, rfl⟩
theorem dX9_borrows_102 : Dx cX9_borrows 102 (.iastore) 1 103 := ⟨by decide +kernel, rfl⟩
theorem dX9_borrows_103 : Dx cX9_borrows 103 (.aload_n 0) 1 104 := ⟨by decide +kernel, rfl⟩
theorem dX9_borrows_104 : Dx cX9_borrows 104 (.getfield 9) 3 107 := ⟨by decide +kernel, rfl⟩
theorem dX9_borrows_107 : Dx cX9_borrows 107 (.iconst 3) 1 108 := ⟨by decide +kernel, rfl⟩
theorem dX9_borrows_108 : Dx cX9_borrows 108 (.iaload) 1 109 := ⟨by decide +kernel, rfl⟩
theorem dX9_borrows_109 : Dx cX9_borrows 109 (.iconst 1) 1 110 := ⟨by decide +kernel, rfl⟩
theorem dX9_borrows_110 : Dx cX9_borrows 110 (.isub) 1 111 := ⟨by decide +kernel, rfl⟩
theorem dX9_borrows_111 : Dx cX9_borrows 111 (.ireturn) 1 112 := ⟨by decide +kernel, rfl⟩
theorem dX9_borrow_0 : Dx cX9_borrow 0 (.aload_n 0) 1 1 := ⟨by decide +kernel, rfl⟩
theorem dX9_borrow_1 : Dx cX9_borrow 1 (.invokevirtual 94) 3 4 := ⟨by decide +kernel, rfl⟩
theorem dX9_borrow_4 : Dx cX9_borrow 4 (.aload_n 0) 1 5 := ⟨by decide +kernel, rfl⟩
theorem dX9_borrow_5 : Dx cX9_borrow 5 (.aload_n 0) 1 6 := ⟨by decide +kernel, rfl⟩
theorem dX9_borrow_6 : Dx cX9_borrow 6 (.iload_n 1) 1 7 := ⟨by decide +kernel, rfl⟩
theorem dX9_borrow_7 : Dx cX9_borrow 7 (.iload_n 2) 1 8 := ⟨by decide +kernel, rfl⟩
theorem dX9_borrow_8 : Dx cX9_borrow 8 (.invokevirtual 170) 3 11 := ⟨by decide +kernel, rfl⟩
theorem dX9_borrow_11 : Dx cX9_borrow 11 (.iconst 1) 1 12 := ⟨by decide +kernel, rfl⟩
theorem dX9_borrow_12 : Dx cX9_borrow 12 (.invokevirtual 100) 3 15 := ⟨by decide +kernel, rfl⟩
theorem dX9_borrow_15 : Dx cX9_borrow 15 (.ireturn) 1 16 := ⟨by decide +kernel, rfl⟩
theorem dX9_takesLoan_0 : Dx cX9_takesLoan 0 (.aload_n 0) 1 1 := ⟨by decide +kernel, rfl⟩
theorem dX9_takesLoan_1 : Dx cX9_takesLoan 1 (.getfield 9) 3 4 := ⟨by decide +kernel, rfl⟩
theorem dX9_takesLoan_4 : Dx cX9_takesLoan 4 (.iconst 3) 1 5 := ⟨by decide +kernel, rfl⟩
theorem dX9_takesLoan_5 : Dx cX9_takesLoan 5 (.dup2) 1 6 := ⟨by decide +kernel, rfl⟩
theorem dX9_takesLoan_6 : Dx cX9_takesLoan 6 (.iaload) 1 7 := ⟨by decide +kernel, rfl⟩
theorem dX9_takesLoan_7 : Dx cX9_takesLoan 7 (.iconst 1) 1 8 := ⟨by decide +kernel, rfl⟩
theorem dX9_takesLoan_8 : Dx cX9_takesLoan 8 (.isub) 1 9 := ⟨by decide +kernel, rfl⟩
theorem dX9_takesLoan_9 : Dx cX9_takesLoan 9 (.iastore) 1 10 := ⟨by decide +kernel, rfl⟩
theorem dX9_takesLoan_10 : Dx cX9_takesLoan 10 (.bipush 99) 2 12 := ⟨by decide +kernel, rfl⟩
theorem dX9_takesLoan_12 : Dx cX9_takesLoan 12 (.iconst 3) 1 13 := ⟨by decide +kernel, rfl⟩
theorem dX9_takesLoan_13 : Dx cX9_takesLoan 13 (.iload_n 1) 1 14 := ⟨by decide +kernel, rfl⟩
theorem dX9_takesLoan_14 : Dx cX9_takesLoan 14 (.imul) 1 15 := ⟨by decide +kernel, rfl⟩
theorem dX9_takesLoan_15 : Dx cX9_takesLoan 15 (.iadd) 1 16 := ⟨by decide +kernel, rfl⟩
theorem dX9_takesLoan_16 : Dx cX9_takesLoan 16 (.istore_n 2) 1 17 := ⟨by decide +kernel, rfl⟩
theorem dX9_takesLoan_17 : Dx cX9_takesLoan 17 (.iload_n 2) 1 18 := ⟨by decide +kernel, rfl⟩
theorem dX9_takesLoan_18 : Dx cX9_takesLoan 18 (.bipush 99) 2 20 := ⟨by decide +kernel, rfl⟩
theorem dX9_takesLoan_20 : Dx cX9_takesLoan 20 (.iconst 3) 1 21 := ⟨by decide +kernel, rfl⟩
theorem dX9_takesLoan_21 : Dx cX9_takesLoan 21 (.aload_n 0) 1 22 := ⟨by decide +kernel, rfl⟩
theorem dX9_takesLoan_22 : Dx cX9_takesLoan 22 (.getfield 9) 3 25 := ⟨by decide +kernel, rfl⟩
theorem dX9_takesLoan_25 : Dx cX9_takesLoan 25 (.iconst 3) 1 26 := ⟨by decide +kernel, rfl⟩
theorem dX9_takesLoan_26 : Dx cX9_takesLoan 26 (.iaload) 1 27 := ⟨by decide +kernel, rfl⟩
theorem dX9_takesLoan_27 : Dx cX9_takesLoan 27 (.imul) 1 28 := ⟨by decide +kernel, rfl⟩
theorem dX9_takesLoan_28 : Dx cX9_takesLoan 28 (.iadd) 1 29 := ⟨by decide +kernel, rfl⟩
theorem dX9_takesLoan_29 : Dc cX9_takesLoan 29 (fun o => .if_icmp .ge o) 52 32 := ⟨23, by decide +kernel, by decide, rfl⟩
theorem dX9_takesLoan_32 : Dx cX9_takesLoan 32 (.aload_n 0) 1 33 := ⟨by decide +kernel, rfl⟩
theorem dX9_takesLoan_33 : Dx cX9_takesLoan 33 (.getfield 9) 3 36 := ⟨by decide +kernel, rfl⟩
theorem dX9_takesLoan_36 : Dx cX9_takesLoan 36 (.iload_n 2) 1 37 := ⟨by decide +kernel, rfl⟩
theorem dX9_takesLoan_37 : Dx cX9_takesLoan 37 (.aload_n 0) 1 38 := ⟨by decide +kernel, rfl⟩
theorem dX9_takesLoan_38 : Dx cX9_takesLoan 38 (.getfield 9) 3 41 := ⟨by decide +kernel, rfl⟩
theorem dX9_takesLoan_41 : Dx cX9_takesLoan 41 (.iload_n 2) 1 42 := ⟨by decide +kernel, rfl⟩
theorem dX9_takesLoan_42 : Dx cX9_takesLoan 42 (.iconst 3) 1 43 := ⟨by decide +kernel, rfl⟩
theorem dX9_takesLoan_43 : Dx cX9_takesLoan 43 (.iadd) 1 44 := ⟨by decide +kernel, rfl⟩
theorem dX9_takesLoan_44 : Dx cX9_takesLoan 44 (.iaload) 1 45 := ⟨by decide +kernel, rfl⟩
theorem dX9_takesLoan_45 : Dx cX9_takesLoan 45 (.iastore) 1 46 := ⟨by decide +kernel, rfl⟩
theorem dX9_takesLoan_46 : Dx cX9_takesLoan 46 (.iinc 2 1) 3 49 := ⟨by decide +kernel, rfl⟩
theorem dX9_takesLoan_49 : Dc cX9_takesLoan 49 (fun o => .goto o) 17 52 := ⟨(-32), by decide +kernel, by decide, rfl⟩
theorem dX9_takesLoan_52 : Dx cX9_takesLoan 52 (.iconst 0) 1 53 := ⟨by decide +kernel, rfl⟩
theorem dX9_takesLoan_53 : Dx cX9_takesLoan 53 (.istore_n 2) 1 54 := ⟨by decide +kernel, rfl⟩
theorem dX9_takesLoan_54 : Dx cX9_takesLoan 54 (.iload_n 2) 1 55 := ⟨by decide +kernel, rfl⟩
theorem dX9_takesLoan_55 : Dx cX9_takesLoan 55 (.iconst 3) 1 56 := ⟨by decide +kernel, rfl⟩
theorem dX9_takesLoan_56 : Dc cX9_takesLoan 56 (fun o => .if_icmp .ge o) 84 59 := ⟨28, by decide +kernel, by decide, rfl⟩
theorem dX9_takesLoan_59 : Dx cX9_takesLoan 59 (.aload_n 0) 1 60 := ⟨by decide +kernel, rfl⟩
theorem dX9_takesLoan_60 : Dx cX9_takesLoan 60 (.getfield 9) 3 63 := ⟨by decide +kernel, rfl⟩
theorem dX9_takesLoan_63 : Dx cX9_takesLoan 63 (.bipush 99) 2 65 := ⟨by decide +kernel, rfl⟩
theorem dX9_takesLoan_65 : Dx cX9_takesLoan 65 (.iconst 3) 1 66 := ⟨by decide +kernel, rfl⟩
theorem dX9_takesLoan_66 : Dx cX9_takesLoan 66 (.aload_n 0) 1 67 := ⟨by decide +kernel, rfl⟩
theorem dX9_takesLoan_67 : Dx cX9_takesLoan 67 (.getfield 9) 3 70 := ⟨by decide +kernel, rfl⟩
theorem dX9_takesLoan_70 : Dx cX9_takesLoan 70 (.iconst 3) 1 71 := ⟨by decide +kernel, rfl⟩
theorem dX9_takesLoan_71 : Dx cX9_takesLoan 71 (.iaload) 1 72 := ⟨by decide +kernel, rfl⟩
theorem dX9_takesLoan_72 : Dx cX9_takesLoan 72 (.imul) 1 73 := ⟨by decide +kernel, rfl⟩
theorem dX9_takesLoan_73 : Dx cX9_takesLoan 73 (.iadd) 1 74 := ⟨by decide +kernel, rfl⟩
theorem dX9_takesLoan_74 : Dx cX9_takesLoan 74 (.iload_n 2) 1 75 := ⟨by decide +kernel, rfl⟩
theorem dX9_takesLoan_75 : Dx cX9_takesLoan 75 (.iadd) 1 76 := ⟨by decide +kernel, rfl⟩
theorem dX9_takesLoan_76 : Dx cX9_takesLoan 76 (.iconst 0) 1 77 := ⟨by decide +kernel, rfl⟩
theorem dX9_takesLoan_77 : Dx cX9_takesLoan 77 (.iastore) 1 78 := ⟨by decide +kernel, rfl⟩
theorem dX9_takesLoan_78 : Dx cX9_takesLoan 78 (.iinc 2 1) 3 81 := ⟨by decide +kernel, rfl⟩
theorem dX9_takesLoan_81 : Dc cX9_takesLoan 81 (fun o => .goto o) 54 84 := ⟨(-27), by decide +kernel, by decide, rfl⟩
theorem dX9_takesLoan_84 : Dx cX9_takesLoan 84 (.return_) 1 85 := ⟨by decide +kernel, rfl⟩
theorem dX9_givesBack_0 : Dx cX9_givesBack 0 (.aload_n 0) 1 1 := ⟨by decide +kernel, rfl⟩
theorem dX9_givesBack_1 : Dx cX9_givesBack 1 (.aload_n 0) 1 2 := ⟨by decide +kernel, rfl⟩
theorem dX9_givesBack_2 : Dx cX9_givesBack 2 (.iload_n 1) 1 3 := ⟨by decide +kernel, rfl⟩
theorem dX9_givesBack_3 : Dx cX9_givesBack 3 (.invokevirtual 173) 3 6 := ⟨by decide +kernel, rfl⟩
theorem dX9_givesBack_6 : Dc cX9_givesBack 6 (fun o => .ifCond .ne o) 13 9 := ⟨7, by decide +kernel, by decide, rfl⟩
theorem dX9_givesBack_9 : Dx cX9_givesBack 9 (.iconst 1) 1 10 := ⟨by decide +kernel, rfl⟩
theorem dX9_givesBack_10 : Dc cX9_givesBack 10 (fun o => .goto o) 14 13 := ⟨4, by decide +kernel, by decide, rfl⟩
theorem dX9_givesBack_13 : Dx cX9_givesBack 13 (.iconst 0) 1 14 := ⟨by decide +kernel, rfl⟩
theorem dX9_givesBack_14 : Dx cX9_givesBack 14 (.iconst 3) 1 15 := ⟨by decide +kernel, rfl⟩
theorem dX9_givesBack_15 : Dx cX9_givesBack 15 (.iload_n 1) 1 16 := ⟨by decide +kernel, rfl⟩
theorem dX9_givesBack_16 : Dx cX9_givesBack 16 (.invokevirtual 64) 3 19 := ⟨by decide +kernel, rfl⟩
theorem dX9_givesBack_19 : Dc cX9_givesBack 19 (fun o => .ifCond .eq o) 24 22 := ⟨5, by decide +kernel, by decide, rfl⟩
theorem dX9_givesBack_22 : Dx cX9_givesBack 22 (.iconst 0) 1 23 := ⟨by decide +kernel, rfl⟩
theorem dX9_givesBack_23 : Dx cX9_givesBack 23 (.ireturn) 1 24 := ⟨by decide +kernel, rfl⟩
theorem dX9_givesBack_24 : Dx cX9_givesBack 24 (.aload_n 0) 1 25 := ⟨by decide +kernel, rfl⟩
theorem dX9_givesBack_25 : Dx cX9_givesBack 25 (.iload_n 1) 1 26 := ⟨by decide +kernel, rfl⟩
theorem dX9_givesBack_26 : Dx cX9_givesBack 26 (.iconst 0) 1 27 := ⟨by decide +kernel, rfl⟩
theorem dX9_givesBack_27 : Dx cX9_givesBack 27 (.invokevirtual 76) 3 30 := ⟨by decide +kernel, rfl⟩
theorem dX9_givesBack_30 : Dx cX9_givesBack 30 (.aload_n 0) 1 31 := ⟨by decide +kernel, rfl⟩
theorem dX9_givesBack_31 : Dx cX9_givesBack 31 (.invokevirtual 152) 3 34 := ⟨by decide +kernel, rfl⟩
theorem dX9_givesBack_34 : Dx cX9_givesBack 34 (.isub) 1 35 := ⟨by decide +kernel, rfl⟩
theorem dX9_givesBack_35 : Dx cX9_givesBack 35 (.istore_n 2) 1 36 := ⟨by decide +kernel, rfl⟩
theorem dX9_givesBack_36 : Dx cX9_givesBack 36 (.aload_n 0) 1 37 := ⟨by decide +kernel, rfl⟩
theorem dX9_givesBack_37 : Dx cX9_givesBack 37 (.iload_n 2) 1 38 := ⟨by decide +kernel, rfl⟩
theorem dX9_givesBack_38 : Dc cX9_givesBack 38 (fun o => .ifCond .le o) 45 41 := ⟨7, by decide +kernel, by decide, rfl⟩
theorem dX9_givesBack_41 : Dx cX9_givesBack 41 (.iconst 1) 1 42 := ⟨by decide +kernel, rfl⟩
theorem dX9_givesBack_42 : Dc cX9_givesBack 42 (fun o => .goto o) 46 45 := ⟨4, by decide +kernel, by decide, rfl⟩
theorem dX9_givesBack_45 : Dx cX9_givesBack 45 (.iconst 0) 1 46 := ⟨by decide +kernel, rfl⟩
theorem dX9_givesBack_46 : Dx cX9_givesBack 46 (.bipush 11) 2 48 := ⟨by decide +kernel, rfl⟩
theorem dX9_givesBack_48 : Dx cX9_givesBack 48 (.iload_n 2) 1 49 := ⟨by decide +kernel, rfl⟩
theorem dX9_givesBack_49 : Dx cX9_givesBack 49 (.invokevirtual 64) 3 52 := ⟨by decide +kernel, rfl⟩
theorem dX9_givesBack_52 : Dc cX9_givesBack 52 (fun o => .ifCond .eq o) 57 55 := ⟨5, by decide +kernel, by decide, rfl⟩
theorem dX9_givesBack_55 : Dx cX9_givesBack 55 (.iconst 0) 1 56 := ⟨by decide +kernel, rfl⟩
theorem dX9_givesBack_56 : Dx cX9_givesBack 56 (.ireturn) 1 57 := ⟨by decide +kernel, rfl⟩
theorem dX9_givesBack_57 : Dx cX9_givesBack 57 (.aload_n 0) 1 58 := ⟨by decide +kernel, rfl⟩
theorem dX9_givesBack_58 : Dx cX9_givesBack 58 (.iload_n 1) 1 59 := ⟨by decide +kernel, rfl⟩
theorem dX9_givesBack_59 : Dx cX9_givesBack 59 (.invokevirtual 176) 3 62 := ⟨by decide +kernel, rfl⟩
theorem dX9_givesBack_62 : Dx cX9_givesBack 62 (.aload_n 0) 1 63 := ⟨by decide +kernel, rfl⟩
theorem dX9_givesBack_63 : Dx cX9_givesBack 63 (.invokevirtual 152) 3 66 := ⟨by decide +kernel, rfl⟩
theorem dX9_givesBack_66 : Dx cX9_givesBack 66 (.ireturn) 1 67 := ⟨by decide +kernel, rfl⟩
theorem dX9_giveBack_0 : Dx cX9_giveBack 0 (.aload_n 0) 1 1 := ⟨by decide +kernel, rfl⟩
theorem dX9_giveBack_1 : Dx cX9_giveBack 1 (.invokevirtual 94) 3 4 := ⟨by decide +kernel, rfl⟩
theorem dX9_giveBack_4 : Dx cX9_giveBack 4 (.aload_n 0) 1 5 := ⟨by decide +kernel, rfl⟩
theorem dX9_giveBack_5 : Dx cX9_giveBack 5 (.aload_n 0) 1 6 := ⟨by decide +kernel, rfl⟩
theorem dX9_giveBack_6 : Dx cX9_giveBack 6 (.iload_n 1) 1 7 := ⟨by decide +kernel, rfl⟩
theorem dX9_giveBack_7 : Dx cX9_giveBack 7 (.invokevirtual 180) 3 10 := ⟨by decide +kernel, rfl⟩
theorem dX9_giveBack_10 : Dx cX9_giveBack 10 (.iconst 1) 1 11 := ⟨by decide +kernel, rfl⟩
theorem dX9_giveBack_11 : Dx cX9_giveBack 11 (.invokevirtual 100) 3 14 := ⟨by decide +kernel, rfl⟩
theorem dX9_giveBack_14 : Dx cX9_giveBack 14 (.ireturn) 1 15 := ⟨by decide +kernel, rfl⟩
theorem dX9_limits_0 : Dx cX9_limits 0 (.aload_n 0) 1 1 := ⟨by decide +kernel, rfl⟩
theorem dX9_limits_1 : Dx cX9_limits 1 (.iload_n 1) 1 2 := ⟨by decide +kernel, rfl⟩
theorem dX9_limits_2 : Dx cX9_limits 2 (.iconst 1) 1 3 := ⟨by decide +kernel, rfl⟩
theorem dX9_limits_3 : Dx cX9_limits 3 (.bipush 20) 2 5 := ⟨by decide +kernel, rfl⟩
theorem dX9_limits_5 : Dx cX9_limits 5 (.invokestatic 60) 3 8 := ⟨by decide +kernel, rfl⟩
theorem dX9_limits_8 : Dx cX9_limits 8 (.invokevirtual 86) 3 11 := ⟨by decide +kernel, rfl⟩
theorem dX9_limits_11 : Dc cX9_limits 11 (fun o => .ifCond .ne o) 40 14 := ⟨29, by decide +kernel, by decide, rfl⟩
theorem dX9_limits_14 : Dx cX9_limits 14 (.aload_n 0) 1 15 := ⟨by decide +kernel, rfl⟩
theorem dX9_limits_15 : Dx cX9_limits 15 (.aload_n 0) 1 16 := ⟨by decide +kernel, rfl⟩
theorem dX9_limits_16 : Dx cX9_limits 16 (.getfield 9) 3 19 := ⟨by decide +kernel, rfl⟩
theorem dX9_limits_19 : Dx cX9_limits 19 (.bipush 7) 2 21 := ⟨by decide +kernel, rfl⟩
theorem dX9_limits_21 : Dx cX9_limits 21 (.iaload) 1 22 := ⟨by decide +kernel, rfl⟩
theorem dX9_limits_22 : Dx cX9_limits 22 (.iload_n 1) 1 23 := ⟨by decide +kernel, rfl⟩
theorem dX9_limits_23 : Dc cX9_limits 23 (fun o => .if_icmp .ne o) 30 26 := ⟨7, by decide +kernel, by decide, rfl⟩
theorem dX9_limits_26 : Dx cX9_limits 26 (.iconst 1) 1 27 := ⟨by decide +kernel, rfl⟩
theorem dX9_limits_27 : Dc cX9_limits 27 (fun o => .goto o) 31 30 := ⟨4, by decide +kernel, by decide, rfl⟩
theorem dX9_limits_30 : Dx cX9_limits 30 (.iconst 0) 1 31 := ⟨by decide +kernel, rfl⟩
theorem dX9_limits_31 : Dx cX9_limits 31 (.bipush 6) 2 33 := ⟨by decide +kernel, rfl⟩
theorem dX9_limits_33 : Dx cX9_limits 33 (.iconst 0) 1 34 := ⟨by decide +kernel, rfl⟩
theorem dX9_limits_34 : Dx cX9_limits 34 (.invokevirtual 64) 3 37 := ⟨by decide +kernel, rfl⟩
theorem dX9_limits_37 : Dc cX9_limits 37 (fun o => .ifCond .eq o) 42 40 := ⟨5, by decide +kernel, by decide, rfl⟩
theorem dX9_limits_40 : Dx cX9_limits 40 (.iconst 0) 1 41 := ⟨by decide +kernel, rfl⟩
theorem dX9_limits_41 : Dx cX9_limits 41 (.ireturn) 1 42 := ⟨by decide +kernel, rfl⟩
theorem dX9_limits_42 : Dx cX9_limits 42 (.aload_n 0) 1 43 := ⟨by decide +kernel, rfl⟩
theorem dX9_limits_43 : Dx cX9_limits 43 (.getfield 9) 3 46 := ⟨by decide +kernel, rfl⟩
theorem dX9_limits_46 : Dx cX9_limits 46 (.bipush 7) 2 48 := ⟨by decide +kernel, rfl⟩
theorem dX9_limits_48 : Dx cX9_limits 48 (.iaload) 1 49 := ⟨by decide +kernel, rfl⟩
theorem dX9_limits_49 : Dx cX9_limits 49 (.istore_n 2) 1 50 := ⟨by decide +kernel, rfl⟩
theorem dX9_limits_50 : Dx cX9_limits 50 (.aload_n 0) 1 51 := ⟨by decide +kernel, rfl⟩
theorem dX9_limits_51 : Dx cX9_limits 51 (.getfield 9) 3 54 := ⟨by decide +kernel, rfl⟩
theorem dX9_limits_54 : Dx cX9_limits 54 (.bipush 7) 2 56 := ⟨by decide +kernel, rfl⟩
theorem dX9_limits_56 : Dx cX9_limits 56 (.iload_n 1) 1 57 := ⟨by decide +kernel, rfl⟩
theorem dX9_limits_57 : Dx cX9_limits 57 (.iastore) 1 58 := ⟨by decide +kernel, rfl⟩
theorem dX9_limits_58 : Dx cX9_limits 58 (.iload_n 2) 1 59 := ⟨by decide +kernel, rfl⟩
theorem dX9_limits_59 : Dx cX9_limits 59 (.ireturn) 1 60 := ⟨by decide +kernel, rfl⟩
theorem dX9_limit_0 : Dx cX9_limit 0 (.aload_n 0) 1 1 := ⟨by decide +kernel, rfl⟩
theorem dX9_limit_1 : Dx cX9_limit 1 (.invokevirtual 94) 3 4 := ⟨by decide +kernel, rfl⟩
theorem dX9_limit_4 : Dx cX9_limit 4 (.aload_n 0) 1 5 := ⟨by decide +kernel, rfl⟩
theorem dX9_limit_5 : Dx cX9_limit 5 (.aload_n 0) 1 6 := ⟨by decide +kernel, rfl⟩
theorem dX9_limit_6 : Dx cX9_limit 6 (.iload_n 1) 1 7 := ⟨by decide +kernel, rfl⟩
theorem dX9_limit_7 : Dx cX9_limit 7 (.invokevirtual 183) 3 10 := ⟨by decide +kernel, rfl⟩
theorem dX9_limit_10 : Dx cX9_limit 10 (.iconst 1) 1 11 := ⟨by decide +kernel, rfl⟩
theorem dX9_limit_11 : Dx cX9_limit 11 (.invokevirtual 100) 3 14 := ⟨by decide +kernel, rfl⟩
theorem dX9_limit_14 : Dx cX9_limit 14 (.ireturn) 1 15 := ⟨by decide +kernel, rfl⟩
theorem dX9_memberGoes_0 : Dx cX9_memberGoes 0 (.aload_n 0) 1 1 := ⟨by decide +kernel, rfl⟩
theorem dX9_memberGoes_1 : Dx cX9_memberGoes 1 (.iload_n 1) 1 2 := ⟨by decide +kernel, rfl⟩
theorem dX9_memberGoes_2 : Dx cX9_memberGoes 2 (.iconst 2) 1 3 := ⟨by decide +kernel, rfl⟩
theorem dX9_memberGoes_3 : Dx cX9_memberGoes 3 (.invokevirtual 103) 3 6 := ⟨by decide +kernel, rfl⟩
theorem dX9_memberGoes_6 : Dx cX9_memberGoes 6 (.istore_n 2) 1 7 := ⟨by decide +kernel, rfl⟩
theorem dX9_memberGoes_7 : Dx cX9_memberGoes 7 (.aload_n 0) 1 8 := ⟨by decide +kernel, rfl⟩
theorem dX9_memberGoes_8 : Dx cX9_memberGoes 8 (.iload_n 1) 1 9 := ⟨by decide +kernel, rfl⟩
theorem dX9_memberGoes_9 : Dx cX9_memberGoes 9 (.iconst 1) 1 10 := ⟨by decide +kernel, rfl⟩
theorem dX9_memberGoes_10 : Dx cX9_memberGoes 10 (.invokevirtual 103) 3 13 := ⟨by decide +kernel, rfl⟩
theorem dX9_memberGoes_13 : Dx cX9_memberGoes 13 (.iconst 1) 1 14 := ⟨by decide +kernel, rfl⟩
theorem dX9_memberGoes_14 : Dc cX9_memberGoes 14 (fun o => .if_icmp .ne o) 72 17 := ⟨58, by decide +kernel, by decide, rfl⟩
theorem dX9_memberGoes_17 : Dx cX9_memberGoes 17 (.aload_n 0) 1 18 := ⟨by decide +kernel, rfl⟩
theorem dX9_memberGoes_18 : Dx cX9_memberGoes 18 (.aload_n 0) 1 19 := ⟨by decide +kernel, rfl⟩
theorem dX9_memberGoes_19 : Dx cX9_memberGoes 19 (.iload_n 1) 1 20 := ⟨by decide +kernel, rfl⟩
theorem dX9_memberGoes_20 : Dx cX9_memberGoes 20 (.iconst 3) 1 21 := ⟨by decide +kernel, rfl⟩
theorem dX9_memberGoes_21 : Dx cX9_memberGoes 21 (.invokevirtual 103) 3 24 := ⟨by decide +kernel, rfl⟩
theorem dX9_memberGoes_24 : Dx cX9_memberGoes 24 (.iconst 5) 1 25 := ⟨by decide +kernel, rfl⟩
theorem dX9_memberGoes_25 : Dx cX9_memberGoes 25 (.invokevirtual 72) 3 28 := ⟨by decide +kernel, rfl⟩
theorem dX9_memberGoes_28 : Dx cX9_memberGoes 28 (.iload_n 1) 1 29 := ⟨by decide +kernel, rfl⟩
theorem dX9_memberGoes_29 : Dc cX9_memberGoes 29 (fun o => .if_icmp .ne o) 36 32 := ⟨7, by decide +kernel, by decide, rfl⟩
theorem dX9_memberGoes_32 : Dx cX9_memberGoes 32 (.iconst 1) 1 33 := ⟨by decide +kernel, rfl⟩
theorem dX9_memberGoes_33 : Dc cX9_memberGoes 33 (fun o => .goto o) 37 36 := ⟨4, by decide +kernel, by decide, rfl⟩
theorem dX9_memberGoes_36 : Dx cX9_memberGoes 36 (.iconst 0) 1 37 := ⟨by decide +kernel, rfl⟩
theorem dX9_memberGoes_37 : Dx cX9_memberGoes 37 (.istore_n 3) 1 38 := ⟨by decide +kernel, rfl⟩
theorem dX9_memberGoes_38 : Dx cX9_memberGoes 38 (.aload_n 0) 1 39 := ⟨by decide +kernel, rfl⟩
theorem dX9_memberGoes_39 : Dx cX9_memberGoes 39 (.iload_n 1) 1 40 := ⟨by decide +kernel, rfl⟩
theorem dX9_memberGoes_40 : Dx cX9_memberGoes 40 (.iconst 2) 1 41 := ⟨by decide +kernel, rfl⟩
theorem dX9_memberGoes_41 : Dx cX9_memberGoes 41 (.iload_n 2) 1 42 := ⟨by decide +kernel, rfl⟩
theorem dX9_memberGoes_42 : Dx cX9_memberGoes 42 (.iload_n 3) 1 43 := ⟨by decide +kernel, rfl⟩
theorem dX9_memberGoes_43 : Dc cX9_memberGoes 43 (fun o => .ifCond .eq o) 50 46 := ⟨7, by decide +kernel, by decide, rfl⟩
theorem dX9_memberGoes_46 : Dx cX9_memberGoes 46 (.iconst 2) 1 47 := ⟨by decide +kernel, rfl⟩
theorem dX9_memberGoes_47 : Dc cX9_memberGoes 47 (fun o => .goto o) 51 50 := ⟨4, by decide +kernel, by decide, rfl⟩
theorem dX9_memberGoes_50 : Dx cX9_memberGoes 50 (.iconst 1) 1 51 := ⟨by decide +kernel, rfl⟩
theorem dX9_memberGoes_51 : Dx cX9_memberGoes 51 (.iadd) 1 52 := ⟨by decide +kernel, rfl⟩
theorem dX9_memberGoes_52 : Dx cX9_memberGoes 52 (.invokevirtual 90) 3 55 := ⟨by decide +kernel, rfl⟩
theorem dX9_memberGoes_55 : Dx cX9_memberGoes 55 (.aload_n 0) 1 56 := ⟨by decide +kernel, rfl⟩
theorem dX9_memberGoes_56 : Dx cX9_memberGoes 56 (.iload_n 1) 1 57 := ⟨by decide +kernel, rfl⟩
theorem dX9_memberGoes_57 : Dx cX9_memberGoes 57 (.iconst 4) 1 58 := ⟨by decide +kernel, rfl⟩
theorem dX9_memberGoes_58 : Dx cX9_memberGoes 58 (.aload_n 0) 1 59 := ⟨by decide +kernel, rfl⟩
theorem dX9_memberGoes_59 : Dx cX9_memberGoes 59 (.iload_n 1) 1 60 := ⟨by decide +kernel, rfl⟩
theorem dX9_memberGoes_60 : Dx cX9_memberGoes 60 (.iconst 4) 1 61 := ⟨by decide +kernel, rfl⟩
theorem dX9_memberGoes_61 : Dx cX9_memberGoes 61 (.invokevirtual 103) 3 64 := ⟨by decide +kernel, rfl⟩
theorem dX9_memberGoes_64 : Dx cX9_memberGoes 64 (.iconst 1) 1 65 := ⟨by decide +kernel, rfl⟩
theorem dX9_memberGoes_65 : Dx cX9_memberGoes 65 (.iadd) 1 66 := ⟨by decide +kernel, rfl⟩
theorem dX9_memberGoes_66 : Dx cX9_memberGoes 66 (.invokevirtual 90) 3 69 := ⟨by decide +kernel, rfl⟩
theorem dX9_memberGoes_69 : Dc cX9_memberGoes 69 (fun o => .goto o) 94 72 := ⟨25, by decide +kernel, by decide, rfl⟩
theorem dX9_memberGoes_72 : Dx cX9_memberGoes 72 (.aload_n 0) 1 73 := ⟨by decide +kernel, rfl⟩
theorem dX9_memberGoes_73 : Dx cX9_memberGoes 73 (.iload_n 1) 1 74 := ⟨by decide +kernel, rfl⟩
theorem dX9_memberGoes_74 : Dx cX9_memberGoes 74 (.iconst 1) 1 75 := ⟨by decide +kernel, rfl⟩
theorem dX9_memberGoes_75 : Dx cX9_memberGoes 75 (.invokevirtual 103) 3 78 := ⟨by decide +kernel, rfl⟩
theorem dX9_memberGoes_78 : Dc cX9_memberGoes 78 (fun o => .ifCond .ne o) 94 81 := ⟨16, by decide +kernel, by decide, rfl⟩
theorem dX9_memberGoes_81 : Dx cX9_memberGoes 81 (.aload_n 0) 1 82 := ⟨by decide +kernel, rfl⟩
theorem dX9_memberGoes_82 : Dx cX9_memberGoes 82 (.iload_n 1) 1 83 := ⟨by decide +kernel, rfl⟩
theorem dX9_memberGoes_83 : Dx cX9_memberGoes 83 (.iconst 2) 1 84 := ⟨by decide +kernel, rfl⟩
theorem dX9_memberGoes_84 : Dx cX9_memberGoes 84 (.iconst 0) 1 85 := ⟨by decide +kernel, rfl⟩
theorem dX9_memberGoes_85 : Dx cX9_memberGoes 85 (.iload_n 2) 1 86 := ⟨by decide +kernel, rfl⟩
theorem dX9_memberGoes_86 : Dx cX9_memberGoes 86 (.iconst 1) 1 87 := ⟨by decide +kernel, rfl⟩
theorem dX9_memberGoes_87 : Dx cX9_memberGoes 87 (.isub) 1 88 := ⟨by decide +kernel, rfl⟩
theorem dX9_memberGoes_88 : Dx cX9_memberGoes 88 (.invokestatic 186) 3 91 := ⟨by decide +kernel, rfl⟩
theorem dX9_memberGoes_91 : Dx cX9_memberGoes 91 (.invokevirtual 90) 3 94 := ⟨by decide +kernel, rfl⟩
theorem dX9_memberGoes_94 : Dx cX9_memberGoes 94 (.return_) 1 95 := ⟨by decide +kernel, rfl⟩
theorem dX9_comesIn_0 : Dx cX9_comesIn 0 (.iconst 0) 1 1 := ⟨by decide +kernel, rfl⟩
theorem dX9_comesIn_1 : Dx cX9_comesIn 1 (.istore_n 2) 1 2 := ⟨by decide +kernel, rfl⟩
theorem dX9_comesIn_2 : Dx cX9_comesIn 2 (.iload_n 2) 1 3 := ⟨by decide +kernel, rfl⟩
theorem dX9_comesIn_3 : Dx cX9_comesIn 3 (.aload_n 0) 1 4 := ⟨by decide +kernel, rfl⟩
theorem dX9_comesIn_4 : Dx cX9_comesIn 4 (.getfield 9) 3 7 := ⟨by decide +kernel, rfl⟩
theorem dX9_comesIn_7 : Dx cX9_comesIn 7 (.iconst 1) 1 8 := ⟨by decide +kernel, rfl⟩
theorem dX9_comesIn_8 : Dx cX9_comesIn 8 (.iaload) 1 9 := ⟨by decide +kernel, rfl⟩
theorem dX9_comesIn_9 : Dc cX9_comesIn 9 (fun o => .if_icmp .ge o) 52 12 := ⟨43, by decide +kernel, by decide, rfl⟩
theorem dX9_comesIn_12 : Dx cX9_comesIn 12 (.aload_n 0) 1 13 := ⟨by decide +kernel, rfl⟩
theorem dX9_comesIn_13 : Dx cX9_comesIn 13 (.iload_n 2) 1 14 := ⟨by decide +kernel, rfl⟩
theorem dX9_comesIn_14 : Dx cX9_comesIn 14 (.iconst 1) 1 15 := ⟨by decide +kernel, rfl⟩
theorem dX9_comesIn_15 : Dx cX9_comesIn 15 (.invokevirtual 103) 3 18 := ⟨by decide +kernel, rfl⟩
theorem dX9_comesIn_18 : Dx cX9_comesIn 18 (.iconst 1) 1 19 := ⟨by decide +kernel, rfl⟩
theorem dX9_comesIn_19 : Dc cX9_comesIn 19 (fun o => .if_icmp .ne o) 46 22 := ⟨27, by decide +kernel, by decide, rfl⟩
theorem dX9_comesIn_22 : Dx cX9_comesIn 22 (.aload_n 0) 1 23 := ⟨by decide +kernel, rfl⟩
theorem dX9_comesIn_23 : Dx cX9_comesIn 23 (.iload_n 2) 1 24 := ⟨by decide +kernel, rfl⟩
theorem dX9_comesIn_24 : Dx cX9_comesIn 24 (.iconst 3) 1 25 := ⟨by decide +kernel, rfl⟩
theorem dX9_comesIn_25 : Dx cX9_comesIn 25 (.invokevirtual 103) 3 28 := ⟨by decide +kernel, rfl⟩
theorem dX9_comesIn_28 : Dx cX9_comesIn 28 (.iload_n 1) 1 29 := ⟨by decide +kernel, rfl⟩
theorem dX9_comesIn_29 : Dc cX9_comesIn 29 (fun o => .if_icmp .ne o) 46 32 := ⟨17, by decide +kernel, by decide, rfl⟩
theorem dX9_comesIn_32 : Dx cX9_comesIn 32 (.aload_n 0) 1 33 := ⟨by decide +kernel, rfl⟩
theorem dX9_comesIn_33 : Dx cX9_comesIn 33 (.iload_n 2) 1 34 := ⟨by decide +kernel, rfl⟩
theorem dX9_comesIn_34 : Dx cX9_comesIn 34 (.iconst 1) 1 35 := ⟨by decide +kernel, rfl⟩
theorem dX9_comesIn_35 : Dx cX9_comesIn 35 (.iconst 0) 1 36 := ⟨by decide +kernel, rfl⟩
theorem dX9_comesIn_36 : Dx cX9_comesIn 36 (.invokevirtual 90) 3 39 := ⟨by decide +kernel, rfl⟩
theorem dX9_comesIn_39 : Dx cX9_comesIn 39 (.aload_n 0) 1 40 := ⟨by decide +kernel, rfl⟩
theorem dX9_comesIn_40 : Dx cX9_comesIn 40 (.iload_n 2) 1 41 := ⟨by decide +kernel, rfl⟩
theorem dX9_comesIn_41 : Dx cX9_comesIn 41 (.iconst 3) 1 42 := ⟨by decide +kernel, rfl⟩
theorem dX9_comesIn_42 : Dx cX9_comesIn 42 (.iconst (-1)) 1 43 := ⟨by decide +kernel, rfl⟩
theorem dX9_comesIn_43 : Dx cX9_comesIn 43 (.invokevirtual 90) 3 46 := ⟨by decide +kernel, rfl⟩
theorem dX9_comesIn_46 : Dx cX9_comesIn 46 (.iinc 2 1) 3 49 := ⟨by decide +kernel, rfl⟩
theorem dX9_comesIn_49 : Dc cX9_comesIn 49 (fun o => .goto o) 2 52 := ⟨(-47), by decide +kernel, by decide, rfl⟩
theorem dX9_comesIn_52 : Dx cX9_comesIn 52 (.aload_n 0) 1 53 := ⟨by decide +kernel, rfl⟩
theorem dX9_comesIn_53 : Dx cX9_comesIn 53 (.iload_n 1) 1 54 := ⟨by decide +kernel, rfl⟩
theorem dX9_comesIn_54 : Dx cX9_comesIn 54 (.iconst 2) 1 55 := ⟨by decide +kernel, rfl⟩
theorem dX9_comesIn_55 : Dx cX9_comesIn 55 (.iconst 0) 1 56 := ⟨by decide +kernel, rfl⟩
theorem dX9_comesIn_56 : Dx cX9_comesIn 56 (.invokevirtual 125) 3 59 := ⟨by decide +kernel, rfl⟩
theorem dX9_comesIn_59 : Dx cX9_comesIn 59 (.aload_n 0) 1 60 := ⟨by decide +kernel, rfl⟩
theorem dX9_comesIn_60 : Dx cX9_comesIn 60 (.iload_n 1) 1 61 := ⟨by decide +kernel, rfl⟩
theorem dX9_comesIn_61 : Dx cX9_comesIn 61 (.iconst 5) 1 62 := ⟨by decide +kernel, rfl⟩
theorem dX9_comesIn_62 : Dx cX9_comesIn 62 (.iconst (-1)) 1 63 := ⟨by decide +kernel, rfl⟩
theorem dX9_comesIn_63 : Dx cX9_comesIn 63 (.invokevirtual 125) 3 66 := ⟨by decide +kernel, rfl⟩
theorem dX9_comesIn_66 : Dx cX9_comesIn 66 (.aload_n 0) 1 67 := ⟨by decide +kernel, rfl⟩
theorem dX9_comesIn_67 : Dx cX9_comesIn 67 (.getfield 9) 3 70 := ⟨by decide +kernel, rfl⟩
theorem dX9_comesIn_70 : Dx cX9_comesIn 70 (.iconst 5) 1 71 := ⟨by decide +kernel, rfl⟩
theorem dX9_comesIn_71 : Dx cX9_comesIn 71 (.dup2) 1 72 := ⟨by decide +kernel, rfl⟩
theorem dX9_comesIn_72 : Dx cX9_comesIn 72 (.iaload) 1 73 := ⟨by decide +kernel, rfl⟩
theorem dX9_comesIn_73 : Dx cX9_comesIn 73 (.iconst 1) 1 74 := ⟨by decide +kernel, rfl⟩
theorem dX9_comesIn_74 : Dx cX9_comesIn 74 (.iadd) 1 75 := ⟨by decide +kernel, rfl⟩
theorem dX9_comesIn_75 : Dx cX9_comesIn 75 (.iastore) 1 76 := ⟨by decide +kernel, rfl⟩
theorem dX9_comesIn_76 : Dx cX9_comesIn 76 (.return_) 1 77 := ⟨by decide +kernel, rfl⟩
theorem dX9_boatGoes_0 : Dx cX9_boatGoes 0 (.aload_n 0) 1 1 := ⟨by decide +kernel, rfl⟩
theorem dX9_boatGoes_1 : Dx cX9_boatGoes 1 (.iload_n 1) 1 2 := ⟨by decide +kernel, rfl⟩
theorem dX9_boatGoes_2 : Dx cX9_boatGoes 2 (.iconst 2) 1 3 := ⟨by decide +kernel, rfl⟩
theorem dX9_boatGoes_3 : Dx cX9_boatGoes 3 (.invokevirtual 72) 3 6 := ⟨by decide +kernel, rfl⟩
theorem dX9_boatGoes_6 : Dc cX9_boatGoes 6 (fun o => .ifCond .ne o) 10 9 := ⟨4, by decide +kernel, by decide, rfl⟩
theorem dX9_boatGoes_9 : Dx cX9_boatGoes 9 (.return_) 1 10 := ⟨by decide +kernel, rfl⟩
theorem dX9_boatGoes_10 : Dx cX9_boatGoes 10 (.aload_n 0) 1 11 := ⟨by decide +kernel, rfl⟩
theorem dX9_boatGoes_11 : Dx cX9_boatGoes 11 (.iload_n 1) 1 12 := ⟨by decide +kernel, rfl⟩
theorem dX9_boatGoes_12 : Dx cX9_boatGoes 12 (.iconst 3) 1 13 := ⟨by decide +kernel, rfl⟩
theorem dX9_boatGoes_13 : Dx cX9_boatGoes 13 (.iconst 0) 1 14 := ⟨by decide +kernel, rfl⟩
theorem dX9_boatGoes_14 : Dx cX9_boatGoes 14 (.aload_n 0) 1 15 := ⟨by decide +kernel, rfl⟩
theorem dX9_boatGoes_15 : Dx cX9_boatGoes 15 (.iload_n 1) 1 16 := ⟨by decide +kernel, rfl⟩
theorem dX9_boatGoes_16 : Dx cX9_boatGoes 16 (.iconst 3) 1 17 := ⟨by decide +kernel, rfl⟩
theorem dX9_boatGoes_17 : Dx cX9_boatGoes 17 (.invokevirtual 72) 3 20 := ⟨by decide +kernel, rfl⟩
theorem dX9_boatGoes_20 : Dx cX9_boatGoes 20 (.iconst 1) 1 21 := ⟨by decide +kernel, rfl⟩
theorem dX9_boatGoes_21 : Dx cX9_boatGoes 21 (.isub) 1 22 := ⟨by decide +kernel, rfl⟩
theorem dX9_boatGoes_22 : Dx cX9_boatGoes 22 (.invokestatic 186) 3 25 := ⟨by decide +kernel, rfl⟩
theorem dX9_boatGoes_25 : Dx cX9_boatGoes 25 (.invokevirtual 125) 3 28 := ⟨by decide +kernel, rfl⟩
theorem dX9_boatGoes_28 : Dx cX9_boatGoes 28 (.aload_n 0) 1 29 := ⟨by decide +kernel, rfl⟩
theorem dX9_boatGoes_29 : Dx cX9_boatGoes 29 (.iload_n 1) 1 30 := ⟨by decide +kernel, rfl⟩
theorem dX9_boatGoes_30 : Dx cX9_boatGoes 30 (.iconst 3) 1 31 := ⟨by decide +kernel, rfl⟩
theorem dX9_boatGoes_31 : Dx cX9_boatGoes 31 (.invokevirtual 72) 3 34 := ⟨by decide +kernel, rfl⟩
theorem dX9_boatGoes_34 : Dc cX9_boatGoes 34 (fun o => .ifCond .le o) 38 37 := ⟨4, by decide +kernel, by decide, rfl⟩
theorem dX9_boatGoes_37 : Dx cX9_boatGoes 37 (.return_) 1 38 := ⟨by decide +kernel, rfl⟩
theorem dX9_boatGoes_38 : Dx cX9_boatGoes 38 (.aload_n 0) 1 39 := ⟨by decide +kernel, rfl⟩
theorem dX9_boatGoes_39 : Dx cX9_boatGoes 39 (.iload_n 1) 1 40 := ⟨by decide +kernel, rfl⟩
theorem dX9_boatGoes_40 : Dx cX9_boatGoes 40 (.invokevirtual 146) 3 43 := ⟨by decide +kernel, rfl⟩
theorem dX9_boatGoes_43 : Dc cX9_boatGoes 43 (fun o => .ifCond .eq o) 63 46 := ⟨20, by decide +kernel, by decide, rfl⟩
theorem dX9_boatGoes_46 : Dx cX9_boatGoes 46 (.aload_n 0) 1 47 := ⟨by decide +kernel, rfl⟩
theorem dX9_boatGoes_47 : Dx cX9_boatGoes 47 (.iload_n 1) 1 48 := ⟨by decide +kernel, rfl⟩
theorem dX9_boatGoes_48 : Dx cX9_boatGoes 48 (.iconst 4) 1 49 := ⟨by decide +kernel, rfl⟩
theorem dX9_boatGoes_49 : Dx cX9_boatGoes 49 (.aload_n 0) 1 50 := ⟨by decide +kernel, rfl⟩
theorem dX9_boatGoes_50 : Dx cX9_boatGoes 50 (.iload_n 1) 1 51 := ⟨by decide +kernel, rfl⟩
theorem dX9_boatGoes_51 : Dx cX9_boatGoes 51 (.iconst 4) 1 52 := ⟨by decide +kernel, rfl⟩
theorem dX9_boatGoes_52 : Dx cX9_boatGoes 52 (.invokevirtual 72) 3 55 := ⟨by decide +kernel, rfl⟩
theorem dX9_boatGoes_55 : Dx cX9_boatGoes 55 (.iconst 1) 1 56 := ⟨by decide +kernel, rfl⟩
theorem dX9_boatGoes_56 : Dx cX9_boatGoes 56 (.iadd) 1 57 := ⟨by decide +kernel, rfl⟩
theorem dX9_boatGoes_57 : Dx cX9_boatGoes 57 (.invokevirtual 125) 3 60 := ⟨by decide +kernel, rfl⟩
theorem dX9_boatGoes_60 : Dc cX9_boatGoes 60 (fun o => .goto o) 68 63 := ⟨8, by decide +kernel, by decide, rfl⟩
theorem dX9_boatGoes_63 : Dx cX9_boatGoes 63 (.aload_n 0) 1 64 := ⟨by decide +kernel, rfl⟩
theorem dX9_boatGoes_64 : Dx cX9_boatGoes 64 (.iload_n 1) 1 65 := ⟨by decide +kernel, rfl⟩
theorem dX9_boatGoes_65 : Dx cX9_boatGoes 65 (.invokevirtual 189) 3 68 := ⟨by decide +kernel, rfl⟩
theorem dX9_boatGoes_68 : Dx cX9_boatGoes 68 (.return_) 1 69 := ⟨by decide +kernel, rfl⟩
theorem dX9_loansGo_0 : Dx cX9_loansGo 0 (.iconst 0) 1 1 := ⟨by decide +kernel, rfl⟩
theorem dX9_loansGo_1 : Dx cX9_loansGo 1 (.istore_n 1) 1 2 := ⟨by decide +kernel, rfl⟩
theorem dX9_loansGo_2 : Dx cX9_loansGo 2 (.iload_n 1) 1 3 := ⟨by decide +kernel, rfl⟩
theorem dX9_loansGo_3 : Dx cX9_loansGo 3 (.aload_n 0) 1 4 := ⟨by decide +kernel, rfl⟩
theorem dX9_loansGo_4 : Dx cX9_loansGo 4 (.getfield 9) 3 7 := ⟨by decide +kernel, rfl⟩
theorem dX9_loansGo_7 : Dx cX9_loansGo 7 (.iconst 3) 1 8 := ⟨by decide +kernel, rfl⟩
theorem dX9_loansGo_8 : Dx cX9_loansGo 8 (.iaload) 1 9 := ⟨by decide +kernel, rfl⟩
theorem dX9_loansGo_9 : Dc cX9_loansGo 9 (fun o => .if_icmp .ge o) 130 12 := ⟨121, by decide +kernel, by decide, rfl⟩
theorem dX9_loansGo_12 : Dx cX9_loansGo 12 (.bipush 99) 2 14 := ⟨by decide +kernel, rfl⟩
theorem dX9_loansGo_14 : Dx cX9_loansGo 14 (.iconst 3) 1 15 := ⟨by decide +kernel, rfl⟩
theorem dX9_loansGo_15 : Dx cX9_loansGo 15 (.iload_n 1) 1 16 := ⟨by decide +kernel, rfl⟩
theorem dX9_loansGo_16 : Dx cX9_loansGo 16 (.imul) 1 17 := ⟨by decide +kernel, rfl⟩
theorem dX9_loansGo_17 : Dx cX9_loansGo 17 (.iadd) 1 18 := ⟨by decide +kernel, rfl⟩
theorem dX9_loansGo_18 : Dx cX9_loansGo 18 (.istore_n 2) 1 19 := ⟨by decide +kernel, rfl⟩
theorem dX9_loansGo_19 : Dx cX9_loansGo 19 (.aload_n 0) 1 20 := ⟨by decide +kernel, rfl⟩
theorem dX9_loansGo_20 : Dx cX9_loansGo 20 (.getfield 9) 3 23 := ⟨by decide +kernel, rfl⟩
theorem dX9_loansGo_23 : Dx cX9_loansGo 23 (.iload_n 2) 1 24 := ⟨by decide +kernel, rfl⟩
theorem dX9_loansGo_24 : Dx cX9_loansGo 24 (.iconst 1) 1 25 := ⟨by decide +kernel, rfl⟩
theorem dX9_loansGo_25 : Dx cX9_loansGo 25 (.iadd) 1 26 := ⟨by decide +kernel, rfl⟩
theorem dX9_loansGo_26 : Dx cX9_loansGo 26 (.iconst 0) 1 27 := ⟨by decide +kernel, rfl⟩
theorem dX9_loansGo_27 : Dx cX9_loansGo 27 (.aload_n 0) 1 28 := ⟨by decide +kernel, rfl⟩
theorem dX9_loansGo_28 : Dx cX9_loansGo 28 (.getfield 9) 3 31 := ⟨by decide +kernel, rfl⟩
theorem dX9_loansGo_31 : Dx cX9_loansGo 31 (.iload_n 2) 1 32 := ⟨by decide +kernel, rfl⟩
theorem dX9_loansGo_32 : Dx cX9_loansGo 32 (.iconst 1) 1 33 := ⟨by decide +kernel, rfl⟩
theorem dX9_loansGo_33 : Dx cX9_loansGo 33 (.iadd) 1 34 := ⟨by decide +kernel, rfl⟩
theorem dX9_loansGo_34 : Dx cX9_loansGo 34 (.iaload) 1 35 := ⟨by decide +kernel, rfl⟩
theorem dX9_loansGo_35 : Dx cX9_loansGo 35 (.iconst 1) 1 36 := ⟨by decide +kernel, rfl⟩
theorem dX9_loansGo_36 : Dx cX9_loansGo 36 (.isub) 1 37 := ⟨by decide +kernel, rfl⟩
theorem dX9_loansGo_37 : Dx cX9_loansGo 37 (.invokestatic 186) 3 40 := ⟨by decide +kernel, rfl⟩
theorem dX9_loansGo_40 : Dx cX9_loansGo 40 (.iastore) 1 41 := ⟨by decide +kernel, rfl⟩
theorem dX9_loansGo_41 : Dx cX9_loansGo 41 (.aload_n 0) 1 42 := ⟨by decide +kernel, rfl⟩
theorem dX9_loansGo_42 : Dx cX9_loansGo 42 (.getfield 9) 3 45 := ⟨by decide +kernel, rfl⟩
theorem dX9_loansGo_45 : Dx cX9_loansGo 45 (.iload_n 2) 1 46 := ⟨by decide +kernel, rfl⟩
theorem dX9_loansGo_46 : Dx cX9_loansGo 46 (.iconst 1) 1 47 := ⟨by decide +kernel, rfl⟩
theorem dX9_loansGo_47 : Dx cX9_loansGo 47 (.iadd) 1 48 := ⟨by decide +kernel, rfl⟩
theorem dX9_loansGo_48 : Dx cX9_loansGo 48 (.iaload) 1 49 := ⟨by decide +kernel, rfl⟩
theorem dX9_loansGo_49 : Dc cX9_loansGo 49 (fun o => .ifCond .ne o) 56 52 := ⟨7, by decide +kernel, by decide, rfl⟩
theorem dX9_loansGo_52 : Dx cX9_loansGo 52 (.iconst 1) 1 53 := ⟨by decide +kernel, rfl⟩
theorem dX9_loansGo_53 : Dc cX9_loansGo 53 (fun o => .goto o) 57 56 := ⟨4, by decide +kernel, by decide, rfl⟩
theorem dX9_loansGo_56 : Dx cX9_loansGo 56 (.iconst 0) 1 57 := ⟨by decide +kernel, rfl⟩
theorem dX9_loansGo_57 : Dx cX9_loansGo 57 (.istore_n 3) 1 58 := ⟨by decide +kernel, rfl⟩
theorem dX9_loansGo_58 : Dx cX9_loansGo 58 (.iload_n 3) 1 59 := ⟨by decide +kernel, rfl⟩
theorem dX9_loansGo_59 : Dc cX9_loansGo 59 (fun o => .ifCond .eq o) 85 62 := ⟨26, by decide +kernel, by decide, rfl⟩
theorem dX9_loansGo_62 : Dx cX9_loansGo 62 (.aload_n 0) 1 63 := ⟨by decide +kernel, rfl⟩
theorem dX9_loansGo_63 : Dx cX9_loansGo 63 (.invokevirtual 152) 3 66 := ⟨by decide +kernel, rfl⟩
theorem dX9_loansGo_66 : Dx cX9_loansGo 66 (.aload_n 0) 1 67 := ⟨by decide +kernel, rfl⟩
theorem dX9_loansGo_67 : Dx cX9_loansGo 67 (.getfield 9) 3 70 := ⟨by decide +kernel, rfl⟩
theorem dX9_loansGo_70 : Dx cX9_loansGo 70 (.iload_n 2) 1 71 := ⟨by decide +kernel, rfl⟩
theorem dX9_loansGo_71 : Dx cX9_loansGo 71 (.iconst 0) 1 72 := ⟨by decide +kernel, rfl⟩
theorem dX9_loansGo_72 : Dx cX9_loansGo 72 (.iadd) 1 73 := ⟨by decide +kernel, rfl⟩
theorem dX9_loansGo_73 : Dx cX9_loansGo 73 (.iaload) 1 74 := ⟨by decide +kernel, rfl⟩
theorem dX9_loansGo_74 : Dc cX9_loansGo 74 (fun o => .if_icmp .lt o) 85 77 := ⟨11, by decide +kernel, by decide, rfl⟩
theorem dX9_loansGo_77 : Dx cX9_loansGo 77 (.aload_n 0) 1 78 := ⟨by decide +kernel, rfl⟩
theorem dX9_loansGo_78 : Dx cX9_loansGo 78 (.iload_n 1) 1 79 := ⟨by decide +kernel, rfl⟩
theorem dX9_loansGo_79 : Dx cX9_loansGo 79 (.invokevirtual 176) 3 82 := ⟨by decide +kernel, rfl⟩
theorem dX9_loansGo_82 : Dc cX9_loansGo 82 (fun o => .goto o) 127 85 := ⟨45, by decide +kernel, by decide, rfl⟩
theorem dX9_loansGo_85 : Dx cX9_loansGo 85 (.aload_n 0) 1 86 := ⟨by decide +kernel, rfl⟩
theorem dX9_loansGo_86 : Dx cX9_loansGo 86 (.getfield 9) 3 89 := ⟨by decide +kernel, rfl⟩
theorem dX9_loansGo_89 : Dx cX9_loansGo 89 (.iload_n 2) 1 90 := ⟨by decide +kernel, rfl⟩
theorem dX9_loansGo_90 : Dx cX9_loansGo 90 (.iconst 2) 1 91 := ⟨by decide +kernel, rfl⟩
theorem dX9_loansGo_91 : Dx cX9_loansGo 91 (.iadd) 1 92 := ⟨by decide +kernel, rfl⟩
theorem dX9_loansGo_92 : Dx cX9_loansGo 92 (.dup2) 1 93 := ⟨by decide +kernel, rfl⟩
theorem dX9_loansGo_93 : Dx cX9_loansGo 93 (.iaload) 1 94 := ⟨by decide +kernel, rfl⟩
theorem dX9_loansGo_94 : Dx cX9_loansGo 94 (.iload_n 3) 1 95 := ⟨by decide +kernel, rfl⟩
theorem dX9_loansGo_95 : Dc cX9_loansGo 95 (fun o => .ifCond .eq o) 102 98 := ⟨7, by decide +kernel, by decide, rfl⟩
theorem dX9_loansGo_98 : Dx cX9_loansGo 98 (.iconst 1) 1 99 := ⟨by decide +kernel, rfl⟩
theorem dX9_loansGo_99 : Dc cX9_loansGo 99 (fun o => .goto o) 103 102 := ⟨4, by decide +kernel, by decide, rfl⟩
theorem dX9_loansGo_102 : Dx cX9_loansGo 102 (.iconst 0) 1 103 := ⟨by decide +kernel, rfl⟩
theorem dX9_loansGo_103 : Dx cX9_loansGo 103 (.iadd) 1 104 := ⟨by decide +kernel, rfl⟩
theorem dX9_loansGo_104 : Dx cX9_loansGo 104 (.iastore) 1 105 := ⟨by decide +kernel, rfl⟩
theorem dX9_loansGo_105 : Dx cX9_loansGo 105 (.aload_n 0) 1 106 := ⟨by decide +kernel, rfl⟩
theorem dX9_loansGo_106 : Dx cX9_loansGo 106 (.getfield 9) 3 109 := ⟨by decide +kernel, rfl⟩
theorem dX9_loansGo_109 : Dx cX9_loansGo 109 (.bipush 6) 2 111 := ⟨by decide +kernel, rfl⟩
theorem dX9_loansGo_111 : Dx cX9_loansGo 111 (.dup2) 1 112 := ⟨by decide +kernel, rfl⟩
theorem dX9_loansGo_112 : Dx cX9_loansGo 112 (.iaload) 1 113 := ⟨by decide +kernel, rfl⟩
theorem dX9_loansGo_113 : Dx cX9_loansGo 113 (.iload_n 3) 1 114 := ⟨by decide +kernel, rfl⟩
theorem dX9_loansGo_114 : Dc cX9_loansGo 114 (fun o => .ifCond .eq o) 121 117 := ⟨7, by decide +kernel, by decide, rfl⟩
theorem dX9_loansGo_117 : Dx cX9_loansGo 117 (.iconst 1) 1 118 := ⟨by decide +kernel, rfl⟩
theorem dX9_loansGo_118 : Dc cX9_loansGo 118 (fun o => .goto o) 122 121 := ⟨4, by decide +kernel, by decide, rfl⟩
theorem dX9_loansGo_121 : Dx cX9_loansGo 121 (.iconst 0) 1 122 := ⟨by decide +kernel, rfl⟩
theorem dX9_loansGo_122 : Dx cX9_loansGo 122 (.iadd) 1 123 := ⟨by decide +kernel, rfl⟩
theorem dX9_loansGo_123 : Dx cX9_loansGo 123 (.iastore) 1 124 := ⟨by decide +kernel, rfl⟩
theorem dX9_loansGo_124 : Dx cX9_loansGo 124 (.iinc 1 1) 3 127 := ⟨by decide +kernel, rfl⟩
theorem dX9_loansGo_127 : Dc cX9_loansGo 127 (fun o => .goto o) 2 130 := ⟨(-125), by decide +kernel, by decide, rfl⟩
theorem dX9_loansGo_130 : Dx cX9_loansGo 130 (.return_) 1 131 := ⟨by decide +kernel, rfl⟩
theorem dX9_hourGoes_0 : Dx cX9_hourGoes 0 (.aload_n 0) 1 1 := ⟨by decide +kernel, rfl⟩
theorem dX9_hourGoes_1 : Dx cX9_hourGoes 1 (.getfield 9) 3 4 := ⟨by decide +kernel, rfl⟩
theorem dX9_hourGoes_4 : Dx cX9_hourGoes 4 (.iconst 0) 1 5 := ⟨by decide +kernel, rfl⟩
theorem dX9_hourGoes_5 : Dx cX9_hourGoes 5 (.dup2) 1 6 := ⟨by decide +kernel, rfl⟩
theorem dX9_hourGoes_6 : Dx cX9_hourGoes 6 (.iaload) 1 7 := ⟨by decide +kernel, rfl⟩
theorem dX9_hourGoes_7 : Dx cX9_hourGoes 7 (.iconst 1) 1 8 := ⟨by decide +kernel, rfl⟩
theorem dX9_hourGoes_8 : Dx cX9_hourGoes 8 (.iadd) 1 9 := ⟨by decide +kernel, rfl⟩
theorem dX9_hourGoes_9 : Dx cX9_hourGoes 9 (.iastore) 1 10 := ⟨by decide +kernel, rfl⟩
theorem dX9_hourGoes_10 : Dx cX9_hourGoes 10 (.iconst 0) 1 11 := ⟨by decide +kernel, rfl⟩
theorem dX9_hourGoes_11 : Dx cX9_hourGoes 11 (.istore_n 1) 1 12 := ⟨by decide +kernel, rfl⟩
theorem dX9_hourGoes_12 : Dx cX9_hourGoes 12 (.iload_n 1) 1 13 := ⟨by decide +kernel, rfl⟩
theorem dX9_hourGoes_13 : Dx cX9_hourGoes 13 (.aload_n 0) 1 14 := ⟨by decide +kernel, rfl⟩
theorem dX9_hourGoes_14 : Dx cX9_hourGoes 14 (.getfield 9) 3 17 := ⟨by decide +kernel, rfl⟩
theorem dX9_hourGoes_17 : Dx cX9_hourGoes 17 (.iconst 1) 1 18 := ⟨by decide +kernel, rfl⟩
theorem dX9_hourGoes_18 : Dx cX9_hourGoes 18 (.iaload) 1 19 := ⟨by decide +kernel, rfl⟩
theorem dX9_hourGoes_19 : Dc cX9_hourGoes 19 (fun o => .if_icmp .ge o) 33 22 := ⟨14, by decide +kernel, by decide, rfl⟩
theorem dX9_hourGoes_22 : Dx cX9_hourGoes 22 (.aload_n 0) 1 23 := ⟨by decide +kernel, rfl⟩
theorem dX9_hourGoes_23 : Dx cX9_hourGoes 23 (.iload_n 1) 1 24 := ⟨by decide +kernel, rfl⟩
theorem dX9_hourGoes_24 : Dx cX9_hourGoes 24 (.invokevirtual 192) 3 27 := ⟨by decide +kernel, rfl⟩
theorem dX9_hourGoes_27 : Dx cX9_hourGoes 27 (.iinc 1 1) 3 30 := ⟨by decide +kernel, rfl⟩
theorem dX9_hourGoes_30 : Dc cX9_hourGoes 30 (fun o => .goto o) 12 33 := ⟨(-18), by decide +kernel, by decide, rfl⟩
theorem dX9_hourGoes_33 : Dx cX9_hourGoes 33 (.iconst 0) 1 34 := ⟨by decide +kernel, rfl⟩
theorem dX9_hourGoes_34 : Dx cX9_hourGoes 34 (.istore_n 1) 1 35 := ⟨by decide +kernel, rfl⟩
theorem dX9_hourGoes_35 : Dx cX9_hourGoes 35 (.iload_n 1) 1 36 := ⟨by decide +kernel, rfl⟩
theorem dX9_hourGoes_36 : Dx cX9_hourGoes 36 (.aload_n 0) 1 37 := ⟨by decide +kernel, rfl⟩
theorem dX9_hourGoes_37 : Dx cX9_hourGoes 37 (.getfield 9) 3 40 := ⟨by decide +kernel, rfl⟩
theorem dX9_hourGoes_40 : Dx cX9_hourGoes 40 (.iconst 2) 1 41 := ⟨by decide +kernel, rfl⟩
theorem dX9_hourGoes_41 : Dx cX9_hourGoes 41 (.iaload) 1 42 := ⟨by decide +kernel, rfl⟩
theorem dX9_hourGoes_42 : Dc cX9_hourGoes 42 (fun o => .if_icmp .ge o) 56 45 := ⟨14, by decide +kernel, by decide, rfl⟩
theorem dX9_hourGoes_45 : Dx cX9_hourGoes 45 (.aload_n 0) 1 46 := ⟨by decide +kernel, rfl⟩
theorem dX9_hourGoes_46 : Dx cX9_hourGoes 46 (.iload_n 1) 1 47 := ⟨by decide +kernel, rfl⟩
theorem dX9_hourGoes_47 : Dx cX9_hourGoes 47 (.invokevirtual 195) 3 50 := ⟨by decide +kernel, rfl⟩
theorem dX9_hourGoes_50 : Dx cX9_hourGoes 50 (.iinc 1 1) 3 53 := ⟨by decide +kernel, rfl⟩
theorem dX9_hourGoes_53 : Dc cX9_hourGoes 53 (fun o => .goto o) 35 56 := ⟨(-18), by decide +kernel, by decide, rfl⟩
theorem dX9_hourGoes_56 : Dx cX9_hourGoes 56 (.aload_n 0) 1 57 := ⟨by decide +kernel, rfl⟩
theorem dX9_hourGoes_57 : Dx cX9_hourGoes 57 (.invokevirtual 198) 3 60 := ⟨by decide +kernel, rfl⟩
theorem dX9_hourGoes_60 : Dx cX9_hourGoes 60 (.return_) 1 61 := ⟨by decide +kernel, rfl⟩
theorem dX9_passes_0 : Dx cX9_passes 0 (.aload_n 0) 1 1 := ⟨by decide +kernel, rfl⟩
theorem dX9_passes_1 : Dx cX9_passes 1 (.iload_n 1) 1 2 := ⟨by decide +kernel, rfl⟩
theorem dX9_passes_2 : Dx cX9_passes 2 (.iconst 1) 1 3 := ⟨by decide +kernel, rfl⟩
theorem dX9_passes_3 : Dx cX9_passes 3 (.bipush 99) 2 5 := ⟨by decide +kernel, rfl⟩
theorem dX9_passes_5 : Dx cX9_passes 5 (.invokestatic 60) 3 8 := ⟨by decide +kernel, rfl⟩
theorem dX9_passes_8 : Dx cX9_passes 8 (.invokevirtual 86) 3 11 := ⟨by decide +kernel, rfl⟩
theorem dX9_passes_11 : Dc cX9_passes 11 (fun o => .ifCond .eq o) 16 14 := ⟨5, by decide +kernel, by decide, rfl⟩
theorem dX9_passes_14 : Dx cX9_passes 14 (.iconst 0) 1 15 := ⟨by decide +kernel, rfl⟩
theorem dX9_passes_15 : Dx cX9_passes 15 (.ireturn) 1 16 := ⟨by decide +kernel, rfl⟩
theorem dX9_passes_16 : Dx cX9_passes 16 (.aload_n 0) 1 17 := ⟨by decide +kernel, rfl⟩
theorem dX9_passes_17 : Dx cX9_passes 17 (.getfield 9) 3 20 := ⟨by decide +kernel, rfl⟩
theorem dX9_passes_20 : Dx cX9_passes 20 (.iconst 5) 1 21 := ⟨by decide +kernel, rfl⟩
theorem dX9_passes_21 : Dx cX9_passes 21 (.iaload) 1 22 := ⟨by decide +kernel, rfl⟩
theorem dX9_passes_22 : Dx cX9_passes 22 (.istore_n 2) 1 23 := ⟨by decide +kernel, rfl⟩
theorem dX9_passes_23 : Dx cX9_passes 23 (.iconst 0) 1 24 := ⟨by decide +kernel, rfl⟩
theorem dX9_passes_24 : Dx cX9_passes 24 (.istore_n 3) 1 25 := ⟨by decide +kernel, rfl⟩
theorem dX9_passes_25 : Dx cX9_passes 25 (.iload_n 3) 1 26 := ⟨by decide +kernel, rfl⟩
theorem dX9_passes_26 : Dx cX9_passes 26 (.iload_n 1) 1 27 := ⟨by decide +kernel, rfl⟩
theorem dX9_passes_27 : Dc cX9_passes 27 (fun o => .if_icmp .ge o) 40 30 := ⟨13, by decide +kernel, by decide, rfl⟩
theorem dX9_passes_30 : Dx cX9_passes 30 (.aload_n 0) 1 31 := ⟨by decide +kernel, rfl⟩
theorem dX9_passes_31 : Dx cX9_passes 31 (.invokevirtual 201) 3 34 := ⟨by decide +kernel, rfl⟩
theorem dX9_passes_34 : Dx cX9_passes 34 (.iinc 3 1) 3 37 := ⟨by decide +kernel, rfl⟩
theorem dX9_passes_37 : Dc cX9_passes 37 (fun o => .goto o) 25 40 := ⟨(-12), by decide +kernel, by decide, rfl⟩
theorem dX9_passes_40 : Dx cX9_passes 40 (.aload_n 0) 1 41 := ⟨by decide +kernel, rfl⟩
theorem dX9_passes_41 : Dx cX9_passes 41 (.getfield 9) 3 44 := ⟨by decide +kernel, rfl⟩
theorem dX9_passes_44 : Dx cX9_passes 44 (.iconst 5) 1 45 := ⟨by decide +kernel, rfl⟩
theorem dX9_passes_45 : Dx cX9_passes 45 (.iaload) 1 46 := ⟨by decide +kernel, rfl⟩
theorem dX9_passes_46 : Dx cX9_passes 46 (.iload_n 2) 1 47 := ⟨by decide +kernel, rfl⟩
theorem dX9_passes_47 : Dx cX9_passes 47 (.isub) 1 48 := ⟨by decide +kernel, rfl⟩
theorem dX9_passes_48 : Dx cX9_passes 48 (.ireturn) 1 49 := ⟨by decide +kernel, rfl⟩
theorem dX9_pass_0 : Dx cX9_pass 0 (.aload_n 0) 1 1 := ⟨by decide +kernel, rfl⟩
theorem dX9_pass_1 : Dx cX9_pass 1 (.invokevirtual 94) 3 4 := ⟨by decide +kernel, rfl⟩
theorem dX9_pass_4 : Dx cX9_pass 4 (.aload_n 0) 1 5 := ⟨by decide +kernel, rfl⟩
theorem dX9_pass_5 : Dx cX9_pass 5 (.aload_n 0) 1 6 := ⟨by decide +kernel, rfl⟩
theorem dX9_pass_6 : Dx cX9_pass 6 (.iload_n 1) 1 7 := ⟨by decide +kernel, rfl⟩
theorem dX9_pass_7 : Dx cX9_pass 7 (.invokevirtual 204) 3 10 := ⟨by decide +kernel, rfl⟩
theorem dX9_pass_10 : Dx cX9_pass 10 (.iconst 1) 1 11 := ⟨by decide +kernel, rfl⟩
theorem dX9_pass_11 : Dx cX9_pass 11 (.invokevirtual 100) 3 14 := ⟨by decide +kernel, rfl⟩
theorem dX9_pass_14 : Dx cX9_pass 14 (.ireturn) 1 15 := ⟨by decide +kernel, rfl⟩
theorem dX9_height_0 : Dx cX9_height 0 (.aload_n 0) 1 1 := ⟨by decide +kernel, rfl⟩
theorem dX9_height_1 : Dx cX9_height 1 (.iload_n 1) 1 2 := ⟨by decide +kernel, rfl⟩
theorem dX9_height_2 : Dx cX9_height 2 (.iconst 0) 1 3 := ⟨by decide +kernel, rfl⟩
theorem dX9_height_3 : Dx cX9_height 3 (.bipush 99) 2 5 := ⟨by decide +kernel, rfl⟩
theorem dX9_height_5 : Dx cX9_height 5 (.invokestatic 60) 3 8 := ⟨by decide +kernel, rfl⟩
theorem dX9_height_8 : Dc cX9_height 8 (fun o => .ifCond .ne o) 15 11 := ⟨7, by decide +kernel, by decide, rfl⟩
theorem dX9_height_11 : Dx cX9_height 11 (.iconst 1) 1 12 := ⟨by decide +kernel, rfl⟩
theorem dX9_height_12 : Dc cX9_height 12 (fun o => .goto o) 16 15 := ⟨4, by decide +kernel, by decide, rfl⟩
theorem dX9_height_15 : Dx cX9_height 15 (.iconst 0) 1 16 := ⟨by decide +kernel, rfl⟩
theorem dX9_height_16 : Dx cX9_height 16 (.iconst 1) 1 17 := ⟨by decide +kernel, rfl⟩
theorem dX9_height_17 : Dx cX9_height 17 (.invokevirtual 207) 3 20 := ⟨by decide +kernel, rfl⟩
theorem dX9_height_20 : Dc cX9_height 20 (fun o => .ifCond .eq o) 27 23 := ⟨7, by decide +kernel, by decide, rfl⟩
theorem dX9_height_23 : Dx cX9_height 23 (.iconst 0) 1 24 := ⟨by decide +kernel, rfl⟩
theorem dX9_height_24 : Dc cX9_height 24 (fun o => .goto o) 39 27 := ⟨15, by decide +kernel, by decide, rfl⟩
theorem dX9_height_27 : Dx cX9_height 27 (.aload_n 0) 1 28 := ⟨by decide +kernel, rfl⟩
theorem dX9_height_28 : Dx cX9_height 28 (.aload_n 0) 1 29 := ⟨by decide +kernel, rfl⟩
theorem dX9_height_29 : Dx cX9_height 29 (.getfield 9) 3 32 := ⟨by decide +kernel, rfl⟩
theorem dX9_height_32 : Dx cX9_height 32 (.iconst 0) 1 33 := ⟨by decide +kernel, rfl⟩
theorem dX9_height_33 : Dx cX9_height 33 (.iaload) 1 34 := ⟨by decide +kernel, rfl⟩
theorem dX9_height_34 : Dx cX9_height 34 (.iload_n 1) 1 35 := ⟨by decide +kernel, rfl⟩
theorem dX9_height_35 : Dx cX9_height 35 (.iadd) 1 36 := ⟨by decide +kernel, rfl⟩
theorem dX9_height_36 : Dx cX9_height 36 (.invokevirtual 68) 3 39 := ⟨by decide +kernel, rfl⟩
theorem dX9_height_39 : Dx cX9_height 39 (.ireturn) 1 40 := ⟨by decide +kernel, rfl⟩
theorem dX9_memberOf_0 : Dx cX9_memberOf 0 (.aload_n 0) 1 1 := ⟨by decide +kernel, rfl⟩
theorem dX9_memberOf_1 : Dx cX9_memberOf 1 (.aload_n 0) 1 2 := ⟨by decide +kernel, rfl⟩
theorem dX9_memberOf_2 : Dx cX9_memberOf 2 (.iload_n 1) 1 3 := ⟨by decide +kernel, rfl⟩
theorem dX9_memberOf_3 : Dx cX9_memberOf 3 (.invokevirtual 106) 3 6 := ⟨by decide +kernel, rfl⟩
theorem dX9_memberOf_6 : Dc cX9_memberOf 6 (fun o => .ifCond .ne o) 13 9 := ⟨7, by decide +kernel, by decide, rfl⟩
theorem dX9_memberOf_9 : Dx cX9_memberOf 9 (.iconst 1) 1 10 := ⟨by decide +kernel, rfl⟩
theorem dX9_memberOf_10 : Dc cX9_memberOf 10 (fun o => .goto o) 14 13 := ⟨4, by decide +kernel, by decide, rfl⟩
theorem dX9_memberOf_13 : Dx cX9_memberOf 13 (.iconst 0) 1 14 := ⟨by decide +kernel, rfl⟩
theorem dX9_memberOf_14 : Dx cX9_memberOf 14 (.iconst 1) 1 15 := ⟨by decide +kernel, rfl⟩
theorem dX9_memberOf_15 : Dx cX9_memberOf 15 (.invokevirtual 207) 3 18 := ⟨by decide +kernel, rfl⟩
theorem dX9_memberOf_18 : Dc cX9_memberOf 18 (fun o => .ifCond .ne o) 44 21 := ⟨26, by decide +kernel, by decide, rfl⟩
theorem dX9_memberOf_21 : Dx cX9_memberOf 21 (.aload_n 0) 1 22 := ⟨by decide +kernel, rfl⟩
theorem dX9_memberOf_22 : Dx cX9_memberOf 22 (.iload_n 2) 1 23 := ⟨by decide +kernel, rfl⟩
theorem dX9_memberOf_23 : Dx cX9_memberOf 23 (.iconst 0) 1 24 := ⟨by decide +kernel, rfl⟩
theorem dX9_memberOf_24 : Dx cX9_memberOf 24 (.bipush 7) 2 26 := ⟨by decide +kernel, rfl⟩
theorem dX9_memberOf_26 : Dx cX9_memberOf 26 (.invokestatic 60) 3 29 := ⟨by decide +kernel, rfl⟩
theorem dX9_memberOf_29 : Dc cX9_memberOf 29 (fun o => .ifCond .ne o) 36 32 := ⟨7, by decide +kernel, by decide, rfl⟩
theorem dX9_memberOf_32 : Dx cX9_memberOf 32 (.iconst 1) 1 33 := ⟨by decide +kernel, rfl⟩
theorem dX9_memberOf_33 : Dc cX9_memberOf 33 (fun o => .goto o) 37 36 := ⟨4, by decide +kernel, by decide, rfl⟩
theorem dX9_memberOf_36 : Dx cX9_memberOf 36 (.iconst 0) 1 37 := ⟨by decide +kernel, rfl⟩
theorem dX9_memberOf_37 : Dx cX9_memberOf 37 (.iconst 2) 1 38 := ⟨by decide +kernel, rfl⟩
theorem dX9_memberOf_38 : Dx cX9_memberOf 38 (.invokevirtual 207) 3 41 := ⟨by decide +kernel, rfl⟩
theorem dX9_memberOf_41 : Dc cX9_memberOf 41 (fun o => .ifCond .eq o) 46 44 := ⟨5, by decide +kernel, by decide, rfl⟩
theorem dX9_memberOf_44 : Dx cX9_memberOf 44 (.iconst 0) 1 45 := ⟨by decide +kernel, rfl⟩
theorem dX9_memberOf_45 : Dx cX9_memberOf 45 (.ireturn) 1 46 := ⟨by decide +kernel, rfl⟩
theorem dX9_memberOf_46 : Dx cX9_memberOf 46 (.iload_n 2) 1 47 := ⟨by decide +kernel, rfl⟩
theorem dX9_memberOf_47 : Dx cX9_memberOf 47 (.iconst 4) 1 48 := ⟨by decide +kernel, rfl⟩
theorem dX9_memberOf_48 : Dc cX9_memberOf 48 (fun o => .if_icmp .ne o) 67 51 := ⟨19, by decide +kernel, by decide, rfl⟩
theorem dX9_memberOf_51 : Dx cX9_memberOf 51 (.aload_n 0) 1 52 := ⟨by decide +kernel, rfl⟩
theorem dX9_memberOf_52 : Dx cX9_memberOf 52 (.iload_n 1) 1 53 := ⟨by decide +kernel, rfl⟩
theorem dX9_memberOf_53 : Dx cX9_memberOf 53 (.invokevirtual 122) 3 56 := ⟨by decide +kernel, rfl⟩
theorem dX9_memberOf_56 : Dc cX9_memberOf 56 (fun o => .ifCond .eq o) 63 59 := ⟨7, by decide +kernel, by decide, rfl⟩
theorem dX9_memberOf_59 : Dx cX9_memberOf 59 (.iconst 1) 1 60 := ⟨by decide +kernel, rfl⟩
theorem dX9_memberOf_60 : Dc cX9_memberOf 60 (fun o => .goto o) 84 63 := ⟨24, by decide +kernel, by decide, rfl⟩
theorem dX9_memberOf_63 : Dx cX9_memberOf 63 (.iconst 0) 1 64 := ⟨by decide +kernel, rfl⟩
theorem dX9_memberOf_64 : Dc cX9_memberOf 64 (fun o => .goto o) 84 67 := ⟨20, by decide +kernel, by decide, rfl⟩
theorem dX9_memberOf_67 : Dx cX9_memberOf 67 (.aload_n 0) 1 68 := ⟨by decide +kernel, rfl⟩
theorem dX9_memberOf_68 : Dx cX9_memberOf 68 (.iload_n 1) 1 69 := ⟨by decide +kernel, rfl⟩
theorem dX9_memberOf_69 : Dx cX9_memberOf 69 (.iload_n 2) 1 70 := ⟨by decide +kernel, rfl⟩
theorem dX9_memberOf_70 : Dx cX9_memberOf 70 (.iconst 4) 1 71 := ⟨by decide +kernel, rfl⟩
theorem dX9_memberOf_71 : Dc cX9_memberOf 71 (fun o => .if_icmp .le o) 80 74 := ⟨9, by decide +kernel, by decide, rfl⟩
theorem dX9_memberOf_74 : Dx cX9_memberOf 74 (.iload_n 2) 1 75 := ⟨by decide +kernel, rfl⟩
theorem dX9_memberOf_75 : Dx cX9_memberOf 75 (.iconst 1) 1 76 := ⟨by decide +kernel, rfl⟩
theorem dX9_memberOf_76 : Dx cX9_memberOf 76 (.isub) 1 77 := ⟨by decide +kernel, rfl⟩
theorem dX9_memberOf_77 : Dc cX9_memberOf 77 (fun o => .goto o) 81 80 := ⟨4, by decide +kernel, by decide, rfl⟩
theorem dX9_memberOf_80 : Dx cX9_memberOf 80 (.iload_n 2) 1 81 := ⟨by decide +kernel, rfl⟩
theorem dX9_memberOf_81 : Dx cX9_memberOf 81 (.invokevirtual 103) 3 84 := ⟨by decide +kernel, rfl⟩
theorem dX9_memberOf_84 : Dx cX9_memberOf 84 (.ireturn) 1 85 := ⟨by decide +kernel, rfl⟩
theorem dX9_boatOf_0 : Dx cX9_boatOf 0 (.aload_n 0) 1 1 := ⟨by decide +kernel, rfl⟩
theorem dX9_boatOf_1 : Dx cX9_boatOf 1 (.aload_n 0) 1 2 := ⟨by decide +kernel, rfl⟩
theorem dX9_boatOf_2 : Dx cX9_boatOf 2 (.iload_n 1) 1 3 := ⟨by decide +kernel, rfl⟩
theorem dX9_boatOf_3 : Dx cX9_boatOf 3 (.invokevirtual 155) 3 6 := ⟨by decide +kernel, rfl⟩
theorem dX9_boatOf_6 : Dc cX9_boatOf 6 (fun o => .ifCond .ne o) 13 9 := ⟨7, by decide +kernel, by decide, rfl⟩
theorem dX9_boatOf_9 : Dx cX9_boatOf 9 (.iconst 1) 1 10 := ⟨by decide +kernel, rfl⟩
theorem dX9_boatOf_10 : Dc cX9_boatOf 10 (fun o => .goto o) 14 13 := ⟨4, by decide +kernel, by decide, rfl⟩
theorem dX9_boatOf_13 : Dx cX9_boatOf 13 (.iconst 0) 1 14 := ⟨by decide +kernel, rfl⟩
theorem dX9_boatOf_14 : Dx cX9_boatOf 14 (.iconst 1) 1 15 := ⟨by decide +kernel, rfl⟩
theorem dX9_boatOf_15 : Dx cX9_boatOf 15 (.invokevirtual 207) 3 18 := ⟨by decide +kernel, rfl⟩
theorem dX9_boatOf_18 : Dc cX9_boatOf 18 (fun o => .ifCond .ne o) 44 21 := ⟨26, by decide +kernel, by decide, rfl⟩
theorem dX9_boatOf_21 : Dx cX9_boatOf 21 (.aload_n 0) 1 22 := ⟨by decide +kernel, rfl⟩
theorem dX9_boatOf_22 : Dx cX9_boatOf 22 (.iload_n 2) 1 23 := ⟨by decide +kernel, rfl⟩
theorem dX9_boatOf_23 : Dx cX9_boatOf 23 (.iconst 0) 1 24 := ⟨by decide +kernel, rfl⟩
theorem dX9_boatOf_24 : Dx cX9_boatOf 24 (.bipush 6) 2 26 := ⟨by decide +kernel, rfl⟩
theorem dX9_boatOf_26 : Dx cX9_boatOf 26 (.invokestatic 60) 3 29 := ⟨by decide +kernel, rfl⟩
theorem dX9_boatOf_29 : Dc cX9_boatOf 29 (fun o => .ifCond .ne o) 36 32 := ⟨7, by decide +kernel, by decide, rfl⟩
theorem dX9_boatOf_32 : Dx cX9_boatOf 32 (.iconst 1) 1 33 := ⟨by decide +kernel, rfl⟩
theorem dX9_boatOf_33 : Dc cX9_boatOf 33 (fun o => .goto o) 37 36 := ⟨4, by decide +kernel, by decide, rfl⟩
theorem dX9_boatOf_36 : Dx cX9_boatOf 36 (.iconst 0) 1 37 := ⟨by decide +kernel, rfl⟩
theorem dX9_boatOf_37 : Dx cX9_boatOf 37 (.iconst 2) 1 38 := ⟨by decide +kernel, rfl⟩
theorem dX9_boatOf_38 : Dx cX9_boatOf 38 (.invokevirtual 207) 3 41 := ⟨by decide +kernel, rfl⟩
theorem dX9_boatOf_41 : Dc cX9_boatOf 41 (fun o => .ifCond .eq o) 46 44 := ⟨5, by decide +kernel, by decide, rfl⟩
theorem dX9_boatOf_44 : Dx cX9_boatOf 44 (.iconst 0) 1 45 := ⟨by decide +kernel, rfl⟩
theorem dX9_boatOf_45 : Dx cX9_boatOf 45 (.ireturn) 1 46 := ⟨by decide +kernel, rfl⟩
theorem dX9_boatOf_46 : Dx cX9_boatOf 46 (.aload_n 0) 1 47 := ⟨by decide +kernel, rfl⟩
theorem dX9_boatOf_47 : Dx cX9_boatOf 47 (.iload_n 1) 1 48 := ⟨by decide +kernel, rfl⟩
theorem dX9_boatOf_48 : Dx cX9_boatOf 48 (.iload_n 2) 1 49 := ⟨by decide +kernel, rfl⟩
theorem dX9_boatOf_49 : Dx cX9_boatOf 49 (.invokevirtual 72) 3 52 := ⟨by decide +kernel, rfl⟩
theorem dX9_boatOf_52 : Dx cX9_boatOf 52 (.ireturn) 1 53 := ⟨by decide +kernel, rfl⟩
theorem dX9_crewOf_0 : Dx cX9_crewOf 0 (.iconst 0) 1 1 := ⟨by decide +kernel, rfl⟩
theorem dX9_crewOf_1 : Dx cX9_crewOf 1 (.istore_n 2) 1 2 := ⟨by decide +kernel, rfl⟩
theorem dX9_crewOf_2 : Dx cX9_crewOf 2 (.iconst 0) 1 3 := ⟨by decide +kernel, rfl⟩
theorem dX9_crewOf_3 : Dx cX9_crewOf 3 (.istore_n 3) 1 4 := ⟨by decide +kernel, rfl⟩
theorem dX9_crewOf_4 : Dx cX9_crewOf 4 (.iload_n 3) 1 5 := ⟨by decide +kernel, rfl⟩
theorem dX9_crewOf_5 : Dx cX9_crewOf 5 (.aload_n 0) 1 6 := ⟨by decide +kernel, rfl⟩
theorem dX9_crewOf_6 : Dx cX9_crewOf 6 (.getfield 9) 3 9 := ⟨by decide +kernel, rfl⟩
theorem dX9_crewOf_9 : Dx cX9_crewOf 9 (.iconst 1) 1 10 := ⟨by decide +kernel, rfl⟩
theorem dX9_crewOf_10 : Dx cX9_crewOf 10 (.iaload) 1 11 := ⟨by decide +kernel, rfl⟩
theorem dX9_crewOf_11 : Dc cX9_crewOf 11 (fun o => .if_icmp .ge o) 50 14 := ⟨39, by decide +kernel, by decide, rfl⟩
theorem dX9_crewOf_14 : Dx cX9_crewOf 14 (.iload_n 2) 1 15 := ⟨by decide +kernel, rfl⟩
theorem dX9_crewOf_15 : Dx cX9_crewOf 15 (.aload_n 0) 1 16 := ⟨by decide +kernel, rfl⟩
theorem dX9_crewOf_16 : Dx cX9_crewOf 16 (.iload_n 3) 1 17 := ⟨by decide +kernel, rfl⟩
theorem dX9_crewOf_17 : Dx cX9_crewOf 17 (.iconst 1) 1 18 := ⟨by decide +kernel, rfl⟩
theorem dX9_crewOf_18 : Dx cX9_crewOf 18 (.invokevirtual 103) 3 21 := ⟨by decide +kernel, rfl⟩
theorem dX9_crewOf_21 : Dx cX9_crewOf 21 (.iconst 1) 1 22 := ⟨by decide +kernel, rfl⟩
theorem dX9_crewOf_22 : Dc cX9_crewOf 22 (fun o => .if_icmp .ne o) 41 25 := ⟨19, by decide +kernel, by decide, rfl⟩
theorem dX9_crewOf_25 : Dx cX9_crewOf 25 (.aload_n 0) 1 26 := ⟨by decide +kernel, rfl⟩
theorem dX9_crewOf_26 : Dx cX9_crewOf 26 (.iload_n 3) 1 27 := ⟨by decide +kernel, rfl⟩
theorem dX9_crewOf_27 : Dx cX9_crewOf 27 (.iconst 3) 1 28 := ⟨by decide +kernel, rfl⟩
theorem dX9_crewOf_28 : Dx cX9_crewOf 28 (.invokevirtual 103) 3 31 := ⟨by decide +kernel, rfl⟩
theorem dX9_crewOf_31 : Dx cX9_crewOf 31 (.iload_n 1) 1 32 := ⟨by decide +kernel, rfl⟩
theorem dX9_crewOf_32 : Dc cX9_crewOf 32 (fun o => .if_icmp .ne o) 41 35 := ⟨9, by decide +kernel, by decide, rfl⟩
theorem dX9_crewOf_35 : Dx cX9_crewOf 35 (.iconst 1) 1 36 := ⟨by decide +kernel, rfl⟩
theorem dX9_crewOf_36 : Dx cX9_crewOf 36 (.iload_n 3) 1 37 := ⟨by decide +kernel, rfl⟩
theorem dX9_crewOf_37 : Dx cX9_crewOf 37 (.ishl) 1 38 := ⟨by decide +kernel, rfl⟩
theorem dX9_crewOf_38 : Dc cX9_crewOf 38 (fun o => .goto o) 42 41 := ⟨4, by decide +kernel, by decide, rfl⟩
theorem dX9_crewOf_41 : Dx cX9_crewOf 41 (.iconst 0) 1 42 := ⟨by decide +kernel, rfl⟩
theorem dX9_crewOf_42 : Dx cX9_crewOf 42 (.ior) 1 43 := ⟨by decide +kernel, rfl⟩
theorem dX9_crewOf_43 : Dx cX9_crewOf 43 (.istore_n 2) 1 44 := ⟨by decide +kernel, rfl⟩
theorem dX9_crewOf_44 : Dx cX9_crewOf 44 (.iinc 3 1) 3 47 := ⟨by decide +kernel, rfl⟩
theorem dX9_crewOf_47 : Dc cX9_crewOf 47 (fun o => .goto o) 4 50 := ⟨(-43), by decide +kernel, by decide, rfl⟩
theorem dX9_crewOf_50 : Dx cX9_crewOf 50 (.iload_n 2) 1 51 := ⟨by decide +kernel, rfl⟩
theorem dX9_crewOf_51 : Dx cX9_crewOf 51 (.ireturn) 1 52 := ⟨by decide +kernel, rfl⟩
theorem dX9_crew_0 : Dx cX9_crew 0 (.aload_n 0) 1 1 := ⟨by decide +kernel, rfl⟩
theorem dX9_crew_1 : Dx cX9_crew 1 (.aload_n 0) 1 2 := ⟨by decide +kernel, rfl⟩
theorem dX9_crew_2 : Dx cX9_crew 2 (.iload_n 1) 1 3 := ⟨by decide +kernel, rfl⟩
theorem dX9_crew_3 : Dx cX9_crew 3 (.invokevirtual 155) 3 6 := ⟨by decide +kernel, rfl⟩
theorem dX9_crew_6 : Dc cX9_crew 6 (fun o => .ifCond .ne o) 13 9 := ⟨7, by decide +kernel, by decide, rfl⟩
theorem dX9_crew_9 : Dx cX9_crew 9 (.iconst 1) 1 10 := ⟨by decide +kernel, rfl⟩
theorem dX9_crew_10 : Dc cX9_crew 10 (fun o => .goto o) 14 13 := ⟨4, by decide +kernel, by decide, rfl⟩
theorem dX9_crew_13 : Dx cX9_crew 13 (.iconst 0) 1 14 := ⟨by decide +kernel, rfl⟩
theorem dX9_crew_14 : Dx cX9_crew 14 (.iconst 1) 1 15 := ⟨by decide +kernel, rfl⟩
theorem dX9_crew_15 : Dx cX9_crew 15 (.invokevirtual 207) 3 18 := ⟨by decide +kernel, rfl⟩
theorem dX9_crew_18 : Dc cX9_crew 18 (fun o => .ifCond .eq o) 25 21 := ⟨7, by decide +kernel, by decide, rfl⟩
theorem dX9_crew_21 : Dx cX9_crew 21 (.iconst 0) 1 22 := ⟨by decide +kernel, rfl⟩
theorem dX9_crew_22 : Dc cX9_crew 22 (fun o => .goto o) 30 25 := ⟨8, by decide +kernel, by decide, rfl⟩
theorem dX9_crew_25 : Dx cX9_crew 25 (.aload_n 0) 1 26 := ⟨by decide +kernel, rfl⟩
theorem dX9_crew_26 : Dx cX9_crew 26 (.iload_n 1) 1 27 := ⟨by decide +kernel, rfl⟩
theorem dX9_crew_27 : Dx cX9_crew 27 (.invokevirtual 211) 3 30 := ⟨by decide +kernel, rfl⟩
theorem dX9_crew_30 : Dx cX9_crew 30 (.ireturn) 1 31 := ⟨by decide +kernel, rfl⟩
theorem dX9_able_0 : Dx cX9_able 0 (.aload_n 0) 1 1 := ⟨by decide +kernel, rfl⟩
theorem dX9_able_1 : Dx cX9_able 1 (.iconst 0) 1 2 := ⟨by decide +kernel, rfl⟩
theorem dX9_able_2 : Dx cX9_able 2 (.putfield 38) 3 5 := ⟨by decide +kernel, rfl⟩
theorem dX9_able_5 : Dx cX9_able 5 (.aload_n 0) 1 6 := ⟨by decide +kernel, rfl⟩
theorem dX9_able_6 : Dx cX9_able 6 (.invokevirtual 131) 3 9 := ⟨by decide +kernel, rfl⟩
theorem dX9_able_9 : Dx cX9_able 9 (.ireturn) 1 10 := ⟨by decide +kernel, rfl⟩
theorem dX9_wouldGo_0 : Dx cX9_wouldGo 0 (.aload_n 0) 1 1 := ⟨by decide +kernel, rfl⟩
theorem dX9_wouldGo_1 : Dx cX9_wouldGo 1 (.aload_n 0) 1 2 := ⟨by decide +kernel, rfl⟩
theorem dX9_wouldGo_2 : Dx cX9_wouldGo 2 (.iload_n 1) 1 3 := ⟨by decide +kernel, rfl⟩
theorem dX9_wouldGo_3 : Dx cX9_wouldGo 3 (.invokevirtual 155) 3 6 := ⟨by decide +kernel, rfl⟩
theorem dX9_wouldGo_6 : Dc cX9_wouldGo 6 (fun o => .ifCond .ne o) 13 9 := ⟨7, by decide +kernel, by decide, rfl⟩
theorem dX9_wouldGo_9 : Dx cX9_wouldGo 9 (.iconst 1) 1 10 := ⟨by decide +kernel, rfl⟩
theorem dX9_wouldGo_10 : Dc cX9_wouldGo 10 (fun o => .goto o) 14 13 := ⟨4, by decide +kernel, by decide, rfl⟩
theorem dX9_wouldGo_13 : Dx cX9_wouldGo 13 (.iconst 0) 1 14 := ⟨by decide +kernel, rfl⟩
theorem dX9_wouldGo_14 : Dx cX9_wouldGo 14 (.iconst 1) 1 15 := ⟨by decide +kernel, rfl⟩
theorem dX9_wouldGo_15 : Dx cX9_wouldGo 15 (.invokevirtual 207) 3 18 := ⟨by decide +kernel, rfl⟩
theorem dX9_wouldGo_18 : Dc cX9_wouldGo 18 (fun o => .ifCond .ne o) 42 21 := ⟨24, by decide +kernel, by decide, rfl⟩
theorem dX9_wouldGo_21 : Dx cX9_wouldGo 21 (.aload_n 0) 1 22 := ⟨by decide +kernel, rfl⟩
theorem dX9_wouldGo_22 : Dx cX9_wouldGo 22 (.aload_n 0) 1 23 := ⟨by decide +kernel, rfl⟩
theorem dX9_wouldGo_23 : Dx cX9_wouldGo 23 (.iload_n 1) 1 24 := ⟨by decide +kernel, rfl⟩
theorem dX9_wouldGo_24 : Dx cX9_wouldGo 24 (.invokevirtual 149) 3 27 := ⟨by decide +kernel, rfl⟩
theorem dX9_wouldGo_27 : Dc cX9_wouldGo 27 (fun o => .ifCond .le o) 34 30 := ⟨7, by decide +kernel, by decide, rfl⟩
theorem dX9_wouldGo_30 : Dx cX9_wouldGo 30 (.iconst 1) 1 31 := ⟨by decide +kernel, rfl⟩
theorem dX9_wouldGo_31 : Dc cX9_wouldGo 31 (fun o => .goto o) 35 34 := ⟨4, by decide +kernel, by decide, rfl⟩
theorem dX9_wouldGo_34 : Dx cX9_wouldGo 34 (.iconst 0) 1 35 := ⟨by decide +kernel, rfl⟩
theorem dX9_wouldGo_35 : Dx cX9_wouldGo 35 (.iconst 2) 1 36 := ⟨by decide +kernel, rfl⟩
theorem dX9_wouldGo_36 : Dx cX9_wouldGo 36 (.invokevirtual 207) 3 39 := ⟨by decide +kernel, rfl⟩
theorem dX9_wouldGo_39 : Dc cX9_wouldGo 39 (fun o => .ifCond .eq o) 44 42 := ⟨5, by decide +kernel, by decide, rfl⟩
theorem dX9_wouldGo_42 : Dx cX9_wouldGo 42 (.iconst 0) 1 43 := ⟨by decide +kernel, rfl⟩
theorem dX9_wouldGo_43 : Dx cX9_wouldGo 43 (.ireturn) 1 44 := ⟨by decide +kernel, rfl⟩
theorem dX9_wouldGo_44 : Dx cX9_wouldGo 44 (.aload_n 0) 1 45 := ⟨by decide +kernel, rfl⟩
theorem dX9_wouldGo_45 : Dx cX9_wouldGo 45 (.iload_n 1) 1 46 := ⟨by decide +kernel, rfl⟩
theorem dX9_wouldGo_46 : Dx cX9_wouldGo 46 (.invokevirtual 164) 3 49 := ⟨by decide +kernel, rfl⟩
theorem dX9_wouldGo_49 : Dx cX9_wouldGo 49 (.ireturn) 1 50 := ⟨by decide +kernel, rfl⟩
theorem dX9_weariness_0 : Dx cX9_weariness 0 (.aload_n 0) 1 1 := ⟨by decide +kernel, rfl⟩
theorem dX9_weariness_1 : Dx cX9_weariness 1 (.aload_n 0) 1 2 := ⟨by decide +kernel, rfl⟩
theorem dX9_weariness_2 : Dx cX9_weariness 2 (.iload_n 1) 1 3 := ⟨by decide +kernel, rfl⟩
theorem dX9_weariness_3 : Dx cX9_weariness 3 (.invokevirtual 155) 3 6 := ⟨by decide +kernel, rfl⟩
theorem dX9_weariness_6 : Dc cX9_weariness 6 (fun o => .ifCond .ne o) 13 9 := ⟨7, by decide +kernel, by decide, rfl⟩
theorem dX9_weariness_9 : Dx cX9_weariness 9 (.iconst 1) 1 10 := ⟨by decide +kernel, rfl⟩
theorem dX9_weariness_10 : Dc cX9_weariness 10 (fun o => .goto o) 14 13 := ⟨4, by decide +kernel, by decide, rfl⟩
theorem dX9_weariness_13 : Dx cX9_weariness 13 (.iconst 0) 1 14 := ⟨by decide +kernel, rfl⟩
theorem dX9_weariness_14 : Dx cX9_weariness 14 (.iconst 1) 1 15 := ⟨by decide +kernel, rfl⟩
theorem dX9_weariness_15 : Dx cX9_weariness 15 (.invokevirtual 207) 3 18 := ⟨by decide +kernel, rfl⟩
theorem dX9_weariness_18 : Dc cX9_weariness 18 (fun o => .ifCond .ne o) 42 21 := ⟨24, by decide +kernel, by decide, rfl⟩
theorem dX9_weariness_21 : Dx cX9_weariness 21 (.aload_n 0) 1 22 := ⟨by decide +kernel, rfl⟩
theorem dX9_weariness_22 : Dx cX9_weariness 22 (.aload_n 0) 1 23 := ⟨by decide +kernel, rfl⟩
theorem dX9_weariness_23 : Dx cX9_weariness 23 (.iload_n 1) 1 24 := ⟨by decide +kernel, rfl⟩
theorem dX9_weariness_24 : Dx cX9_weariness 24 (.invokevirtual 149) 3 27 := ⟨by decide +kernel, rfl⟩
theorem dX9_weariness_27 : Dc cX9_weariness 27 (fun o => .ifCond .le o) 34 30 := ⟨7, by decide +kernel, by decide, rfl⟩
theorem dX9_weariness_30 : Dx cX9_weariness 30 (.iconst 1) 1 31 := ⟨by decide +kernel, rfl⟩
theorem dX9_weariness_31 : Dc cX9_weariness 31 (fun o => .goto o) 35 34 := ⟨4, by decide +kernel, by decide, rfl⟩
theorem dX9_weariness_34 : Dx cX9_weariness 34 (.iconst 0) 1 35 := ⟨by decide +kernel, rfl⟩
theorem dX9_weariness_35 : Dx cX9_weariness 35 (.iconst 2) 1 36 := ⟨by decide +kernel, rfl⟩
theorem dX9_weariness_36 : Dx cX9_weariness 36 (.invokevirtual 207) 3 39 := ⟨by decide +kernel, rfl⟩
theorem dX9_weariness_39 : Dc cX9_weariness 39 (fun o => .ifCond .eq o) 44 42 := ⟨5, by decide +kernel, by decide, rfl⟩
theorem dX9_weariness_42 : Dx cX9_weariness 42 (.iconst 0) 1 43 := ⟨by decide +kernel, rfl⟩
theorem dX9_weariness_43 : Dx cX9_weariness 43 (.ireturn) 1 44 := ⟨by decide +kernel, rfl⟩
theorem dX9_weariness_44 : Dx cX9_weariness 44 (.aload_n 0) 1 45 := ⟨by decide +kernel, rfl⟩
theorem dX9_weariness_45 : Dx cX9_weariness 45 (.iload_n 1) 1 46 := ⟨by decide +kernel, rfl⟩
theorem dX9_weariness_46 : Dx cX9_weariness 46 (.invokevirtual 164) 3 49 := ⟨by decide +kernel, rfl⟩
theorem dX9_weariness_49 : Dx cX9_weariness 49 (.istore_n 2) 1 50 := ⟨by decide +kernel, rfl⟩
theorem dX9_weariness_50 : Dx cX9_weariness 50 (.iconst 0) 1 51 := ⟨by decide +kernel, rfl⟩
theorem dX9_weariness_51 : Dx cX9_weariness 51 (.istore_n 3) 1 52 := ⟨by decide +kernel, rfl⟩
theorem dX9_weariness_52 : Dx cX9_weariness 52 (.iconst 0) 1 53 := ⟨by decide +kernel, rfl⟩
theorem dX9_weariness_53 : Dx cX9_weariness 53 (.istore 4) 2 55 := ⟨by decide +kernel, rfl⟩
theorem dX9_weariness_55 : Dx cX9_weariness 55 (.iload 4) 2 57 := ⟨by decide +kernel, rfl⟩
theorem dX9_weariness_57 : Dx cX9_weariness 57 (.aload_n 0) 1 58 := ⟨by decide +kernel, rfl⟩
theorem dX9_weariness_58 : Dx cX9_weariness 58 (.getfield 9) 3 61 := ⟨by decide +kernel, rfl⟩
theorem dX9_weariness_61 : Dx cX9_weariness 61 (.iconst 1) 1 62 := ⟨by decide +kernel, rfl⟩
theorem dX9_weariness_62 : Dx cX9_weariness 62 (.iaload) 1 63 := ⟨by decide +kernel, rfl⟩
theorem dX9_weariness_63 : Dc cX9_weariness 63 (fun o => .if_icmp .ge o) 96 66 := ⟨33, by decide +kernel, by decide, rfl⟩
theorem dX9_weariness_66 : Dx cX9_weariness 66 (.iload_n 3) 1 67 := ⟨by decide +kernel, rfl⟩
theorem dX9_weariness_67 : Dx cX9_weariness 67 (.iload_n 2) 1 68 := ⟨by decide +kernel, rfl⟩
theorem dX9_weariness_68 : Dx cX9_weariness 68 (.iload 4) 2 70 := ⟨by decide +kernel, rfl⟩
theorem dX9_weariness_70 : Dx cX9_weariness 70 (.ishr) 1 71 := ⟨by decide +kernel, rfl⟩
theorem dX9_weariness_71 : Dx cX9_weariness 71 (.iconst 1) 1 72 := ⟨by decide +kernel, rfl⟩
theorem dX9_weariness_72 : Dx cX9_weariness 72 (.iand) 1 73 := ⟨by decide +kernel, rfl⟩
theorem dX9_weariness_73 : Dx cX9_weariness 73 (.iconst 1) 1 74 := ⟨by decide +kernel, rfl⟩
theorem dX9_weariness_74 : Dc cX9_weariness 74 (fun o => .if_icmp .ne o) 87 77 := ⟨13, by decide +kernel, by decide, rfl⟩
theorem dX9_weariness_77 : Dx cX9_weariness 77 (.aload_n 0) 1 78 := ⟨by decide +kernel, rfl⟩
theorem dX9_weariness_78 : Dx cX9_weariness 78 (.iload 4) 2 80 := ⟨by decide +kernel, rfl⟩
theorem dX9_weariness_80 : Dx cX9_weariness 80 (.iconst 2) 1 81 := ⟨by decide +kernel, rfl⟩
theorem dX9_weariness_81 : Dx cX9_weariness 81 (.invokevirtual 103) 3 84 := ⟨by decide +kernel, rfl⟩
theorem dX9_weariness_84 : Dc cX9_weariness 84 (fun o => .goto o) 88 87 := ⟨4, by decide +kernel, by decide, rfl⟩
theorem dX9_weariness_87 : Dx cX9_weariness 87 (.iconst 0) 1 88 := ⟨by decide +kernel, rfl⟩
theorem dX9_weariness_88 : Dx cX9_weariness 88 (.iadd) 1 89 := ⟨by decide +kernel, rfl⟩
theorem dX9_weariness_89 : Dx cX9_weariness 89 (.istore_n 3) 1 90 := ⟨by decide +kernel, rfl⟩
theorem dX9_weariness_90 : Dx cX9_weariness 90 (.iinc 4 1) 3 93 := ⟨by decide +kernel, rfl⟩
theorem dX9_weariness_93 : Dc cX9_weariness 93 (fun o => .goto o) 55 96 := ⟨(-38), by decide +kernel, by decide, rfl⟩
theorem dX9_weariness_96 : Dx cX9_weariness 96 (.iload_n 3) 1 97 := ⟨by decide +kernel, rfl⟩
theorem dX9_weariness_97 : Dx cX9_weariness 97 (.ireturn) 1 98 := ⟨by decide +kernel, rfl⟩
theorem dX9_wearinessAgain_0 : Dx cX9_wearinessAgain 0 (.aload_n 0) 1 1 := ⟨by decide +kernel, rfl⟩
theorem dX9_wearinessAgain_1 : Dx cX9_wearinessAgain 1 (.iload_n 1) 1 2 := ⟨by decide +kernel, rfl⟩
theorem dX9_wearinessAgain_2 : Dx cX9_wearinessAgain 2 (.invokevirtual 214) 3 5 := ⟨by decide +kernel, rfl⟩
theorem dX9_wearinessAgain_5 : Dx cX9_wearinessAgain 5 (.ireturn) 1 6 := ⟨by decide +kernel, rfl⟩
theorem dX9_wouldRefuse_0 : Dx cX9_wouldRefuse 0 (.aload_n 0) 1 1 := ⟨by decide +kernel, rfl⟩
theorem dX9_wouldRefuse_1 : Dx cX9_wouldRefuse 1 (.aload_n 0) 1 2 := ⟨by decide +kernel, rfl⟩
theorem dX9_wouldRefuse_2 : Dx cX9_wouldRefuse 2 (.iload_n 1) 1 3 := ⟨by decide +kernel, rfl⟩
theorem dX9_wouldRefuse_3 : Dx cX9_wouldRefuse 3 (.invokevirtual 155) 3 6 := ⟨by decide +kernel, rfl⟩
theorem dX9_wouldRefuse_6 : Dc cX9_wouldRefuse 6 (fun o => .ifCond .ne o) 13 9 := ⟨7, by decide +kernel, by decide, rfl⟩
theorem dX9_wouldRefuse_9 : Dx cX9_wouldRefuse 9 (.iconst 1) 1 10 := ⟨by decide +kernel, rfl⟩
theorem dX9_wouldRefuse_10 : Dc cX9_wouldRefuse 10 (fun o => .goto o) 14 13 := ⟨4, by decide +kernel, by decide, rfl⟩
theorem dX9_wouldRefuse_13 : Dx cX9_wouldRefuse 13 (.iconst 0) 1 14 := ⟨by decide +kernel, rfl⟩
theorem dX9_wouldRefuse_14 : Dx cX9_wouldRefuse 14 (.iconst 1) 1 15 := ⟨by decide +kernel, rfl⟩
theorem dX9_wouldRefuse_15 : Dx cX9_wouldRefuse 15 (.invokevirtual 207) 3 18 := ⟨by decide +kernel, rfl⟩
theorem dX9_wouldRefuse_18 : Dc cX9_wouldRefuse 18 (fun o => .ifCond .eq o) 25 21 := ⟨7, by decide +kernel, by decide, rfl⟩
theorem dX9_wouldRefuse_21 : Dx cX9_wouldRefuse 21 (.iconst 0) 1 22 := ⟨by decide +kernel, rfl⟩
theorem dX9_wouldRefuse_22 : Dc cX9_wouldRefuse 22 (fun o => .goto o) 30 25 := ⟨8, by decide +kernel, by decide, rfl⟩
theorem dX9_wouldRefuse_25 : Dx cX9_wouldRefuse 25 (.aload_n 0) 1 26 := ⟨by decide +kernel, rfl⟩
theorem dX9_wouldRefuse_26 : Dx cX9_wouldRefuse 26 (.iload_n 1) 1 27 := ⟨by decide +kernel, rfl⟩
theorem dX9_wouldRefuse_27 : Dx cX9_wouldRefuse 27 (.invokevirtual 158) 3 30 := ⟨by decide +kernel, rfl⟩
theorem dX9_wouldRefuse_30 : Dx cX9_wouldRefuse 30 (.ireturn) 1 31 := ⟨by decide +kernel, rfl⟩
theorem dX9_callableIn_0 : Dx cX9_callableIn 0 (.aload_n 0) 1 1 := ⟨by decide +kernel, rfl⟩
theorem dX9_callableIn_1 : Dx cX9_callableIn 1 (.aload_n 0) 1 2 := ⟨by decide +kernel, rfl⟩
theorem dX9_callableIn_2 : Dx cX9_callableIn 2 (.iload_n 1) 1 3 := ⟨by decide +kernel, rfl⟩
theorem dX9_callableIn_3 : Dx cX9_callableIn 3 (.invokevirtual 155) 3 6 := ⟨by decide +kernel, rfl⟩
theorem dX9_callableIn_6 : Dc cX9_callableIn 6 (fun o => .ifCond .ne o) 13 9 := ⟨7, by decide +kernel, by decide, rfl⟩
theorem dX9_callableIn_9 : Dx cX9_callableIn 9 (.iconst 1) 1 10 := ⟨by decide +kernel, rfl⟩
theorem dX9_callableIn_10 : Dc cX9_callableIn 10 (fun o => .goto o) 14 13 := ⟨4, by decide +kernel, by decide, rfl⟩
theorem dX9_callableIn_13 : Dx cX9_callableIn 13 (.iconst 0) 1 14 := ⟨by decide +kernel, rfl⟩
theorem dX9_callableIn_14 : Dx cX9_callableIn 14 (.iconst 1) 1 15 := ⟨by decide +kernel, rfl⟩
theorem dX9_callableIn_15 : Dx cX9_callableIn 15 (.invokevirtual 207) 3 18 := ⟨by decide +kernel, rfl⟩
theorem dX9_callableIn_18 : Dc cX9_callableIn 18 (fun o => .ifCond .eq o) 23 21 := ⟨5, by decide +kernel, by decide, rfl⟩
theorem dX9_callableIn_21 : Dx cX9_callableIn 21 (.iconst 0) 1 22 := ⟨by decide +kernel, rfl⟩
theorem dX9_callableIn_22 : Dx cX9_callableIn 22 (.ireturn) 1 23 := ⟨by decide +kernel, rfl⟩
theorem dX9_callableIn_23 : Dx cX9_callableIn 23 (.aload_n 0) 1 24 := ⟨by decide +kernel, rfl⟩
theorem dX9_callableIn_24 : Dx cX9_callableIn 24 (.getfield 9) 3 27 := ⟨by decide +kernel, rfl⟩
theorem dX9_callableIn_27 : Dx cX9_callableIn 27 (.iconst 0) 1 28 := ⟨by decide +kernel, rfl⟩
theorem dX9_callableIn_28 : Dx cX9_callableIn 28 (.aload_n 0) 1 29 := ⟨by decide +kernel, rfl⟩
theorem dX9_callableIn_29 : Dx cX9_callableIn 29 (.getfield 16) 3 32 := ⟨by decide +kernel, rfl⟩
theorem dX9_callableIn_32 : Dx cX9_callableIn 32 (.iconst 0) 1 33 := ⟨by decide +kernel, rfl⟩
theorem dX9_callableIn_33 : Dx cX9_callableIn 33 (.invokestatic 41) 3 36 := ⟨by decide +kernel, rfl⟩
theorem dX9_callableIn_36 : Dx cX9_callableIn 36 (.iconst 0) 1 37 := ⟨by decide +kernel, rfl⟩
theorem dX9_callableIn_37 : Dx cX9_callableIn 37 (.istore_n 2) 1 38 := ⟨by decide +kernel, rfl⟩
theorem dX9_callableIn_38 : Dx cX9_callableIn 38 (.iload_n 2) 1 39 := ⟨by decide +kernel, rfl⟩
theorem dX9_callableIn_39 : Dx cX9_callableIn 39 (.bipush 48) 2 41 := ⟨by decide +kernel, rfl⟩
theorem dX9_callableIn_41 : Dc cX9_callableIn 41 (fun o => .if_icmp .ge o) 62 44 := ⟨21, by decide +kernel, by decide, rfl⟩
theorem dX9_callableIn_44 : Dx cX9_callableIn 44 (.aload_n 0) 1 45 := ⟨by decide +kernel, rfl⟩
theorem dX9_callableIn_45 : Dx cX9_callableIn 45 (.iload_n 1) 1 46 := ⟨by decide +kernel, rfl⟩
theorem dX9_callableIn_46 : Dx cX9_callableIn 46 (.invokevirtual 158) 3 49 := ⟨by decide +kernel, rfl⟩
theorem dX9_callableIn_49 : Dc cX9_callableIn 49 (fun o => .ifCond .le o) 62 52 := ⟨13, by decide +kernel, by decide, rfl⟩
theorem dX9_callableIn_52 : Dx cX9_callableIn 52 (.aload_n 0) 1 53 := ⟨by decide +kernel, rfl⟩
theorem dX9_callableIn_53 : Dx cX9_callableIn 53 (.invokevirtual 201) 3 56 := ⟨by decide +kernel, rfl⟩
theorem dX9_callableIn_56 : Dx cX9_callableIn 56 (.iinc 2 1) 3 59 := ⟨by decide +kernel, rfl⟩
theorem dX9_callableIn_59 : Dc cX9_callableIn 59 (fun o => .goto o) 38 62 := ⟨(-21), by decide +kernel, by decide, rfl⟩
theorem dX9_callableIn_62 : Dx cX9_callableIn 62 (.aload_n 0) 1 63 := ⟨by decide +kernel, rfl⟩
theorem dX9_callableIn_63 : Dx cX9_callableIn 63 (.iload_n 1) 1 64 := ⟨by decide +kernel, rfl⟩
theorem dX9_callableIn_64 : Dx cX9_callableIn 64 (.invokevirtual 158) 3 67 := ⟨by decide +kernel, rfl⟩
theorem dX9_callableIn_67 : Dc cX9_callableIn 67 (fun o => .ifCond .ne o) 74 70 := ⟨7, by decide +kernel, by decide, rfl⟩
theorem dX9_callableIn_70 : Dx cX9_callableIn 70 (.iconst 1) 1 71 := ⟨by decide +kernel, rfl⟩
theorem dX9_callableIn_71 : Dc cX9_callableIn 71 (fun o => .goto o) 75 74 := ⟨4, by decide +kernel, by decide, rfl⟩
theorem dX9_callableIn_74 : Dx cX9_callableIn 74 (.iconst 0) 1 75 := ⟨by decide +kernel, rfl⟩
theorem dX9_callableIn_75 : Dx cX9_callableIn 75 (.istore_n 3) 1 76 := ⟨by decide +kernel, rfl⟩
theorem dX9_callableIn_76 : Dx cX9_callableIn 76 (.aload_n 0) 1 77 := ⟨by decide +kernel, rfl⟩
theorem dX9_callableIn_77 : Dx cX9_callableIn 77 (.getfield 16) 3 80 := ⟨by decide +kernel, rfl⟩
theorem dX9_callableIn_80 : Dx cX9_callableIn 80 (.iconst 0) 1 81 := ⟨by decide +kernel, rfl⟩
theorem dX9_callableIn_81 : Dx cX9_callableIn 81 (.aload_n 0) 1 82 := ⟨by decide +kernel, rfl⟩
theorem dX9_callableIn_82 : Dx cX9_callableIn 82 (.getfield 9) 3 85 := ⟨by decide +kernel, rfl⟩
theorem dX9_callableIn_85 : Dx cX9_callableIn 85 (.iconst 0) 1 86 := ⟨by decide +kernel, rfl⟩
theorem dX9_callableIn_86 : Dx cX9_callableIn 86 (.invokestatic 41) 3 89 := ⟨by decide +kernel, rfl⟩
theorem dX9_callableIn_89 : Dx cX9_callableIn 89 (.aload_n 0) 1 90 := ⟨by decide +kernel, rfl⟩
theorem dX9_callableIn_90 : Dx cX9_callableIn 90 (.iload_n 3) 1 91 := ⟨by decide +kernel, rfl⟩
theorem dX9_callableIn_91 : Dc cX9_callableIn 91 (fun o => .ifCond .ne o) 98 94 := ⟨7, by decide +kernel, by decide, rfl⟩
theorem dX9_callableIn_94 : Dx cX9_callableIn 94 (.iconst 1) 1 95 := ⟨by decide +kernel, rfl⟩
theorem dX9_callableIn_95 : Dc cX9_callableIn 95 (fun o => .goto o) 99 98 := ⟨4, by decide +kernel, by decide, rfl⟩
theorem dX9_callableIn_98 : Dx cX9_callableIn 98 (.iconst 0) 1 99 := ⟨by decide +kernel, rfl⟩
theorem dX9_callableIn_99 : Dx cX9_callableIn 99 (.iconst 2) 1 100 := ⟨by decide +kernel, rfl⟩
theorem dX9_callableIn_100 : Dx cX9_callableIn 100 (.invokevirtual 207) 3 103 := ⟨by decide +kernel, rfl⟩
theorem dX9_callableIn_103 : Dc cX9_callableIn 103 (fun o => .ifCond .eq o) 110 106 := ⟨7, by decide +kernel, by decide, rfl⟩
theorem dX9_callableIn_106 : Dx cX9_callableIn 106 (.iconst 0) 1 107 := ⟨by decide +kernel, rfl⟩
theorem dX9_callableIn_107 : Dc cX9_callableIn 107 (fun o => .goto o) 111 110 := ⟨4, by decide +kernel, by decide, rfl⟩
theorem dX9_callableIn_110 : Dx cX9_callableIn 110 (.iload_n 2) 1 111 := ⟨by decide +kernel, rfl⟩
theorem dX9_callableIn_111 : Dx cX9_callableIn 111 (.ireturn) 1 112 := ⟨by decide +kernel, rfl⟩
theorem dX9_homeIn_0 : Dx cX9_homeIn 0 (.aload_n 0) 1 1 := ⟨by decide +kernel, rfl⟩
theorem dX9_homeIn_1 : Dx cX9_homeIn 1 (.aload_n 0) 1 2 := ⟨by decide +kernel, rfl⟩
theorem dX9_homeIn_2 : Dx cX9_homeIn 2 (.iload_n 1) 1 3 := ⟨by decide +kernel, rfl⟩
theorem dX9_homeIn_3 : Dx cX9_homeIn 3 (.invokevirtual 155) 3 6 := ⟨by decide +kernel, rfl⟩
theorem dX9_homeIn_6 : Dc cX9_homeIn 6 (fun o => .ifCond .ne o) 13 9 := ⟨7, by decide +kernel, by decide, rfl⟩
theorem dX9_homeIn_9 : Dx cX9_homeIn 9 (.iconst 1) 1 10 := ⟨by decide +kernel, rfl⟩
theorem dX9_homeIn_10 : Dc cX9_homeIn 10 (fun o => .goto o) 14 13 := ⟨4, by decide +kernel, by decide, rfl⟩
theorem dX9_homeIn_13 : Dx cX9_homeIn 13 (.iconst 0) 1 14 := ⟨by decide +kernel, rfl⟩
theorem dX9_homeIn_14 : Dx cX9_homeIn 14 (.iconst 1) 1 15 := ⟨by decide +kernel, rfl⟩
theorem dX9_homeIn_15 : Dx cX9_homeIn 15 (.invokevirtual 207) 3 18 := ⟨by decide +kernel, rfl⟩
theorem dX9_homeIn_18 : Dc cX9_homeIn 18 (fun o => .ifCond .ne o) 43 21 := ⟨25, by decide +kernel, by decide, rfl⟩
theorem dX9_homeIn_21 : Dx cX9_homeIn 21 (.aload_n 0) 1 22 := ⟨by decide +kernel, rfl⟩
theorem dX9_homeIn_22 : Dx cX9_homeIn 22 (.aload_n 0) 1 23 := ⟨by decide +kernel, rfl⟩
theorem dX9_homeIn_23 : Dx cX9_homeIn 23 (.iload_n 1) 1 24 := ⟨by decide +kernel, rfl⟩
theorem dX9_homeIn_24 : Dx cX9_homeIn 24 (.iconst 2) 1 25 := ⟨by decide +kernel, rfl⟩
theorem dX9_homeIn_25 : Dx cX9_homeIn 25 (.invokevirtual 72) 3 28 := ⟨by decide +kernel, rfl⟩
theorem dX9_homeIn_28 : Dc cX9_homeIn 28 (fun o => .ifCond .ne o) 35 31 := ⟨7, by decide +kernel, by decide, rfl⟩
theorem dX9_homeIn_31 : Dx cX9_homeIn 31 (.iconst 1) 1 32 := ⟨by decide +kernel, rfl⟩
theorem dX9_homeIn_32 : Dc cX9_homeIn 32 (fun o => .goto o) 36 35 := ⟨4, by decide +kernel, by decide, rfl⟩
theorem dX9_homeIn_35 : Dx cX9_homeIn 35 (.iconst 0) 1 36 := ⟨by decide +kernel, rfl⟩
theorem dX9_homeIn_36 : Dx cX9_homeIn 36 (.iconst 2) 1 37 := ⟨by decide +kernel, rfl⟩
theorem dX9_homeIn_37 : Dx cX9_homeIn 37 (.invokevirtual 207) 3 40 := ⟨by decide +kernel, rfl⟩
theorem dX9_homeIn_40 : Dc cX9_homeIn 40 (fun o => .ifCond .eq o) 45 43 := ⟨5, by decide +kernel, by decide, rfl⟩
theorem dX9_homeIn_43 : Dx cX9_homeIn 43 (.iconst 0) 1 44 := ⟨by decide +kernel, rfl⟩
theorem dX9_homeIn_44 : Dx cX9_homeIn 44 (.ireturn) 1 45 := ⟨by decide +kernel, rfl⟩
theorem dX9_homeIn_45 : Dx cX9_homeIn 45 (.aload_n 0) 1 46 := ⟨by decide +kernel, rfl⟩
theorem dX9_homeIn_46 : Dx cX9_homeIn 46 (.getfield 9) 3 49 := ⟨by decide +kernel, rfl⟩
theorem dX9_homeIn_49 : Dx cX9_homeIn 49 (.iconst 0) 1 50 := ⟨by decide +kernel, rfl⟩
theorem dX9_homeIn_50 : Dx cX9_homeIn 50 (.aload_n 0) 1 51 := ⟨by decide +kernel, rfl⟩
theorem dX9_homeIn_51 : Dx cX9_homeIn 51 (.getfield 16) 3 54 := ⟨by decide +kernel, rfl⟩
theorem dX9_homeIn_54 : Dx cX9_homeIn 54 (.iconst 0) 1 55 := ⟨by decide +kernel, rfl⟩
theorem dX9_homeIn_55 : Dx cX9_homeIn 55 (.invokestatic 41) 3 58 := ⟨by decide +kernel, rfl⟩
theorem dX9_homeIn_58 : Dx cX9_homeIn 58 (.iconst 0) 1 59 := ⟨by decide +kernel, rfl⟩
theorem dX9_homeIn_59 : Dx cX9_homeIn 59 (.istore_n 2) 1 60 := ⟨by decide +kernel, rfl⟩
theorem dX9_homeIn_60 : Dx cX9_homeIn 60 (.aload_n 0) 1 61 := ⟨by decide +kernel, rfl⟩
theorem dX9_homeIn_61 : Dx cX9_homeIn 61 (.iload_n 1) 1 62 := ⟨by decide +kernel, rfl⟩
theorem dX9_homeIn_62 : Dx cX9_homeIn 62 (.iconst 2) 1 63 := ⟨by decide +kernel, rfl⟩
theorem dX9_homeIn_63 : Dx cX9_homeIn 63 (.invokevirtual 72) 3 66 := ⟨by decide +kernel, rfl⟩
theorem dX9_homeIn_66 : Dx cX9_homeIn 66 (.iconst 1) 1 67 := ⟨by decide +kernel, rfl⟩
theorem dX9_homeIn_67 : Dc cX9_homeIn 67 (fun o => .if_icmp .ne o) 80 70 := ⟨13, by decide +kernel, by decide, rfl⟩
theorem dX9_homeIn_70 : Dx cX9_homeIn 70 (.aload_n 0) 1 71 := ⟨by decide +kernel, rfl⟩
theorem dX9_homeIn_71 : Dx cX9_homeIn 71 (.invokevirtual 201) 3 74 := ⟨by decide +kernel, rfl⟩
theorem dX9_homeIn_74 : Dx cX9_homeIn 74 (.iinc 2 1) 3 77 := ⟨by decide +kernel, rfl⟩
theorem dX9_homeIn_77 : Dc cX9_homeIn 77 (fun o => .goto o) 60 80 := ⟨(-17), by decide +kernel, by decide, rfl⟩
theorem dX9_homeIn_80 : Dx cX9_homeIn 80 (.aload_n 0) 1 81 := ⟨by decide +kernel, rfl⟩
theorem dX9_homeIn_81 : Dx cX9_homeIn 81 (.getfield 16) 3 84 := ⟨by decide +kernel, rfl⟩
theorem dX9_homeIn_84 : Dx cX9_homeIn 84 (.iconst 0) 1 85 := ⟨by decide +kernel, rfl⟩
theorem dX9_homeIn_85 : Dx cX9_homeIn 85 (.aload_n 0) 1 86 := ⟨by decide +kernel, rfl⟩
theorem dX9_homeIn_86 : Dx cX9_homeIn 86 (.getfield 9) 3 89 := ⟨by decide +kernel, rfl⟩
theorem dX9_homeIn_89 : Dx cX9_homeIn 89 (.iconst 0) 1 90 := ⟨by decide +kernel, rfl⟩
theorem dX9_homeIn_90 : Dx cX9_homeIn 90 (.invokestatic 41) 3 93 := ⟨by decide +kernel, rfl⟩
theorem dX9_homeIn_93 : Dx cX9_homeIn 93 (.iload_n 2) 1 94 := ⟨by decide +kernel, rfl⟩
theorem dX9_homeIn_94 : Dx cX9_homeIn 94 (.ireturn) 1 95 := ⟨by decide +kernel, rfl⟩
theorem dX9_homeInAgain_0 : Dx cX9_homeInAgain 0 (.aload_n 0) 1 1 := ⟨by decide +kernel, rfl⟩
theorem dX9_homeInAgain_1 : Dx cX9_homeInAgain 1 (.iload_n 1) 1 2 := ⟨by decide +kernel, rfl⟩
theorem dX9_homeInAgain_2 : Dx cX9_homeInAgain 2 (.invokevirtual 217) 3 5 := ⟨by decide +kernel, rfl⟩
theorem dX9_homeInAgain_5 : Dx cX9_homeInAgain 5 (.ireturn) 1 6 := ⟨by decide +kernel, rfl⟩
theorem dX9_loanOf_0 : Dx cX9_loanOf 0 (.aload_n 0) 1 1 := ⟨by decide +kernel, rfl⟩
theorem dX9_loanOf_1 : Dx cX9_loanOf 1 (.aload_n 0) 1 2 := ⟨by decide +kernel, rfl⟩
theorem dX9_loanOf_2 : Dx cX9_loanOf 2 (.iload_n 1) 1 3 := ⟨by decide +kernel, rfl⟩
theorem dX9_loanOf_3 : Dx cX9_loanOf 3 (.invokevirtual 173) 3 6 := ⟨by decide +kernel, rfl⟩
theorem dX9_loanOf_6 : Dc cX9_loanOf 6 (fun o => .ifCond .ne o) 13 9 := ⟨7, by decide +kernel, by decide, rfl⟩
theorem dX9_loanOf_9 : Dx cX9_loanOf 9 (.iconst 1) 1 10 := ⟨by decide +kernel, rfl⟩
theorem dX9_loanOf_10 : Dc cX9_loanOf 10 (fun o => .goto o) 14 13 := ⟨4, by decide +kernel, by decide, rfl⟩
theorem dX9_loanOf_13 : Dx cX9_loanOf 13 (.iconst 0) 1 14 := ⟨by decide +kernel, rfl⟩
theorem dX9_loanOf_14 : Dx cX9_loanOf 14 (.iconst 1) 1 15 := ⟨by decide +kernel, rfl⟩
theorem dX9_loanOf_15 : Dx cX9_loanOf 15 (.invokevirtual 207) 3 18 := ⟨by decide +kernel, rfl⟩
theorem dX9_loanOf_18 : Dc cX9_loanOf 18 (fun o => .ifCond .ne o) 43 21 := ⟨25, by decide +kernel, by decide, rfl⟩
theorem dX9_loanOf_21 : Dx cX9_loanOf 21 (.aload_n 0) 1 22 := ⟨by decide +kernel, rfl⟩
theorem dX9_loanOf_22 : Dx cX9_loanOf 22 (.iload_n 2) 1 23 := ⟨by decide +kernel, rfl⟩
theorem dX9_loanOf_23 : Dx cX9_loanOf 23 (.iconst 0) 1 24 := ⟨by decide +kernel, rfl⟩
theorem dX9_loanOf_24 : Dx cX9_loanOf 24 (.iconst 2) 1 25 := ⟨by decide +kernel, rfl⟩
theorem dX9_loanOf_25 : Dx cX9_loanOf 25 (.invokestatic 60) 3 28 := ⟨by decide +kernel, rfl⟩
theorem dX9_loanOf_28 : Dc cX9_loanOf 28 (fun o => .ifCond .ne o) 35 31 := ⟨7, by decide +kernel, by decide, rfl⟩
theorem dX9_loanOf_31 : Dx cX9_loanOf 31 (.iconst 1) 1 32 := ⟨by decide +kernel, rfl⟩
theorem dX9_loanOf_32 : Dc cX9_loanOf 32 (fun o => .goto o) 36 35 := ⟨4, by decide +kernel, by decide, rfl⟩
theorem dX9_loanOf_35 : Dx cX9_loanOf 35 (.iconst 0) 1 36 := ⟨by decide +kernel, rfl⟩
theorem dX9_loanOf_36 : Dx cX9_loanOf 36 (.iconst 2) 1 37 := ⟨by decide +kernel, rfl⟩
theorem dX9_loanOf_37 : Dx cX9_loanOf 37 (.invokevirtual 207) 3 40 := ⟨by decide +kernel, rfl⟩
theorem dX9_loanOf_40 : Dc cX9_loanOf 40 (fun o => .ifCond .eq o) 45 43 := ⟨5, by decide +kernel, by decide, rfl⟩
theorem dX9_loanOf_43 : Dx cX9_loanOf 43 (.iconst 0) 1 44 := ⟨by decide +kernel, rfl⟩
theorem dX9_loanOf_44 : Dx cX9_loanOf 44 (.ireturn) 1 45 := ⟨by decide +kernel, rfl⟩
theorem dX9_loanOf_45 : Dx cX9_loanOf 45 (.aload_n 0) 1 46 := ⟨by decide +kernel, rfl⟩
theorem dX9_loanOf_46 : Dx cX9_loanOf 46 (.iload_n 1) 1 47 := ⟨by decide +kernel, rfl⟩
theorem dX9_loanOf_47 : Dx cX9_loanOf 47 (.iload_n 2) 1 48 := ⟨by decide +kernel, rfl⟩
theorem dX9_loanOf_48 : Dx cX9_loanOf 48 (.invokevirtual 76) 3 51 := ⟨by decide +kernel, rfl⟩
theorem dX9_loanOf_51 : Dx cX9_loanOf 51 (.ireturn) 1 52 := ⟨by decide +kernel, rfl⟩
theorem dX9_free_0 : Dx cX9_free 0 (.aload_n 0) 1 1 := ⟨by decide +kernel, rfl⟩
theorem dX9_free_1 : Dx cX9_free 1 (.iconst 0) 1 2 := ⟨by decide +kernel, rfl⟩
theorem dX9_free_2 : Dx cX9_free 2 (.putfield 38) 3 5 := ⟨by decide +kernel, rfl⟩
theorem dX9_free_5 : Dx cX9_free 5 (.aload_n 0) 1 6 := ⟨by decide +kernel, rfl⟩
theorem dX9_free_6 : Dx cX9_free 6 (.invokevirtual 152) 3 9 := ⟨by decide +kernel, rfl⟩
theorem dX9_free_9 : Dx cX9_free 9 (.ireturn) 1 10 := ⟨by decide +kernel, rfl⟩
theorem dX9_isLess_0 : Dx cX9_isLess 0 (.aload_n 0) 1 1 := ⟨by decide +kernel, rfl⟩
theorem dX9_isLess_1 : Dx cX9_isLess 1 (.iload_n 2) 1 2 := ⟨by decide +kernel, rfl⟩
theorem dX9_isLess_2 : Dx cX9_isLess 2 (.iconst 2) 1 3 := ⟨by decide +kernel, rfl⟩
theorem dX9_isLess_3 : Dx cX9_isLess 3 (.invokevirtual 103) 3 6 := ⟨by decide +kernel, rfl⟩
theorem dX9_isLess_6 : Dx cX9_isLess 6 (.aload_n 0) 1 7 := ⟨by decide +kernel, rfl⟩
theorem dX9_isLess_7 : Dx cX9_isLess 7 (.iload_n 1) 1 8 := ⟨by decide +kernel, rfl⟩
theorem dX9_isLess_8 : Dx cX9_isLess 8 (.iconst 2) 1 9 := ⟨by decide +kernel, rfl⟩
theorem dX9_isLess_9 : Dx cX9_isLess 9 (.invokevirtual 103) 3 12 := ⟨by decide +kernel, rfl⟩
theorem dX9_isLess_12 : Dx cX9_isLess 12 (.isub) 1 13 := ⟨by decide +kernel, rfl⟩
theorem dX9_isLess_13 : Dx cX9_isLess 13 (.istore_n 3) 1 14 := ⟨by decide +kernel, rfl⟩
theorem dX9_isLess_14 : Dx cX9_isLess 14 (.iload_n 3) 1 15 := ⟨by decide +kernel, rfl⟩
theorem dX9_isLess_15 : Dc cX9_isLess 15 (fun o => .ifCond .eq o) 28 18 := ⟨13, by decide +kernel, by decide, rfl⟩
theorem dX9_isLess_18 : Dx cX9_isLess 18 (.iload_n 3) 1 19 := ⟨by decide +kernel, rfl⟩
theorem dX9_isLess_19 : Dc cX9_isLess 19 (fun o => .ifCond .le o) 26 22 := ⟨7, by decide +kernel, by decide, rfl⟩
theorem dX9_isLess_22 : Dx cX9_isLess 22 (.iconst 1) 1 23 := ⟨by decide +kernel, rfl⟩
theorem dX9_isLess_23 : Dc cX9_isLess 23 (fun o => .goto o) 27 26 := ⟨4, by decide +kernel, by decide, rfl⟩
theorem dX9_isLess_26 : Dx cX9_isLess 26 (.iconst 0) 1 27 := ⟨by decide +kernel, rfl⟩
theorem dX9_isLess_27 : Dx cX9_isLess 27 (.ireturn) 1 28 := ⟨by decide +kernel, rfl⟩
theorem dX9_isLess_28 : Dx cX9_isLess 28 (.aload_n 0) 1 29 := ⟨by decide +kernel, rfl⟩
theorem dX9_isLess_29 : Dx cX9_isLess 29 (.iload_n 1) 1 30 := ⟨by decide +kernel, rfl⟩
theorem dX9_isLess_30 : Dx cX9_isLess 30 (.iconst 0) 1 31 := ⟨by decide +kernel, rfl⟩
theorem dX9_isLess_31 : Dx cX9_isLess 31 (.invokevirtual 103) 3 34 := ⟨by decide +kernel, rfl⟩
theorem dX9_isLess_34 : Dx cX9_isLess 34 (.aload_n 0) 1 35 := ⟨by decide +kernel, rfl⟩
theorem dX9_isLess_35 : Dx cX9_isLess 35 (.iload_n 2) 1 36 := ⟨by decide +kernel, rfl⟩
theorem dX9_isLess_36 : Dx cX9_isLess 36 (.iconst 0) 1 37 := ⟨by decide +kernel, rfl⟩
theorem dX9_isLess_37 : Dx cX9_isLess 37 (.invokevirtual 103) 3 40 := ⟨by decide +kernel, rfl⟩
theorem dX9_isLess_40 : Dx cX9_isLess 40 (.isub) 1 41 := ⟨by decide +kernel, rfl⟩
theorem dX9_isLess_41 : Dx cX9_isLess 41 (.istore 4) 2 43 := ⟨by decide +kernel, rfl⟩
theorem dX9_isLess_43 : Dx cX9_isLess 43 (.iload 4) 2 45 := ⟨by decide +kernel, rfl⟩
theorem dX9_isLess_45 : Dc cX9_isLess 45 (fun o => .ifCond .eq o) 61 48 := ⟨16, by decide +kernel, by decide, rfl⟩
theorem dX9_isLess_48 : Dx cX9_isLess 48 (.iload 4) 2 50 := ⟨by decide +kernel, rfl⟩
theorem dX9_isLess_50 : Dc cX9_isLess 50 (fun o => .ifCond .le o) 57 53 := ⟨7, by decide +kernel, by decide, rfl⟩
theorem dX9_isLess_53 : Dx cX9_isLess 53 (.iconst 1) 1 54 := ⟨by decide +kernel, rfl⟩
theorem dX9_isLess_54 : Dc cX9_isLess 54 (fun o => .goto o) 71 57 := ⟨17, by decide +kernel, by decide, rfl⟩
theorem dX9_isLess_57 : Dx cX9_isLess 57 (.iconst 0) 1 58 := ⟨by decide +kernel, rfl⟩
theorem dX9_isLess_58 : Dc cX9_isLess 58 (fun o => .goto o) 71 61 := ⟨13, by decide +kernel, by decide, rfl⟩
theorem dX9_isLess_61 : Dx cX9_isLess 61 (.iload_n 1) 1 62 := ⟨by decide +kernel, rfl⟩
theorem dX9_isLess_62 : Dx cX9_isLess 62 (.iload_n 2) 1 63 := ⟨by decide +kernel, rfl⟩
theorem dX9_isLess_63 : Dc cX9_isLess 63 (fun o => .if_icmp .ge o) 70 66 := ⟨7, by decide +kernel, by decide, rfl⟩
theorem dX9_isLess_66 : Dx cX9_isLess 66 (.iconst 1) 1 67 := ⟨by decide +kernel, rfl⟩
theorem dX9_isLess_67 : Dc cX9_isLess 67 (fun o => .goto o) 71 70 := ⟨4, by decide +kernel, by decide, rfl⟩
theorem dX9_isLess_70 : Dx cX9_isLess 70 (.iconst 0) 1 71 := ⟨by decide +kernel, rfl⟩
theorem dX9_isLess_71 : Dx cX9_isLess 71 (.ireturn) 1 72 := ⟨by decide +kernel, rfl⟩
theorem dX9_least_0 : Dx cX9_least 0 (.iconst 0) 1 1 := ⟨by decide +kernel, rfl⟩
theorem dX9_least_1 : Dx cX9_least 1 (.istore_n 2) 1 2 := ⟨by decide +kernel, rfl⟩
theorem dX9_least_2 : Dx cX9_least 2 (.iload_n 2) 1 3 := ⟨by decide +kernel, rfl⟩
theorem dX9_least_3 : Dx cX9_least 3 (.aload_n 0) 1 4 := ⟨by decide +kernel, rfl⟩
theorem dX9_least_4 : Dx cX9_least 4 (.getfield 9) 3 7 := ⟨by decide +kernel, rfl⟩
theorem dX9_least_7 : Dx cX9_least 7 (.iconst 1) 1 8 := ⟨by decide +kernel, rfl⟩
theorem dX9_least_8 : Dx cX9_least 8 (.iaload) 1 9 := ⟨by decide +kernel, rfl⟩
theorem dX9_least_9 : Dc cX9_least 9 (fun o => .if_icmp .ge o) 97 12 := ⟨88, by decide +kernel, by decide, rfl⟩
theorem dX9_least_12 : Dx cX9_least 12 (.iconst 0) 1 13 := ⟨by decide +kernel, rfl⟩
theorem dX9_least_13 : Dx cX9_least 13 (.istore_n 3) 1 14 := ⟨by decide +kernel, rfl⟩
theorem dX9_least_14 : Dx cX9_least 14 (.iconst 0) 1 15 := ⟨by decide +kernel, rfl⟩
theorem dX9_least_15 : Dx cX9_least 15 (.istore 4) 2 17 := ⟨by decide +kernel, rfl⟩
theorem dX9_least_17 : Dx cX9_least 17 (.iload 4) 2 19 := ⟨by decide +kernel, rfl⟩
theorem dX9_least_19 : Dx cX9_least 19 (.aload_n 0) 1 20 := ⟨by decide +kernel, rfl⟩
theorem dX9_least_20 : Dx cX9_least 20 (.getfield 9) 3 23 := ⟨by decide +kernel, rfl⟩
theorem dX9_least_23 : Dx cX9_least 23 (.iconst 1) 1 24 := ⟨by decide +kernel, rfl⟩
theorem dX9_least_24 : Dx cX9_least 24 (.iaload) 1 25 := ⟨by decide +kernel, rfl⟩
theorem dX9_least_25 : Dc cX9_least 25 (fun o => .if_icmp .ge o) 69 28 := ⟨44, by decide +kernel, by decide, rfl⟩
theorem dX9_least_28 : Dx cX9_least 28 (.iload_n 3) 1 29 := ⟨by decide +kernel, rfl⟩
theorem dX9_least_29 : Dx cX9_least 29 (.iload 4) 2 31 := ⟨by decide +kernel, rfl⟩
theorem dX9_least_31 : Dx cX9_least 31 (.iload_n 2) 1 32 := ⟨by decide +kernel, rfl⟩
theorem dX9_least_32 : Dc cX9_least 32 (fun o => .if_icmp .eq o) 60 35 := ⟨28, by decide +kernel, by decide, rfl⟩
theorem dX9_least_35 : Dx cX9_least 35 (.aload_n 0) 1 36 := ⟨by decide +kernel, rfl⟩
theorem dX9_least_36 : Dx cX9_least 36 (.iload 4) 2 38 := ⟨by decide +kernel, rfl⟩
theorem dX9_least_38 : Dx cX9_least 38 (.iconst 1) 1 39 := ⟨by decide +kernel, rfl⟩
theorem dX9_least_39 : Dx cX9_least 39 (.invokevirtual 103) 3 42 := ⟨by decide +kernel, rfl⟩
theorem dX9_least_42 : Dx cX9_least 42 (.iconst 2) 1 43 := ⟨by decide +kernel, rfl⟩
theorem dX9_least_43 : Dc cX9_least 43 (fun o => .if_icmp .eq o) 60 46 := ⟨17, by decide +kernel, by decide, rfl⟩
theorem dX9_least_46 : Dx cX9_least 46 (.aload_n 0) 1 47 := ⟨by decide +kernel, rfl⟩
theorem dX9_least_47 : Dx cX9_least 47 (.iload 4) 2 49 := ⟨by decide +kernel, rfl⟩
theorem dX9_least_49 : Dx cX9_least 49 (.iload_n 2) 1 50 := ⟨by decide +kernel, rfl⟩
theorem dX9_least_50 : Dx cX9_least 50 (.invokevirtual 220) 3 53 := ⟨by decide +kernel, rfl⟩
theorem dX9_least_53 : Dc cX9_least 53 (fun o => .ifCond .eq o) 60 56 := ⟨7, by decide +kernel, by decide, rfl⟩
theorem dX9_least_56 : Dx cX9_least 56 (.iconst 1) 1 57 := ⟨by decide +kernel, rfl⟩
theorem dX9_least_57 : Dc cX9_least 57 (fun o => .goto o) 61 60 := ⟨4, by decide +kernel, by decide, rfl⟩
theorem dX9_least_60 : Dx cX9_least 60 (.iconst 0) 1 61 := ⟨by decide +kernel, rfl⟩
theorem dX9_least_61 : Dx cX9_least 61 (.iadd) 1 62 := ⟨by decide +kernel, rfl⟩
theorem dX9_least_62 : Dx cX9_least 62 (.istore_n 3) 1 63 := ⟨by decide +kernel, rfl⟩
theorem dX9_least_63 : Dx cX9_least 63 (.iinc 4 1) 3 66 := ⟨by decide +kernel, rfl⟩
theorem dX9_least_66 : Dc cX9_least 66 (fun o => .goto o) 17 69 := ⟨(-49), by decide +kernel, by decide, rfl⟩
theorem dX9_least_69 : Dx cX9_least 69 (.aload_n 0) 1 70 := ⟨by decide +kernel, rfl⟩
theorem dX9_least_70 : Dx cX9_least 70 (.iload_n 2) 1 71 := ⟨by decide +kernel, rfl⟩
theorem dX9_least_71 : Dx cX9_least 71 (.iconst 1) 1 72 := ⟨by decide +kernel, rfl⟩
theorem dX9_least_72 : Dx cX9_least 72 (.invokevirtual 103) 3 75 := ⟨by decide +kernel, rfl⟩
theorem dX9_least_75 : Dx cX9_least 75 (.iconst 2) 1 76 := ⟨by decide +kernel, rfl⟩
theorem dX9_least_76 : Dc cX9_least 76 (fun o => .if_icmp .eq o) 91 79 := ⟨15, by decide +kernel, by decide, rfl⟩
theorem dX9_least_79 : Dx cX9_least 79 (.iload_n 3) 1 80 := ⟨by decide +kernel, rfl⟩
theorem dX9_least_80 : Dx cX9_least 80 (.iload_n 1) 1 81 := ⟨by decide +kernel, rfl⟩
theorem dX9_least_81 : Dc cX9_least 81 (fun o => .if_icmp .ne o) 91 84 := ⟨10, by decide +kernel, by decide, rfl⟩
theorem dX9_least_84 : Dx cX9_least 84 (.aload_n 0) 1 85 := ⟨by decide +kernel, rfl⟩
theorem dX9_least_85 : Dx cX9_least 85 (.iconst 0) 1 86 := ⟨by decide +kernel, rfl⟩
theorem dX9_least_86 : Dx cX9_least 86 (.putfield 38) 3 89 := ⟨by decide +kernel, rfl⟩
theorem dX9_least_89 : Dx cX9_least 89 (.iload_n 2) 1 90 := ⟨by decide +kernel, rfl⟩
theorem dX9_least_90 : Dx cX9_least 90 (.ireturn) 1 91 := ⟨by decide +kernel, rfl⟩
theorem dX9_least_91 : Dx cX9_least 91 (.iinc 2 1) 3 94 := ⟨by decide +kernel, rfl⟩
theorem dX9_least_94 : Dc cX9_least 94 (fun o => .goto o) 2 97 := ⟨(-92), by decide +kernel, by decide, rfl⟩
theorem dX9_least_97 : Dx cX9_least 97 (.aload_n 0) 1 98 := ⟨by decide +kernel, rfl⟩
theorem dX9_least_98 : Dx cX9_least 98 (.iconst 1) 1 99 := ⟨by decide +kernel, rfl⟩
theorem dX9_least_99 : Dx cX9_least 99 (.putfield 38) 3 102 := ⟨by decide +kernel, rfl⟩
theorem dX9_least_102 : Dx cX9_least 102 (.iconst 0) 1 103 := ⟨by decide +kernel, rfl⟩
theorem dX9_least_103 : Dx cX9_least 103 (.ireturn) 1 104 := ⟨by decide +kernel, rfl⟩
theorem dX9_isBusier_0 : Dx cX9_isBusier 0 (.aload_n 0) 1 1 := ⟨by decide +kernel, rfl⟩
theorem dX9_isBusier_1 : Dx cX9_isBusier 1 (.iload_n 1) 1 2 := ⟨by decide +kernel, rfl⟩
theorem dX9_isBusier_2 : Dx cX9_isBusier 2 (.iconst 4) 1 3 := ⟨by decide +kernel, rfl⟩
theorem dX9_isBusier_3 : Dx cX9_isBusier 3 (.invokevirtual 103) 3 6 := ⟨by decide +kernel, rfl⟩
theorem dX9_isBusier_6 : Dx cX9_isBusier 6 (.aload_n 0) 1 7 := ⟨by decide +kernel, rfl⟩
theorem dX9_isBusier_7 : Dx cX9_isBusier 7 (.iload_n 2) 1 8 := ⟨by decide +kernel, rfl⟩
theorem dX9_isBusier_8 : Dx cX9_isBusier 8 (.iconst 4) 1 9 := ⟨by decide +kernel, rfl⟩
theorem dX9_isBusier_9 : Dx cX9_isBusier 9 (.invokevirtual 103) 3 12 := ⟨by decide +kernel, rfl⟩
theorem dX9_isBusier_12 : Dx cX9_isBusier 12 (.isub) 1 13 := ⟨by decide +kernel, rfl⟩
theorem dX9_isBusier_13 : Dx cX9_isBusier 13 (.istore_n 3) 1 14 := ⟨by decide +kernel, rfl⟩
theorem dX9_isBusier_14 : Dx cX9_isBusier 14 (.iload_n 3) 1 15 := ⟨by decide +kernel, rfl⟩
theorem dX9_isBusier_15 : Dc cX9_isBusier 15 (fun o => .ifCond .eq o) 28 18 := ⟨13, by decide +kernel, by decide, rfl⟩
theorem dX9_isBusier_18 : Dx cX9_isBusier 18 (.iload_n 3) 1 19 := ⟨by decide +kernel, rfl⟩
theorem dX9_isBusier_19 : Dc cX9_isBusier 19 (fun o => .ifCond .le o) 26 22 := ⟨7, by decide +kernel, by decide, rfl⟩
theorem dX9_isBusier_22 : Dx cX9_isBusier 22 (.iconst 1) 1 23 := ⟨by decide +kernel, rfl⟩
theorem dX9_isBusier_23 : Dc cX9_isBusier 23 (fun o => .goto o) 27 26 := ⟨4, by decide +kernel, by decide, rfl⟩
theorem dX9_isBusier_26 : Dx cX9_isBusier 26 (.iconst 0) 1 27 := ⟨by decide +kernel, rfl⟩
theorem dX9_isBusier_27 : Dx cX9_isBusier 27 (.ireturn) 1 28 := ⟨by decide +kernel, rfl⟩
theorem dX9_isBusier_28 : Dx cX9_isBusier 28 (.aload_n 0) 1 29 := ⟨by decide +kernel, rfl⟩
theorem dX9_isBusier_29 : Dx cX9_isBusier 29 (.iload_n 1) 1 30 := ⟨by decide +kernel, rfl⟩
theorem dX9_isBusier_30 : Dx cX9_isBusier 30 (.iconst 5) 1 31 := ⟨by decide +kernel, rfl⟩
theorem dX9_isBusier_31 : Dx cX9_isBusier 31 (.invokevirtual 103) 3 34 := ⟨by decide +kernel, rfl⟩
theorem dX9_isBusier_34 : Dx cX9_isBusier 34 (.aload_n 0) 1 35 := ⟨by decide +kernel, rfl⟩
theorem dX9_isBusier_35 : Dx cX9_isBusier 35 (.iload_n 2) 1 36 := ⟨by decide +kernel, rfl⟩
theorem dX9_isBusier_36 : Dx cX9_isBusier 36 (.iconst 5) 1 37 := ⟨by decide +kernel, rfl⟩
theorem dX9_isBusier_37 : Dx cX9_isBusier 37 (.invokevirtual 103) 3 40 := ⟨by decide +kernel, rfl⟩
theorem dX9_isBusier_40 : Dx cX9_isBusier 40 (.isub) 1 41 := ⟨by decide +kernel, rfl⟩
theorem dX9_isBusier_41 : Dx cX9_isBusier 41 (.istore 4) 2 43 := ⟨by decide +kernel, rfl⟩
theorem dX9_isBusier_43 : Dx cX9_isBusier 43 (.iload 4) 2 45 := ⟨by decide +kernel, rfl⟩
theorem dX9_isBusier_45 : Dc cX9_isBusier 45 (fun o => .ifCond .eq o) 61 48 := ⟨16, by decide +kernel, by decide, rfl⟩
theorem dX9_isBusier_48 : Dx cX9_isBusier 48 (.iload 4) 2 50 := ⟨by decide +kernel, rfl⟩
theorem dX9_isBusier_50 : Dc cX9_isBusier 50 (fun o => .ifCond .le o) 57 53 := ⟨7, by decide +kernel, by decide, rfl⟩
theorem dX9_isBusier_53 : Dx cX9_isBusier 53 (.iconst 1) 1 54 := ⟨by decide +kernel, rfl⟩
theorem dX9_isBusier_54 : Dc cX9_isBusier 54 (fun o => .goto o) 71 57 := ⟨17, by decide +kernel, by decide, rfl⟩
theorem dX9_isBusier_57 : Dx cX9_isBusier 57 (.iconst 0) 1 58 := ⟨by decide +kernel, rfl⟩
theorem dX9_isBusier_58 : Dc cX9_isBusier 58 (fun o => .goto o) 71 61 := ⟨13, by decide +kernel, by decide, rfl⟩
theorem dX9_isBusier_61 : Dx cX9_isBusier 61 (.iload_n 1) 1 62 := ⟨by decide +kernel, rfl⟩
theorem dX9_isBusier_62 : Dx cX9_isBusier 62 (.iload_n 2) 1 63 := ⟨by decide +kernel, rfl⟩
theorem dX9_isBusier_63 : Dc cX9_isBusier 63 (fun o => .if_icmp .ge o) 70 66 := ⟨7, by decide +kernel, by decide, rfl⟩
theorem dX9_isBusier_66 : Dx cX9_isBusier 66 (.iconst 1) 1 67 := ⟨by decide +kernel, rfl⟩
theorem dX9_isBusier_67 : Dc cX9_isBusier 67 (fun o => .goto o) 71 70 := ⟨4, by decide +kernel, by decide, rfl⟩
theorem dX9_isBusier_70 : Dx cX9_isBusier 70 (.iconst 0) 1 71 := ⟨by decide +kernel, rfl⟩
theorem dX9_isBusier_71 : Dx cX9_isBusier 71 (.ireturn) 1 72 := ⟨by decide +kernel, rfl⟩
theorem dX9_busiest_0 : Dx cX9_busiest 0 (.iconst 0) 1 1 := ⟨by decide +kernel, rfl⟩
theorem dX9_busiest_1 : Dx cX9_busiest 1 (.istore_n 2) 1 2 := ⟨by decide +kernel, rfl⟩
theorem dX9_busiest_2 : Dx cX9_busiest 2 (.iload_n 2) 1 3 := ⟨by decide +kernel, rfl⟩
theorem dX9_busiest_3 : Dx cX9_busiest 3 (.aload_n 0) 1 4 := ⟨by decide +kernel, rfl⟩
theorem dX9_busiest_4 : Dx cX9_busiest 4 (.getfield 9) 3 7 := ⟨by decide +kernel, rfl⟩
theorem dX9_busiest_7 : Dx cX9_busiest 7 (.iconst 1) 1 8 := ⟨by decide +kernel, rfl⟩
theorem dX9_busiest_8 : Dx cX9_busiest 8 (.iaload) 1 9 := ⟨by decide +kernel, rfl⟩
theorem dX9_busiest_9 : Dc cX9_busiest 9 (fun o => .if_icmp .ge o) 76 12 := ⟨67, by decide +kernel, by decide, rfl⟩
theorem dX9_busiest_12 : Dx cX9_busiest 12 (.iconst 0) 1 13 := ⟨by decide +kernel, rfl⟩
theorem dX9_busiest_13 : Dx cX9_busiest 13 (.istore_n 3) 1 14 := ⟨by decide +kernel, rfl⟩
theorem dX9_busiest_14 : Dx cX9_busiest 14 (.iconst 0) 1 15 := ⟨by decide +kernel, rfl⟩
theorem dX9_busiest_15 : Dx cX9_busiest 15 (.istore 4) 2 17 := ⟨by decide +kernel, rfl⟩
theorem dX9_busiest_17 : Dx cX9_busiest 17 (.iload 4) 2 19 := ⟨by decide +kernel, rfl⟩
theorem dX9_busiest_19 : Dx cX9_busiest 19 (.aload_n 0) 1 20 := ⟨by decide +kernel, rfl⟩
theorem dX9_busiest_20 : Dx cX9_busiest 20 (.getfield 9) 3 23 := ⟨by decide +kernel, rfl⟩
theorem dX9_busiest_23 : Dx cX9_busiest 23 (.iconst 1) 1 24 := ⟨by decide +kernel, rfl⟩
theorem dX9_busiest_24 : Dx cX9_busiest 24 (.iaload) 1 25 := ⟨by decide +kernel, rfl⟩
theorem dX9_busiest_25 : Dc cX9_busiest 25 (fun o => .if_icmp .ge o) 58 28 := ⟨33, by decide +kernel, by decide, rfl⟩
theorem dX9_busiest_28 : Dx cX9_busiest 28 (.iload_n 3) 1 29 := ⟨by decide +kernel, rfl⟩
theorem dX9_busiest_29 : Dx cX9_busiest 29 (.iload 4) 2 31 := ⟨by decide +kernel, rfl⟩
theorem dX9_busiest_31 : Dx cX9_busiest 31 (.iload_n 2) 1 32 := ⟨by decide +kernel, rfl⟩
theorem dX9_busiest_32 : Dc cX9_busiest 32 (fun o => .if_icmp .eq o) 49 35 := ⟨17, by decide +kernel, by decide, rfl⟩
theorem dX9_busiest_35 : Dx cX9_busiest 35 (.aload_n 0) 1 36 := ⟨by decide +kernel, rfl⟩
theorem dX9_busiest_36 : Dx cX9_busiest 36 (.iload 4) 2 38 := ⟨by decide +kernel, rfl⟩
theorem dX9_busiest_38 : Dx cX9_busiest 38 (.iload_n 2) 1 39 := ⟨by decide +kernel, rfl⟩
theorem dX9_busiest_39 : Dx cX9_busiest 39 (.invokevirtual 224) 3 42 := ⟨by decide +kernel, rfl⟩
theorem dX9_busiest_42 : Dc cX9_busiest 42 (fun o => .ifCond .eq o) 49 45 := ⟨7, by decide +kernel, by decide, rfl⟩
theorem dX9_busiest_45 : Dx cX9_busiest 45 (.iconst 1) 1 46 := ⟨by decide +kernel, rfl⟩
theorem dX9_busiest_46 : Dc cX9_busiest 46 (fun o => .goto o) 50 49 := ⟨4, by decide +kernel, by decide, rfl⟩
theorem dX9_busiest_49 : Dx cX9_busiest 49 (.iconst 0) 1 50 := ⟨by decide +kernel, rfl⟩
theorem dX9_busiest_50 : Dx cX9_busiest 50 (.iadd) 1 51 := ⟨by decide +kernel, rfl⟩
theorem dX9_busiest_51 : Dx cX9_busiest 51 (.istore_n 3) 1 52 := ⟨by decide +kernel, rfl⟩
theorem dX9_busiest_52 : Dx cX9_busiest 52 (.iinc 4 1) 3 55 := ⟨by decide +kernel, rfl⟩
theorem dX9_busiest_55 : Dc cX9_busiest 55 (fun o => .goto o) 17 58 := ⟨(-38), by decide +kernel, by decide, rfl⟩
theorem dX9_busiest_58 : Dx cX9_busiest 58 (.iload_n 3) 1 59 := ⟨by decide +kernel, rfl⟩
theorem dX9_busiest_59 : Dx cX9_busiest 59 (.iload_n 1) 1 60 := ⟨by decide +kernel, rfl⟩
theorem dX9_busiest_60 : Dc cX9_busiest 60 (fun o => .if_icmp .ne o) 70 63 := ⟨10, by decide +kernel, by decide, rfl⟩
theorem dX9_busiest_63 : Dx cX9_busiest 63 (.aload_n 0) 1 64 := ⟨by decide +kernel, rfl⟩
theorem dX9_busiest_64 : Dx cX9_busiest 64 (.iconst 0) 1 65 := ⟨by decide +kernel, rfl⟩
theorem dX9_busiest_65 : Dx cX9_busiest 65 (.putfield 38) 3 68 := ⟨by decide +kernel, rfl⟩
theorem dX9_busiest_68 : Dx cX9_busiest 68 (.iload_n 2) 1 69 := ⟨by decide +kernel, rfl⟩
theorem dX9_busiest_69 : Dx cX9_busiest 69 (.ireturn) 1 70 := ⟨by decide +kernel, rfl⟩
theorem dX9_busiest_70 : Dx cX9_busiest 70 (.iinc 2 1) 3 73 := ⟨by decide +kernel, rfl⟩
theorem dX9_busiest_73 : Dc cX9_busiest 73 (fun o => .goto o) 2 76 := ⟨(-71), by decide +kernel, by decide, rfl⟩
theorem dX9_busiest_76 : Dx cX9_busiest 76 (.aload_n 0) 1 77 := ⟨by decide +kernel, rfl⟩
theorem dX9_busiest_77 : Dx cX9_busiest 77 (.iconst 1) 1 78 := ⟨by decide +kernel, rfl⟩
theorem dX9_busiest_78 : Dx cX9_busiest 78 (.putfield 38) 3 81 := ⟨by decide +kernel, rfl⟩
theorem dX9_busiest_81 : Dx cX9_busiest 81 (.iconst 0) 1 82 := ⟨by decide +kernel, rfl⟩
theorem dX9_busiest_82 : Dx cX9_busiest 82 (.ireturn) 1 83 := ⟨by decide +kernel, rfl⟩
theorem dX9_append_0 : Dx cX9_append 0 (.aload_n 0) 1 1 := ⟨by decide +kernel, rfl⟩
theorem dX9_append_1 : Dx cX9_append 1 (.aload_n 0) 1 2 := ⟨by decide +kernel, rfl⟩
theorem dX9_append_2 : Dx cX9_append 2 (.getfield 227) 3 5 := ⟨by decide +kernel, rfl⟩
theorem dX9_append_5 : Dx cX9_append 5 (.bipush 60) 2 7 := ⟨by decide +kernel, rfl⟩
theorem dX9_append_7 : Dc cX9_append 7 (fun o => .if_icmp .ne o) 14 10 := ⟨7, by decide +kernel, by decide, rfl⟩
theorem dX9_append_10 : Dx cX9_append 10 (.iconst 1) 1 11 := ⟨by decide +kernel, rfl⟩
theorem dX9_append_11 : Dc cX9_append 11 (fun o => .goto o) 15 14 := ⟨4, by decide +kernel, by decide, rfl⟩
theorem dX9_append_14 : Dx cX9_append 14 (.iconst 0) 1 15 := ⟨by decide +kernel, rfl⟩
theorem dX9_append_15 : Dx cX9_append 15 (.iconst 1) 1 16 := ⟨by decide +kernel, rfl⟩
theorem dX9_append_16 : Dx cX9_append 16 (.invokevirtual 207) 3 19 := ⟨by decide +kernel, rfl⟩
theorem dX9_append_19 : Dc cX9_append 19 (fun o => .ifCond .eq o) 24 22 := ⟨5, by decide +kernel, by decide, rfl⟩
theorem dX9_append_22 : Dx cX9_append 22 (.iconst 0) 1 23 := ⟨by decide +kernel, rfl⟩
theorem dX9_append_23 : Dx cX9_append 23 (.ireturn) 1 24 := ⟨by decide +kernel, rfl⟩
theorem dX9_append_24 : Dx cX9_append 24 (.aload_n 0) 1 25 := ⟨by decide +kernel, rfl⟩
theorem dX9_append_25 : Dx cX9_append 25 (.getfield 29) 3 28 := ⟨by decide +kernel, rfl⟩
theorem dX9_append_28 : Dx cX9_append 28 (.aload_n 0) 1 29 := ⟨by decide +kernel, rfl⟩
theorem dX9_append_29 : Dx cX9_append 29 (.getfield 227) 3 32 := ⟨by decide +kernel, rfl⟩
theorem dX9_append_32 : Dx cX9_append 32 (.iload_n 1) 1 33 := ⟨by decide +kernel, rfl⟩
theorem dX9_append_33 : Dx cX9_append 33 (.iastore) 1 34 := ⟨by decide +kernel, rfl⟩
theorem dX9_append_34 : Dx cX9_append 34 (.aload_n 0) 1 35 := ⟨by decide +kernel, rfl⟩
theorem dX9_append_35 : Dx cX9_append 35 (.dup) 1 36 := ⟨by decide +kernel, rfl⟩
theorem dX9_append_36 : Dx cX9_append 36 (.getfield 227) 3 39 := ⟨by decide +kernel, rfl⟩
theorem dX9_append_39 : Dx cX9_append 39 (.iconst 1) 1 40 := ⟨by decide +kernel, rfl⟩
theorem dX9_append_40 : Dx cX9_append 40 (.iadd) 1 41 := ⟨by decide +kernel, rfl⟩
theorem dX9_append_41 : Dx cX9_append 41 (.putfield 227) 3 44 := ⟨by decide +kernel, rfl⟩
theorem dX9_append_44 : Dx cX9_append 44 (.aload_n 0) 1 45 := ⟨by decide +kernel, rfl⟩
theorem dX9_append_45 : Dx cX9_append 45 (.getfield 227) 3 48 := ⟨by decide +kernel, rfl⟩
theorem dX9_append_48 : Dx cX9_append 48 (.ireturn) 1 49 := ⟨by decide +kernel, rfl⟩
theorem dX9_sign_0 : Dx cX9_sign 0 (.aload_n 0) 1 1 := ⟨by decide +kernel, rfl⟩
theorem dX9_sign_1 : Dx cX9_sign 1 (.getfield 230) 3 4 := ⟨by decide +kernel, rfl⟩
theorem dX9_sign_4 : Dx cX9_sign 4 (.aload_n 0) 1 5 := ⟨by decide +kernel, rfl⟩
theorem dX9_sign_5 : Dx cX9_sign 5 (.getfield 227) 3 8 := ⟨by decide +kernel, rfl⟩
theorem dX9_sign_8 : Dc cX9_sign 8 (fun o => .if_icmp .ge o) 23 11 := ⟨15, by decide +kernel, by decide, rfl⟩
theorem dX9_sign_11 : Dx cX9_sign 11 (.aload_n 0) 1 12 := ⟨by decide +kernel, rfl⟩
theorem dX9_sign_12 : Dx cX9_sign 12 (.getfield 29) 3 15 := ⟨by decide +kernel, rfl⟩
theorem dX9_sign_15 : Dx cX9_sign 15 (.aload_n 0) 1 16 := ⟨by decide +kernel, rfl⟩
theorem dX9_sign_16 : Dx cX9_sign 16 (.getfield 230) 3 19 := ⟨by decide +kernel, rfl⟩
theorem dX9_sign_19 : Dx cX9_sign 19 (.iaload) 1 20 := ⟨by decide +kernel, rfl⟩
theorem dX9_sign_20 : Dc cX9_sign 20 (fun o => .goto o) 24 23 := ⟨4, by decide +kernel, by decide, rfl⟩
theorem dX9_sign_23 : Dx cX9_sign 23 (.iconst (-1)) 1 24 := ⟨by decide +kernel, rfl⟩
theorem dX9_sign_24 : Dx cX9_sign 24 (.ireturn) 1 25 := ⟨by decide +kernel, rfl⟩
theorem dX9_isSign_0 : Dx cX9_isSign 0 (.aload_n 0) 1 1 := ⟨by decide +kernel, rfl⟩
theorem dX9_isSign_1 : Dx cX9_isSign 1 (.invokevirtual 233) 3 4 := ⟨by decide +kernel, rfl⟩
theorem dX9_isSign_4 : Dx cX9_isSign 4 (.iload_n 1) 1 5 := ⟨by decide +kernel, rfl⟩
theorem dX9_isSign_5 : Dc cX9_isSign 5 (fun o => .if_icmp .ne o) 12 8 := ⟨7, by decide +kernel, by decide, rfl⟩
theorem dX9_isSign_8 : Dx cX9_isSign 8 (.iconst 1) 1 9 := ⟨by decide +kernel, rfl⟩
theorem dX9_isSign_9 : Dc cX9_isSign 9 (fun o => .goto o) 13 12 := ⟨4, by decide +kernel, by decide, rfl⟩
theorem dX9_isSign_12 : Dx cX9_isSign 12 (.iconst 0) 1 13 := ⟨by decide +kernel, rfl⟩
theorem dX9_isSign_13 : Dx cX9_isSign 13 (.istore_n 2) 1 14 := ⟨by decide +kernel, rfl⟩
theorem dX9_isSign_14 : Dx cX9_isSign 14 (.aload_n 0) 1 15 := ⟨by decide +kernel, rfl⟩
theorem dX9_isSign_15 : Dx cX9_isSign 15 (.dup) 1 16 := ⟨by decide +kernel, rfl⟩
theorem dX9_isSign_16 : Dx cX9_isSign 16 (.getfield 230) 3 19 := ⟨by decide +kernel, rfl⟩
theorem dX9_isSign_19 : Dx cX9_isSign 19 (.iload_n 2) 1 20 := ⟨by decide +kernel, rfl⟩
theorem dX9_isSign_20 : Dc cX9_isSign 20 (fun o => .ifCond .eq o) 27 23 := ⟨7, by decide +kernel, by decide, rfl⟩
theorem dX9_isSign_23 : Dx cX9_isSign 23 (.iconst 1) 1 24 := ⟨by decide +kernel, rfl⟩
theorem dX9_isSign_24 : Dc cX9_isSign 24 (fun o => .goto o) 28 27 := ⟨4, by decide +kernel, by decide, rfl⟩
theorem dX9_isSign_27 : Dx cX9_isSign 27 (.iconst 0) 1 28 := ⟨by decide +kernel, rfl⟩
theorem dX9_isSign_28 : Dx cX9_isSign 28 (.iadd) 1 29 := ⟨by decide +kernel, rfl⟩
theorem dX9_isSign_29 : Dx cX9_isSign 29 (.putfield 230) 3 32 := ⟨by decide +kernel, rfl⟩
theorem dX9_isSign_32 : Dx cX9_isSign 32 (.iload_n 2) 1 33 := ⟨by decide +kernel, rfl⟩
theorem dX9_isSign_33 : Dx cX9_isSign 33 (.ireturn) 1 34 := ⟨by decide +kernel, rfl⟩
theorem dX9_isNumber_0 : Dx cX9_isNumber 0 (.iconst 0) 1 1 := ⟨by decide +kernel, rfl⟩
theorem dX9_isNumber_1 : Dx cX9_isNumber 1 (.istore_n 3) 1 2 := ⟨by decide +kernel, rfl⟩
theorem dX9_isNumber_2 : Dx cX9_isNumber 2 (.iconst 0) 1 3 := ⟨by decide +kernel, rfl⟩
theorem dX9_isNumber_3 : Dx cX9_isNumber 3 (.istore 4) 2 5 := ⟨by decide +kernel, rfl⟩
theorem dX9_isNumber_5 : Dx cX9_isNumber 5 (.iload 4) 2 7 := ⟨by decide +kernel, rfl⟩
theorem dX9_isNumber_7 : Dx cX9_isNumber 7 (.iload_n 1) 1 8 := ⟨by decide +kernel, rfl⟩
theorem dX9_isNumber_8 : Dc cX9_isNumber 8 (fun o => .if_icmp .ge o) 54 11 := ⟨46, by decide +kernel, by decide, rfl⟩
theorem dX9_isNumber_11 : Dx cX9_isNumber 11 (.aload_n 0) 1 12 := ⟨by decide +kernel, rfl⟩
theorem dX9_isNumber_12 : Dx cX9_isNumber 12 (.invokevirtual 233) 3 15 := ⟨by decide +kernel, rfl⟩
theorem dX9_isNumber_15 : Dx cX9_isNumber 15 (.bipush 48) 2 17 := ⟨by decide +kernel, rfl⟩
theorem dX9_isNumber_17 : Dx cX9_isNumber 17 (.bipush 57) 2 19 := ⟨by decide +kernel, rfl⟩
theorem dX9_isNumber_19 : Dx cX9_isNumber 19 (.invokestatic 60) 3 22 := ⟨by decide +kernel, rfl⟩
theorem dX9_isNumber_22 : Dc cX9_isNumber 22 (fun o => .ifCond .eq o) 54 25 := ⟨32, by decide +kernel, by decide, rfl⟩
theorem dX9_isNumber_25 : Dx cX9_isNumber 25 (.bipush 10) 2 27 := ⟨by decide +kernel, rfl⟩
theorem dX9_isNumber_27 : Dx cX9_isNumber 27 (.iload_n 3) 1 28 := ⟨by decide +kernel, rfl⟩
theorem dX9_isNumber_28 : Dx cX9_isNumber 28 (.imul) 1 29 := ⟨by decide +kernel, rfl⟩
theorem dX9_isNumber_29 : Dx cX9_isNumber 29 (.aload_n 0) 1 30 := ⟨by decide +kernel, rfl⟩
theorem dX9_isNumber_30 : Dx cX9_isNumber 30 (.invokevirtual 233) 3 33 := ⟨by decide +kernel, rfl⟩
theorem dX9_isNumber_33 : Dx cX9_isNumber 33 (.iadd) 1 34 := ⟨by decide +kernel, rfl⟩
theorem dX9_isNumber_34 : Dx cX9_isNumber 34 (.bipush 48) 2 36 := ⟨by decide +kernel, rfl⟩
theorem dX9_isNumber_36 : Dx cX9_isNumber 36 (.isub) 1 37 := ⟨by decide +kernel, rfl⟩
theorem dX9_isNumber_37 : Dx cX9_isNumber 37 (.istore_n 3) 1 38 := ⟨by decide +kernel, rfl⟩
theorem dX9_isNumber_38 : Dx cX9_isNumber 38 (.aload_n 0) 1 39 := ⟨by decide +kernel, rfl⟩
theorem dX9_isNumber_39 : Dx cX9_isNumber 39 (.dup) 1 40 := ⟨by decide +kernel, rfl⟩
theorem dX9_isNumber_40 : Dx cX9_isNumber 40 (.getfield 230) 3 43 := ⟨by decide +kernel, rfl⟩
theorem dX9_isNumber_43 : Dx cX9_isNumber 43 (.iconst 1) 1 44 := ⟨by decide +kernel, rfl⟩
theorem dX9_isNumber_44 : Dx cX9_isNumber 44 (.iadd) 1 45 := ⟨by decide +kernel, rfl⟩
theorem dX9_isNumber_45 : Dx cX9_isNumber 45 (.putfield 230) 3 48 := ⟨by decide +kernel, rfl⟩
theorem dX9_isNumber_48 : Dx cX9_isNumber 48 (.iinc 4 1) 3 51 := ⟨by decide +kernel, rfl⟩
theorem dX9_isNumber_51 : Dc cX9_isNumber 51 (fun o => .goto o) 5 54 := ⟨(-46), by decide +kernel, by decide, rfl⟩
theorem dX9_isNumber_54 : Dx cX9_isNumber 54 (.aload_n 0) 1 55 := ⟨by decide +kernel, rfl⟩
theorem dX9_isNumber_55 : Dx cX9_isNumber 55 (.getfield 32) 3 58 := ⟨by decide +kernel, rfl⟩
theorem dX9_isNumber_58 : Dx cX9_isNumber 58 (.iload_n 2) 1 59 := ⟨by decide +kernel, rfl⟩
theorem dX9_isNumber_59 : Dx cX9_isNumber 59 (.iload_n 3) 1 60 := ⟨by decide +kernel, rfl⟩
theorem dX9_isNumber_60 : Dx cX9_isNumber 60 (.iastore) 1 61 := ⟨by decide +kernel, rfl⟩
theorem dX9_isNumber_61 : Dx cX9_isNumber 61 (.iload 4) 2 63 := ⟨by decide +kernel, rfl⟩
theorem dX9_isNumber_63 : Dc cX9_isNumber 63 (fun o => .ifCond .le o) 70 66 := ⟨7, by decide +kernel, by decide, rfl⟩
theorem dX9_isNumber_66 : Dx cX9_isNumber 66 (.iconst 1) 1 67 := ⟨by decide +kernel, rfl⟩
theorem dX9_isNumber_67 : Dc cX9_isNumber 67 (fun o => .goto o) 71 70 := ⟨4, by decide +kernel, by decide, rfl⟩
theorem dX9_isNumber_70 : Dx cX9_isNumber 70 (.iconst 0) 1 71 := ⟨by decide +kernel, rfl⟩
theorem dX9_isNumber_71 : Dx cX9_isNumber 71 (.ireturn) 1 72 := ⟨by decide +kernel, rfl⟩
theorem dX9_isWord_0 : Dx cX9_isWord 0 (.iload_n 0) 1 1 := ⟨by decide +kernel, rfl⟩
theorem dX9_isWord_1 : Dx cX9_isWord 1 (.bipush 109) 2 3 := ⟨by decide +kernel, rfl⟩
theorem dX9_isWord_3 : Dc cX9_isWord 3 (fun o => .if_icmp .eq o) 54 6 := ⟨51, by decide +kernel, by decide, rfl⟩
theorem dX9_isWord_6 : Dx cX9_isWord 6 (.iload_n 0) 1 7 := ⟨by decide +kernel, rfl⟩
theorem dX9_isWord_7 : Dx cX9_isWord 7 (.bipush 120) 2 9 := ⟨by decide +kernel, rfl⟩
theorem dX9_isWord_9 : Dc cX9_isWord 9 (fun o => .if_icmp .eq o) 54 12 := ⟨45, by decide +kernel, by decide, rfl⟩
theorem dX9_isWord_12 : Dx cX9_isWord 12 (.iload_n 0) 1 13 := ⟨by decide +kernel, rfl⟩
theorem dX9_isWord_13 : Dx cX9_isWord 13 (.bipush 117) 2 15 := ⟨by decide +kernel, rfl⟩
theorem dX9_isWord_15 : Dc cX9_isWord 15 (fun o => .if_icmp .eq o) 54 18 := ⟨39, by decide +kernel, by decide, rfl⟩
theorem dX9_isWord_18 : Dx cX9_isWord 18 (.iload_n 0) 1 19 := ⟨by decide +kernel, rfl⟩
theorem dX9_isWord_19 : Dx cX9_isWord 19 (.bipush 98) 2 21 := ⟨by decide +kernel, rfl⟩
theorem dX9_isWord_21 : Dc cX9_isWord 21 (fun o => .if_icmp .eq o) 54 24 := ⟨33, by decide +kernel, by decide, rfl⟩
theorem dX9_isWord_24 : Dx cX9_isWord 24 (.iload_n 0) 1 25 := ⟨by decide +kernel, rfl⟩
theorem dX9_isWord_25 : Dx cX9_isWord 25 (.bipush 99) 2 27 := ⟨by decide +kernel, rfl⟩
theorem dX9_isWord_27 : Dc cX9_isWord 27 (fun o => .if_icmp .eq o) 54 30 := ⟨27, by decide +kernel, by decide, rfl⟩
theorem dX9_isWord_30 : Dx cX9_isWord 30 (.iload_n 0) 1 31 := ⟨by decide +kernel, rfl⟩
theorem dX9_isWord_31 : Dx cX9_isWord 31 (.bipush 111) 2 33 := ⟨by decide +kernel, rfl⟩
theorem dX9_isWord_33 : Dc cX9_isWord 33 (fun o => .if_icmp .eq o) 54 36 := ⟨21, by decide +kernel, by decide, rfl⟩
theorem dX9_isWord_36 : Dx cX9_isWord 36 (.iload_n 0) 1 37 := ⟨by decide +kernel, rfl⟩
theorem dX9_isWord_37 : Dx cX9_isWord 37 (.bipush 103) 2 39 := ⟨by decide +kernel, rfl⟩
theorem dX9_isWord_39 : Dc cX9_isWord 39 (fun o => .if_icmp .eq o) 54 42 := ⟨15, by decide +kernel, by decide, rfl⟩
theorem dX9_isWord_42 : Dx cX9_isWord 42 (.iload_n 0) 1 43 := ⟨by decide +kernel, rfl⟩
theorem dX9_isWord_43 : Dx cX9_isWord 43 (.bipush 108) 2 45 := ⟨by decide +kernel, rfl⟩
theorem dX9_isWord_45 : Dc cX9_isWord 45 (fun o => .if_icmp .eq o) 54 48 := ⟨9, by decide +kernel, by decide, rfl⟩
theorem dX9_isWord_48 : Dx cX9_isWord 48 (.iload_n 0) 1 49 := ⟨by decide +kernel, rfl⟩
theorem dX9_isWord_49 : Dx cX9_isWord 49 (.bipush 116) 2 51 := ⟨by decide +kernel, rfl⟩
theorem dX9_isWord_51 : Dc cX9_isWord 51 (fun o => .if_icmp .ne o) 58 54 := ⟨7, by decide +kernel, by decide, rfl⟩
theorem dX9_isWord_54 : Dx cX9_isWord 54 (.iconst 1) 1 55 := ⟨by decide +kernel, rfl⟩
theorem dX9_isWord_55 : Dc cX9_isWord 55 (fun o => .goto o) 59 58 := ⟨4, by decide +kernel, by decide, rfl⟩
theorem dX9_isWord_58 : Dx cX9_isWord 58 (.iconst 0) 1 59 := ⟨by decide +kernel, rfl⟩
theorem dX9_isWord_59 : Dx cX9_isWord 59 (.ireturn) 1 60 := ⟨by decide +kernel, rfl⟩
theorem dX9_readsCommand_0 : Dx cX9_readsCommand 0 (.iconst 3) 1 1 := ⟨by decide +kernel, rfl⟩
theorem dX9_readsCommand_1 : Dx cX9_readsCommand 1 (.aload_n 0) 1 2 := ⟨by decide +kernel, rfl⟩
theorem dX9_readsCommand_2 : Dx cX9_readsCommand 2 (.getfield 236) 3 5 := ⟨by decide +kernel, rfl⟩
theorem dX9_readsCommand_5 : Dx cX9_readsCommand 5 (.imul) 1 6 := ⟨by decide +kernel, rfl⟩
theorem dX9_readsCommand_6 : Dx cX9_readsCommand 6 (.istore_n 1) 1 7 := ⟨by decide +kernel, rfl⟩
theorem dX9_readsCommand_7 : Dx cX9_readsCommand 7 (.aload_n 0) 1 8 := ⟨by decide +kernel, rfl⟩
theorem dX9_readsCommand_8 : Dx cX9_readsCommand 8 (.invokevirtual 233) 3 11 := ⟨by decide +kernel, rfl⟩
theorem dX9_readsCommand_11 : Dx cX9_readsCommand 11 (.istore_n 2) 1 12 := ⟨by decide +kernel, rfl⟩
theorem dX9_readsCommand_12 : Dx cX9_readsCommand 12 (.aload_n 0) 1 13 := ⟨by decide +kernel, rfl⟩
theorem dX9_readsCommand_13 : Dx cX9_readsCommand 13 (.dup) 1 14 := ⟨by decide +kernel, rfl⟩
theorem dX9_readsCommand_14 : Dx cX9_readsCommand 14 (.getfield 236) 3 17 := ⟨by decide +kernel, rfl⟩
theorem dX9_readsCommand_17 : Dx cX9_readsCommand 17 (.iconst 1) 1 18 := ⟨by decide +kernel, rfl⟩
theorem dX9_readsCommand_18 : Dx cX9_readsCommand 18 (.iadd) 1 19 := ⟨by decide +kernel, rfl⟩
theorem dX9_readsCommand_19 : Dx cX9_readsCommand 19 (.putfield 236) 3 22 := ⟨by decide +kernel, rfl⟩
theorem dX9_readsCommand_22 : Dx cX9_readsCommand 22 (.aload_n 0) 1 23 := ⟨by decide +kernel, rfl⟩
theorem dX9_readsCommand_23 : Dx cX9_readsCommand 23 (.getfield 32) 3 26 := ⟨by decide +kernel, rfl⟩
theorem dX9_readsCommand_26 : Dx cX9_readsCommand 26 (.iload_n 1) 1 27 := ⟨by decide +kernel, rfl⟩
theorem dX9_readsCommand_27 : Dx cX9_readsCommand 27 (.iload_n 2) 1 28 := ⟨by decide +kernel, rfl⟩
theorem dX9_readsCommand_28 : Dx cX9_readsCommand 28 (.iastore) 1 29 := ⟨by decide +kernel, rfl⟩
theorem dX9_readsCommand_29 : Dx cX9_readsCommand 29 (.aload_n 0) 1 30 := ⟨by decide +kernel, rfl⟩
theorem dX9_readsCommand_30 : Dx cX9_readsCommand 30 (.dup) 1 31 := ⟨by decide +kernel, rfl⟩
theorem dX9_readsCommand_31 : Dx cX9_readsCommand 31 (.getfield 230) 3 34 := ⟨by decide +kernel, rfl⟩
theorem dX9_readsCommand_34 : Dx cX9_readsCommand 34 (.iload_n 2) 1 35 := ⟨by decide +kernel, rfl⟩
theorem dX9_readsCommand_35 : Dx cX9_readsCommand 35 (.invokestatic 239) 3 38 := ⟨by decide +kernel, rfl⟩
theorem dX9_readsCommand_38 : Dc cX9_readsCommand 38 (fun o => .ifCond .eq o) 45 41 := ⟨7, by decide +kernel, by decide, rfl⟩
theorem dX9_readsCommand_41 : Dx cX9_readsCommand 41 (.iconst 1) 1 42 := ⟨by decide +kernel, rfl⟩
theorem dX9_readsCommand_42 : Dc cX9_readsCommand 42 (fun o => .goto o) 46 45 := ⟨4, by decide +kernel, by decide, rfl⟩
theorem dX9_readsCommand_45 : Dx cX9_readsCommand 45 (.iconst 0) 1 46 := ⟨by decide +kernel, rfl⟩
theorem dX9_readsCommand_46 : Dx cX9_readsCommand 46 (.iadd) 1 47 := ⟨by decide +kernel, rfl⟩
theorem dX9_readsCommand_47 : Dx cX9_readsCommand 47 (.putfield 230) 3 50 := ⟨by decide +kernel, rfl⟩
theorem dX9_readsCommand_50 : Dx cX9_readsCommand 50 (.iload_n 2) 1 51 := ⟨by decide +kernel, rfl⟩
theorem dX9_readsCommand_51 : Dx cX9_readsCommand 51 (.lookupswitch 114 #[(98, 49), (99, 49), (108, 105), (111, 77), (116, 105)]) 49 100 := ⟨by decide +kernel, rfl⟩
theorem dX9_readsCommand_100 : Dx cX9_readsCommand 100 (.aload_n 0) 1 101 := ⟨by decide +kernel, rfl⟩
theorem dX9_readsCommand_101 : Dx cX9_readsCommand 101 (.iconst 1) 1 102 := ⟨by decide +kernel, rfl⟩
theorem dX9_readsCommand_102 : Dx cX9_readsCommand 102 (.iload_n 1) 1 103 := ⟨by decide +kernel, rfl⟩
theorem dX9_readsCommand_103 : Dx cX9_readsCommand 103 (.iconst 1) 1 104 := ⟨by decide +kernel, rfl⟩
theorem dX9_readsCommand_104 : Dx cX9_readsCommand 104 (.iadd) 1 105 := ⟨by decide +kernel, rfl⟩
theorem dX9_readsCommand_105 : Dx cX9_readsCommand 105 (.invokevirtual 242) 3 108 := ⟨by decide +kernel, rfl⟩
theorem dX9_readsCommand_108 : Dc cX9_readsCommand 108 (fun o => .ifCond .eq o) 126 111 := ⟨18, by decide +kernel, by decide, rfl⟩
theorem dX9_readsCommand_111 : Dx cX9_readsCommand 111 (.aload_n 0) 1 112 := ⟨by decide +kernel, rfl⟩
theorem dX9_readsCommand_112 : Dx cX9_readsCommand 112 (.iconst 1) 1 113 := ⟨by decide +kernel, rfl⟩
theorem dX9_readsCommand_113 : Dx cX9_readsCommand 113 (.iload_n 1) 1 114 := ⟨by decide +kernel, rfl⟩
theorem dX9_readsCommand_114 : Dx cX9_readsCommand 114 (.iconst 2) 1 115 := ⟨by decide +kernel, rfl⟩
theorem dX9_readsCommand_115 : Dx cX9_readsCommand 115 (.iadd) 1 116 := ⟨by decide +kernel, rfl⟩
theorem dX9_readsCommand_116 : Dx cX9_readsCommand 116 (.invokevirtual 242) 3 119 := ⟨by decide +kernel, rfl⟩
theorem dX9_readsCommand_119 : Dc cX9_readsCommand 119 (fun o => .ifCond .eq o) 126 122 := ⟨7, by decide +kernel, by decide, rfl⟩
theorem dX9_readsCommand_122 : Dx cX9_readsCommand 122 (.iconst 1) 1 123 := ⟨by decide +kernel, rfl⟩
theorem dX9_readsCommand_123 : Dc cX9_readsCommand 123 (fun o => .goto o) 127 126 := ⟨4, by decide +kernel, by decide, rfl⟩
theorem dX9_readsCommand_126 : Dx cX9_readsCommand 126 (.iconst 0) 1 127 := ⟨by decide +kernel, rfl⟩
theorem dX9_readsCommand_127 : Dx cX9_readsCommand 127 (.ireturn) 1 128 := ⟨by decide +kernel, rfl⟩
theorem dX9_readsCommand_128 : Dx cX9_readsCommand 128 (.aload_n 0) 1 129 := ⟨by decide +kernel, rfl⟩
theorem dX9_readsCommand_129 : Dx cX9_readsCommand 129 (.iconst 1) 1 130 := ⟨by decide +kernel, rfl⟩
theorem dX9_readsCommand_130 : Dx cX9_readsCommand 130 (.iload_n 1) 1 131 := ⟨by decide +kernel, rfl⟩
theorem dX9_readsCommand_131 : Dx cX9_readsCommand 131 (.iconst 1) 1 132 := ⟨by decide +kernel, rfl⟩
theorem dX9_readsCommand_132 : Dx cX9_readsCommand 132 (.iadd) 1 133 := ⟨by decide +kernel, rfl⟩
theorem dX9_readsCommand_133 : Dx cX9_readsCommand 133 (.invokevirtual 242) 3 136 := ⟨by decide +kernel, rfl⟩
theorem dX9_readsCommand_136 : Dc cX9_readsCommand 136 (fun o => .ifCond .eq o) 154 139 := ⟨18, by decide +kernel, by decide, rfl⟩
theorem dX9_readsCommand_139 : Dx cX9_readsCommand 139 (.aload_n 0) 1 140 := ⟨by decide +kernel, rfl⟩
theorem dX9_readsCommand_140 : Dx cX9_readsCommand 140 (.iconst 2) 1 141 := ⟨by decide +kernel, rfl⟩
theorem dX9_readsCommand_141 : Dx cX9_readsCommand 141 (.iload_n 1) 1 142 := ⟨by decide +kernel, rfl⟩
theorem dX9_readsCommand_142 : Dx cX9_readsCommand 142 (.iconst 2) 1 143 := ⟨by decide +kernel, rfl⟩
theorem dX9_readsCommand_143 : Dx cX9_readsCommand 143 (.iadd) 1 144 := ⟨by decide +kernel, rfl⟩
theorem dX9_readsCommand_144 : Dx cX9_readsCommand 144 (.invokevirtual 242) 3 147 := ⟨by decide +kernel, rfl⟩
theorem dX9_readsCommand_147 : Dc cX9_readsCommand 147 (fun o => .ifCond .eq o) 154 150 := ⟨7, by decide +kernel, by decide, rfl⟩
theorem dX9_readsCommand_150 : Dx cX9_readsCommand 150 (.iconst 1) 1 151 := ⟨by decide +kernel, rfl⟩
theorem dX9_readsCommand_151 : Dc cX9_readsCommand 151 (fun o => .goto o) 155 154 := ⟨4, by decide +kernel, by decide, rfl⟩
theorem dX9_readsCommand_154 : Dx cX9_readsCommand 154 (.iconst 0) 1 155 := ⟨by decide +kernel, rfl⟩
theorem dX9_readsCommand_155 : Dx cX9_readsCommand 155 (.ireturn) 1 156 := ⟨by decide +kernel, rfl⟩
theorem dX9_readsCommand_156 : Dx cX9_readsCommand 156 (.aload_n 0) 1 157 := ⟨by decide +kernel, rfl⟩
theorem dX9_readsCommand_157 : Dx cX9_readsCommand 157 (.iconst 2) 1 158 := ⟨by decide +kernel, rfl⟩
theorem dX9_readsCommand_158 : Dx cX9_readsCommand 158 (.iload_n 1) 1 159 := ⟨by decide +kernel, rfl⟩
theorem dX9_readsCommand_159 : Dx cX9_readsCommand 159 (.iconst 1) 1 160 := ⟨by decide +kernel, rfl⟩
theorem dX9_readsCommand_160 : Dx cX9_readsCommand 160 (.iadd) 1 161 := ⟨by decide +kernel, rfl⟩
theorem dX9_readsCommand_161 : Dx cX9_readsCommand 161 (.invokevirtual 242) 3 164 := ⟨by decide +kernel, rfl⟩
theorem dX9_readsCommand_164 : Dx cX9_readsCommand 164 (.ireturn) 1 165 := ⟨by decide +kernel, rfl⟩
theorem dX9_readsCommand_165 : Dx cX9_readsCommand 165 (.iload_n 2) 1 166 := ⟨by decide +kernel, rfl⟩
theorem dX9_readsCommand_166 : Dx cX9_readsCommand 166 (.invokestatic 239) 3 169 := ⟨by decide +kernel, rfl⟩
theorem dX9_readsCommand_169 : Dc cX9_readsCommand 169 (fun o => .ifCond .eq o) 187 172 := ⟨18, by decide +kernel, by decide, rfl⟩
theorem dX9_readsCommand_172 : Dx cX9_readsCommand 172 (.aload_n 0) 1 173 := ⟨by decide +kernel, rfl⟩
theorem dX9_readsCommand_173 : Dx cX9_readsCommand 173 (.iconst 1) 1 174 := ⟨by decide +kernel, rfl⟩
theorem dX9_readsCommand_174 : Dx cX9_readsCommand 174 (.iload_n 1) 1 175 := ⟨by decide +kernel, rfl⟩
theorem dX9_readsCommand_175 : Dx cX9_readsCommand 175 (.iconst 1) 1 176 := ⟨by decide +kernel, rfl⟩
theorem dX9_readsCommand_176 : Dx cX9_readsCommand 176 (.iadd) 1 177 := ⟨by decide +kernel, rfl⟩
theorem dX9_readsCommand_177 : Dx cX9_readsCommand 177 (.invokevirtual 242) 3 180 := ⟨by decide +kernel, rfl⟩
theorem dX9_readsCommand_180 : Dc cX9_readsCommand 180 (fun o => .ifCond .eq o) 187 183 := ⟨7, by decide +kernel, by decide, rfl⟩
theorem dX9_readsCommand_183 : Dx cX9_readsCommand 183 (.iconst 1) 1 184 := ⟨by decide +kernel, rfl⟩
theorem dX9_readsCommand_184 : Dc cX9_readsCommand 184 (fun o => .goto o) 188 187 := ⟨4, by decide +kernel, by decide, rfl⟩
theorem dX9_readsCommand_187 : Dx cX9_readsCommand 187 (.iconst 0) 1 188 := ⟨by decide +kernel, rfl⟩
theorem dX9_readsCommand_188 : Dx cX9_readsCommand 188 (.ireturn) 1 189 := ⟨by decide +kernel, rfl⟩
theorem dX9_isText_0 : Dx cX9_isText 0 (.aload_n 0) 1 1 := ⟨by decide +kernel, rfl⟩
theorem dX9_isText_1 : Dx cX9_isText 1 (.iconst 0) 1 2 := ⟨by decide +kernel, rfl⟩
theorem dX9_isText_2 : Dx cX9_isText 2 (.putfield 230) 3 5 := ⟨by decide +kernel, rfl⟩
theorem dX9_isText_5 : Dx cX9_isText 5 (.aload_n 0) 1 6 := ⟨by decide +kernel, rfl⟩
theorem dX9_isText_6 : Dx cX9_isText 6 (.iconst 0) 1 7 := ⟨by decide +kernel, rfl⟩
theorem dX9_isText_7 : Dx cX9_isText 7 (.putfield 236) 3 10 := ⟨by decide +kernel, rfl⟩
theorem dX9_isText_10 : Dx cX9_isText 10 (.aload_n 0) 1 11 := ⟨by decide +kernel, rfl⟩
theorem dX9_isText_11 : Dx cX9_isText 11 (.invokevirtual 245) 3 14 := ⟨by decide +kernel, rfl⟩
theorem dX9_isText_14 : Dx cX9_isText 14 (.istore_n 1) 1 15 := ⟨by decide +kernel, rfl⟩
theorem dX9_isText_15 : Dx cX9_isText 15 (.iload_n 1) 1 16 := ⟨by decide +kernel, rfl⟩
theorem dX9_isText_16 : Dc cX9_isText 16 (fun o => .ifCond .eq o) 36 19 := ⟨20, by decide +kernel, by decide, rfl⟩
theorem dX9_isText_19 : Dx cX9_isText 19 (.aload_n 0) 1 20 := ⟨by decide +kernel, rfl⟩
theorem dX9_isText_20 : Dx cX9_isText 20 (.bipush 59) 2 22 := ⟨by decide +kernel, rfl⟩
theorem dX9_isText_22 : Dx cX9_isText 22 (.invokevirtual 249) 3 25 := ⟨by decide +kernel, rfl⟩
theorem dX9_isText_25 : Dc cX9_isText 25 (fun o => .ifCond .eq o) 36 28 := ⟨11, by decide +kernel, by decide, rfl⟩
theorem dX9_isText_28 : Dx cX9_isText 28 (.aload_n 0) 1 29 := ⟨by decide +kernel, rfl⟩
theorem dX9_isText_29 : Dx cX9_isText 29 (.invokevirtual 245) 3 32 := ⟨by decide +kernel, rfl⟩
theorem dX9_isText_32 : Dx cX9_isText 32 (.istore_n 1) 1 33 := ⟨by decide +kernel, rfl⟩
theorem dX9_isText_33 : Dc cX9_isText 33 (fun o => .goto o) 15 36 := ⟨(-18), by decide +kernel, by decide, rfl⟩
theorem dX9_isText_36 : Dx cX9_isText 36 (.iload_n 1) 1 37 := ⟨by decide +kernel, rfl⟩
theorem dX9_isText_37 : Dc cX9_isText 37 (fun o => .ifCond .eq o) 55 40 := ⟨18, by decide +kernel, by decide, rfl⟩
theorem dX9_isText_40 : Dx cX9_isText 40 (.aload_n 0) 1 41 := ⟨by decide +kernel, rfl⟩
theorem dX9_isText_41 : Dx cX9_isText 41 (.getfield 230) 3 44 := ⟨by decide +kernel, rfl⟩
theorem dX9_isText_44 : Dx cX9_isText 44 (.aload_n 0) 1 45 := ⟨by decide +kernel, rfl⟩
theorem dX9_isText_45 : Dx cX9_isText 45 (.getfield 227) 3 48 := ⟨by decide +kernel, rfl⟩
theorem dX9_isText_48 : Dc cX9_isText 48 (fun o => .if_icmp .ne o) 55 51 := ⟨7, by decide +kernel, by decide, rfl⟩
theorem dX9_isText_51 : Dx cX9_isText 51 (.iconst 1) 1 52 := ⟨by decide +kernel, rfl⟩
theorem dX9_isText_52 : Dc cX9_isText 52 (fun o => .goto o) 56 55 := ⟨4, by decide +kernel, by decide, rfl⟩
theorem dX9_isText_55 : Dx cX9_isText 55 (.iconst 0) 1 56 := ⟨by decide +kernel, rfl⟩
theorem dX9_isText_56 : Dx cX9_isText 56 (.ireturn) 1 57 := ⟨by decide +kernel, rfl⟩
theorem dX9_does_0 : Dx cX9_does 0 (.aload_n 0) 1 1 := ⟨by decide +kernel, rfl⟩
theorem dX9_does_1 : Dx cX9_does 1 (.getfield 32) 3 4 := ⟨by decide +kernel, rfl⟩
theorem dX9_does_4 : Dx cX9_does 4 (.iload_n 1) 1 5 := ⟨by decide +kernel, rfl⟩
theorem dX9_does_5 : Dx cX9_does 5 (.iconst 1) 1 6 := ⟨by decide +kernel, rfl⟩
theorem dX9_does_6 : Dx cX9_does 6 (.iadd) 1 7 := ⟨by decide +kernel, rfl⟩
theorem dX9_does_7 : Dx cX9_does 7 (.iaload) 1 8 := ⟨by decide +kernel, rfl⟩
theorem dX9_does_8 : Dx cX9_does 8 (.istore_n 2) 1 9 := ⟨by decide +kernel, rfl⟩
theorem dX9_does_9 : Dx cX9_does 9 (.aload_n 0) 1 10 := ⟨by decide +kernel, rfl⟩
theorem dX9_does_10 : Dx cX9_does 10 (.getfield 32) 3 13 := ⟨by decide +kernel, rfl⟩
theorem dX9_does_13 : Dx cX9_does 13 (.iload_n 1) 1 14 := ⟨by decide +kernel, rfl⟩
theorem dX9_does_14 : Dx cX9_does 14 (.iconst 2) 1 15 := ⟨by decide +kernel, rfl⟩
theorem dX9_does_15 : Dx cX9_does 15 (.iadd) 1 16 := ⟨by decide +kernel, rfl⟩
theorem dX9_does_16 : Dx cX9_does 16 (.iaload) 1 17 := ⟨by decide +kernel, rfl⟩
theorem dX9_does_17 : Dx cX9_does 17 (.istore_n 3) 1 18 := ⟨by decide +kernel, rfl⟩
theorem dX9_does_18 : Dx cX9_does 18 (.aload_n 0) 1 19 := ⟨by decide +kernel, rfl⟩
theorem dX9_does_19 : Dx cX9_does 19 (.getfield 32) 3 22 := ⟨by decide +kernel, rfl⟩
theorem dX9_does_22 : Dx cX9_does 22 (.iload_n 1) 1 23 := ⟨by decide +kernel, rfl⟩
theorem dX9_does_23 : Dx cX9_does 23 (.iaload) 1 24 := ⟨by decide +kernel, rfl⟩
theorem dX9_does_24 : Dx cX9_does 24 (.tableswitch 159 98 120 #[126, 133, 159, 159, 159, 147, 159, 159, 159, 159, 153, 108, 159, 140, 159, 159, 159, 159, 159, 120, 159, 159, 114]) 108 132 := ⟨by decide +kernel, rfl⟩
theorem dX9_does_132 : Dx cX9_does 132 (.aload_n 0) 1 133 := ⟨by decide +kernel, rfl⟩
theorem dX9_does_133 : Dx cX9_does 133 (.iload_n 2) 1 134 := ⟨by decide +kernel, rfl⟩
theorem dX9_does_134 : Dx cX9_does 134 (.invokevirtual 97) 3 137 := ⟨by decide +kernel, rfl⟩
theorem dX9_does_137 : Dx cX9_does 137 (.ireturn) 1 138 := ⟨by decide +kernel, rfl⟩
theorem dX9_does_138 : Dx cX9_does 138 (.aload_n 0) 1 139 := ⟨by decide +kernel, rfl⟩
theorem dX9_does_139 : Dx cX9_does 139 (.iload_n 2) 1 140 := ⟨by decide +kernel, rfl⟩
theorem dX9_does_140 : Dx cX9_does 140 (.invokevirtual 116) 3 143 := ⟨by decide +kernel, rfl⟩
theorem dX9_does_143 : Dx cX9_does 143 (.ireturn) 1 144 := ⟨by decide +kernel, rfl⟩
theorem dX9_does_144 : Dx cX9_does 144 (.aload_n 0) 1 145 := ⟨by decide +kernel, rfl⟩
theorem dX9_does_145 : Dx cX9_does 145 (.iload_n 2) 1 146 := ⟨by decide +kernel, rfl⟩
theorem dX9_does_146 : Dx cX9_does 146 (.invokevirtual 119) 3 149 := ⟨by decide +kernel, rfl⟩
theorem dX9_does_149 : Dx cX9_does 149 (.ireturn) 1 150 := ⟨by decide +kernel, rfl⟩
theorem dX9_does_150 : Dx cX9_does 150 (.aload_n 0) 1 151 := ⟨by decide +kernel, rfl⟩
theorem dX9_does_151 : Dx cX9_does 151 (.iload_n 2) 1 152 := ⟨by decide +kernel, rfl⟩
theorem dX9_does_152 : Dx cX9_does 152 (.iload_n 3) 1 153 := ⟨by decide +kernel, rfl⟩
theorem dX9_does_153 : Dx cX9_does 153 (.invokevirtual 128) 3 156 := ⟨by decide +kernel, rfl⟩
theorem dX9_does_156 : Dx cX9_does 156 (.ireturn) 1 157 := ⟨by decide +kernel, rfl⟩
theorem dX9_does_157 : Dx cX9_does 157 (.aload_n 0) 1 158 := ⟨by decide +kernel, rfl⟩
theorem dX9_does_158 : Dx cX9_does 158 (.iload_n 2) 1 159 := ⟨by decide +kernel, rfl⟩
theorem dX9_does_159 : Dx cX9_does 159 (.iload_n 3) 1 160 := ⟨by decide +kernel, rfl⟩
theorem dX9_does_160 : Dx cX9_does 160 (.invokevirtual 167) 3 163 := ⟨by decide +kernel, rfl⟩
theorem dX9_does_163 : Dx cX9_does 163 (.ireturn) 1 164 := ⟨by decide +kernel, rfl⟩
theorem dX9_does_164 : Dx cX9_does 164 (.aload_n 0) 1 165 := ⟨by decide +kernel, rfl⟩
theorem dX9_does_165 : Dx cX9_does 165 (.iload_n 2) 1 166 := ⟨by decide +kernel, rfl⟩
theorem dX9_does_166 : Dx cX9_does 166 (.iload_n 3) 1 167 := ⟨by decide +kernel, rfl⟩
theorem dX9_does_167 : Dx cX9_does 167 (.invokevirtual 170) 3 170 := ⟨by decide +kernel, rfl⟩
theorem dX9_does_170 : Dx cX9_does 170 (.ireturn) 1 171 := ⟨by decide +kernel, rfl⟩
theorem dX9_does_171 : Dx cX9_does 171 (.aload_n 0) 1 172 := ⟨by decide +kernel, rfl⟩
theorem dX9_does_172 : Dx cX9_does 172 (.iload_n 2) 1 173 := ⟨by decide +kernel, rfl⟩
theorem dX9_does_173 : Dx cX9_does 173 (.invokevirtual 180) 3 176 := ⟨by decide +kernel, rfl⟩
theorem dX9_does_176 : Dx cX9_does 176 (.ireturn) 1 177 := ⟨by decide +kernel, rfl⟩
theorem dX9_does_177 : Dx cX9_does 177 (.aload_n 0) 1 178 := ⟨by decide +kernel, rfl⟩
theorem dX9_does_178 : Dx cX9_does 178 (.iload_n 2) 1 179 := ⟨by decide +kernel, rfl⟩
theorem dX9_does_179 : Dx cX9_does 179 (.invokevirtual 183) 3 182 := ⟨by decide +kernel, rfl⟩
theorem dX9_does_182 : Dx cX9_does 182 (.ireturn) 1 183 := ⟨by decide +kernel, rfl⟩
theorem dX9_does_183 : Dx cX9_does 183 (.aload_n 0) 1 184 := ⟨by decide +kernel, rfl⟩
theorem dX9_does_184 : Dx cX9_does 184 (.iload_n 2) 1 185 := ⟨by decide +kernel, rfl⟩
theorem dX9_does_185 : Dx cX9_does 185 (.invokevirtual 204) 3 188 := ⟨by decide +kernel, rfl⟩
theorem dX9_does_188 : Dx cX9_does 188 (.ireturn) 1 189 := ⟨by decide +kernel, rfl⟩
theorem dX9_isCause_0 : Dx cX9_isCause 0 (.aload_n 0) 1 1 := ⟨by decide +kernel, rfl⟩
theorem dX9_isCause_1 : Dx cX9_isCause 1 (.aload_n 0) 1 2 := ⟨by decide +kernel, rfl⟩
theorem dX9_isCause_2 : Dx cX9_isCause 2 (.getfield 51) 3 5 := ⟨by decide +kernel, rfl⟩
theorem dX9_isCause_5 : Dx cX9_isCause 5 (.putfield 57) 3 8 := ⟨by decide +kernel, rfl⟩
theorem dX9_isCause_8 : Dx cX9_isCause 8 (.aload_n 0) 1 9 := ⟨by decide +kernel, rfl⟩
theorem dX9_isCause_9 : Dx cX9_isCause 9 (.aload_n 0) 1 10 := ⟨by decide +kernel, rfl⟩
theorem dX9_isCause_10 : Dx cX9_isCause 10 (.getfield 54) 3 13 := ⟨by decide +kernel, rfl⟩
theorem dX9_isCause_13 : Dx cX9_isCause 13 (.putfield 252) 3 16 := ⟨by decide +kernel, rfl⟩
theorem dX9_isCause_16 : Dx cX9_isCause 16 (.aload_n 0) 1 17 := ⟨by decide +kernel, rfl⟩
theorem dX9_isCause_17 : Dx cX9_isCause 17 (.bipush 12) 2 19 := ⟨by decide +kernel, rfl⟩
theorem dX9_isCause_19 : Dx cX9_isCause 19 (.putfield 51) 3 22 := ⟨by decide +kernel, rfl⟩
theorem dX9_isCause_22 : Dx cX9_isCause 22 (.aload_n 0) 1 23 := ⟨by decide +kernel, rfl⟩
theorem dX9_isCause_23 : Dx cX9_isCause 23 (.iload_n 1) 1 24 := ⟨by decide +kernel, rfl⟩
theorem dX9_isCause_24 : Dx cX9_isCause 24 (.putfield 54) 3 27 := ⟨by decide +kernel, rfl⟩
theorem dX9_isCause_27 : Dx cX9_isCause 27 (.return_) 1 28 := ⟨by decide +kernel, rfl⟩
theorem dX9_commands_0 : Dx cX9_commands 0 (.aload_n 0) 1 1 := ⟨by decide +kernel, rfl⟩
theorem dX9_commands_1 : Dx cX9_commands 1 (.invokevirtual 255) 3 4 := ⟨by decide +kernel, rfl⟩
theorem dX9_commands_4 : Dx cX9_commands 4 (.istore_n 1) 1 5 := ⟨by decide +kernel, rfl⟩
theorem dX9_commands_5 : Dx cX9_commands 5 (.aload_n 0) 1 6 := ⟨by decide +kernel, rfl⟩
theorem dX9_commands_6 : Dx cX9_commands 6 (.iconst 0) 1 7 := ⟨by decide +kernel, rfl⟩
theorem dX9_commands_7 : Dx cX9_commands 7 (.putfield 227) 3 10 := ⟨by decide +kernel, rfl⟩
theorem dX9_commands_10 : Dx cX9_commands 10 (.aload_n 0) 1 11 := ⟨by decide +kernel, rfl⟩
theorem dX9_commands_11 : Dx cX9_commands 11 (.iload_n 1) 1 12 := ⟨by decide +kernel, rfl⟩
theorem dX9_commands_12 : Dc cX9_commands 12 (fun o => .ifCond .eq o) 19 15 := ⟨7, by decide +kernel, by decide, rfl⟩
theorem dX9_commands_15 : Dx cX9_commands 15 (.iconst (-1)) 1 16 := ⟨by decide +kernel, rfl⟩
theorem dX9_commands_16 : Dc cX9_commands 16 (fun o => .goto o) 23 19 := ⟨7, by decide +kernel, by decide, rfl⟩
theorem dX9_commands_19 : Dx cX9_commands 19 (.aload_n 0) 1 20 := ⟨by decide +kernel, rfl⟩
theorem dX9_commands_20 : Dx cX9_commands 20 (.getfield 230) 3 23 := ⟨by decide +kernel, rfl⟩
theorem dX9_commands_23 : Dx cX9_commands 23 (.putfield 25) 3 26 := ⟨by decide +kernel, rfl⟩
theorem dX9_commands_26 : Dx cX9_commands 26 (.aload_n 0) 1 27 := ⟨by decide +kernel, rfl⟩
theorem dX9_commands_27 : Dx cX9_commands 27 (.iload_n 1) 1 28 := ⟨by decide +kernel, rfl⟩
theorem dX9_commands_28 : Dc cX9_commands 28 (fun o => .ifCond .ne o) 35 31 := ⟨7, by decide +kernel, by decide, rfl⟩
theorem dX9_commands_31 : Dx cX9_commands 31 (.iconst 1) 1 32 := ⟨by decide +kernel, rfl⟩
theorem dX9_commands_32 : Dc cX9_commands 32 (fun o => .goto o) 36 35 := ⟨4, by decide +kernel, by decide, rfl⟩
theorem dX9_commands_35 : Dx cX9_commands 35 (.iconst 0) 1 36 := ⟨by decide +kernel, rfl⟩
theorem dX9_commands_36 : Dx cX9_commands 36 (.iconst 1) 1 37 := ⟨by decide +kernel, rfl⟩
theorem dX9_commands_37 : Dx cX9_commands 37 (.invokevirtual 207) 3 40 := ⟨by decide +kernel, rfl⟩
theorem dX9_commands_40 : Dc cX9_commands 40 (fun o => .ifCond .eq o) 45 43 := ⟨5, by decide +kernel, by decide, rfl⟩
theorem dX9_commands_43 : Dx cX9_commands 43 (.iconst 0) 1 44 := ⟨by decide +kernel, rfl⟩
theorem dX9_commands_44 : Dx cX9_commands 44 (.ireturn) 1 45 := ⟨by decide +kernel, rfl⟩
theorem dX9_commands_45 : Dx cX9_commands 45 (.aload_n 0) 1 46 := ⟨by decide +kernel, rfl⟩
theorem dX9_commands_46 : Dx cX9_commands 46 (.invokevirtual 94) 3 49 := ⟨by decide +kernel, rfl⟩
theorem dX9_commands_49 : Dx cX9_commands 49 (.iconst 0) 1 50 := ⟨by decide +kernel, rfl⟩
theorem dX9_commands_50 : Dx cX9_commands 50 (.istore_n 2) 1 51 := ⟨by decide +kernel, rfl⟩
theorem dX9_commands_51 : Dx cX9_commands 51 (.iload_n 2) 1 52 := ⟨by decide +kernel, rfl⟩
theorem dX9_commands_52 : Dx cX9_commands 52 (.aload_n 0) 1 53 := ⟨by decide +kernel, rfl⟩
theorem dX9_commands_53 : Dx cX9_commands 53 (.getfield 236) 3 56 := ⟨by decide +kernel, rfl⟩
theorem dX9_commands_56 : Dc cX9_commands 56 (fun o => .if_icmp .ge o) 105 59 := ⟨49, by decide +kernel, by decide, rfl⟩
theorem dX9_commands_59 : Dx cX9_commands 59 (.aload_n 0) 1 60 := ⟨by decide +kernel, rfl⟩
theorem dX9_commands_60 : Dx cX9_commands 60 (.iconst 3) 1 61 := ⟨by decide +kernel, rfl⟩
theorem dX9_commands_61 : Dx cX9_commands 61 (.iload_n 2) 1 62 := ⟨by decide +kernel, rfl⟩
theorem dX9_commands_62 : Dx cX9_commands 62 (.imul) 1 63 := ⟨by decide +kernel, rfl⟩
theorem dX9_commands_63 : Dx cX9_commands 63 (.invokevirtual 258) 3 66 := ⟨by decide +kernel, rfl⟩
theorem dX9_commands_66 : Dx cX9_commands 66 (.istore_n 3) 1 67 := ⟨by decide +kernel, rfl⟩
theorem dX9_commands_67 : Dx cX9_commands 67 (.aload_n 0) 1 68 := ⟨by decide +kernel, rfl⟩
theorem dX9_commands_68 : Dx cX9_commands 68 (.getfield 38) 3 71 := ⟨by decide +kernel, rfl⟩
theorem dX9_commands_71 : Dc cX9_commands 71 (fun o => .ifCond .eq o) 99 74 := ⟨28, by decide +kernel, by decide, rfl⟩
theorem dX9_commands_74 : Dx cX9_commands 74 (.aload_n 0) 1 75 := ⟨by decide +kernel, rfl⟩
theorem dX9_commands_75 : Dx cX9_commands 75 (.iload_n 2) 1 76 := ⟨by decide +kernel, rfl⟩
theorem dX9_commands_76 : Dx cX9_commands 76 (.invokevirtual 261) 3 79 := ⟨by decide +kernel, rfl⟩
theorem dX9_commands_79 : Dx cX9_commands 79 (.aload_n 0) 1 80 := ⟨by decide +kernel, rfl⟩
theorem dX9_commands_80 : Dx cX9_commands 80 (.getfield 13) 3 83 := ⟨by decide +kernel, rfl⟩
theorem dX9_commands_83 : Dx cX9_commands 83 (.iconst 0) 1 84 := ⟨by decide +kernel, rfl⟩
theorem dX9_commands_84 : Dx cX9_commands 84 (.aload_n 0) 1 85 := ⟨by decide +kernel, rfl⟩
theorem dX9_commands_85 : Dx cX9_commands 85 (.getfield 9) 3 88 := ⟨by decide +kernel, rfl⟩
theorem dX9_commands_88 : Dx cX9_commands 88 (.iconst 0) 1 89 := ⟨by decide +kernel, rfl⟩
theorem dX9_commands_89 : Dx cX9_commands 89 (.invokestatic 41) 3 92 := ⟨by decide +kernel, rfl⟩
theorem dX9_commands_92 : Dx cX9_commands 92 (.aload_n 0) 1 93 := ⟨by decide +kernel, rfl⟩
theorem dX9_commands_93 : Dx cX9_commands 93 (.iload_n 3) 1 94 := ⟨by decide +kernel, rfl⟩
theorem dX9_commands_94 : Dx cX9_commands 94 (.iconst 2) 1 95 := ⟨by decide +kernel, rfl⟩
theorem dX9_commands_95 : Dx cX9_commands 95 (.invokevirtual 100) 3 98 := ⟨by decide +kernel, rfl⟩
theorem dX9_commands_98 : Dx cX9_commands 98 (.ireturn) 1 99 := ⟨by decide +kernel, rfl⟩
theorem dX9_commands_99 : Dx cX9_commands 99 (.iinc 2 1) 3 102 := ⟨by decide +kernel, rfl⟩
theorem dX9_commands_102 : Dc cX9_commands 102 (fun o => .goto o) 51 105 := ⟨(-51), by decide +kernel, by decide, rfl⟩
theorem dX9_commands_105 : Dx cX9_commands 105 (.aload_n 0) 1 106 := ⟨by decide +kernel, rfl⟩
theorem dX9_commands_106 : Dx cX9_commands 106 (.aload_n 0) 1 107 := ⟨by decide +kernel, rfl⟩
theorem dX9_commands_107 : Dx cX9_commands 107 (.getfield 236) 3 110 := ⟨by decide +kernel, rfl⟩
theorem dX9_commands_110 : Dx cX9_commands 110 (.iconst 2) 1 111 := ⟨by decide +kernel, rfl⟩
theorem dX9_commands_111 : Dx cX9_commands 111 (.invokevirtual 100) 3 114 := ⟨by decide +kernel, rfl⟩
theorem dX9_commands_114 : Dx cX9_commands 114 (.ireturn) 1 115 := ⟨by decide +kernel, rfl⟩
theorem dX9_faultPosition_0 : Dx cX9_faultPosition 0 (.aload_n 0) 1 1 := ⟨by decide +kernel, rfl⟩
theorem dX9_faultPosition_1 : Dx cX9_faultPosition 1 (.iconst 0) 1 2 := ⟨by decide +kernel, rfl⟩
theorem dX9_faultPosition_2 : Dx cX9_faultPosition 2 (.putfield 38) 3 5 := ⟨by decide +kernel, rfl⟩
theorem dX9_faultPosition_5 : Dx cX9_faultPosition 5 (.aload_n 0) 1 6 := ⟨by decide +kernel, rfl⟩
theorem dX9_faultPosition_6 : Dx cX9_faultPosition 6 (.getfield 25) 3 9 := ⟨by decide +kernel, rfl⟩
theorem dX9_faultPosition_9 : Dx cX9_faultPosition 9 (.ireturn) 1 10 := ⟨by decide +kernel, rfl⟩
theorem dX9_reason_0 : Dx cX9_reason 0 (.aload_n 0) 1 1 := ⟨by decide +kernel, rfl⟩
theorem dX9_reason_1 : Dx cX9_reason 1 (.iload_n 1) 1 2 := ⟨by decide +kernel, rfl⟩
theorem dX9_reason_2 : Dc cX9_reason 2 (fun o => .ifCond .eq o) 20 5 := ⟨18, by decide +kernel, by decide, rfl⟩
theorem dX9_reason_5 : Dx cX9_reason 5 (.aload_n 0) 1 6 := ⟨by decide +kernel, rfl⟩
theorem dX9_reason_6 : Dx cX9_reason 6 (.getfield 57) 3 9 := ⟨by decide +kernel, rfl⟩
theorem dX9_reason_9 : Dc cX9_reason 9 (fun o => .ifCond .ne o) 16 12 := ⟨7, by decide +kernel, by decide, rfl⟩
theorem dX9_reason_12 : Dx cX9_reason 12 (.iconst 1) 1 13 := ⟨by decide +kernel, rfl⟩
theorem dX9_reason_13 : Dc cX9_reason 13 (fun o => .goto o) 32 16 := ⟨19, by decide +kernel, by decide, rfl⟩
theorem dX9_reason_16 : Dx cX9_reason 16 (.iconst 0) 1 17 := ⟨by decide +kernel, rfl⟩
theorem dX9_reason_17 : Dc cX9_reason 17 (fun o => .goto o) 32 20 := ⟨15, by decide +kernel, by decide, rfl⟩
theorem dX9_reason_20 : Dx cX9_reason 20 (.aload_n 0) 1 21 := ⟨by decide +kernel, rfl⟩
theorem dX9_reason_21 : Dx cX9_reason 21 (.getfield 51) 3 24 := ⟨by decide +kernel, rfl⟩
theorem dX9_reason_24 : Dc cX9_reason 24 (fun o => .ifCond .ne o) 31 27 := ⟨7, by decide +kernel, by decide, rfl⟩
theorem dX9_reason_27 : Dx cX9_reason 27 (.iconst 1) 1 28 := ⟨by decide +kernel, rfl⟩
theorem dX9_reason_28 : Dc cX9_reason 28 (fun o => .goto o) 32 31 := ⟨4, by decide +kernel, by decide, rfl⟩
theorem dX9_reason_31 : Dx cX9_reason 31 (.iconst 0) 1 32 := ⟨by decide +kernel, rfl⟩
theorem dX9_reason_32 : Dx cX9_reason 32 (.iconst 1) 1 33 := ⟨by decide +kernel, rfl⟩
theorem dX9_reason_33 : Dx cX9_reason 33 (.invokevirtual 207) 3 36 := ⟨by decide +kernel, rfl⟩
theorem dX9_reason_36 : Dc cX9_reason 36 (fun o => .ifCond .eq o) 41 39 := ⟨5, by decide +kernel, by decide, rfl⟩
theorem dX9_reason_39 : Dx cX9_reason 39 (.iconst 0) 1 40 := ⟨by decide +kernel, rfl⟩
theorem dX9_reason_40 : Dx cX9_reason 40 (.ireturn) 1 41 := ⟨by decide +kernel, rfl⟩
theorem dX9_reason_41 : Dx cX9_reason 41 (.iload_n 1) 1 42 := ⟨by decide +kernel, rfl⟩
theorem dX9_reason_42 : Dc cX9_reason 42 (fun o => .ifCond .eq o) 63 45 := ⟨21, by decide +kernel, by decide, rfl⟩
theorem dX9_reason_45 : Dx cX9_reason 45 (.iload_n 2) 1 46 := ⟨by decide +kernel, rfl⟩
theorem dX9_reason_46 : Dc cX9_reason 46 (fun o => .ifCond .eq o) 56 49 := ⟨10, by decide +kernel, by decide, rfl⟩
theorem dX9_reason_49 : Dx cX9_reason 49 (.aload_n 0) 1 50 := ⟨by decide +kernel, rfl⟩
theorem dX9_reason_50 : Dx cX9_reason 50 (.getfield 252) 3 53 := ⟨by decide +kernel, rfl⟩
theorem dX9_reason_53 : Dc cX9_reason 53 (fun o => .goto o) 78 56 := ⟨25, by decide +kernel, by decide, rfl⟩
theorem dX9_reason_56 : Dx cX9_reason 56 (.aload_n 0) 1 57 := ⟨by decide +kernel, rfl⟩
theorem dX9_reason_57 : Dx cX9_reason 57 (.getfield 57) 3 60 := ⟨by decide +kernel, rfl⟩
theorem dX9_reason_60 : Dc cX9_reason 60 (fun o => .goto o) 78 63 := ⟨18, by decide +kernel, by decide, rfl⟩
theorem dX9_reason_63 : Dx cX9_reason 63 (.iload_n 2) 1 64 := ⟨by decide +kernel, rfl⟩
theorem dX9_reason_64 : Dc cX9_reason 64 (fun o => .ifCond .eq o) 74 67 := ⟨10, by decide +kernel, by decide, rfl⟩
theorem dX9_reason_67 : Dx cX9_reason 67 (.aload_n 0) 1 68 := ⟨by decide +kernel, rfl⟩
theorem dX9_reason_68 : Dx cX9_reason 68 (.getfield 54) 3 71 := ⟨by decide +kernel, rfl⟩
theorem dX9_reason_71 : Dc cX9_reason 71 (fun o => .goto o) 78 74 := ⟨7, by decide +kernel, by decide, rfl⟩
theorem dX9_reason_74 : Dx cX9_reason 74 (.aload_n 0) 1 75 := ⟨by decide +kernel, rfl⟩
theorem dX9_reason_75 : Dx cX9_reason 75 (.getfield 51) 3 78 := ⟨by decide +kernel, rfl⟩
theorem dX9_reason_78 : Dx cX9_reason 78 (.ireturn) 1 79 := ⟨by decide +kernel, rfl⟩
theorem dX9_puts_0 : Dx cX9_puts 0 (.aload_n 0) 1 1 := ⟨by decide +kernel, rfl⟩
theorem dX9_puts_1 : Dx cX9_puts 1 (.getfield 35) 3 4 := ⟨by decide +kernel, rfl⟩
theorem dX9_puts_4 : Dx cX9_puts 4 (.aload_n 0) 1 5 := ⟨by decide +kernel, rfl⟩
theorem dX9_puts_5 : Dx cX9_puts 5 (.getfield 264) 3 8 := ⟨by decide +kernel, rfl⟩
theorem dX9_puts_8 : Dx cX9_puts 8 (.iload_n 1) 1 9 := ⟨by decide +kernel, rfl⟩
theorem dX9_puts_9 : Dx cX9_puts 9 (.iastore) 1 10 := ⟨by decide +kernel, rfl⟩
theorem dX9_puts_10 : Dx cX9_puts 10 (.aload_n 0) 1 11 := ⟨by decide +kernel, rfl⟩
theorem dX9_puts_11 : Dx cX9_puts 11 (.dup) 1 12 := ⟨by decide +kernel, rfl⟩
theorem dX9_puts_12 : Dx cX9_puts 12 (.getfield 264) 3 15 := ⟨by decide +kernel, rfl⟩
theorem dX9_puts_15 : Dx cX9_puts 15 (.iconst 1) 1 16 := ⟨by decide +kernel, rfl⟩
theorem dX9_puts_16 : Dx cX9_puts 16 (.iadd) 1 17 := ⟨by decide +kernel, rfl⟩
theorem dX9_puts_17 : Dx cX9_puts 17 (.putfield 264) 3 20 := ⟨by decide +kernel, rfl⟩
theorem dX9_puts_20 : Dx cX9_puts 20 (.return_) 1 21 := ⟨by decide +kernel, rfl⟩
theorem dX9_line_0 : Dx cX9_line 0 (.aload_n 0) 1 1 := ⟨by decide +kernel, rfl⟩
theorem dX9_line_1 : Dx cX9_line 1 (.aload_n 0) 1 2 := ⟨by decide +kernel, rfl⟩
theorem dX9_line_2 : Dx cX9_line 2 (.iload_n 1) 1 3 := ⟨by decide +kernel, rfl⟩
theorem dX9_line_3 : Dx cX9_line 3 (.invokevirtual 155) 3 6 := ⟨by decide +kernel, rfl⟩
theorem dX9_line_6 : Dc cX9_line 6 (fun o => .ifCond .ne o) 13 9 := ⟨7, by decide +kernel, by decide, rfl⟩
theorem dX9_line_9 : Dx cX9_line 9 (.iconst 1) 1 10 := ⟨by decide +kernel, rfl⟩
theorem dX9_line_10 : Dc cX9_line 10 (fun o => .goto o) 14 13 := ⟨4, by decide +kernel, by decide, rfl⟩
theorem dX9_line_13 : Dx cX9_line 13 (.iconst 0) 1 14 := ⟨by decide +kernel, rfl⟩
theorem dX9_line_14 : Dx cX9_line 14 (.iconst 1) 1 15 := ⟨by decide +kernel, rfl⟩
theorem dX9_line_15 : Dx cX9_line 15 (.invokevirtual 207) 3 18 := ⟨by decide +kernel, rfl⟩
theorem dX9_line_18 : Dc cX9_line 18 (fun o => .ifCond .eq o) 23 21 := ⟨5, by decide +kernel, by decide, rfl⟩
theorem dX9_line_21 : Dx cX9_line 21 (.iconst 0) 1 22 := ⟨by decide +kernel, rfl⟩
theorem dX9_line_22 : Dx cX9_line 22 (.ireturn) 1 23 := ⟨by decide +kernel, rfl⟩
theorem dX9_line_23 : Dx cX9_line 23 (.aload_n 0) 1 24 := ⟨by decide +kernel, rfl⟩
theorem dX9_line_24 : Dx cX9_line 24 (.iconst 0) 1 25 := ⟨by decide +kernel, rfl⟩
theorem dX9_line_25 : Dx cX9_line 25 (.putfield 264) 3 28 := ⟨by decide +kernel, rfl⟩
theorem dX9_line_28 : Dx cX9_line 28 (.aload_n 0) 1 29 := ⟨by decide +kernel, rfl⟩
theorem dX9_line_29 : Dx cX9_line 29 (.bipush 48) 2 31 := ⟨by decide +kernel, rfl⟩
theorem dX9_line_31 : Dx cX9_line 31 (.iload_n 1) 1 32 := ⟨by decide +kernel, rfl⟩
theorem dX9_line_32 : Dx cX9_line 32 (.iadd) 1 33 := ⟨by decide +kernel, rfl⟩
theorem dX9_line_33 : Dx cX9_line 33 (.invokevirtual 267) 3 36 := ⟨by decide +kernel, rfl⟩
theorem dX9_line_36 : Dx cX9_line 36 (.aload_n 0) 1 37 := ⟨by decide +kernel, rfl⟩
theorem dX9_line_37 : Dx cX9_line 37 (.bipush 100) 2 39 := ⟨by decide +kernel, rfl⟩
theorem dX9_line_39 : Dx cX9_line 39 (.invokevirtual 267) 3 42 := ⟨by decide +kernel, rfl⟩
theorem dX9_line_42 : Dx cX9_line 42 (.aload_n 0) 1 43 := ⟨by decide +kernel, rfl⟩
theorem dX9_line_43 : Dx cX9_line 43 (.bipush 48) 2 45 := ⟨by decide +kernel, rfl⟩
theorem dX9_line_45 : Dx cX9_line 45 (.aload_n 0) 1 46 := ⟨by decide +kernel, rfl⟩
theorem dX9_line_46 : Dx cX9_line 46 (.iload_n 1) 1 47 := ⟨by decide +kernel, rfl⟩
theorem dX9_line_47 : Dx cX9_line 47 (.iconst 0) 1 48 := ⟨by decide +kernel, rfl⟩
theorem dX9_line_48 : Dx cX9_line 48 (.invokevirtual 72) 3 51 := ⟨by decide +kernel, rfl⟩
theorem dX9_line_51 : Dx cX9_line 51 (.iadd) 1 52 := ⟨by decide +kernel, rfl⟩
theorem dX9_line_52 : Dx cX9_line 52 (.invokevirtual 267) 3 55 := ⟨by decide +kernel, rfl⟩
theorem dX9_line_55 : Dx cX9_line 55 (.aload_n 0) 1 56 := ⟨by decide +kernel, rfl⟩
theorem dX9_line_56 : Dx cX9_line 56 (.bipush 115) 2 58 := ⟨by decide +kernel, rfl⟩
theorem dX9_line_58 : Dx cX9_line 58 (.invokevirtual 267) 3 61 := ⟨by decide +kernel, rfl⟩
theorem dX9_line_61 : Dx cX9_line 61 (.aload_n 0) 1 62 := ⟨by decide +kernel, rfl⟩
theorem dX9_line_62 : Dx cX9_line 62 (.bipush 48) 2 64 := ⟨by decide +kernel, rfl⟩
theorem dX9_line_64 : Dx cX9_line 64 (.aload_n 0) 1 65 := ⟨by decide +kernel, rfl⟩
theorem dX9_line_65 : Dx cX9_line 65 (.iload_n 1) 1 66 := ⟨by decide +kernel, rfl⟩
theorem dX9_line_66 : Dx cX9_line 66 (.iconst 1) 1 67 := ⟨by decide +kernel, rfl⟩
theorem dX9_line_67 : Dx cX9_line 67 (.invokevirtual 72) 3 70 := ⟨by decide +kernel, rfl⟩
theorem dX9_line_70 : Dx cX9_line 70 (.iadd) 1 71 := ⟨by decide +kernel, rfl⟩
theorem dX9_line_71 : Dx cX9_line 71 (.invokevirtual 267) 3 74 := ⟨by decide +kernel, rfl⟩
theorem dX9_line_74 : Dx cX9_line 74 (.aload_n 0) 1 75 := ⟨by decide +kernel, rfl⟩
theorem dX9_line_75 : Dx cX9_line 75 (.iload_n 1) 1 76 := ⟨by decide +kernel, rfl⟩
theorem dX9_line_76 : Dx cX9_line 76 (.iconst 2) 1 77 := ⟨by decide +kernel, rfl⟩
theorem dX9_line_77 : Dx cX9_line 77 (.invokevirtual 72) 3 80 := ⟨by decide +kernel, rfl⟩
theorem dX9_line_80 : Dx cX9_line 80 (.iconst 1) 1 81 := ⟨by decide +kernel, rfl⟩
theorem dX9_line_81 : Dc cX9_line 81 (fun o => .if_icmp .ne o) 164 84 := ⟨83, by decide +kernel, by decide, rfl⟩
theorem dX9_line_84 : Dx cX9_line 84 (.aload_n 0) 1 85 := ⟨by decide +kernel, rfl⟩
theorem dX9_line_85 : Dx cX9_line 85 (.bipush 58) 2 87 := ⟨by decide +kernel, rfl⟩
theorem dX9_line_87 : Dx cX9_line 87 (.invokevirtual 267) 3 90 := ⟨by decide +kernel, rfl⟩
theorem dX9_line_90 : Dx cX9_line 90 (.iconst 0) 1 91 := ⟨by decide +kernel, rfl⟩
theorem dX9_line_91 : Dx cX9_line 91 (.istore_n 2) 1 92 := ⟨by decide +kernel, rfl⟩
theorem dX9_line_92 : Dx cX9_line 92 (.iload_n 2) 1 93 := ⟨by decide +kernel, rfl⟩
theorem dX9_line_93 : Dx cX9_line 93 (.aload_n 0) 1 94 := ⟨by decide +kernel, rfl⟩
theorem dX9_line_94 : Dx cX9_line 94 (.getfield 9) 3 97 := ⟨by decide +kernel, rfl⟩
theorem dX9_line_97 : Dx cX9_line 97 (.iconst 1) 1 98 := ⟨by decide +kernel, rfl⟩
theorem dX9_line_98 : Dx cX9_line 98 (.iaload) 1 99 := ⟨by decide +kernel, rfl⟩
theorem dX9_line_99 : Dc cX9_line 99 (fun o => .if_icmp .ge o) 145 102 := ⟨46, by decide +kernel, by decide, rfl⟩
theorem dX9_line_102 : Dx cX9_line 102 (.aload_n 0) 1 103 := ⟨by decide +kernel, rfl⟩
theorem dX9_line_103 : Dx cX9_line 103 (.iload_n 1) 1 104 := ⟨by decide +kernel, rfl⟩
theorem dX9_line_104 : Dx cX9_line 104 (.invokevirtual 211) 3 107 := ⟨by decide +kernel, rfl⟩
theorem dX9_line_107 : Dx cX9_line 107 (.iload_n 2) 1 108 := ⟨by decide +kernel, rfl⟩
theorem dX9_line_108 : Dx cX9_line 108 (.ishr) 1 109 := ⟨by decide +kernel, rfl⟩
theorem dX9_line_109 : Dx cX9_line 109 (.iconst 1) 1 110 := ⟨by decide +kernel, rfl⟩
theorem dX9_line_110 : Dx cX9_line 110 (.iand) 1 111 := ⟨by decide +kernel, rfl⟩
theorem dX9_line_111 : Dx cX9_line 111 (.iconst 1) 1 112 := ⟨by decide +kernel, rfl⟩
theorem dX9_line_112 : Dc cX9_line 112 (fun o => .if_icmp .ne o) 139 115 := ⟨27, by decide +kernel, by decide, rfl⟩
theorem dX9_line_115 : Dx cX9_line 115 (.aload_n 0) 1 116 := ⟨by decide +kernel, rfl⟩
theorem dX9_line_116 : Dx cX9_line 116 (.bipush 48) 2 118 := ⟨by decide +kernel, rfl⟩
theorem dX9_line_118 : Dx cX9_line 118 (.iload_n 2) 1 119 := ⟨by decide +kernel, rfl⟩
theorem dX9_line_119 : Dx cX9_line 119 (.iadd) 1 120 := ⟨by decide +kernel, rfl⟩
theorem dX9_line_120 : Dx cX9_line 120 (.invokevirtual 267) 3 123 := ⟨by decide +kernel, rfl⟩
theorem dX9_line_123 : Dx cX9_line 123 (.aload_n 0) 1 124 := ⟨by decide +kernel, rfl⟩
theorem dX9_line_124 : Dx cX9_line 124 (.iload_n 1) 1 125 := ⟨by decide +kernel, rfl⟩
theorem dX9_line_125 : Dx cX9_line 125 (.iconst 5) 1 126 := ⟨by decide +kernel, rfl⟩
theorem dX9_line_126 : Dx cX9_line 126 (.invokevirtual 72) 3 129 := ⟨by decide +kernel, rfl⟩
theorem dX9_line_129 : Dx cX9_line 129 (.iload_n 2) 1 130 := ⟨by decide +kernel, rfl⟩
theorem dX9_line_130 : Dc cX9_line 130 (fun o => .if_icmp .ne o) 139 133 := ⟨9, by decide +kernel, by decide, rfl⟩
theorem dX9_line_133 : Dx cX9_line 133 (.aload_n 0) 1 134 := ⟨by decide +kernel, rfl⟩
theorem dX9_line_134 : Dx cX9_line 134 (.bipush 42) 2 136 := ⟨by decide +kernel, rfl⟩
theorem dX9_line_136 : Dx cX9_line 136 (.invokevirtual 267) 3 139 := ⟨by decide +kernel, rfl⟩
theorem dX9_line_139 : Dx cX9_line 139 (.iinc 2 1) 3 142 := ⟨by decide +kernel, rfl⟩
theorem dX9_line_142 : Dc cX9_line 142 (fun o => .goto o) 92 145 := ⟨(-50), by decide +kernel, by decide, rfl⟩
theorem dX9_line_145 : Dx cX9_line 145 (.aload_n 0) 1 146 := ⟨by decide +kernel, rfl⟩
theorem dX9_line_146 : Dx cX9_line 146 (.bipush 43) 2 148 := ⟨by decide +kernel, rfl⟩
theorem dX9_line_148 : Dx cX9_line 148 (.invokevirtual 267) 3 151 := ⟨by decide +kernel, rfl⟩
theorem dX9_line_151 : Dx cX9_line 151 (.aload_n 0) 1 152 := ⟨by decide +kernel, rfl⟩
theorem dX9_line_152 : Dx cX9_line 152 (.bipush 48) 2 154 := ⟨by decide +kernel, rfl⟩
theorem dX9_line_154 : Dx cX9_line 154 (.aload_n 0) 1 155 := ⟨by decide +kernel, rfl⟩
theorem dX9_line_155 : Dx cX9_line 155 (.iload_n 1) 1 156 := ⟨by decide +kernel, rfl⟩
theorem dX9_line_156 : Dx cX9_line 156 (.iconst 3) 1 157 := ⟨by decide +kernel, rfl⟩
theorem dX9_line_157 : Dx cX9_line 157 (.invokevirtual 72) 3 160 := ⟨by decide +kernel, rfl⟩
theorem dX9_line_160 : Dx cX9_line 160 (.iadd) 1 161 := ⟨by decide +kernel, rfl⟩
theorem dX9_line_161 : Dx cX9_line 161 (.invokevirtual 267) 3 164 := ⟨by decide +kernel, rfl⟩
theorem dX9_line_164 : Dx cX9_line 164 (.aload_n 0) 1 165 := ⟨by decide +kernel, rfl⟩
theorem dX9_line_165 : Dx cX9_line 165 (.getfield 264) 3 168 := ⟨by decide +kernel, rfl⟩
theorem dX9_line_168 : Dx cX9_line 168 (.ireturn) 1 169 := ⟨by decide +kernel, rfl⟩
theorem dX9_character_0 : Dx cX9_character 0 (.aload_n 0) 1 1 := ⟨by decide +kernel, rfl⟩
theorem dX9_character_1 : Dx cX9_character 1 (.iload_n 1) 1 2 := ⟨by decide +kernel, rfl⟩
theorem dX9_character_2 : Dx cX9_character 2 (.iconst 0) 1 3 := ⟨by decide +kernel, rfl⟩
theorem dX9_character_3 : Dx cX9_character 3 (.aload_n 0) 1 4 := ⟨by decide +kernel, rfl⟩
theorem dX9_character_4 : Dx cX9_character 4 (.getfield 264) 3 7 := ⟨by decide +kernel, rfl⟩
theorem dX9_character_7 : Dx cX9_character 7 (.iconst 1) 1 8 := ⟨by decide +kernel, rfl⟩
theorem dX9_character_8 : Dx cX9_character 8 (.isub) 1 9 := ⟨by decide +kernel, rfl⟩
theorem dX9_character_9 : Dx cX9_character 9 (.invokestatic 60) 3 12 := ⟨by decide +kernel, rfl⟩
theorem dX9_character_12 : Dc cX9_character 12 (fun o => .ifCond .ne o) 19 15 := ⟨7, by decide +kernel, by decide, rfl⟩
theorem dX9_character_15 : Dx cX9_character 15 (.iconst 1) 1 16 := ⟨by decide +kernel, rfl⟩
theorem dX9_character_16 : Dc cX9_character 16 (fun o => .goto o) 20 19 := ⟨4, by decide +kernel, by decide, rfl⟩
theorem dX9_character_19 : Dx cX9_character 19 (.iconst 0) 1 20 := ⟨by decide +kernel, rfl⟩
theorem dX9_character_20 : Dx cX9_character 20 (.iconst 1) 1 21 := ⟨by decide +kernel, rfl⟩
theorem dX9_character_21 : Dx cX9_character 21 (.invokevirtual 207) 3 24 := ⟨by decide +kernel, rfl⟩
theorem dX9_character_24 : Dc cX9_character 24 (fun o => .ifCond .eq o) 31 27 := ⟨7, by decide +kernel, by decide, rfl⟩
theorem dX9_character_27 : Dx cX9_character 27 (.iconst 0) 1 28 := ⟨by decide +kernel, rfl⟩
theorem dX9_character_28 : Dc cX9_character 28 (fun o => .goto o) 38 31 := ⟨10, by decide +kernel, by decide, rfl⟩
theorem dX9_character_31 : Dx cX9_character 31 (.aload_n 0) 1 32 := ⟨by decide +kernel, rfl⟩
theorem dX9_character_32 : Dx cX9_character 32 (.getfield 35) 3 35 := ⟨by decide +kernel, rfl⟩
theorem dX9_character_35 : Dx cX9_character 35 (.iload_n 1) 1 36 := ⟨by decide +kernel, rfl⟩
theorem dX9_character_36 : Dx cX9_character 36 (.iaload) 1 37 := ⟨by decide +kernel, rfl⟩
theorem dX9_character_37 : Dx cX9_character 37 (.i2c) 1 38 := ⟨by decide +kernel, rfl⟩
theorem dX9_character_38 : Dx cX9_character 38 (.ireturn) 1 39 := ⟨by decide +kernel, rfl⟩
theorem dX9_meanWeariness_0 : Dx cX9_meanWeariness 0 (.iconst 0) 1 1 := ⟨by decide +kernel, rfl⟩
theorem dX9_meanWeariness_1 : Dx cX9_meanWeariness 1 (.istore_n 1) 1 2 := ⟨by decide +kernel, rfl⟩
theorem dX9_meanWeariness_2 : Dx cX9_meanWeariness 2 (.iconst 0) 1 3 := ⟨by decide +kernel, rfl⟩
theorem dX9_meanWeariness_3 : Dx cX9_meanWeariness 3 (.istore_n 2) 1 4 := ⟨by decide +kernel, rfl⟩
theorem dX9_meanWeariness_4 : Dx cX9_meanWeariness 4 (.iload_n 2) 1 5 := ⟨by decide +kernel, rfl⟩
theorem dX9_meanWeariness_5 : Dx cX9_meanWeariness 5 (.aload_n 0) 1 6 := ⟨by decide +kernel, rfl⟩
theorem dX9_meanWeariness_6 : Dx cX9_meanWeariness 6 (.getfield 9) 3 9 := ⟨by decide +kernel, rfl⟩
theorem dX9_meanWeariness_9 : Dx cX9_meanWeariness 9 (.iconst 1) 1 10 := ⟨by decide +kernel, rfl⟩
theorem dX9_meanWeariness_10 : Dx cX9_meanWeariness 10 (.iaload) 1 11 := ⟨by decide +kernel, rfl⟩
theorem dX9_meanWeariness_11 : Dc cX9_meanWeariness 11 (fun o => .if_icmp .ge o) 43 14 := ⟨32, by decide +kernel, by decide, rfl⟩
theorem dX9_meanWeariness_14 : Dx cX9_meanWeariness 14 (.iload_n 1) 1 15 := ⟨by decide +kernel, rfl⟩
theorem dX9_meanWeariness_15 : Dx cX9_meanWeariness 15 (.aload_n 0) 1 16 := ⟨by decide +kernel, rfl⟩
theorem dX9_meanWeariness_16 : Dx cX9_meanWeariness 16 (.iload_n 2) 1 17 := ⟨by decide +kernel, rfl⟩
theorem dX9_meanWeariness_17 : Dx cX9_meanWeariness 17 (.iconst 1) 1 18 := ⟨by decide +kernel, rfl⟩
theorem dX9_meanWeariness_18 : Dx cX9_meanWeariness 18 (.invokevirtual 103) 3 21 := ⟨by decide +kernel, rfl⟩
theorem dX9_meanWeariness_21 : Dx cX9_meanWeariness 21 (.iconst 2) 1 22 := ⟨by decide +kernel, rfl⟩
theorem dX9_meanWeariness_22 : Dc cX9_meanWeariness 22 (fun o => .if_icmp .ne o) 29 25 := ⟨7, by decide +kernel, by decide, rfl⟩
theorem dX9_meanWeariness_25 : Dx cX9_meanWeariness 25 (.iconst 0) 1 26 := ⟨by decide +kernel, rfl⟩
theorem dX9_meanWeariness_26 : Dc cX9_meanWeariness 26 (fun o => .goto o) 35 29 := ⟨9, by decide +kernel, by decide, rfl⟩
theorem dX9_meanWeariness_29 : Dx cX9_meanWeariness 29 (.aload_n 0) 1 30 := ⟨by decide +kernel, rfl⟩
theorem dX9_meanWeariness_30 : Dx cX9_meanWeariness 30 (.iload_n 2) 1 31 := ⟨by decide +kernel, rfl⟩
theorem dX9_meanWeariness_31 : Dx cX9_meanWeariness 31 (.iconst 2) 1 32 := ⟨by decide +kernel, rfl⟩
theorem dX9_meanWeariness_32 : Dx cX9_meanWeariness 32 (.invokevirtual 103) 3 35 := ⟨by decide +kernel, rfl⟩
theorem dX9_meanWeariness_35 : Dx cX9_meanWeariness 35 (.iadd) 1 36 := ⟨by decide +kernel, rfl⟩
theorem dX9_meanWeariness_36 : Dx cX9_meanWeariness 36 (.istore_n 1) 1 37 := ⟨by decide +kernel, rfl⟩
theorem dX9_meanWeariness_37 : Dx cX9_meanWeariness 37 (.iinc 2 1) 3 40 := ⟨by decide +kernel, rfl⟩
theorem dX9_meanWeariness_40 : Dc cX9_meanWeariness 40 (fun o => .goto o) 4 43 := ⟨(-36), by decide +kernel, by decide, rfl⟩
theorem dX9_meanWeariness_43 : Dx cX9_meanWeariness 43 (.aload_n 0) 1 44 := ⟨by decide +kernel, rfl⟩
theorem dX9_meanWeariness_44 : Dx cX9_meanWeariness 44 (.aload_n 0) 1 45 := ⟨by decide +kernel, rfl⟩
theorem dX9_meanWeariness_45 : Dx cX9_meanWeariness 45 (.invokevirtual 113) 3 48 := ⟨by decide +kernel, rfl⟩
theorem dX9_meanWeariness_48 : Dc cX9_meanWeariness 48 (fun o => .ifCond .ne o) 55 51 := ⟨7, by decide +kernel, by decide, rfl⟩
theorem dX9_meanWeariness_51 : Dx cX9_meanWeariness 51 (.iconst 1) 1 52 := ⟨by decide +kernel, rfl⟩
theorem dX9_meanWeariness_52 : Dc cX9_meanWeariness 52 (fun o => .goto o) 56 55 := ⟨4, by decide +kernel, by decide, rfl⟩
theorem dX9_meanWeariness_55 : Dx cX9_meanWeariness 55 (.iconst 0) 1 56 := ⟨by decide +kernel, rfl⟩
theorem dX9_meanWeariness_56 : Dx cX9_meanWeariness 56 (.iconst 1) 1 57 := ⟨by decide +kernel, rfl⟩
theorem dX9_meanWeariness_57 : Dx cX9_meanWeariness 57 (.invokevirtual 207) 3 60 := ⟨by decide +kernel, rfl⟩
theorem dX9_meanWeariness_60 : Dc cX9_meanWeariness 60 (fun o => .ifCond .eq o) 67 63 := ⟨7, by decide +kernel, by decide, rfl⟩
theorem dX9_meanWeariness_63 : Dx cX9_meanWeariness 63 (.dconst 0) 1 64 := ⟨by decide +kernel, rfl⟩
theorem dX9_meanWeariness_64 : Dc cX9_meanWeariness 64 (fun o => .goto o) 75 67 := ⟨11, by decide +kernel, by decide, rfl⟩
theorem dX9_meanWeariness_67 : Dx cX9_meanWeariness 67 (.iload_n 1) 1 68 := ⟨by decide +kernel, rfl⟩
theorem dX9_meanWeariness_68 : Dx cX9_meanWeariness 68 (.i2d) 1 69 := ⟨by decide +kernel, rfl⟩
theorem dX9_meanWeariness_69 : Dx cX9_meanWeariness 69 (.aload_n 0) 1 70 := ⟨by decide +kernel, rfl⟩
theorem dX9_meanWeariness_70 : Dx cX9_meanWeariness 70 (.invokevirtual 113) 3 73 := ⟨by decide +kernel, rfl⟩
theorem dX9_meanWeariness_73 : Dx cX9_meanWeariness 73 (.i2d) 1 74 := ⟨by decide +kernel, rfl⟩
theorem dX9_meanWeariness_74 : Dx cX9_meanWeariness 74 (.ddiv) 1 75 := ⟨by decide +kernel, rfl⟩
theorem dX9_meanWeariness_75 : Dx cX9_meanWeariness 75 (.dreturn) 1 76 := ⟨by decide +kernel, rfl⟩
theorem dX9_outShare_0 : Dx cX9_outShare 0 (.aload_n 0) 1 1 := ⟨by decide +kernel, rfl⟩
theorem dX9_outShare_1 : Dx cX9_outShare 1 (.iconst 0) 1 2 := ⟨by decide +kernel, rfl⟩
theorem dX9_outShare_2 : Dx cX9_outShare 2 (.putfield 38) 3 5 := ⟨by decide +kernel, rfl⟩
theorem dX9_outShare_5 : Dx cX9_outShare 5 (.aload_n 0) 1 6 := ⟨by decide +kernel, rfl⟩
theorem dX9_outShare_6 : Dx cX9_outShare 6 (.invokevirtual 83) 3 9 := ⟨by decide +kernel, rfl⟩
theorem dX9_outShare_9 : Dx cX9_outShare 9 (.i2f) 1 10 := ⟨by decide +kernel, rfl⟩
theorem dX9_outShare_10 : Dx cX9_outShare 10 (.aload_n 0) 1 11 := ⟨by decide +kernel, rfl⟩
theorem dX9_outShare_11 : Dx cX9_outShare 11 (.invokevirtual 79) 3 14 := ⟨by decide +kernel, rfl⟩
theorem dX9_outShare_14 : Dx cX9_outShare 14 (.i2f) 1 15 := ⟨by decide +kernel, rfl⟩
theorem dX9_outShare_15 : Dx cX9_outShare 15 (.fdiv) 1 16 := ⟨by decide +kernel, rfl⟩
theorem dX9_outShare_16 : Dx cX9_outShare 16 (.freturn) 1 17 := ⟨by decide +kernel, rfl⟩
theorem dX9_boatsOut_0 : Dx cX9_boatsOut 0 (.iconst 0) 1 1 := ⟨by decide +kernel, rfl⟩
theorem dX9_boatsOut_1 : Dx cX9_boatsOut 1 (.istore_n 1) 1 2 := ⟨by decide +kernel, rfl⟩
theorem dX9_boatsOut_2 : Dx cX9_boatsOut 2 (.iconst 0) 1 3 := ⟨by decide +kernel, rfl⟩
theorem dX9_boatsOut_3 : Dx cX9_boatsOut 3 (.istore_n 2) 1 4 := ⟨by decide +kernel, rfl⟩
theorem dX9_boatsOut_4 : Dx cX9_boatsOut 4 (.iload_n 2) 1 5 := ⟨by decide +kernel, rfl⟩
theorem dX9_boatsOut_5 : Dx cX9_boatsOut 5 (.aload_n 0) 1 6 := ⟨by decide +kernel, rfl⟩
theorem dX9_boatsOut_6 : Dx cX9_boatsOut 6 (.getfield 9) 3 9 := ⟨by decide +kernel, rfl⟩
theorem dX9_boatsOut_9 : Dx cX9_boatsOut 9 (.iconst 2) 1 10 := ⟨by decide +kernel, rfl⟩
theorem dX9_boatsOut_10 : Dx cX9_boatsOut 10 (.iaload) 1 11 := ⟨by decide +kernel, rfl⟩
theorem dX9_boatsOut_11 : Dc cX9_boatsOut 11 (fun o => .if_icmp .ge o) 29 14 := ⟨18, by decide +kernel, by decide, rfl⟩
theorem dX9_boatsOut_14 : Dx cX9_boatsOut 14 (.iload_n 1) 1 15 := ⟨by decide +kernel, rfl⟩
theorem dX9_boatsOut_15 : Dx cX9_boatsOut 15 (.aload_n 0) 1 16 := ⟨by decide +kernel, rfl⟩
theorem dX9_boatsOut_16 : Dx cX9_boatsOut 16 (.iload_n 2) 1 17 := ⟨by decide +kernel, rfl⟩
theorem dX9_boatsOut_17 : Dx cX9_boatsOut 17 (.iconst 2) 1 18 := ⟨by decide +kernel, rfl⟩
theorem dX9_boatsOut_18 : Dx cX9_boatsOut 18 (.invokevirtual 72) 3 21 := ⟨by decide +kernel, rfl⟩
theorem dX9_boatsOut_21 : Dx cX9_boatsOut 21 (.iadd) 1 22 := ⟨by decide +kernel, rfl⟩
theorem dX9_boatsOut_22 : Dx cX9_boatsOut 22 (.istore_n 1) 1 23 := ⟨by decide +kernel, rfl⟩
theorem dX9_boatsOut_23 : Dx cX9_boatsOut 23 (.iinc 2 1) 3 26 := ⟨by decide +kernel, rfl⟩
theorem dX9_boatsOut_26 : Dc cX9_boatsOut 26 (fun o => .goto o) 4 29 := ⟨(-22), by decide +kernel, by decide, rfl⟩
theorem dX9_boatsOut_29 : Dx cX9_boatsOut 29 (.iload_n 1) 1 30 := ⟨by decide +kernel, rfl⟩
theorem dX9_boatsOut_30 : Dx cX9_boatsOut 30 (.ireturn) 1 31 := ⟨by decide +kernel, rfl⟩
theorem dX9_account_0 : Dx cX9_account 0 (.aload_n 0) 1 1 := ⟨by decide +kernel, rfl⟩
theorem dX9_account_1 : Dx cX9_account 1 (.iload_n 1) 1 2 := ⟨by decide +kernel, rfl⟩
theorem dX9_account_2 : Dx cX9_account 2 (.iconst 0) 1 3 := ⟨by decide +kernel, rfl⟩
theorem dX9_account_3 : Dx cX9_account 3 (.bipush 12) 2 5 := ⟨by decide +kernel, rfl⟩
theorem dX9_account_5 : Dx cX9_account 5 (.invokestatic 60) 3 8 := ⟨by decide +kernel, rfl⟩
theorem dX9_account_8 : Dc cX9_account 8 (fun o => .ifCond .ne o) 15 11 := ⟨7, by decide +kernel, by decide, rfl⟩
theorem dX9_account_11 : Dx cX9_account 11 (.iconst 1) 1 12 := ⟨by decide +kernel, rfl⟩
theorem dX9_account_12 : Dc cX9_account 12 (fun o => .goto o) 16 15 := ⟨4, by decide +kernel, by decide, rfl⟩
theorem dX9_account_15 : Dx cX9_account 15 (.iconst 0) 1 16 := ⟨by decide +kernel, rfl⟩
theorem dX9_account_16 : Dx cX9_account 16 (.iconst 1) 1 17 := ⟨by decide +kernel, rfl⟩
theorem dX9_account_17 : Dx cX9_account 17 (.invokevirtual 207) 3 20 := ⟨by decide +kernel, rfl⟩
theorem dX9_account_20 : Dc cX9_account 20 (fun o => .ifCond .eq o) 25 23 := ⟨5, by decide +kernel, by decide, rfl⟩
theorem dX9_account_23 : Dx cX9_account 23 (.iconst 0) 1 24 := ⟨by decide +kernel, rfl⟩
theorem dX9_account_24 : Dx cX9_account 24 (.ireturn) 1 25 := ⟨by decide +kernel, rfl⟩
theorem dX9_account_25 : Dx cX9_account 25 (.iload_n 1) 1 26 := ⟨by decide +kernel, rfl⟩
theorem dX9_account_26 : Dx cX9_account 26 (.tableswitch 130 0 11 #[62, 62, 69, 81, 88, 93, 100, 105, 105, 105, 117, 125]) 62 88 := ⟨by decide +kernel, rfl⟩
theorem dX9_account_88 : Dx cX9_account 88 (.aload_n 0) 1 89 := ⟨by decide +kernel, rfl⟩
theorem dX9_account_89 : Dx cX9_account 89 (.getfield 9) 3 92 := ⟨by decide +kernel, rfl⟩
theorem dX9_account_92 : Dx cX9_account 92 (.iload_n 1) 1 93 := ⟨by decide +kernel, rfl⟩
theorem dX9_account_93 : Dx cX9_account 93 (.iaload) 1 94 := ⟨by decide +kernel, rfl⟩
theorem dX9_account_94 : Dx cX9_account 94 (.ireturn) 1 95 := ⟨by decide +kernel, rfl⟩
theorem dX9_account_95 : Dx cX9_account 95 (.aload_n 0) 1 96 := ⟨by decide +kernel, rfl⟩
theorem dX9_account_96 : Dx cX9_account 96 (.getfield 9) 3 99 := ⟨by decide +kernel, rfl⟩
theorem dX9_account_99 : Dx cX9_account 99 (.iconst 1) 1 100 := ⟨by decide +kernel, rfl⟩
theorem dX9_account_100 : Dx cX9_account 100 (.iaload) 1 101 := ⟨by decide +kernel, rfl⟩
theorem dX9_account_101 : Dx cX9_account 101 (.aload_n 0) 1 102 := ⟨by decide +kernel, rfl⟩
theorem dX9_account_102 : Dx cX9_account 102 (.invokevirtual 113) 3 105 := ⟨by decide +kernel, rfl⟩
theorem dX9_account_105 : Dx cX9_account 105 (.isub) 1 106 := ⟨by decide +kernel, rfl⟩
theorem dX9_account_106 : Dx cX9_account 106 (.ireturn) 1 107 := ⟨by decide +kernel, rfl⟩
theorem dX9_account_107 : Dx cX9_account 107 (.aload_n 0) 1 108 := ⟨by decide +kernel, rfl⟩
theorem dX9_account_108 : Dx cX9_account 108 (.getfield 9) 3 111 := ⟨by decide +kernel, rfl⟩
theorem dX9_account_111 : Dx cX9_account 111 (.iconst 2) 1 112 := ⟨by decide +kernel, rfl⟩
theorem dX9_account_112 : Dx cX9_account 112 (.iaload) 1 113 := ⟨by decide +kernel, rfl⟩
theorem dX9_account_113 : Dx cX9_account 113 (.ireturn) 1 114 := ⟨by decide +kernel, rfl⟩
theorem dX9_account_114 : Dx cX9_account 114 (.aload_n 0) 1 115 := ⟨by decide +kernel, rfl⟩
theorem dX9_account_115 : Dx cX9_account 115 (.invokevirtual 270) 3 118 := ⟨by decide +kernel, rfl⟩
theorem dX9_account_118 : Dx cX9_account 118 (.ireturn) 1 119 := ⟨by decide +kernel, rfl⟩
theorem dX9_account_119 : Dx cX9_account 119 (.aload_n 0) 1 120 := ⟨by decide +kernel, rfl⟩
theorem dX9_account_120 : Dx cX9_account 120 (.getfield 9) 3 123 := ⟨by decide +kernel, rfl⟩
theorem dX9_account_123 : Dx cX9_account 123 (.iconst 3) 1 124 := ⟨by decide +kernel, rfl⟩
theorem dX9_account_124 : Dx cX9_account 124 (.iaload) 1 125 := ⟨by decide +kernel, rfl⟩
theorem dX9_account_125 : Dx cX9_account 125 (.ireturn) 1 126 := ⟨by decide +kernel, rfl⟩
theorem dX9_account_126 : Dx cX9_account 126 (.aload_n 0) 1 127 := ⟨by decide +kernel, rfl⟩
theorem dX9_account_127 : Dx cX9_account 127 (.invokevirtual 79) 3 130 := ⟨by decide +kernel, rfl⟩
theorem dX9_account_130 : Dx cX9_account 130 (.ireturn) 1 131 := ⟨by decide +kernel, rfl⟩
theorem dX9_account_131 : Dx cX9_account 131 (.aload_n 0) 1 132 := ⟨by decide +kernel, rfl⟩
theorem dX9_account_132 : Dx cX9_account 132 (.getfield 9) 3 135 := ⟨by decide +kernel, rfl⟩
theorem dX9_account_135 : Dx cX9_account 135 (.iload_n 1) 1 136 := ⟨by decide +kernel, rfl⟩
theorem dX9_account_136 : Dx cX9_account 136 (.bipush 7) 2 138 := ⟨by decide +kernel, rfl⟩
theorem dX9_account_138 : Dx cX9_account 138 (.isub) 1 139 := ⟨by decide +kernel, rfl⟩
theorem dX9_account_139 : Dx cX9_account 139 (.iconst 4) 1 140 := ⟨by decide +kernel, rfl⟩
theorem dX9_account_140 : Dx cX9_account 140 (.iadd) 1 141 := ⟨by decide +kernel, rfl⟩
theorem dX9_account_141 : Dx cX9_account 141 (.iaload) 1 142 := ⟨by decide +kernel, rfl⟩
theorem dX9_account_142 : Dx cX9_account 142 (.ireturn) 1 143 := ⟨by decide +kernel, rfl⟩
theorem dX9_account_143 : Dx cX9_account 143 (.aload_n 0) 1 144 := ⟨by decide +kernel, rfl⟩
theorem dX9_account_144 : Dx cX9_account 144 (.getfield 9) 3 147 := ⟨by decide +kernel, rfl⟩
theorem dX9_account_147 : Dx cX9_account 147 (.bipush 7) 2 149 := ⟨by decide +kernel, rfl⟩
theorem dX9_account_149 : Dx cX9_account 149 (.iaload) 1 150 := ⟨by decide +kernel, rfl⟩
theorem dX9_account_150 : Dx cX9_account 150 (.ireturn) 1 151 := ⟨by decide +kernel, rfl⟩
theorem dX9_account_151 : Dx cX9_account 151 (.aload_n 0) 1 152 := ⟨by decide +kernel, rfl⟩
theorem dX9_account_152 : Dx cX9_account 152 (.getfield 45) 3 155 := ⟨by decide +kernel, rfl⟩
theorem dX9_account_155 : Dx cX9_account 155 (.ireturn) 1 156 := ⟨by decide +kernel, rfl⟩
theorem dX9_account_156 : Dx cX9_account 156 (.aload_n 0) 1 157 := ⟨by decide +kernel, rfl⟩
theorem dX9_account_157 : Dx cX9_account 157 (.getfield 227) 3 160 := ⟨by decide +kernel, rfl⟩
theorem dX9_account_160 : Dx cX9_account 160 (.ireturn) 1 161 := ⟨by decide +kernel, rfl⟩
theorem dX9_undo_0 : Dx cX9_undo 0 (.aload_n 0) 1 1 := ⟨by decide +kernel, rfl⟩
theorem dX9_undo_1 : Dx cX9_undo 1 (.aload_n 0) 1 2 := ⟨by decide +kernel, rfl⟩
theorem dX9_undo_2 : Dx cX9_undo 2 (.getfield 45) 3 5 := ⟨by decide +kernel, rfl⟩
theorem dX9_undo_5 : Dc cX9_undo 5 (fun o => .ifCond .ne o) 12 8 := ⟨7, by decide +kernel, by decide, rfl⟩
theorem dX9_undo_8 : Dx cX9_undo 8 (.iconst 1) 1 9 := ⟨by decide +kernel, rfl⟩
theorem dX9_undo_9 : Dc cX9_undo 9 (fun o => .goto o) 13 12 := ⟨4, by decide +kernel, by decide, rfl⟩
theorem dX9_undo_12 : Dx cX9_undo 12 (.iconst 0) 1 13 := ⟨by decide +kernel, rfl⟩
theorem dX9_undo_13 : Dx cX9_undo 13 (.iconst 1) 1 14 := ⟨by decide +kernel, rfl⟩
theorem dX9_undo_14 : Dx cX9_undo 14 (.invokevirtual 207) 3 17 := ⟨by decide +kernel, rfl⟩
theorem dX9_undo_17 : Dc cX9_undo 17 (fun o => .ifCond .eq o) 22 20 := ⟨5, by decide +kernel, by decide, rfl⟩
theorem dX9_undo_20 : Dx cX9_undo 20 (.iconst 0) 1 21 := ⟨by decide +kernel, rfl⟩
theorem dX9_undo_21 : Dx cX9_undo 21 (.ireturn) 1 22 := ⟨by decide +kernel, rfl⟩
theorem dX9_undo_22 : Dx cX9_undo 22 (.aload_n 0) 1 23 := ⟨by decide +kernel, rfl⟩
theorem dX9_undo_23 : Dx cX9_undo 23 (.dup) 1 24 := ⟨by decide +kernel, rfl⟩
theorem dX9_undo_24 : Dx cX9_undo 24 (.getfield 45) 3 27 := ⟨by decide +kernel, rfl⟩
theorem dX9_undo_27 : Dx cX9_undo 27 (.iconst 1) 1 28 := ⟨by decide +kernel, rfl⟩
theorem dX9_undo_28 : Dx cX9_undo 28 (.isub) 1 29 := ⟨by decide +kernel, rfl⟩
theorem dX9_undo_29 : Dx cX9_undo 29 (.putfield 45) 3 32 := ⟨by decide +kernel, rfl⟩
theorem dX9_undo_32 : Dx cX9_undo 32 (.aload_n 0) 1 33 := ⟨by decide +kernel, rfl⟩
theorem dX9_undo_33 : Dx cX9_undo 33 (.getfield 22) 3 36 := ⟨by decide +kernel, rfl⟩
theorem dX9_undo_36 : Dx cX9_undo 36 (.bipush 111) 2 38 := ⟨by decide +kernel, rfl⟩
theorem dX9_undo_38 : Dx cX9_undo 38 (.aload_n 0) 1 39 := ⟨by decide +kernel, rfl⟩
theorem dX9_undo_39 : Dx cX9_undo 39 (.getfield 45) 3 42 := ⟨by decide +kernel, rfl⟩
theorem dX9_undo_42 : Dx cX9_undo 42 (.imul) 1 43 := ⟨by decide +kernel, rfl⟩
theorem dX9_undo_43 : Dx cX9_undo 43 (.aload_n 0) 1 44 := ⟨by decide +kernel, rfl⟩
theorem dX9_undo_44 : Dx cX9_undo 44 (.getfield 9) 3 47 := ⟨by decide +kernel, rfl⟩
theorem dX9_undo_47 : Dx cX9_undo 47 (.iconst 0) 1 48 := ⟨by decide +kernel, rfl⟩
theorem dX9_undo_48 : Dx cX9_undo 48 (.invokestatic 41) 3 51 := ⟨by decide +kernel, rfl⟩
theorem dX9_undo_51 : Dx cX9_undo 51 (.aload_n 0) 1 52 := ⟨by decide +kernel, rfl⟩
theorem dX9_undo_52 : Dx cX9_undo 52 (.getfield 45) 3 55 := ⟨by decide +kernel, rfl⟩
theorem dX9_undo_55 : Dx cX9_undo 55 (.ireturn) 1 56 := ⟨by decide +kernel, rfl⟩
theorem dX9_save_0 : Dx cX9_save 0 (.aload_n 0) 1 1 := ⟨by decide +kernel, rfl⟩
theorem dX9_save_1 : Dx cX9_save 1 (.iconst 0) 1 2 := ⟨by decide +kernel, rfl⟩
theorem dX9_save_2 : Dx cX9_save 2 (.putfield 38) 3 5 := ⟨by decide +kernel, rfl⟩
theorem dX9_save_5 : Dx cX9_save 5 (.aload_n 0) 1 6 := ⟨by decide +kernel, rfl⟩
theorem dX9_save_6 : Dx cX9_save 6 (.getfield 9) 3 9 := ⟨by decide +kernel, rfl⟩
theorem dX9_save_9 : Dx cX9_save 9 (.iconst 0) 1 10 := ⟨by decide +kernel, rfl⟩
theorem dX9_save_10 : Dx cX9_save 10 (.aload_n 0) 1 11 := ⟨by decide +kernel, rfl⟩
theorem dX9_save_11 : Dx cX9_save 11 (.getfield 19) 3 14 := ⟨by decide +kernel, rfl⟩
theorem dX9_save_14 : Dx cX9_save 14 (.iconst 0) 1 15 := ⟨by decide +kernel, rfl⟩
theorem dX9_save_15 : Dx cX9_save 15 (.invokestatic 41) 3 18 := ⟨by decide +kernel, rfl⟩
theorem dX9_save_18 : Dx cX9_save 18 (.aload_n 0) 1 19 := ⟨by decide +kernel, rfl⟩
theorem dX9_save_19 : Dx cX9_save 19 (.iconst 1) 1 20 := ⟨by decide +kernel, rfl⟩
theorem dX9_save_20 : Dx cX9_save 20 (.putfield 273) 3 23 := ⟨by decide +kernel, rfl⟩
theorem dX9_save_23 : Dx cX9_save 23 (.aload_n 0) 1 24 := ⟨by decide +kernel, rfl⟩
theorem dX9_save_24 : Dx cX9_save 24 (.getfield 9) 3 27 := ⟨by decide +kernel, rfl⟩
theorem dX9_save_27 : Dx cX9_save 27 (.iconst 0) 1 28 := ⟨by decide +kernel, rfl⟩
theorem dX9_save_28 : Dx cX9_save 28 (.iaload) 1 29 := ⟨by decide +kernel, rfl⟩
theorem dX9_save_29 : Dx cX9_save 29 (.ireturn) 1 30 := ⟨by decide +kernel, rfl⟩
theorem dX9_restore_0 : Dx cX9_restore 0 (.aload_n 0) 1 1 := ⟨by decide +kernel, rfl⟩
theorem dX9_restore_1 : Dx cX9_restore 1 (.aload_n 0) 1 2 := ⟨by decide +kernel, rfl⟩
theorem dX9_restore_2 : Dx cX9_restore 2 (.getfield 273) 3 5 := ⟨by decide +kernel, rfl⟩
theorem dX9_restore_5 : Dc cX9_restore 5 (fun o => .ifCond .ne o) 12 8 := ⟨7, by decide +kernel, by decide, rfl⟩
theorem dX9_restore_8 : Dx cX9_restore 8 (.iconst 1) 1 9 := ⟨by decide +kernel, rfl⟩
theorem dX9_restore_9 : Dc cX9_restore 9 (fun o => .goto o) 13 12 := ⟨4, by decide +kernel, by decide, rfl⟩
theorem dX9_restore_12 : Dx cX9_restore 12 (.iconst 0) 1 13 := ⟨by decide +kernel, rfl⟩
theorem dX9_restore_13 : Dx cX9_restore 13 (.iconst 1) 1 14 := ⟨by decide +kernel, rfl⟩
theorem dX9_restore_14 : Dx cX9_restore 14 (.invokevirtual 207) 3 17 := ⟨by decide +kernel, rfl⟩
theorem dX9_restore_17 : Dc cX9_restore 17 (fun o => .ifCond .eq o) 22 20 := ⟨5, by decide +kernel, by decide, rfl⟩
theorem dX9_restore_20 : Dx cX9_restore 20 (.iconst 0) 1 21 := ⟨by decide +kernel, rfl⟩
theorem dX9_restore_21 : Dx cX9_restore 21 (.ireturn) 1 22 := ⟨by decide +kernel, rfl⟩
theorem dX9_restore_22 : Dx cX9_restore 22 (.aload_n 0) 1 23 := ⟨by decide +kernel, rfl⟩
theorem dX9_restore_23 : Dx cX9_restore 23 (.getfield 19) 3 26 := ⟨by decide +kernel, rfl⟩
theorem dX9_restore_26 : Dx cX9_restore 26 (.iconst 0) 1 27 := ⟨by decide +kernel, rfl⟩
theorem dX9_restore_27 : Dx cX9_restore 27 (.aload_n 0) 1 28 := ⟨by decide +kernel, rfl⟩
theorem dX9_restore_28 : Dx cX9_restore 28 (.getfield 9) 3 31 := ⟨by decide +kernel, rfl⟩
theorem dX9_restore_31 : Dx cX9_restore 31 (.iconst 0) 1 32 := ⟨by decide +kernel, rfl⟩
theorem dX9_restore_32 : Dx cX9_restore 32 (.invokestatic 41) 3 35 := ⟨by decide +kernel, rfl⟩
theorem dX9_restore_35 : Dx cX9_restore 35 (.aload_n 0) 1 36 := ⟨by decide +kernel, rfl⟩
theorem dX9_restore_36 : Dx cX9_restore 36 (.iconst 0) 1 37 := ⟨by decide +kernel, rfl⟩
theorem dX9_restore_37 : Dx cX9_restore 37 (.putfield 45) 3 40 := ⟨by decide +kernel, rfl⟩
theorem dX9_restore_40 : Dx cX9_restore 40 (.aload_n 0) 1 41 := ⟨by decide +kernel, rfl⟩
theorem dX9_restore_41 : Dx cX9_restore 41 (.getfield 9) 3 44 := ⟨by decide +kernel, rfl⟩
theorem dX9_restore_44 : Dx cX9_restore 44 (.iconst 0) 1 45 := ⟨by decide +kernel, rfl⟩
theorem dX9_restore_45 : Dx cX9_restore 45 (.iaload) 1 46 := ⟨by decide +kernel, rfl⟩
theorem dX9_restore_46 : Dx cX9_restore 46 (.ireturn) 1 47 := ⟨by decide +kernel, rfl⟩
