theorem dL_member_0 : Dx cL_member 0 (.aload_n 2) 1 1 := ⟨by decide +kernel, rfl⟩
theorem dL_member_1 : Dx cL_member 1 (.iconst 0) 1 2 := ⟨by decide +kernel, rfl⟩
theorem dL_member_2 : Dx cL_member 2 (.aload_n 0) 1 3 := ⟨by decide +kernel, rfl⟩
theorem dL_member_3 : Dx cL_member 3 (.iload_n 1) 1 4 := ⟨by decide +kernel, rfl⟩
theorem dL_member_4 : Dx cL_member 4 (.invokevirtual 7) 3 7 := ⟨by decide +kernel, rfl⟩
theorem dL_member_7 : Dx cL_member 7 (.i2l) 1 8 := ⟨by decide +kernel, rfl⟩
theorem dL_member_8 : Dx cL_member 8 (.lastore) 1 9 := ⟨by decide +kernel, rfl⟩
theorem dL_member_9 : Dc cL_member 9 (fun o => .goto o) 15 12 := ⟨6, by decide +kernel, by decide, rfl⟩
theorem dL_member_12 : Dx cL_member 12 (.astore_n 3) 1 13 := ⟨by decide +kernel, rfl⟩
theorem dL_member_13 : Dx cL_member 13 (.iconst 1) 1 14 := ⟨by decide +kernel, rfl⟩
theorem dL_member_14 : Dx cL_member 14 (.ireturn) 1 15 := ⟨by decide +kernel, rfl⟩
theorem dL_member_15 : Dx cL_member 15 (.iconst 0) 1 16 := ⟨by decide +kernel, rfl⟩
theorem dL_member_16 : Dx cL_member 16 (.ireturn) 1 17 := ⟨by decide +kernel, rfl⟩
theorem dL_leave_0 : Dx cL_leave 0 (.aload_n 2) 1 1 := ⟨by decide +kernel, rfl⟩
theorem dL_leave_1 : Dx cL_leave 1 (.iconst 0) 1 2 := ⟨by decide +kernel, rfl⟩
theorem dL_leave_2 : Dx cL_leave 2 (.aload_n 0) 1 3 := ⟨by decide +kernel, rfl⟩
theorem dL_leave_3 : Dx cL_leave 3 (.iload_n 1) 1 4 := ⟨by decide +kernel, rfl⟩
theorem dL_leave_4 : Dx cL_leave 4 (.invokevirtual 15) 3 7 := ⟨by decide +kernel, rfl⟩
theorem dL_leave_7 : Dx cL_leave 7 (.i2l) 1 8 := ⟨by decide +kernel, rfl⟩
theorem dL_leave_8 : Dx cL_leave 8 (.lastore) 1 9 := ⟨by decide +kernel, rfl⟩
theorem dL_leave_9 : Dc cL_leave 9 (fun o => .goto o) 15 12 := ⟨6, by decide +kernel, by decide, rfl⟩
theorem dL_leave_12 : Dx cL_leave 12 (.astore_n 3) 1 13 := ⟨by decide +kernel, rfl⟩
theorem dL_leave_13 : Dx cL_leave 13 (.iconst 1) 1 14 := ⟨by decide +kernel, rfl⟩
theorem dL_leave_14 : Dx cL_leave 14 (.ireturn) 1 15 := ⟨by decide +kernel, rfl⟩
theorem dL_leave_15 : Dx cL_leave 15 (.iconst 0) 1 16 := ⟨by decide +kernel, rfl⟩
theorem dL_leave_16 : Dx cL_leave 16 (.ireturn) 1 17 := ⟨by decide +kernel, rfl⟩
theorem dL_train_0 : Dx cL_train 0 (.aload_n 2) 1 1 := ⟨by decide +kernel, rfl⟩
theorem dL_train_1 : Dx cL_train 1 (.iconst 0) 1 2 := ⟨by decide +kernel, rfl⟩
theorem dL_train_2 : Dx cL_train 2 (.aload_n 0) 1 3 := ⟨by decide +kernel, rfl⟩
theorem dL_train_3 : Dx cL_train 3 (.iload_n 1) 1 4 := ⟨by decide +kernel, rfl⟩
theorem dL_train_4 : Dx cL_train 4 (.invokevirtual 18) 3 7 := ⟨by decide +kernel, rfl⟩
theorem dL_train_7 : Dx cL_train 7 (.i2l) 1 8 := ⟨by decide +kernel, rfl⟩
theorem dL_train_8 : Dx cL_train 8 (.lastore) 1 9 := ⟨by decide +kernel, rfl⟩
theorem dL_train_9 : Dc cL_train 9 (fun o => .goto o) 15 12 := ⟨6, by decide +kernel, by decide, rfl⟩
theorem dL_train_12 : Dx cL_train 12 (.astore_n 3) 1 13 := ⟨by decide +kernel, rfl⟩
theorem dL_train_13 : Dx cL_train 13 (.iconst 1) 1 14 := ⟨by decide +kernel, rfl⟩
theorem dL_train_14 : Dx cL_train 14 (.ireturn) 1 15 := ⟨by decide +kernel, rfl⟩
theorem dL_train_15 : Dx cL_train 15 (.iconst 0) 1 16 := ⟨by decide +kernel, rfl⟩
theorem dL_train_16 : Dx cL_train 16 (.ireturn) 1 17 := ⟨by decide +kernel, rfl⟩
theorem dL_boat_0 : Dx cL_boat 0 (.aload_n 3) 1 1 := ⟨by decide +kernel, rfl⟩
theorem dL_boat_1 : Dx cL_boat 1 (.iconst 0) 1 2 := ⟨by decide +kernel, rfl⟩
theorem dL_boat_2 : Dx cL_boat 2 (.aload_n 0) 1 3 := ⟨by decide +kernel, rfl⟩
theorem dL_boat_3 : Dx cL_boat 3 (.iload_n 1) 1 4 := ⟨by decide +kernel, rfl⟩
theorem dL_boat_4 : Dx cL_boat 4 (.iload_n 2) 1 5 := ⟨by decide +kernel, rfl⟩
theorem dL_boat_5 : Dx cL_boat 5 (.invokevirtual 21) 3 8 := ⟨by decide +kernel, rfl⟩
theorem dL_boat_8 : Dx cL_boat 8 (.i2l) 1 9 := ⟨by decide +kernel, rfl⟩
theorem dL_boat_9 : Dx cL_boat 9 (.lastore) 1 10 := ⟨by decide +kernel, rfl⟩
theorem dL_boat_10 : Dc cL_boat 10 (fun o => .goto o) 17 13 := ⟨7, by decide +kernel, by decide, rfl⟩
theorem dL_boat_13 : Dx cL_boat 13 (.astore 4) 2 15 := ⟨by decide +kernel, rfl⟩
theorem dL_boat_15 : Dx cL_boat 15 (.iconst 1) 1 16 := ⟨by decide +kernel, rfl⟩
theorem dL_boat_16 : Dx cL_boat 16 (.ireturn) 1 17 := ⟨by decide +kernel, rfl⟩
theorem dL_boat_17 : Dx cL_boat 17 (.iconst 0) 1 18 := ⟨by decide +kernel, rfl⟩
theorem dL_boat_18 : Dx cL_boat 18 (.ireturn) 1 19 := ⟨by decide +kernel, rfl⟩
theorem dL_call_0 : Dx cL_call 0 (.aload_n 3) 1 1 := ⟨by decide +kernel, rfl⟩
theorem dL_call_1 : Dx cL_call 1 (.iconst 0) 1 2 := ⟨by decide +kernel, rfl⟩
theorem dL_call_2 : Dx cL_call 2 (.aload_n 0) 1 3 := ⟨by decide +kernel, rfl⟩
theorem dL_call_3 : Dx cL_call 3 (.iload_n 1) 1 4 := ⟨by decide +kernel, rfl⟩
theorem dL_call_4 : Dx cL_call 4 (.iload_n 2) 1 5 := ⟨by decide +kernel, rfl⟩
theorem dL_call_5 : Dx cL_call 5 (.invokevirtual 25) 3 8 := ⟨by decide +kernel, rfl⟩
theorem dL_call_8 : Dx cL_call 8 (.i2l) 1 9 := ⟨by decide +kernel, rfl⟩
theorem dL_call_9 : Dx cL_call 9 (.lastore) 1 10 := ⟨by decide +kernel, rfl⟩
theorem dL_call_10 : Dc cL_call 10 (fun o => .goto o) 17 13 := ⟨7, by decide +kernel, by decide, rfl⟩
theorem dL_call_13 : Dx cL_call 13 (.astore 4) 2 15 := ⟨by decide +kernel, rfl⟩
theorem dL_call_15 : Dx cL_call 15 (.iconst 1) 1 16 := ⟨by decide +kernel, rfl⟩
theorem dL_call_16 : Dx cL_call 16 (.ireturn) 1 17 := ⟨by decide +kernel, rfl⟩
theorem dL_call_17 : Dx cL_call 17 (.iconst 0) 1 18 := ⟨by decide +kernel, rfl⟩
theorem dL_call_18 : Dx cL_call 18 (.ireturn) 1 19 := ⟨by decide +kernel, rfl⟩
theorem dL_borrow_0 : Dx cL_borrow 0 (.aload_n 3) 1 1 := ⟨by decide +kernel, rfl⟩
theorem dL_borrow_1 : Dx cL_borrow 1 (.iconst 0) 1 2 := ⟨by decide +kernel, rfl⟩
theorem dL_borrow_2 : Dx cL_borrow 2 (.aload_n 0) 1 3 := ⟨by decide +kernel, rfl⟩
theorem dL_borrow_3 : Dx cL_borrow 3 (.iload_n 1) 1 4 := ⟨by decide +kernel, rfl⟩
theorem dL_borrow_4 : Dx cL_borrow 4 (.iload_n 2) 1 5 := ⟨by decide +kernel, rfl⟩
theorem dL_borrow_5 : Dx cL_borrow 5 (.invokevirtual 28) 3 8 := ⟨by decide +kernel, rfl⟩
theorem dL_borrow_8 : Dx cL_borrow 8 (.i2l) 1 9 := ⟨by decide +kernel, rfl⟩
theorem dL_borrow_9 : Dx cL_borrow 9 (.lastore) 1 10 := ⟨by decide +kernel, rfl⟩
theorem dL_borrow_10 : Dc cL_borrow 10 (fun o => .goto o) 17 13 := ⟨7, by decide +kernel, by decide, rfl⟩
theorem dL_borrow_13 : Dx cL_borrow 13 (.astore 4) 2 15 := ⟨by decide +kernel, rfl⟩
theorem dL_borrow_15 : Dx cL_borrow 15 (.iconst 1) 1 16 := ⟨by decide +kernel, rfl⟩
theorem dL_borrow_16 : Dx cL_borrow 16 (.ireturn) 1 17 := ⟨by decide +kernel, rfl⟩
theorem dL_borrow_17 : Dx cL_borrow 17 (.iconst 0) 1 18 := ⟨by decide +kernel, rfl⟩
theorem dL_borrow_18 : Dx cL_borrow 18 (.ireturn) 1 19 := ⟨by decide +kernel, rfl⟩
theorem dL_giveBack_0 : Dx cL_giveBack 0 (.aload_n 2) 1 1 := ⟨by decide +kernel, rfl⟩
theorem dL_giveBack_1 : Dx cL_giveBack 1 (.iconst 0) 1 2 := ⟨by decide +kernel, rfl⟩
theorem dL_giveBack_2 : Dx cL_giveBack 2 (.aload_n 0) 1 3 := ⟨by decide +kernel, rfl⟩
theorem dL_giveBack_3 : Dx cL_giveBack 3 (.iload_n 1) 1 4 := ⟨by decide +kernel, rfl⟩
theorem dL_giveBack_4 : Dx cL_giveBack 4 (.invokevirtual 31) 3 7 := ⟨by decide +kernel, rfl⟩
theorem dL_giveBack_7 : Dx cL_giveBack 7 (.i2l) 1 8 := ⟨by decide +kernel, rfl⟩
theorem dL_giveBack_8 : Dx cL_giveBack 8 (.lastore) 1 9 := ⟨by decide +kernel, rfl⟩
theorem dL_giveBack_9 : Dc cL_giveBack 9 (fun o => .goto o) 15 12 := ⟨6, by decide +kernel, by decide, rfl⟩
theorem dL_giveBack_12 : Dx cL_giveBack 12 (.astore_n 3) 1 13 := ⟨by decide +kernel, rfl⟩
theorem dL_giveBack_13 : Dx cL_giveBack 13 (.iconst 1) 1 14 := ⟨by decide +kernel, rfl⟩
theorem dL_giveBack_14 : Dx cL_giveBack 14 (.ireturn) 1 15 := ⟨by decide +kernel, rfl⟩
theorem dL_giveBack_15 : Dx cL_giveBack 15 (.iconst 0) 1 16 := ⟨by decide +kernel, rfl⟩
theorem dL_giveBack_16 : Dx cL_giveBack 16 (.ireturn) 1 17 := ⟨by decide +kernel, rfl⟩
theorem dL_limit_0 : Dx cL_limit 0 (.aload_n 2) 1 1 := ⟨by decide +kernel, rfl⟩
theorem dL_limit_1 : Dx cL_limit 1 (.iconst 0) 1 2 := ⟨by decide +kernel, rfl⟩
theorem dL_limit_2 : Dx cL_limit 2 (.aload_n 0) 1 3 := ⟨by decide +kernel, rfl⟩
theorem dL_limit_3 : Dx cL_limit 3 (.iload_n 1) 1 4 := ⟨by decide +kernel, rfl⟩
theorem dL_limit_4 : Dx cL_limit 4 (.invokevirtual 34) 3 7 := ⟨by decide +kernel, rfl⟩
theorem dL_limit_7 : Dx cL_limit 7 (.i2l) 1 8 := ⟨by decide +kernel, rfl⟩
theorem dL_limit_8 : Dx cL_limit 8 (.lastore) 1 9 := ⟨by decide +kernel, rfl⟩
theorem dL_limit_9 : Dc cL_limit 9 (fun o => .goto o) 15 12 := ⟨6, by decide +kernel, by decide, rfl⟩
theorem dL_limit_12 : Dx cL_limit 12 (.astore_n 3) 1 13 := ⟨by decide +kernel, rfl⟩
theorem dL_limit_13 : Dx cL_limit 13 (.iconst 1) 1 14 := ⟨by decide +kernel, rfl⟩
theorem dL_limit_14 : Dx cL_limit 14 (.ireturn) 1 15 := ⟨by decide +kernel, rfl⟩
theorem dL_limit_15 : Dx cL_limit 15 (.iconst 0) 1 16 := ⟨by decide +kernel, rfl⟩
theorem dL_limit_16 : Dx cL_limit 16 (.ireturn) 1 17 := ⟨by decide +kernel, rfl⟩
theorem dL_pass_0 : Dx cL_pass 0 (.aload_n 2) 1 1 := ⟨by decide +kernel, rfl⟩
theorem dL_pass_1 : Dx cL_pass 1 (.iconst 0) 1 2 := ⟨by decide +kernel, rfl⟩
theorem dL_pass_2 : Dx cL_pass 2 (.aload_n 0) 1 3 := ⟨by decide +kernel, rfl⟩
theorem dL_pass_3 : Dx cL_pass 3 (.iload_n 1) 1 4 := ⟨by decide +kernel, rfl⟩
theorem dL_pass_4 : Dx cL_pass 4 (.invokevirtual 37) 3 7 := ⟨by decide +kernel, rfl⟩
theorem dL_pass_7 : Dx cL_pass 7 (.i2l) 1 8 := ⟨by decide +kernel, rfl⟩
theorem dL_pass_8 : Dx cL_pass 8 (.lastore) 1 9 := ⟨by decide +kernel, rfl⟩
theorem dL_pass_9 : Dc cL_pass 9 (fun o => .goto o) 15 12 := ⟨6, by decide +kernel, by decide, rfl⟩
theorem dL_pass_12 : Dx cL_pass 12 (.astore_n 3) 1 13 := ⟨by decide +kernel, rfl⟩
theorem dL_pass_13 : Dx cL_pass 13 (.iconst 1) 1 14 := ⟨by decide +kernel, rfl⟩
theorem dL_pass_14 : Dx cL_pass 14 (.ireturn) 1 15 := ⟨by decide +kernel, rfl⟩
theorem dL_pass_15 : Dx cL_pass 15 (.iconst 0) 1 16 := ⟨by decide +kernel, rfl⟩
theorem dL_pass_16 : Dx cL_pass 16 (.ireturn) 1 17 := ⟨by decide +kernel, rfl⟩
theorem dL_height_0 : Dx cL_height 0 (.aload_n 2) 1 1 := ⟨by decide +kernel, rfl⟩
theorem dL_height_1 : Dx cL_height 1 (.iconst 0) 1 2 := ⟨by decide +kernel, rfl⟩
theorem dL_height_2 : Dx cL_height 2 (.aload_n 0) 1 3 := ⟨by decide +kernel, rfl⟩
theorem dL_height_3 : Dx cL_height 3 (.iload_n 1) 1 4 := ⟨by decide +kernel, rfl⟩
theorem dL_height_4 : Dx cL_height 4 (.invokevirtual 40) 3 7 := ⟨by decide +kernel, rfl⟩
theorem dL_height_7 : Dx cL_height 7 (.i2l) 1 8 := ⟨by decide +kernel, rfl⟩
theorem dL_height_8 : Dx cL_height 8 (.lastore) 1 9 := ⟨by decide +kernel, rfl⟩
theorem dL_height_9 : Dc cL_height 9 (fun o => .goto o) 15 12 := ⟨6, by decide +kernel, by decide, rfl⟩
theorem dL_height_12 : Dx cL_height 12 (.astore_n 3) 1 13 := ⟨by decide +kernel, rfl⟩
theorem dL_height_13 : Dx cL_height 13 (.iconst 1) 1 14 := ⟨by decide +kernel, rfl⟩
theorem dL_height_14 : Dx cL_height 14 (.ireturn) 1 15 := ⟨by decide +kernel, rfl⟩
theorem dL_height_15 : Dx cL_height 15 (.iconst 0) 1 16 := ⟨by decide +kernel, rfl⟩
theorem dL_height_16 : Dx cL_height 16 (.ireturn) 1 17 := ⟨by decide +kernel, rfl⟩
theorem dL_memberOf_0 : Dx cL_memberOf 0 (.aload_n 3) 1 1 := ⟨by decide +kernel, rfl⟩
theorem dL_memberOf_1 : Dx cL_memberOf 1 (.iconst 0) 1 2 := ⟨by decide +kernel, rfl⟩
theorem dL_memberOf_2 : Dx cL_memberOf 2 (.aload_n 0) 1 3 := ⟨by decide +kernel, rfl⟩
theorem dL_memberOf_3 : Dx cL_memberOf 3 (.iload_n 1) 1 4 := ⟨by decide +kernel, rfl⟩
theorem dL_memberOf_4 : Dx cL_memberOf 4 (.iload_n 2) 1 5 := ⟨by decide +kernel, rfl⟩
theorem dL_memberOf_5 : Dx cL_memberOf 5 (.invokevirtual 45) 3 8 := ⟨by decide +kernel, rfl⟩
theorem dL_memberOf_8 : Dx cL_memberOf 8 (.i2l) 1 9 := ⟨by decide +kernel, rfl⟩
theorem dL_memberOf_9 : Dx cL_memberOf 9 (.lastore) 1 10 := ⟨by decide +kernel, rfl⟩
theorem dL_memberOf_10 : Dc cL_memberOf 10 (fun o => .goto o) 21 13 := ⟨11, by decide +kernel, by decide, rfl⟩
theorem dL_memberOf_13 : Dx cL_memberOf 13 (.astore 4) 2 15 := ⟨by decide +kernel, rfl⟩
theorem dL_memberOf_15 : Dx cL_memberOf 15 (.iconst 1) 1 16 := ⟨by decide +kernel, rfl⟩
theorem dL_memberOf_16 : Dx cL_memberOf 16 (.ireturn) 1 17 := ⟨by decide +kernel, rfl⟩
theorem dL_memberOf_17 : Dx cL_memberOf 17 (.astore 4) 2 19 := ⟨by decide +kernel, rfl⟩
theorem dL_memberOf_19 : Dx cL_memberOf 19 (.iconst 2) 1 20 := ⟨by decide +kernel, rfl⟩
theorem dL_memberOf_20 : Dx cL_memberOf 20 (.ireturn) 1 21 := ⟨by decide +kernel, rfl⟩
theorem dL_memberOf_21 : Dx cL_memberOf 21 (.iconst 0) 1 22 := ⟨by decide +kernel, rfl⟩
theorem dL_memberOf_22 : Dx cL_memberOf 22 (.ireturn) 1 23 := ⟨by decide +kernel, rfl⟩
theorem dL_boatOf_0 : Dx cL_boatOf 0 (.aload_n 3) 1 1 := ⟨by decide +kernel, rfl⟩
theorem dL_boatOf_1 : Dx cL_boatOf 1 (.iconst 0) 1 2 := ⟨by decide +kernel, rfl⟩
theorem dL_boatOf_2 : Dx cL_boatOf 2 (.aload_n 0) 1 3 := ⟨by decide +kernel, rfl⟩
theorem dL_boatOf_3 : Dx cL_boatOf 3 (.iload_n 1) 1 4 := ⟨by decide +kernel, rfl⟩
theorem dL_boatOf_4 : Dx cL_boatOf 4 (.iload_n 2) 1 5 := ⟨by decide +kernel, rfl⟩
theorem dL_boatOf_5 : Dx cL_boatOf 5 (.invokevirtual 50) 3 8 := ⟨by decide +kernel, rfl⟩
theorem dL_boatOf_8 : Dx cL_boatOf 8 (.i2l) 1 9 := ⟨by decide +kernel, rfl⟩
theorem dL_boatOf_9 : Dx cL_boatOf 9 (.lastore) 1 10 := ⟨by decide +kernel, rfl⟩
theorem dL_boatOf_10 : Dc cL_boatOf 10 (fun o => .goto o) 21 13 := ⟨11, by decide +kernel, by decide, rfl⟩
theorem dL_boatOf_13 : Dx cL_boatOf 13 (.astore 4) 2 15 := ⟨by decide +kernel, rfl⟩
theorem dL_boatOf_15 : Dx cL_boatOf 15 (.iconst 1) 1 16 := ⟨by decide +kernel, rfl⟩
theorem dL_boatOf_16 : Dx cL_boatOf 16 (.ireturn) 1 17 := ⟨by decide +kernel, rfl⟩
theorem dL_boatOf_17 : Dx cL_boatOf 17 (.astore 4) 2 19 := ⟨by decide +kernel, rfl⟩
theorem dL_boatOf_19 : Dx cL_boatOf 19 (.iconst 2) 1 20 := ⟨by decide +kernel, rfl⟩
theorem dL_boatOf_20 : Dx cL_boatOf 20 (.ireturn) 1 21 := ⟨by decide +kernel, rfl⟩
theorem dL_boatOf_21 : Dx cL_boatOf 21 (.iconst 0) 1 22 := ⟨by decide +kernel, rfl⟩
theorem dL_boatOf_22 : Dx cL_boatOf 22 (.ireturn) 1 23 := ⟨by decide +kernel, rfl⟩
theorem dL_crew_0 : Dx cL_crew 0 (.aload_n 2) 1 1 := ⟨by decide +kernel, rfl⟩
theorem dL_crew_1 : Dx cL_crew 1 (.iconst 0) 1 2 := ⟨by decide +kernel, rfl⟩
theorem dL_crew_2 : Dx cL_crew 2 (.aload_n 0) 1 3 := ⟨by decide +kernel, rfl⟩
theorem dL_crew_3 : Dx cL_crew 3 (.iload_n 1) 1 4 := ⟨by decide +kernel, rfl⟩
theorem dL_crew_4 : Dx cL_crew 4 (.invokevirtual 53) 3 7 := ⟨by decide +kernel, rfl⟩
theorem dL_crew_7 : Dx cL_crew 7 (.i2l) 1 8 := ⟨by decide +kernel, rfl⟩
theorem dL_crew_8 : Dx cL_crew 8 (.lastore) 1 9 := ⟨by decide +kernel, rfl⟩
theorem dL_crew_9 : Dc cL_crew 9 (fun o => .goto o) 15 12 := ⟨6, by decide +kernel, by decide, rfl⟩
theorem dL_crew_12 : Dx cL_crew 12 (.astore_n 3) 1 13 := ⟨by decide +kernel, rfl⟩
theorem dL_crew_13 : Dx cL_crew 13 (.iconst 1) 1 14 := ⟨by decide +kernel, rfl⟩
theorem dL_crew_14 : Dx cL_crew 14 (.ireturn) 1 15 := ⟨by decide +kernel, rfl⟩
theorem dL_crew_15 : Dx cL_crew 15 (.iconst 0) 1 16 := ⟨by decide +kernel, rfl⟩
theorem dL_crew_16 : Dx cL_crew 16 (.ireturn) 1 17 := ⟨by decide +kernel, rfl⟩
theorem dL_wouldGo_0 : Dx cL_wouldGo 0 (.aload_n 2) 1 1 := ⟨by decide +kernel, rfl⟩
theorem dL_wouldGo_1 : Dx cL_wouldGo 1 (.iconst 0) 1 2 := ⟨by decide +kernel, rfl⟩
theorem dL_wouldGo_2 : Dx cL_wouldGo 2 (.aload_n 0) 1 3 := ⟨by decide +kernel, rfl⟩
theorem dL_wouldGo_3 : Dx cL_wouldGo 3 (.iload_n 1) 1 4 := ⟨by decide +kernel, rfl⟩
theorem dL_wouldGo_4 : Dx cL_wouldGo 4 (.invokevirtual 56) 3 7 := ⟨by decide +kernel, rfl⟩
theorem dL_wouldGo_7 : Dx cL_wouldGo 7 (.i2l) 1 8 := ⟨by decide +kernel, rfl⟩
theorem dL_wouldGo_8 : Dx cL_wouldGo 8 (.lastore) 1 9 := ⟨by decide +kernel, rfl⟩
theorem dL_wouldGo_9 : Dc cL_wouldGo 9 (fun o => .goto o) 18 12 := ⟨9, by decide +kernel, by decide, rfl⟩
theorem dL_wouldGo_12 : Dx cL_wouldGo 12 (.astore_n 3) 1 13 := ⟨by decide +kernel, rfl⟩
theorem dL_wouldGo_13 : Dx cL_wouldGo 13 (.iconst 1) 1 14 := ⟨by decide +kernel, rfl⟩
theorem dL_wouldGo_14 : Dx cL_wouldGo 14 (.ireturn) 1 15 := ⟨by decide +kernel, rfl⟩
theorem dL_wouldGo_15 : Dx cL_wouldGo 15 (.astore_n 3) 1 16 := ⟨by decide +kernel, rfl⟩
theorem dL_wouldGo_16 : Dx cL_wouldGo 16 (.iconst 2) 1 17 := ⟨by decide +kernel, rfl⟩
theorem dL_wouldGo_17 : Dx cL_wouldGo 17 (.ireturn) 1 18 := ⟨by decide +kernel, rfl⟩
theorem dL_wouldGo_18 : Dx cL_wouldGo 18 (.iconst 0) 1 19 := ⟨by decide +kernel, rfl⟩
theorem dL_wouldGo_19 : Dx cL_wouldGo 19 (.ireturn) 1 20 := ⟨by decide +kernel, rfl⟩
theorem dL_weariness_0 : Dx cL_weariness 0 (.aload_n 2) 1 1 := ⟨by decide +kernel, rfl⟩
theorem dL_weariness_1 : Dx cL_weariness 1 (.iconst 0) 1 2 := ⟨by decide +kernel, rfl⟩
theorem dL_weariness_2 : Dx cL_weariness 2 (.aload_n 0) 1 3 := ⟨by decide +kernel, rfl⟩
theorem dL_weariness_3 : Dx cL_weariness 3 (.iload_n 1) 1 4 := ⟨by decide +kernel, rfl⟩
theorem dL_weariness_4 : Dx cL_weariness 4 (.invokevirtual 61) 3 7 := ⟨by decide +kernel, rfl⟩
theorem dL_weariness_7 : Dx cL_weariness 7 (.i2l) 1 8 := ⟨by decide +kernel, rfl⟩
theorem dL_weariness_8 : Dx cL_weariness 8 (.lastore) 1 9 := ⟨by decide +kernel, rfl⟩
theorem dL_weariness_9 : Dc cL_weariness 9 (fun o => .goto o) 18 12 := ⟨9, by decide +kernel, by decide, rfl⟩
theorem dL_weariness_12 : Dx cL_weariness 12 (.astore_n 3) 1 13 := ⟨by decide +kernel, rfl⟩
theorem dL_weariness_13 : Dx cL_weariness 13 (.iconst 1) 1 14 := ⟨by decide +kernel, rfl⟩
theorem dL_weariness_14 : Dx cL_weariness 14 (.ireturn) 1 15 := ⟨by decide +kernel, rfl⟩
theorem dL_weariness_15 : Dx cL_weariness 15 (.astore_n 3) 1 16 := ⟨by decide +kernel, rfl⟩
theorem dL_weariness_16 : Dx cL_weariness 16 (.iconst 2) 1 17 := ⟨by decide +kernel, rfl⟩
theorem dL_weariness_17 : Dx cL_weariness 17 (.ireturn) 1 18 := ⟨by decide +kernel, rfl⟩
theorem dL_weariness_18 : Dx cL_weariness 18 (.iconst 0) 1 19 := ⟨by decide +kernel, rfl⟩
theorem dL_weariness_19 : Dx cL_weariness 19 (.ireturn) 1 20 := ⟨by decide +kernel, rfl⟩
theorem dL_wearinessAgain_0 : Dx cL_wearinessAgain 0 (.aload_n 2) 1 1 := ⟨by decide +kernel, rfl⟩
theorem dL_wearinessAgain_1 : Dx cL_wearinessAgain 1 (.iconst 0) 1 2 := ⟨by decide +kernel, rfl⟩
theorem dL_wearinessAgain_2 : Dx cL_wearinessAgain 2 (.aload_n 0) 1 3 := ⟨by decide +kernel, rfl⟩
theorem dL_wearinessAgain_3 : Dx cL_wearinessAgain 3 (.iload_n 1) 1 4 := ⟨by decide +kernel, rfl⟩
theorem dL_wearinessAgain_4 : Dx cL_wearinessAgain 4 (.invokevirtual 64) 3 7 := ⟨by decide +kernel, rfl⟩
theorem dL_wearinessAgain_7 : Dx cL_wearinessAgain 7 (.i2l) 1 8 := ⟨by decide +kernel, rfl⟩
theorem dL_wearinessAgain_8 : Dx cL_wearinessAgain 8 (.lastore) 1 9 := ⟨by decide +kernel, rfl⟩
theorem dL_wearinessAgain_9 : Dc cL_wearinessAgain 9 (fun o => .goto o) 18 12 := ⟨9, by decide +kernel, by decide, rfl⟩
theorem dL_wearinessAgain_12 : Dx cL_wearinessAgain 12 (.astore_n 3) 1 13 := ⟨by decide +kernel, rfl⟩
theorem dL_wearinessAgain_13 : Dx cL_wearinessAgain 13 (.iconst 1) 1 14 := ⟨by decide +kernel, rfl⟩
theorem dL_wearinessAgain_14 : Dx cL_wearinessAgain 14 (.ireturn) 1 15 := ⟨by decide +kernel, rfl⟩
theorem dL_wearinessAgain_15 : Dx cL_wearinessAgain 15 (.astore_n 3) 1 16 := ⟨by decide +kernel, rfl⟩
theorem dL_wearinessAgain_16 : Dx cL_wearinessAgain 16 (.iconst 2) 1 17 := ⟨by decide +kernel, rfl⟩
theorem dL_wearinessAgain_17 : Dx cL_wearinessAgain 17 (.ireturn) 1 18 := ⟨by decide +kernel, rfl⟩
theorem dL_wearinessAgain_18 : Dx cL_wearinessAgain 18 (.iconst 0) 1 19 := ⟨by decide +kernel, rfl⟩
theorem dL_wearinessAgain_19 : Dx cL_wearinessAgain 19 (.ireturn) 1 20 := ⟨by decide +kernel, rfl⟩
theorem dL_wouldRefuse_0 : Dx cL_wouldRefuse 0 (.aload_n 2) 1 1 := ⟨by decide +kernel, rfl⟩
theorem dL_wouldRefuse_1 : Dx cL_wouldRefuse 1 (.iconst 0) 1 2 := ⟨by decide +kernel, rfl⟩
theorem dL_wouldRefuse_2 : Dx cL_wouldRefuse 2 (.aload_n 0) 1 3 := ⟨by decide +kernel, rfl⟩
theorem dL_wouldRefuse_3 : Dx cL_wouldRefuse 3 (.iload_n 1) 1 4 := ⟨by decide +kernel, rfl⟩
theorem dL_wouldRefuse_4 : Dx cL_wouldRefuse 4 (.invokevirtual 67) 3 7 := ⟨by decide +kernel, rfl⟩
theorem dL_wouldRefuse_7 : Dx cL_wouldRefuse 7 (.i2l) 1 8 := ⟨by decide +kernel, rfl⟩
theorem dL_wouldRefuse_8 : Dx cL_wouldRefuse 8 (.lastore) 1 9 := ⟨by decide +kernel, rfl⟩
theorem dL_wouldRefuse_9 : Dc cL_wouldRefuse 9 (fun o => .goto o) 15 12 := ⟨6, by decide +kernel, by decide, rfl⟩
theorem dL_wouldRefuse_12 : Dx cL_wouldRefuse 12 (.astore_n 3) 1 13 := ⟨by decide +kernel, rfl⟩
theorem dL_wouldRefuse_13 : Dx cL_wouldRefuse 13 (.iconst 1) 1 14 := ⟨by decide +kernel, rfl⟩
theorem dL_wouldRefuse_14 : Dx cL_wouldRefuse 14 (.ireturn) 1 15 := ⟨by decide +kernel, rfl⟩
theorem dL_wouldRefuse_15 : Dx cL_wouldRefuse 15 (.iconst 0) 1 16 := ⟨by decide +kernel, rfl⟩
theorem dL_wouldRefuse_16 : Dx cL_wouldRefuse 16 (.ireturn) 1 17 := ⟨by decide +kernel, rfl⟩
theorem dL_callableIn_0 : Dx cL_callableIn 0 (.aload_n 2) 1 1 := ⟨by decide +kernel, rfl⟩
theorem dL_callableIn_1 : Dx cL_callableIn 1 (.iconst 0) 1 2 := ⟨by decide +kernel, rfl⟩
theorem dL_callableIn_2 : Dx cL_callableIn 2 (.aload_n 0) 1 3 := ⟨by decide +kernel, rfl⟩
theorem dL_callableIn_3 : Dx cL_callableIn 3 (.iload_n 1) 1 4 := ⟨by decide +kernel, rfl⟩
theorem dL_callableIn_4 : Dx cL_callableIn 4 (.invokevirtual 70) 3 7 := ⟨by decide +kernel, rfl⟩
theorem dL_callableIn_7 : Dx cL_callableIn 7 (.i2l) 1 8 := ⟨by decide +kernel, rfl⟩
theorem dL_callableIn_8 : Dx cL_callableIn 8 (.lastore) 1 9 := ⟨by decide +kernel, rfl⟩
theorem dL_callableIn_9 : Dc cL_callableIn 9 (fun o => .goto o) 18 12 := ⟨9, by decide +kernel, by decide, rfl⟩
theorem dL_callableIn_12 : Dx cL_callableIn 12 (.astore_n 3) 1 13 := ⟨by decide +kernel, rfl⟩
theorem dL_callableIn_13 : Dx cL_callableIn 13 (.iconst 1) 1 14 := ⟨by decide +kernel, rfl⟩
theorem dL_callableIn_14 : Dx cL_callableIn 14 (.ireturn) 1 15 := ⟨by decide +kernel, rfl⟩
theorem dL_callableIn_15 : Dx cL_callableIn 15 (.astore_n 3) 1 16 := ⟨by decide +kernel, rfl⟩
theorem dL_callableIn_16 : Dx cL_callableIn 16 (.iconst 2) 1 17 := ⟨by decide +kernel, rfl⟩
theorem dL_callableIn_17 : Dx cL_callableIn 17 (.ireturn) 1 18 := ⟨by decide +kernel, rfl⟩
theorem dL_callableIn_18 : Dx cL_callableIn 18 (.iconst 0) 1 19 := ⟨by decide +kernel, rfl⟩
theorem dL_callableIn_19 : Dx cL_callableIn 19 (.ireturn) 1 20 := ⟨by decide +kernel, rfl⟩
theorem dL_homeIn_0 : Dx cL_homeIn 0 (.aload_n 2) 1 1 := ⟨by decide +kernel, rfl⟩
theorem dL_homeIn_1 : Dx cL_homeIn 1 (.iconst 0) 1 2 := ⟨by decide +kernel, rfl⟩
theorem dL_homeIn_2 : Dx cL_homeIn 2 (.aload_n 0) 1 3 := ⟨by decide +kernel, rfl⟩
theorem dL_homeIn_3 : Dx cL_homeIn 3 (.iload_n 1) 1 4 := ⟨by decide +kernel, rfl⟩
theorem dL_homeIn_4 : Dx cL_homeIn 4 (.invokevirtual 73) 3 7 := ⟨by decide +kernel, rfl⟩
theorem dL_homeIn_7 : Dx cL_homeIn 7 (.i2l) 1 8 := ⟨by decide +kernel, rfl⟩
theorem dL_homeIn_8 : Dx cL_homeIn 8 (.lastore) 1 9 := ⟨by decide +kernel, rfl⟩
theorem dL_homeIn_9 : Dc cL_homeIn 9 (fun o => .goto o) 18 12 := ⟨9, by decide +kernel, by decide, rfl⟩
theorem dL_homeIn_12 : Dx cL_homeIn 12 (.astore_n 3) 1 13 := ⟨by decide +kernel, rfl⟩
theorem dL_homeIn_13 : Dx cL_homeIn 13 (.iconst 1) 1 14 := ⟨by decide +kernel, rfl⟩
theorem dL_homeIn_14 : Dx cL_homeIn 14 (.ireturn) 1 15 := ⟨by decide +kernel, rfl⟩
theorem dL_homeIn_15 : Dx cL_homeIn 15 (.astore_n 3) 1 16 := ⟨by decide +kernel, rfl⟩
theorem dL_homeIn_16 : Dx cL_homeIn 16 (.iconst 2) 1 17 := ⟨by decide +kernel, rfl⟩
theorem dL_homeIn_17 : Dx cL_homeIn 17 (.ireturn) 1 18 := ⟨by decide +kernel, rfl⟩
theorem dL_homeIn_18 : Dx cL_homeIn 18 (.iconst 0) 1 19 := ⟨by decide +kernel, rfl⟩
theorem dL_homeIn_19 : Dx cL_homeIn 19 (.ireturn) 1 20 := ⟨by decide +kernel, rfl⟩
theorem dL_homeInAgain_0 : Dx cL_homeInAgain 0 (.aload_n 2) 1 1 := ⟨by decide +kernel, rfl⟩
theorem dL_homeInAgain_1 : Dx cL_homeInAgain 1 (.iconst 0) 1 2 := ⟨by decide +kernel, rfl⟩
theorem dL_homeInAgain_2 : Dx cL_homeInAgain 2 (.aload_n 0) 1 3 := ⟨by decide +kernel, rfl⟩
theorem dL_homeInAgain_3 : Dx cL_homeInAgain 3 (.iload_n 1) 1 4 := ⟨by decide +kernel, rfl⟩
theorem dL_homeInAgain_4 : Dx cL_homeInAgain 4 (.invokevirtual 76) 3 7 := ⟨by decide +kernel, rfl⟩
theorem dL_homeInAgain_7 : Dx cL_homeInAgain 7 (.i2l) 1 8 := ⟨by decide +kernel, rfl⟩
theorem dL_homeInAgain_8 : Dx cL_homeInAgain 8 (.lastore) 1 9 := ⟨by decide +kernel, rfl⟩
theorem dL_homeInAgain_9 : Dc cL_homeInAgain 9 (fun o => .goto o) 18 12 := ⟨9, by decide +kernel, by decide, rfl⟩
theorem dL_homeInAgain_12 : Dx cL_homeInAgain 12 (.astore_n 3) 1 13 := ⟨by decide +kernel, rfl⟩
theorem dL_homeInAgain_13 : Dx cL_homeInAgain 13 (.iconst 1) 1 14 := ⟨by decide +kernel, rfl⟩
theorem dL_homeInAgain_14 : Dx cL_homeInAgain 14 (.ireturn) 1 15 := ⟨by decide +kernel, rfl⟩
theorem dL_homeInAgain_15 : Dx cL_homeInAgain 15 (.astore_n 3) 1 16 := ⟨by decide +kernel, rfl⟩
theorem dL_homeInAgain_16 : Dx cL_homeInAgain 16 (.iconst 2) 1 17 := ⟨by decide +kernel, rfl⟩
theorem dL_homeInAgain_17 : Dx cL_homeInAgain 17 (.ireturn) 1 18 := ⟨by decide +kernel, rfl⟩
theorem dL_homeInAgain_18 : Dx cL_homeInAgain 18 (.iconst 0) 1 19 := ⟨by decide +kernel, rfl⟩
theorem dL_homeInAgain_19 : Dx cL_homeInAgain 19 (.ireturn) 1 20 := ⟨by decide +kernel, rfl⟩
theorem dL_loanOf_0 : Dx cL_loanOf 0 (.aload_n 3) 1 1 := ⟨by decide +kernel, rfl⟩
theorem dL_loanOf_1 : Dx cL_loanOf 1 (.iconst 0) 1 2 := ⟨by decide +kernel, rfl⟩
theorem dL_loanOf_2 : Dx cL_loanOf 2 (.aload_n 0) 1 3 := ⟨by decide +kernel, rfl⟩
theorem dL_loanOf_3 : Dx cL_loanOf 3 (.iload_n 1) 1 4 := ⟨by decide +kernel, rfl⟩
theorem dL_loanOf_4 : Dx cL_loanOf 4 (.iload_n 2) 1 5 := ⟨by decide +kernel, rfl⟩
theorem dL_loanOf_5 : Dx cL_loanOf 5 (.invokevirtual 79) 3 8 := ⟨by decide +kernel, rfl⟩
theorem dL_loanOf_8 : Dx cL_loanOf 8 (.i2l) 1 9 := ⟨by decide +kernel, rfl⟩
theorem dL_loanOf_9 : Dx cL_loanOf 9 (.lastore) 1 10 := ⟨by decide +kernel, rfl⟩
theorem dL_loanOf_10 : Dc cL_loanOf 10 (fun o => .goto o) 21 13 := ⟨11, by decide +kernel, by decide, rfl⟩
theorem dL_loanOf_13 : Dx cL_loanOf 13 (.astore 4) 2 15 := ⟨by decide +kernel, rfl⟩
theorem dL_loanOf_15 : Dx cL_loanOf 15 (.iconst 1) 1 16 := ⟨by decide +kernel, rfl⟩
theorem dL_loanOf_16 : Dx cL_loanOf 16 (.ireturn) 1 17 := ⟨by decide +kernel, rfl⟩
theorem dL_loanOf_17 : Dx cL_loanOf 17 (.astore 4) 2 19 := ⟨by decide +kernel, rfl⟩
theorem dL_loanOf_19 : Dx cL_loanOf 19 (.iconst 2) 1 20 := ⟨by decide +kernel, rfl⟩
theorem dL_loanOf_20 : Dx cL_loanOf 20 (.ireturn) 1 21 := ⟨by decide +kernel, rfl⟩
theorem dL_loanOf_21 : Dx cL_loanOf 21 (.iconst 0) 1 22 := ⟨by decide +kernel, rfl⟩
theorem dL_loanOf_22 : Dx cL_loanOf 22 (.ireturn) 1 23 := ⟨by decide +kernel, rfl⟩
theorem dL_least_0 : Dx cL_least 0 (.aload_n 2) 1 1 := ⟨by decide +kernel, rfl⟩
theorem dL_least_1 : Dx cL_least 1 (.iconst 0) 1 2 := ⟨by decide +kernel, rfl⟩
theorem dL_least_2 : Dx cL_least 2 (.aload_n 0) 1 3 := ⟨by decide +kernel, rfl⟩
theorem dL_least_3 : Dx cL_least 3 (.iload_n 1) 1 4 := ⟨by decide +kernel, rfl⟩
theorem dL_least_4 : Dx cL_least 4 (.invokevirtual 82) 3 7 := ⟨by decide +kernel, rfl⟩
theorem dL_least_7 : Dx cL_least 7 (.i2l) 1 8 := ⟨by decide +kernel, rfl⟩
theorem dL_least_8 : Dx cL_least 8 (.lastore) 1 9 := ⟨by decide +kernel, rfl⟩
theorem dL_least_9 : Dc cL_least 9 (fun o => .goto o) 15 12 := ⟨6, by decide +kernel, by decide, rfl⟩
theorem dL_least_12 : Dx cL_least 12 (.astore_n 3) 1 13 := ⟨by decide +kernel, rfl⟩
theorem dL_least_13 : Dx cL_least 13 (.iconst 1) 1 14 := ⟨by decide +kernel, rfl⟩
theorem dL_least_14 : Dx cL_least 14 (.ireturn) 1 15 := ⟨by decide +kernel, rfl⟩
theorem dL_least_15 : Dx cL_least 15 (.iconst 0) 1 16 := ⟨by decide +kernel, rfl⟩
theorem dL_least_16 : Dx cL_least 16 (.ireturn) 1 17 := ⟨by decide +kernel, rfl⟩
theorem dL_busiest_0 : Dx cL_busiest 0 (.aload_n 2) 1 1 := ⟨by decide +kernel, rfl⟩
theorem dL_busiest_1 : Dx cL_busiest 1 (.iconst 0) 1 2 := ⟨by decide +kernel, rfl⟩
theorem dL_busiest_2 : Dx cL_busiest 2 (.aload_n 0) 1 3 := ⟨by decide +kernel, rfl⟩
theorem dL_busiest_3 : Dx cL_busiest 3 (.iload_n 1) 1 4 := ⟨by decide +kernel, rfl⟩
theorem dL_busiest_4 : Dx cL_busiest 4 (.invokevirtual 85) 3 7 := ⟨by decide +kernel, rfl⟩
theorem dL_busiest_7 : Dx cL_busiest 7 (.i2l) 1 8 := ⟨by decide +kernel, rfl⟩
theorem dL_busiest_8 : Dx cL_busiest 8 (.lastore) 1 9 := ⟨by decide +kernel, rfl⟩
theorem dL_busiest_9 : Dc cL_busiest 9 (fun o => .goto o) 15 12 := ⟨6, by decide +kernel, by decide, rfl⟩
theorem dL_busiest_12 : Dx cL_busiest 12 (.astore_n 3) 1 13 := ⟨by decide +kernel, rfl⟩
theorem dL_busiest_13 : Dx cL_busiest 13 (.iconst 1) 1 14 := ⟨by decide +kernel, rfl⟩
theorem dL_busiest_14 : Dx cL_busiest 14 (.ireturn) 1 15 := ⟨by decide +kernel, rfl⟩
theorem dL_busiest_15 : Dx cL_busiest 15 (.iconst 0) 1 16 := ⟨by decide +kernel, rfl⟩
theorem dL_busiest_16 : Dx cL_busiest 16 (.ireturn) 1 17 := ⟨by decide +kernel, rfl⟩
theorem dL_append_0 : Dx cL_append 0 (.aload_n 2) 1 1 := ⟨by decide +kernel, rfl⟩
theorem dL_append_1 : Dx cL_append 1 (.iconst 0) 1 2 := ⟨by decide +kernel, rfl⟩
theorem dL_append_2 : Dx cL_append 2 (.aload_n 0) 1 3 := ⟨by decide +kernel, rfl⟩
theorem dL_append_3 : Dx cL_append 3 (.iload_n 1) 1 4 := ⟨by decide +kernel, rfl⟩
theorem dL_append_4 : Dx cL_append 4 (.invokevirtual 88) 3 7 := ⟨by decide +kernel, rfl⟩
theorem dL_append_7 : Dx cL_append 7 (.i2l) 1 8 := ⟨by decide +kernel, rfl⟩
theorem dL_append_8 : Dx cL_append 8 (.lastore) 1 9 := ⟨by decide +kernel, rfl⟩
theorem dL_append_9 : Dc cL_append 9 (fun o => .goto o) 15 12 := ⟨6, by decide +kernel, by decide, rfl⟩
theorem dL_append_12 : Dx cL_append 12 (.astore_n 3) 1 13 := ⟨by decide +kernel, rfl⟩
theorem dL_append_13 : Dx cL_append 13 (.iconst 1) 1 14 := ⟨by decide +kernel, rfl⟩
theorem dL_append_14 : Dx cL_append 14 (.ireturn) 1 15 := ⟨by decide +kernel, rfl⟩
theorem dL_append_15 : Dx cL_append 15 (.iconst 0) 1 16 := ⟨by decide +kernel, rfl⟩
theorem dL_append_16 : Dx cL_append 16 (.ireturn) 1 17 := ⟨by decide +kernel, rfl⟩
theorem dL_commands_0 : Dx cL_commands 0 (.aload_n 1) 1 1 := ⟨by decide +kernel, rfl⟩
theorem dL_commands_1 : Dx cL_commands 1 (.iconst 0) 1 2 := ⟨by decide +kernel, rfl⟩
theorem dL_commands_2 : Dx cL_commands 2 (.aload_n 0) 1 3 := ⟨by decide +kernel, rfl⟩
theorem dL_commands_3 : Dx cL_commands 3 (.invokevirtual 94) 3 6 := ⟨by decide +kernel, rfl⟩
theorem dL_commands_6 : Dx cL_commands 6 (.i2l) 1 7 := ⟨by decide +kernel, rfl⟩
theorem dL_commands_7 : Dx cL_commands 7 (.lastore) 1 8 := ⟨by decide +kernel, rfl⟩
theorem dL_commands_8 : Dc cL_commands 8 (fun o => .goto o) 17 11 := ⟨9, by decide +kernel, by decide, rfl⟩
theorem dL_commands_11 : Dx cL_commands 11 (.astore_n 2) 1 12 := ⟨by decide +kernel, rfl⟩
theorem dL_commands_12 : Dx cL_commands 12 (.iconst 1) 1 13 := ⟨by decide +kernel, rfl⟩
theorem dL_commands_13 : Dx cL_commands 13 (.ireturn) 1 14 := ⟨by decide +kernel, rfl⟩
theorem dL_commands_14 : Dx cL_commands 14 (.astore_n 2) 1 15 := ⟨by decide +kernel, rfl⟩
theorem dL_commands_15 : Dx cL_commands 15 (.iconst 2) 1 16 := ⟨by decide +kernel, rfl⟩
theorem dL_commands_16 : Dx cL_commands 16 (.ireturn) 1 17 := ⟨by decide +kernel, rfl⟩
theorem dL_commands_17 : Dx cL_commands 17 (.iconst 0) 1 18 := ⟨by decide +kernel, rfl⟩
theorem dL_commands_18 : Dx cL_commands 18 (.ireturn) 1 19 := ⟨by decide +kernel, rfl⟩
theorem dL_reason_0 : Dx cL_reason 0 (.aload_n 3) 1 1 := ⟨by decide +kernel, rfl⟩
theorem dL_reason_1 : Dx cL_reason 1 (.iconst 0) 1 2 := ⟨by decide +kernel, rfl⟩
theorem dL_reason_2 : Dx cL_reason 2 (.aload_n 0) 1 3 := ⟨by decide +kernel, rfl⟩
theorem dL_reason_3 : Dx cL_reason 3 (.iload_n 1) 1 4 := ⟨by decide +kernel, rfl⟩
theorem dL_reason_4 : Dx cL_reason 4 (.iload_n 2) 1 5 := ⟨by decide +kernel, rfl⟩
theorem dL_reason_5 : Dx cL_reason 5 (.invokevirtual 98) 3 8 := ⟨by decide +kernel, rfl⟩
theorem dL_reason_8 : Dx cL_reason 8 (.i2l) 1 9 := ⟨by decide +kernel, rfl⟩
theorem dL_reason_9 : Dx cL_reason 9 (.lastore) 1 10 := ⟨by decide +kernel, rfl⟩
theorem dL_reason_10 : Dc cL_reason 10 (fun o => .goto o) 17 13 := ⟨7, by decide +kernel, by decide, rfl⟩
theorem dL_reason_13 : Dx cL_reason 13 (.astore 4) 2 15 := ⟨by decide +kernel, rfl⟩
theorem dL_reason_15 : Dx cL_reason 15 (.iconst 1) 1 16 := ⟨by decide +kernel, rfl⟩
theorem dL_reason_16 : Dx cL_reason 16 (.ireturn) 1 17 := ⟨by decide +kernel, rfl⟩
theorem dL_reason_17 : Dx cL_reason 17 (.iconst 0) 1 18 := ⟨by decide +kernel, rfl⟩
theorem dL_reason_18 : Dx cL_reason 18 (.ireturn) 1 19 := ⟨by decide +kernel, rfl⟩
theorem dL_line_0 : Dx cL_line 0 (.aload_n 2) 1 1 := ⟨by decide +kernel, rfl⟩
theorem dL_line_1 : Dx cL_line 1 (.iconst 0) 1 2 := ⟨by decide +kernel, rfl⟩
theorem dL_line_2 : Dx cL_line 2 (.aload_n 0) 1 3 := ⟨by decide +kernel, rfl⟩
theorem dL_line_3 : Dx cL_line 3 (.iload_n 1) 1 4 := ⟨by decide +kernel, rfl⟩
theorem dL_line_4 : Dx cL_line 4 (.invokevirtual 102) 3 7 := ⟨by decide +kernel, rfl⟩
theorem dL_line_7 : Dx cL_line 7 (.i2l) 1 8 := ⟨by decide +kernel, rfl⟩
theorem dL_line_8 : Dx cL_line 8 (.lastore) 1 9 := ⟨by decide +kernel, rfl⟩
theorem dL_line_9 : Dc cL_line 9 (fun o => .goto o) 15 12 := ⟨6, by decide +kernel, by decide, rfl⟩
theorem dL_line_12 : Dx cL_line 12 (.astore_n 3) 1 13 := ⟨by decide +kernel, rfl⟩
theorem dL_line_13 : Dx cL_line 13 (.iconst 1) 1 14 := ⟨by decide +kernel, rfl⟩
theorem dL_line_14 : Dx cL_line 14 (.ireturn) 1 15 := ⟨by decide +kernel, rfl⟩
theorem dL_line_15 : Dx cL_line 15 (.iconst 0) 1 16 := ⟨by decide +kernel, rfl⟩
theorem dL_line_16 : Dx cL_line 16 (.ireturn) 1 17 := ⟨by decide +kernel, rfl⟩
theorem dL_character_0 : Dx cL_character 0 (.aload_n 2) 1 1 := ⟨by decide +kernel, rfl⟩
theorem dL_character_1 : Dx cL_character 1 (.iconst 0) 1 2 := ⟨by decide +kernel, rfl⟩
theorem dL_character_2 : Dx cL_character 2 (.aload_n 0) 1 3 := ⟨by decide +kernel, rfl⟩
theorem dL_character_3 : Dx cL_character 3 (.iload_n 1) 1 4 := ⟨by decide +kernel, rfl⟩
theorem dL_character_4 : Dx cL_character 4 (.invokevirtual 105) 3 7 := ⟨by decide +kernel, rfl⟩
theorem dL_character_7 : Dx cL_character 7 (.i2l) 1 8 := ⟨by decide +kernel, rfl⟩
theorem dL_character_8 : Dx cL_character 8 (.lastore) 1 9 := ⟨by decide +kernel, rfl⟩
theorem dL_character_9 : Dc cL_character 9 (fun o => .goto o) 15 12 := ⟨6, by decide +kernel, by decide, rfl⟩
theorem dL_character_12 : Dx cL_character 12 (.astore_n 3) 1 13 := ⟨by decide +kernel, rfl⟩
theorem dL_character_13 : Dx cL_character 13 (.iconst 1) 1 14 := ⟨by decide +kernel, rfl⟩
theorem dL_character_14 : Dx cL_character 14 (.ireturn) 1 15 := ⟨by decide +kernel, rfl⟩
theorem dL_character_15 : Dx cL_character 15 (.iconst 0) 1 16 := ⟨by decide +kernel, rfl⟩
theorem dL_character_16 : Dx cL_character 16 (.ireturn) 1 17 := ⟨by decide +kernel, rfl⟩
theorem dL_meanWeariness_0 : Dx cL_meanWeariness 0 (.aload_n 1) 1 1 := ⟨by decide +kernel, rfl⟩
theorem dL_meanWeariness_1 : Dx cL_meanWeariness 1 (.iconst 0) 1 2 := ⟨by decide +kernel, rfl⟩
theorem dL_meanWeariness_2 : Dx cL_meanWeariness 2 (.aload_n 0) 1 3 := ⟨by decide +kernel, rfl⟩
theorem dL_meanWeariness_3 : Dx cL_meanWeariness 3 (.invokevirtual 109) 3 6 := ⟨by decide +kernel, rfl⟩
theorem dL_meanWeariness_6 : Dx cL_meanWeariness 6 (.dastore) 1 7 := ⟨by decide +kernel, rfl⟩
theorem dL_meanWeariness_7 : Dc cL_meanWeariness 7 (fun o => .goto o) 13 10 := ⟨6, by decide +kernel, by decide, rfl⟩
theorem dL_meanWeariness_10 : Dx cL_meanWeariness 10 (.astore_n 2) 1 11 := ⟨by decide +kernel, rfl⟩
theorem dL_meanWeariness_11 : Dx cL_meanWeariness 11 (.iconst 1) 1 12 := ⟨by decide +kernel, rfl⟩
theorem dL_meanWeariness_12 : Dx cL_meanWeariness 12 (.ireturn) 1 13 := ⟨by decide +kernel, rfl⟩
theorem dL_meanWeariness_13 : Dx cL_meanWeariness 13 (.iconst 0) 1 14 := ⟨by decide +kernel, rfl⟩
theorem dL_meanWeariness_14 : Dx cL_meanWeariness 14 (.ireturn) 1 15 := ⟨by decide +kernel, rfl⟩
theorem dL_account_0 : Dx cL_account 0 (.aload_n 2) 1 1 := ⟨by decide +kernel, rfl⟩
theorem dL_account_1 : Dx cL_account 1 (.iconst 0) 1 2 := ⟨by decide +kernel, rfl⟩
theorem dL_account_2 : Dx cL_account 2 (.aload_n 0) 1 3 := ⟨by decide +kernel, rfl⟩
theorem dL_account_3 : Dx cL_account 3 (.iload_n 1) 1 4 := ⟨by decide +kernel, rfl⟩
theorem dL_account_4 : Dx cL_account 4 (.invokevirtual 115) 3 7 := ⟨by decide +kernel, rfl⟩
theorem dL_account_7 : Dx cL_account 7 (.i2l) 1 8 := ⟨by decide +kernel, rfl⟩
theorem dL_account_8 : Dx cL_account 8 (.lastore) 1 9 := ⟨by decide +kernel, rfl⟩
theorem dL_account_9 : Dc cL_account 9 (fun o => .goto o) 15 12 := ⟨6, by decide +kernel, by decide, rfl⟩
theorem dL_account_12 : Dx cL_account 12 (.astore_n 3) 1 13 := ⟨by decide +kernel, rfl⟩
theorem dL_account_13 : Dx cL_account 13 (.iconst 1) 1 14 := ⟨by decide +kernel, rfl⟩
theorem dL_account_14 : Dx cL_account 14 (.ireturn) 1 15 := ⟨by decide +kernel, rfl⟩
theorem dL_account_15 : Dx cL_account 15 (.iconst 0) 1 16 := ⟨by decide +kernel, rfl⟩
theorem dL_account_16 : Dx cL_account 16 (.ireturn) 1 17 := ⟨by decide +kernel, rfl⟩
theorem dL_undo_0 : Dx cL_undo 0 (.aload_n 1) 1 1 := ⟨by decide +kernel, rfl⟩
theorem dL_undo_1 : Dx cL_undo 1 (.iconst 0) 1 2 := ⟨by decide +kernel, rfl⟩
theorem dL_undo_2 : Dx cL_undo 2 (.aload_n 0) 1 3 := ⟨by decide +kernel, rfl⟩
theorem dL_undo_3 : Dx cL_undo 3 (.invokevirtual 118) 3 6 := ⟨by decide +kernel, rfl⟩
theorem dL_undo_6 : Dx cL_undo 6 (.i2l) 1 7 := ⟨by decide +kernel, rfl⟩
theorem dL_undo_7 : Dx cL_undo 7 (.lastore) 1 8 := ⟨by decide +kernel, rfl⟩
theorem dL_undo_8 : Dc cL_undo 8 (fun o => .goto o) 14 11 := ⟨6, by decide +kernel, by decide, rfl⟩
theorem dL_undo_11 : Dx cL_undo 11 (.astore_n 2) 1 12 := ⟨by decide +kernel, rfl⟩
theorem dL_undo_12 : Dx cL_undo 12 (.iconst 1) 1 13 := ⟨by decide +kernel, rfl⟩
theorem dL_undo_13 : Dx cL_undo 13 (.ireturn) 1 14 := ⟨by decide +kernel, rfl⟩
theorem dL_undo_14 : Dx cL_undo 14 (.iconst 0) 1 15 := ⟨by decide +kernel, rfl⟩
theorem dL_undo_15 : Dx cL_undo 15 (.ireturn) 1 16 := ⟨by decide +kernel, rfl⟩
theorem dL_restore_0 : Dx cL_restore 0 (.aload_n 1) 1 1 := ⟨by decide +kernel, rfl⟩
theorem dL_restore_1 : Dx cL_restore 1 (.iconst 0) 1 2 := ⟨by decide +kernel, rfl⟩
theorem dL_restore_2 : Dx cL_restore 2 (.aload_n 0) 1 3 := ⟨by decide +kernel, rfl⟩
theorem dL_restore_3 : Dx cL_restore 3 (.invokevirtual 121) 3 6 := ⟨by decide +kernel, rfl⟩
theorem dL_restore_6 : Dx cL_restore 6 (.i2l) 1 7 := ⟨by decide +kernel, rfl⟩
theorem dL_restore_7 : Dx cL_restore 7 (.lastore) 1 8 := ⟨by decide +kernel, rfl⟩
theorem dL_restore_8 : Dc cL_restore 8 (fun o => .goto o) 14 11 := ⟨6, by decide +kernel, by decide, rfl⟩
theorem dL_restore_11 : Dx cL_restore 11 (.astore_n 2) 1 12 := ⟨by decide +kernel, rfl⟩
theorem dL_restore_12 : Dx cL_restore 12 (.iconst 1) 1 13 := ⟨by decide +kernel, rfl⟩
theorem dL_restore_13 : Dx cL_restore 13 (.ireturn) 1 14 := ⟨by decide +kernel, rfl⟩
theorem dL_restore_14 : Dx cL_restore 14 (.iconst 0) 1 15 := ⟨by decide +kernel, rfl⟩
theorem dL_restore_15 : Dx cL_restore 15 (.ireturn) 1 16 := ⟨by decide +kernel, rfl⟩
theorem dL_law_0 : Dx cL_law 0 (.new 8) 3 3 := ⟨by decide +kernel, rfl⟩
theorem dL_law_3 : Dx cL_law 3 (.dup) 1 4 := ⟨by decide +kernel, rfl⟩
theorem dL_law_4 : Dx cL_law 4 (.invokespecial 124) 3 7 := ⟨by decide +kernel, rfl⟩
theorem dL_law_7 : Dx cL_law 7 (.astore_n 1) 1 8 := ⟨by decide +kernel, rfl⟩
theorem dL_law_8 : Dx cL_law 8 (.new 125) 3 11 := ⟨by decide +kernel, rfl⟩
theorem dL_law_11 : Dx cL_law 11 (.dup) 1 12 := ⟨by decide +kernel, rfl⟩
theorem dL_law_12 : Dx cL_law 12 (.invokespecial 127) 3 15 := ⟨by decide +kernel, rfl⟩
theorem dL_law_15 : Dx cL_law 15 (.astore_n 2) 1 16 := ⟨by decide +kernel, rfl⟩
theorem dL_law_16 : Dx cL_law 16 (.iconst 1) 1 17 := ⟨by decide +kernel, rfl⟩
theorem dL_law_17 : Dx cL_law 17 (.newarray .long) 2 19 := ⟨by decide +kernel, rfl⟩
theorem dL_law_19 : Dx cL_law 19 (.astore_n 3) 1 20 := ⟨by decide +kernel, rfl⟩
theorem dL_law_20 : Dx cL_law 20 (.iconst 1) 1 21 := ⟨by decide +kernel, rfl⟩
theorem dL_law_21 : Dx cL_law 21 (.newarray .double) 2 23 := ⟨by decide +kernel, rfl⟩
theorem dL_law_23 : Dx cL_law 23 (.astore 4) 2 25 := ⟨by decide +kernel, rfl⟩
theorem dL_law_25 : Dx cL_law 25 (.iconst 0) 1 26 := ⟨by decide +kernel, rfl⟩
theorem dL_law_26 : Dx cL_law 26 (.istore 5) 2 28 := ⟨by decide +kernel, rfl⟩
theorem dL_law_28 : Dx cL_law 28 (.iload 5) 2 30 := ⟨by decide +kernel, rfl⟩
theorem dL_law_30 : Dx cL_law 30 (.aload_n 0) 1 31 := ⟨by decide +kernel, rfl⟩
theorem dL_law_31 : Dx cL_law 31 (.arraylength) 1 32 := ⟨by decide +kernel, rfl⟩
theorem dL_law_32 : Dx cL_law 32 (.iconst 3) 1 33 := ⟨by decide +kernel, rfl⟩
theorem dL_law_33 : Dx cL_law 33 (.isub) 1 34 := ⟨by decide +kernel, rfl⟩
theorem dL_law_34 : Dc cL_law 34 (fun o => .if_icmp .gt o) 2192 37 := ⟨2158, by decide +kernel, by decide, rfl⟩
theorem dL_law_37 : Dx cL_law 37 (.aload_n 0) 1 38 := ⟨by decide +kernel, rfl⟩
theorem dL_law_38 : Dx cL_law 38 (.iload 5) 2 40 := ⟨by decide +kernel, rfl⟩
theorem dL_law_40 : Dx cL_law 40 (.iaload) 1 41 := ⟨by decide +kernel, rfl⟩
theorem dL_law_41 : Dx cL_law 41 (.bipush 63) 2 43 := ⟨by decide +kernel, rfl⟩
theorem dL_law_43 : Dx cL_law 43 (.iand) 1 44 := ⟨by decide +kernel, rfl⟩
theorem dL_law_44 : Dx cL_law 44 (.tableswitch 2142 0 36 #[164, 220, 276, 332, 400, 468, 536, 592, 648, 704, 760, 828, 896, 952, 965, 1021, 1077, 1133, 1189, 1245, 1301, 1357, 1425, 1438, 1494, 1550, 1608, 1652, 1665, 1765, 1821, 1877, 1942, 1985, 2041, 2085, 2098]) 164 208 := ⟨by decide +kernel, rfl⟩
theorem dL_law_208 : Dx cL_law 208 (.aload_n 1) 1 209 := ⟨by decide +kernel, rfl⟩
theorem dL_law_209 : Dx cL_law 209 (.aload_n 0) 1 210 := ⟨by decide +kernel, rfl⟩
theorem dL_law_210 : Dx cL_law 210 (.iload 5) 2 212 := ⟨by decide +kernel, rfl⟩
theorem dL_law_212 : Dx cL_law 212 (.iconst 1) 1 213 := ⟨by decide +kernel, rfl⟩
theorem dL_law_213 : Dx cL_law 213 (.iadd) 1 214 := ⟨by decide +kernel, rfl⟩
theorem dL_law_214 : Dx cL_law 214 (.iaload) 1 215 := ⟨by decide +kernel, rfl⟩
theorem dL_law_215 : Dx cL_law 215 (.aload_n 3) 1 216 := ⟨by decide +kernel, rfl⟩
theorem dL_law_216 : Dx cL_law 216 (.invokestatic 128) 3 219 := ⟨by decide +kernel, rfl⟩
theorem dL_law_219 : Dx cL_law 219 (.istore 6) 2 221 := ⟨by decide +kernel, rfl⟩
theorem dL_law_221 : Dx cL_law 221 (.aload_n 2) 1 222 := ⟨by decide +kernel, rfl⟩
theorem dL_law_222 : Dx cL_law 222 (.aload_n 0) 1 223 := ⟨by decide +kernel, rfl⟩
theorem dL_law_223 : Dx cL_law 223 (.iload 5) 2 225 := ⟨by decide +kernel, rfl⟩
theorem dL_law_225 : Dx cL_law 225 (.iconst 1) 1 226 := ⟨by decide +kernel, rfl⟩
theorem dL_law_226 : Dx cL_law 226 (.iadd) 1 227 := ⟨by decide +kernel, rfl⟩
theorem dL_law_227 : Dx cL_law 227 (.iaload) 1 228 := ⟨by decide +kernel, rfl⟩
theorem dL_law_228 : Dx cL_law 228 (.invokevirtual 133) 3 231 := ⟨by decide +kernel, rfl⟩
theorem dL_law_231 : Dx cL_law 231 (.istore 7) 2 233 := ⟨by decide +kernel, rfl⟩
theorem dL_law_233 : Dx cL_law 233 (.aload_n 2) 1 234 := ⟨by decide +kernel, rfl⟩
theorem dL_law_234 : Dx cL_law 234 (.invokevirtual 134) 3 237 := ⟨by decide +kernel, rfl⟩
theorem dL_law_237 : Dx cL_law 237 (.iload 6) 2 239 := ⟨by decide +kernel, rfl⟩
theorem dL_law_239 : Dc cL_law 239 (fun o => .if_icmp .eq o) 244 242 := ⟨5, by decide +kernel, by decide, rfl⟩
theorem dL_law_242 : Dx cL_law 242 (.iconst 0) 1 243 := ⟨by decide +kernel, rfl⟩
theorem dL_law_243 : Dx cL_law 243 (.ireturn) 1 244 := ⟨by decide +kernel, rfl⟩
theorem dL_law_244 : Dx cL_law 244 (.iload 6) 2 246 := ⟨by decide +kernel, rfl⟩
theorem dL_law_246 : Dc cL_law 246 (fun o => .ifCond .ne o) 261 249 := ⟨15, by decide +kernel, by decide, rfl⟩
theorem dL_law_249 : Dx cL_law 249 (.aload_n 3) 1 250 := ⟨by decide +kernel, rfl⟩
theorem dL_law_250 : Dx cL_law 250 (.iconst 0) 1 251 := ⟨by decide +kernel, rfl⟩
theorem dL_law_251 : Dx cL_law 251 (.laload) 1 252 := ⟨by decide +kernel, rfl⟩
theorem dL_law_252 : Dx cL_law 252 (.iload 7) 2 254 := ⟨by decide +kernel, rfl⟩
theorem dL_law_254 : Dx cL_law 254 (.i2l) 1 255 := ⟨by decide +kernel, rfl⟩
theorem dL_law_255 : Dx cL_law 255 (.lcmp) 1 256 := ⟨by decide +kernel, rfl⟩
theorem dL_law_256 : Dc cL_law 256 (fun o => .ifCond .eq o) 261 259 := ⟨5, by decide +kernel, by decide, rfl⟩
theorem dL_law_259 : Dx cL_law 259 (.iconst 0) 1 260 := ⟨by decide +kernel, rfl⟩
theorem dL_law_260 : Dx cL_law 260 (.ireturn) 1 261 := ⟨by decide +kernel, rfl⟩
theorem dL_law_261 : Dc cL_law 261 (fun o => .goto o) 2186 264 := ⟨1925, by decide +kernel, by decide, rfl⟩
theorem dL_law_264 : Dx cL_law 264 (.aload_n 1) 1 265 := ⟨by decide +kernel, rfl⟩
theorem dL_law_265 : Dx cL_law 265 (.aload_n 0) 1 266 := ⟨by decide +kernel, rfl⟩
theorem dL_law_266 : Dx cL_law 266 (.iload 5) 2 268 := ⟨by decide +kernel, rfl⟩
theorem dL_law_268 : Dx cL_law 268 (.iconst 1) 1 269 := ⟨by decide +kernel, rfl⟩
theorem dL_law_269 : Dx cL_law 269 (.iadd) 1 270 := ⟨by decide +kernel, rfl⟩
theorem dL_law_270 : Dx cL_law 270 (.iaload) 1 271 := ⟨by decide +kernel, rfl⟩
theorem dL_law_271 : Dx cL_law 271 (.aload_n 3) 1 272 := ⟨by decide +kernel, rfl⟩
theorem dL_law_272 : Dx cL_law 272 (.invokestatic 137) 3 275 := ⟨by decide +kernel, rfl⟩
theorem dL_law_275 : Dx cL_law 275 (.istore 6) 2 277 := ⟨by decide +kernel, rfl⟩
theorem dL_law_277 : Dx cL_law 277 (.aload_n 2) 1 278 := ⟨by decide +kernel, rfl⟩
theorem dL_law_278 : Dx cL_law 278 (.aload_n 0) 1 279 := ⟨by decide +kernel, rfl⟩
theorem dL_law_279 : Dx cL_law 279 (.iload 5) 2 281 := ⟨by decide +kernel, rfl⟩
theorem dL_law_281 : Dx cL_law 281 (.iconst 1) 1 282 := ⟨by decide +kernel, rfl⟩
theorem dL_law_282 : Dx cL_law 282 (.iadd) 1 283 := ⟨by decide +kernel, rfl⟩
theorem dL_law_283 : Dx cL_law 283 (.iaload) 1 284 := ⟨by decide +kernel, rfl⟩
theorem dL_law_284 : Dx cL_law 284 (.invokevirtual 139) 3 287 := ⟨by decide +kernel, rfl⟩
theorem dL_law_287 : Dx cL_law 287 (.istore 7) 2 289 := ⟨by decide +kernel, rfl⟩
theorem dL_law_289 : Dx cL_law 289 (.aload_n 2) 1 290 := ⟨by decide +kernel, rfl⟩
theorem dL_law_290 : Dx cL_law 290 (.invokevirtual 134) 3 293 := ⟨by decide +kernel, rfl⟩
theorem dL_law_293 : Dx cL_law 293 (.iload 6) 2 295 := ⟨by decide +kernel, rfl⟩
theorem dL_law_295 : Dc cL_law 295 (fun o => .if_icmp .eq o) 300 298 := ⟨5, by decide +kernel, by decide, rfl⟩
theorem dL_law_298 : Dx cL_law 298 (.iconst 0) 1 299 := ⟨by decide +kernel, rfl⟩
theorem dL_law_299 : Dx cL_law 299 (.ireturn) 1 300 := ⟨by decide +kernel, rfl⟩
theorem dL_law_300 : Dx cL_law 300 (.iload 6) 2 302 := ⟨by decide +kernel, rfl⟩
theorem dL_law_302 : Dc cL_law 302 (fun o => .ifCond .ne o) 317 305 := ⟨15, by decide +kernel, by decide, rfl⟩
theorem dL_law_305 : Dx cL_law 305 (.aload_n 3) 1 306 := ⟨by decide +kernel, rfl⟩
theorem dL_law_306 : Dx cL_law 306 (.iconst 0) 1 307 := ⟨by decide +kernel, rfl⟩
theorem dL_law_307 : Dx cL_law 307 (.laload) 1 308 := ⟨by decide +kernel, rfl⟩
theorem dL_law_308 : Dx cL_law 308 (.iload 7) 2 310 := ⟨by decide +kernel, rfl⟩
theorem dL_law_310 : Dx cL_law 310 (.i2l) 1 311 := ⟨by decide +kernel, rfl⟩
theorem dL_law_311 : Dx cL_law 311 (.lcmp) 1 312 := ⟨by decide +kernel, rfl⟩
theorem dL_law_312 : Dc cL_law 312 (fun o => .ifCond .eq o) 317 315 := ⟨5, by decide +kernel, by decide, rfl⟩
theorem dL_law_315 : Dx cL_law 315 (.iconst 0) 1 316 := ⟨by decide +kernel, rfl⟩
theorem dL_law_316 : Dx cL_law 316 (.ireturn) 1 317 := ⟨by decide +kernel, rfl⟩
theorem dL_law_317 : Dc cL_law 317 (fun o => .goto o) 2186 320 := ⟨1869, by decide +kernel, by decide, rfl⟩
theorem dL_law_320 : Dx cL_law 320 (.aload_n 1) 1 321 := ⟨by decide +kernel, rfl⟩
theorem dL_law_321 : Dx cL_law 321 (.aload_n 0) 1 322 := ⟨by decide +kernel, rfl⟩
theorem dL_law_322 : Dx cL_law 322 (.iload 5) 2 324 := ⟨by decide +kernel, rfl⟩
theorem dL_law_324 : Dx cL_law 324 (.iconst 1) 1 325 := ⟨by decide +kernel, rfl⟩
theorem dL_law_325 : Dx cL_law 325 (.iadd) 1 326 := ⟨by decide +kernel, rfl⟩
theorem dL_law_326 : Dx cL_law 326 (.iaload) 1 327 := ⟨by decide +kernel, rfl⟩
theorem dL_law_327 : Dx cL_law 327 (.aload_n 3) 1 328 := ⟨by decide +kernel, rfl⟩
theorem dL_law_328 : Dx cL_law 328 (.invokestatic 140) 3 331 := ⟨by decide +kernel, rfl⟩
theorem dL_law_331 : Dx cL_law 331 (.istore 6) 2 333 := ⟨by decide +kernel, rfl⟩
theorem dL_law_333 : Dx cL_law 333 (.aload_n 2) 1 334 := ⟨by decide +kernel, rfl⟩
theorem dL_law_334 : Dx cL_law 334 (.aload_n 0) 1 335 := ⟨by decide +kernel, rfl⟩
theorem dL_law_335 : Dx cL_law 335 (.iload 5) 2 337 := ⟨by decide +kernel, rfl⟩
theorem dL_law_337 : Dx cL_law 337 (.iconst 1) 1 338 := ⟨by decide +kernel, rfl⟩
theorem dL_law_338 : Dx cL_law 338 (.iadd) 1 339 := ⟨by decide +kernel, rfl⟩
theorem dL_law_339 : Dx cL_law 339 (.iaload) 1 340 := ⟨by decide +kernel, rfl⟩
theorem dL_law_340 : Dx cL_law 340 (.invokevirtual 142) 3 343 := ⟨by decide +kernel, rfl⟩
theorem dL_law_343 : Dx cL_law 343 (.istore 7) 2 345 := ⟨by decide +kernel, rfl⟩
theorem dL_law_345 : Dx cL_law 345 (.aload_n 2) 1 346 := ⟨by decide +kernel, rfl⟩
theorem dL_law_346 : Dx cL_law 346 (.invokevirtual 134) 3 349 := ⟨by decide +kernel, rfl⟩
theorem dL_law_349 : Dx cL_law 349 (.iload 6) 2 351 := ⟨by decide +kernel, rfl⟩
theorem dL_law_351 : Dc cL_law 351 (fun o => .if_icmp .eq o) 356 354 := ⟨5, by decide +kernel, by decide, rfl⟩
theorem dL_law_354 : Dx cL_law 354 (.iconst 0) 1 355 := ⟨by decide +kernel, rfl⟩
theorem dL_law_355 : Dx cL_law 355 (.ireturn) 1 356 := ⟨by decide +kernel, rfl⟩
theorem dL_law_356 : Dx cL_law 356 (.iload 6) 2 358 := ⟨by decide +kernel, rfl⟩
theorem dL_law_358 : Dc cL_law 358 (fun o => .ifCond .ne o) 373 361 := ⟨15, by decide +kernel, by decide, rfl⟩
theorem dL_law_361 : Dx cL_law 361 (.aload_n 3) 1 362 := ⟨by decide +kernel, rfl⟩
theorem dL_law_362 : Dx cL_law 362 (.iconst 0) 1 363 := ⟨by decide +kernel, rfl⟩
theorem dL_law_363 : Dx cL_law 363 (.laload) 1 364 := ⟨by decide +kernel, rfl⟩
theorem dL_law_364 : Dx cL_law 364 (.iload 7) 2 366 := ⟨by decide +kernel, rfl⟩
theorem dL_law_366 : Dx cL_law 366 (.i2l) 1 367 := ⟨by decide +kernel, rfl⟩
theorem dL_law_367 : Dx cL_law 367 (.lcmp) 1 368 := ⟨by decide +kernel, rfl⟩
theorem dL_law_368 : Dc cL_law 368 (fun o => .ifCond .eq o) 373 371 := ⟨5, by decide +kernel, by decide, rfl⟩
theorem dL_law_371 : Dx cL_law 371 (.iconst 0) 1 372 := ⟨by decide +kernel, rfl⟩
theorem dL_law_372 : Dx cL_law 372 (.ireturn) 1 373 := ⟨by decide +kernel, rfl⟩
theorem dL_law_373 : Dc cL_law 373 (fun o => .goto o) 2186 376 := ⟨1813, by decide +kernel, by decide, rfl⟩
theorem dL_law_376 : Dx cL_law 376 (.aload_n 1) 1 377 := ⟨by decide +kernel, rfl⟩
theorem dL_law_377 : Dx cL_law 377 (.aload_n 0) 1 378 := ⟨by decide +kernel, rfl⟩
theorem dL_law_378 : Dx cL_law 378 (.iload 5) 2 380 := ⟨by decide +kernel, rfl⟩
theorem dL_law_380 : Dx cL_law 380 (.iconst 1) 1 381 := ⟨by decide +kernel, rfl⟩
theorem dL_law_381 : Dx cL_law 381 (.iadd) 1 382 := ⟨by decide +kernel, rfl⟩
theorem dL_law_382 : Dx cL_law 382 (.iaload) 1 383 := ⟨by decide +kernel, rfl⟩
theorem dL_law_383 : Dx cL_law 383 (.aload_n 0) 1 384 := ⟨by decide +kernel, rfl⟩
theorem dL_law_384 : Dx cL_law 384 (.iload 5) 2 386 := ⟨by decide +kernel, rfl⟩
theorem dL_law_386 : Dx cL_law 386 (.iconst 2) 1 387 := ⟨by decide +kernel, rfl⟩
theorem dL_law_387 : Dx cL_law 387 (.iadd) 1 388 := ⟨by decide +kernel, rfl⟩
theorem dL_law_388 : Dx cL_law 388 (.iaload) 1 389 := ⟨by decide +kernel, rfl⟩
theorem dL_law_389 : Dx cL_law 389 (.aload_n 3) 1 390 := ⟨by decide +kernel, rfl⟩
theorem dL_law_390 : Dx cL_law 390 (.invokestatic 143) 3 393 := ⟨by decide +kernel, rfl⟩
theorem dL_law_393 : Dx cL_law 393 (.istore 6) 2 395 := ⟨by decide +kernel, rfl⟩
theorem dL_law_395 : Dx cL_law 395 (.aload_n 2) 1 396 := ⟨by decide +kernel, rfl⟩
theorem dL_law_396 : Dx cL_law 396 (.aload_n 0) 1 397 := ⟨by decide +kernel, rfl⟩
theorem dL_law_397 : Dx cL_law 397 (.iload 5) 2 399 := ⟨by decide +kernel, rfl⟩
theorem dL_law_399 : Dx cL_law 399 (.iconst 1) 1 400 := ⟨by decide +kernel, rfl⟩
theorem dL_law_400 : Dx cL_law 400 (.iadd) 1 401 := ⟨by decide +kernel, rfl⟩
theorem dL_law_401 : Dx cL_law 401 (.iaload) 1 402 := ⟨by decide +kernel, rfl⟩
theorem dL_law_402 : Dx cL_law 402 (.aload_n 0) 1 403 := ⟨by decide +kernel, rfl⟩
theorem dL_law_403 : Dx cL_law 403 (.iload 5) 2 405 := ⟨by decide +kernel, rfl⟩
theorem dL_law_405 : Dx cL_law 405 (.iconst 2) 1 406 := ⟨by decide +kernel, rfl⟩
theorem dL_law_406 : Dx cL_law 406 (.iadd) 1 407 := ⟨by decide +kernel, rfl⟩
theorem dL_law_407 : Dx cL_law 407 (.iaload) 1 408 := ⟨by decide +kernel, rfl⟩
theorem dL_law_408 : Dx cL_law 408 (.invokevirtual 146) 3 411 := ⟨by decide +kernel, rfl⟩
theorem dL_law_411 : Dx cL_law 411 (.istore 7) 2 413 := ⟨by decide +kernel, rfl⟩
theorem dL_law_413 : Dx cL_law 413 (.aload_n 2) 1 414 := ⟨by decide +kernel, rfl⟩
theorem dL_law_414 : Dx cL_law 414 (.invokevirtual 134) 3 417 := ⟨by decide +kernel, rfl⟩
theorem dL_law_417 : Dx cL_law 417 (.iload 6) 2 419 := ⟨by decide +kernel, rfl⟩
theorem dL_law_419 : Dc cL_law 419 (fun o => .if_icmp .eq o) 424 422 := ⟨5, by decide +kernel, by decide, rfl⟩
theorem dL_law_422 : Dx cL_law 422 (.iconst 0) 1 423 := ⟨by decide +kernel, rfl⟩
theorem dL_law_423 : Dx cL_law 423 (.ireturn) 1 424 := ⟨by decide +kernel, rfl⟩
theorem dL_law_424 : Dx cL_law 424 (.iload 6) 2 426 := ⟨by decide +kernel, rfl⟩
theorem dL_law_426 : Dc cL_law 426 (fun o => .ifCond .ne o) 441 429 := ⟨15, by decide +kernel, by decide, rfl⟩
theorem dL_law_429 : Dx cL_law 429 (.aload_n 3) 1 430 := ⟨by decide +kernel, rfl⟩
theorem dL_law_430 : Dx cL_law 430 (.iconst 0) 1 431 := ⟨by decide +kernel, rfl⟩
theorem dL_law_431 : Dx cL_law 431 (.laload) 1 432 := ⟨by decide +kernel, rfl⟩
theorem dL_law_432 : Dx cL_law 432 (.iload 7) 2 434 := ⟨by decide +kernel, rfl⟩
theorem dL_law_434 : Dx cL_law 434 (.i2l) 1 435 := ⟨by decide +kernel, rfl⟩
theorem dL_law_435 : Dx cL_law 435 (.lcmp) 1 436 := ⟨by decide +kernel, rfl⟩
theorem dL_law_436 : Dc cL_law 436 (fun o => .ifCond .eq o) 441 439 := ⟨5, by decide +kernel, by decide, rfl⟩
theorem dL_law_439 : Dx cL_law 439 (.iconst 0) 1 440 := ⟨by decide +kernel, rfl⟩
theorem dL_law_440 : Dx cL_law 440 (.ireturn) 1 441 := ⟨by decide +kernel, rfl⟩
theorem dL_law_441 : Dc cL_law 441 (fun o => .goto o) 2186 444 := ⟨1745, by decide +kernel, by decide, rfl⟩
theorem dL_law_444 : Dx cL_law 444 (.aload_n 1) 1 445 := ⟨by decide +kernel, rfl⟩
theorem dL_law_445 : Dx cL_law 445 (.aload_n 0) 1 446 := ⟨by decide +kernel, rfl⟩
theorem dL_law_446 : Dx cL_law 446 (.iload 5) 2 448 := ⟨by decide +kernel, rfl⟩
theorem dL_law_448 : Dx cL_law 448 (.iconst 1) 1 449 := ⟨by decide +kernel, rfl⟩
theorem dL_law_449 : Dx cL_law 449 (.iadd) 1 450 := ⟨by decide +kernel, rfl⟩
theorem dL_law_450 : Dx cL_law 450 (.iaload) 1 451 := ⟨by decide +kernel, rfl⟩
theorem dL_law_451 : Dx cL_law 451 (.aload_n 0) 1 452 := ⟨by decide +kernel, rfl⟩
theorem dL_law_452 : Dx cL_law 452 (.iload 5) 2 454 := ⟨by decide +kernel, rfl⟩
theorem dL_law_454 : Dx cL_law 454 (.iconst 2) 1 455 := ⟨by decide +kernel, rfl⟩
theorem dL_law_455 : Dx cL_law 455 (.iadd) 1 456 := ⟨by decide +kernel, rfl⟩
theorem dL_law_456 : Dx cL_law 456 (.iaload) 1 457 := ⟨by decide +kernel, rfl⟩
theorem dL_law_457 : Dx cL_law 457 (.aload_n 3) 1 458 := ⟨by decide +kernel, rfl⟩
theorem dL_law_458 : Dx cL_law 458 (.invokestatic 147) 3 461 := ⟨by decide +kernel, rfl⟩
theorem dL_law_461 : Dx cL_law 461 (.istore 6) 2 463 := ⟨by decide +kernel, rfl⟩
theorem dL_law_463 : Dx cL_law 463 (.aload_n 2) 1 464 := ⟨by decide +kernel, rfl⟩
theorem dL_law_464 : Dx cL_law 464 (.aload_n 0) 1 465 := ⟨by decide +kernel, rfl⟩
theorem dL_law_465 : Dx cL_law 465 (.iload 5) 2 467 := ⟨by decide +kernel, rfl⟩
theorem dL_law_467 : Dx cL_law 467 (.iconst 1) 1 468 := ⟨by decide +kernel, rfl⟩
theorem dL_law_468 : Dx cL_law 468 (.iadd) 1 469 := ⟨by decide +kernel, rfl⟩
theorem dL_law_469 : Dx cL_law 469 (.iaload) 1 470 := ⟨by decide +kernel, rfl⟩
theorem dL_law_470 : Dx cL_law 470 (.aload_n 0) 1 471 := ⟨by decide +kernel, rfl⟩
theorem dL_law_471 : Dx cL_law 471 (.iload 5) 2 473 := ⟨by decide +kernel, rfl⟩
theorem dL_law_473 : Dx cL_law 473 (.iconst 2) 1 474 := ⟨by decide +kernel, rfl⟩
theorem dL_law_474 : Dx cL_law 474 (.iadd) 1 475 := ⟨by decide +kernel, rfl⟩
theorem dL_law_475 : Dx cL_law 475 (.iaload) 1 476 := ⟨by decide +kernel, rfl⟩
theorem dL_law_476 : Dx cL_law 476 (.invokevirtual 149) 3 479 := ⟨by decide +kernel, rfl⟩
theorem dL_law_479 : Dx cL_law 479 (.istore 7) 2 481 := ⟨by decide +kernel, rfl⟩
theorem dL_law_481 : Dx cL_law 481 (.aload_n 2) 1 482 := ⟨by decide +kernel, rfl⟩
theorem dL_law_482 : Dx cL_law 482 (.invokevirtual 134) 3 485 := ⟨by decide +kernel, rfl⟩
theorem dL_law_485 : Dx cL_law 485 (.iload 6) 2 487 := ⟨by decide +kernel, rfl⟩
theorem dL_law_487 : Dc cL_law 487 (fun o => .if_icmp .eq o) 492 490 := ⟨5, by decide +kernel, by decide, rfl⟩
theorem dL_law_490 : Dx cL_law 490 (.iconst 0) 1 491 := ⟨by decide +kernel, rfl⟩
theorem dL_law_491 : Dx cL_law 491 (.ireturn) 1 492 := ⟨by decide +kernel, rfl⟩
theorem dL_law_492 : Dx cL_law 492 (.iload 6) 2 494 := ⟨by decide +kernel, rfl⟩
theorem dL_law_494 : Dc cL_law 494 (fun o => .ifCond .ne o) 509 497 := ⟨15, by decide +kernel, by decide, rfl⟩
theorem dL_law_497 : Dx cL_law 497 (.aload_n 3) 1 498 := ⟨by decide +kernel, rfl⟩
theorem dL_law_498 : Dx cL_law 498 (.iconst 0) 1 499 := ⟨by decide +kernel, rfl⟩
theorem dL_law_499 : Dx cL_law 499 (.laload) 1 500 := ⟨by decide +kernel, rfl⟩
theorem dL_law_500 : Dx cL_law 500 (.iload 7) 2 502 := ⟨by decide +kernel, rfl⟩
theorem dL_law_502 : Dx cL_law 502 (.i2l) 1 503 := ⟨by decide +kernel, rfl⟩
theorem dL_law_503 : Dx cL_law 503 (.lcmp) 1 504 := ⟨by decide +kernel, rfl⟩
theorem dL_law_504 : Dc cL_law 504 (fun o => .ifCond .eq o) 509 507 := ⟨5, by decide +kernel, by decide, rfl⟩
theorem dL_law_507 : Dx cL_law 507 (.iconst 0) 1 508 := ⟨by decide +kernel, rfl⟩
theorem dL_law_508 : Dx cL_law 508 (.ireturn) 1 509 := ⟨by decide +kernel, rfl⟩
theorem dL_law_509 : Dc cL_law 509 (fun o => .goto o) 2186 512 := ⟨1677, by decide +kernel, by decide, rfl⟩
theorem dL_law_512 : Dx cL_law 512 (.aload_n 1) 1 513 := ⟨by decide +kernel, rfl⟩
theorem dL_law_513 : Dx cL_law 513 (.aload_n 0) 1 514 := ⟨by decide +kernel, rfl⟩
theorem dL_law_514 : Dx cL_law 514 (.iload 5) 2 516 := ⟨by decide +kernel, rfl⟩
theorem dL_law_516 : Dx cL_law 516 (.iconst 1) 1 517 := ⟨by decide +kernel, rfl⟩
theorem dL_law_517 : Dx cL_law 517 (.iadd) 1 518 := ⟨by decide +kernel, rfl⟩
theorem dL_law_518 : Dx cL_law 518 (.iaload) 1 519 := ⟨by decide +kernel, rfl⟩
theorem dL_law_519 : Dx cL_law 519 (.aload_n 0) 1 520 := ⟨by decide +kernel, rfl⟩
theorem dL_law_520 : Dx cL_law 520 (.iload 5) 2 522 := ⟨by decide +kernel, rfl⟩
theorem dL_law_522 : Dx cL_law 522 (.iconst 2) 1 523 := ⟨by decide +kernel, rfl⟩
theorem dL_law_523 : Dx cL_law 523 (.iadd) 1 524 := ⟨by decide +kernel, rfl⟩
theorem dL_law_524 : Dx cL_law 524 (.iaload) 1 525 := ⟨by decide +kernel, rfl⟩
theorem dL_law_525 : Dx cL_law 525 (.aload_n 3) 1 526 := ⟨by decide +kernel, rfl⟩
theorem dL_law_526 : Dx cL_law 526 (.invokestatic 150) 3 529 := ⟨by decide +kernel, rfl⟩
theorem dL_law_529 : Dx cL_law 529 (.istore 6) 2 531 := ⟨by decide +kernel, rfl⟩
theorem dL_law_531 : Dx cL_law 531 (.aload_n 2) 1 532 := ⟨by decide +kernel, rfl⟩
theorem dL_law_532 : Dx cL_law 532 (.aload_n 0) 1 533 := ⟨by decide +kernel, rfl⟩
theorem dL_law_533 : Dx cL_law 533 (.iload 5) 2 535 := ⟨by decide +kernel, rfl⟩
theorem dL_law_535 : Dx cL_law 535 (.iconst 1) 1 536 := ⟨by decide +kernel, rfl⟩
theorem dL_law_536 : Dx cL_law 536 (.iadd) 1 537 := ⟨by decide +kernel, rfl⟩
theorem dL_law_537 : Dx cL_law 537 (.iaload) 1 538 := ⟨by decide +kernel, rfl⟩
theorem dL_law_538 : Dx cL_law 538 (.aload_n 0) 1 539 := ⟨by decide +kernel, rfl⟩
theorem dL_law_539 : Dx cL_law 539 (.iload 5) 2 541 := ⟨by decide +kernel, rfl⟩
theorem dL_law_541 : Dx cL_law 541 (.iconst 2) 1 542 := ⟨by decide +kernel, rfl⟩
theorem dL_law_542 : Dx cL_law 542 (.iadd) 1 543 := ⟨by decide +kernel, rfl⟩
theorem dL_law_543 : Dx cL_law 543 (.iaload) 1 544 := ⟨by decide +kernel, rfl⟩
theorem dL_law_544 : Dx cL_law 544 (.invokevirtual 152) 3 547 := ⟨by decide +kernel, rfl⟩
theorem dL_law_547 : Dx cL_law 547 (.istore 7) 2 549 := ⟨by decide +kernel, rfl⟩
theorem dL_law_549 : Dx cL_law 549 (.aload_n 2) 1 550 := ⟨by decide +kernel, rfl⟩
theorem dL_law_550 : Dx cL_law 550 (.invokevirtual 134) 3 553 := ⟨by decide +kernel, rfl⟩
theorem dL_law_553 : Dx cL_law 553 (.iload 6) 2 555 := ⟨by decide +kernel, rfl⟩
theorem dL_law_555 : Dc cL_law 555 (fun o => .if_icmp .eq o) 560 558 := ⟨5, by decide +kernel, by decide, rfl⟩
theorem dL_law_558 : Dx cL_law 558 (.iconst 0) 1 559 := ⟨by decide +kernel, rfl⟩
theorem dL_law_559 : Dx cL_law 559 (.ireturn) 1 560 := ⟨by decide +kernel, rfl⟩
theorem dL_law_560 : Dx cL_law 560 (.iload 6) 2 562 := ⟨by decide +kernel, rfl⟩
theorem dL_law_562 : Dc cL_law 562 (fun o => .ifCond .ne o) 577 565 := ⟨15, by decide +kernel, by decide, rfl⟩
theorem dL_law_565 : Dx cL_law 565 (.aload_n 3) 1 566 := ⟨by decide +kernel, rfl⟩
theorem dL_law_566 : Dx cL_law 566 (.iconst 0) 1 567 := ⟨by decide +kernel, rfl⟩
theorem dL_law_567 : Dx cL_law 567 (.laload) 1 568 := ⟨by decide +kernel, rfl⟩
theorem dL_law_568 : Dx cL_law 568 (.iload 7) 2 570 := ⟨by decide +kernel, rfl⟩
theorem dL_law_570 : Dx cL_law 570 (.i2l) 1 571 := ⟨by decide +kernel, rfl⟩
theorem dL_law_571 : Dx cL_law 571 (.lcmp) 1 572 := ⟨by decide +kernel, rfl⟩
theorem dL_law_572 : Dc cL_law 572 (fun o => .ifCond .eq o) 577 575 := ⟨5, by decide +kernel, by decide, rfl⟩
theorem dL_law_575 : Dx cL_law 575 (.iconst 0) 1 576 := ⟨by decide +kernel, rfl⟩
theorem dL_law_576 : Dx cL_law 576 (.ireturn) 1 577 := ⟨by decide +kernel, rfl⟩
theorem dL_law_577 : Dc cL_law 577 (fun o => .goto o) 2186 580 := ⟨1609, by decide +kernel, by decide, rfl⟩
theorem dL_law_580 : Dx cL_law 580 (.aload_n 1) 1 581 := ⟨by decide +kernel, rfl⟩
theorem dL_law_581 : Dx cL_law 581 (.aload_n 0) 1 582 := ⟨by decide +kernel, rfl⟩
theorem dL_law_582 : Dx cL_law 582 (.iload 5) 2 584 := ⟨by decide +kernel, rfl⟩
theorem dL_law_584 : Dx cL_law 584 (.iconst 1) 1 585 := ⟨by decide +kernel, rfl⟩
theorem dL_law_585 : Dx cL_law 585 (.iadd) 1 586 := ⟨by decide +kernel, rfl⟩
theorem dL_law_586 : Dx cL_law 586 (.iaload) 1 587 := ⟨by decide +kernel, rfl⟩
theorem dL_law_587 : Dx cL_law 587 (.aload_n 3) 1 588 := ⟨by decide +kernel, rfl⟩
theorem dL_law_588 : Dx cL_law 588 (.invokestatic 153) 3 591 := ⟨by decide +kernel, rfl⟩
theorem dL_law_591 : Dx cL_law 591 (.istore 6) 2 593 := ⟨by decide +kernel, rfl⟩
theorem dL_law_593 : Dx cL_law 593 (.aload_n 2) 1 594 := ⟨by decide +kernel, rfl⟩
theorem dL_law_594 : Dx cL_law 594 (.aload_n 0) 1 595 := ⟨by decide +kernel, rfl⟩
theorem dL_law_595 : Dx cL_law 595 (.iload 5) 2 597 := ⟨by decide +kernel, rfl⟩
theorem dL_law_597 : Dx cL_law 597 (.iconst 1) 1 598 := ⟨by decide +kernel, rfl⟩
theorem dL_law_598 : Dx cL_law 598 (.iadd) 1 599 := ⟨by decide +kernel, rfl⟩
theorem dL_law_599 : Dx cL_law 599 (.iaload) 1 600 := ⟨by decide +kernel, rfl⟩
theorem dL_law_600 : Dx cL_law 600 (.invokevirtual 155) 3 603 := ⟨by decide +kernel, rfl⟩
theorem dL_law_603 : Dx cL_law 603 (.istore 7) 2 605 := ⟨by decide +kernel, rfl⟩
theorem dL_law_605 : Dx cL_law 605 (.aload_n 2) 1 606 := ⟨by decide +kernel, rfl⟩
theorem dL_law_606 : Dx cL_law 606 (.invokevirtual 134) 3 609 := ⟨by decide +kernel, rfl⟩
theorem dL_law_609 : Dx cL_law 609 (.iload 6) 2 611 := ⟨by decide +kernel, rfl⟩
theorem dL_law_611 : Dc cL_law 611 (fun o => .if_icmp .eq o) 616 614 := ⟨5, by decide +kernel, by decide, rfl⟩
theorem dL_law_614 : Dx cL_law 614 (.iconst 0) 1 615 := ⟨by decide +kernel, rfl⟩
theorem dL_law_615 : Dx cL_law 615 (.ireturn) 1 616 := ⟨by decide +kernel, rfl⟩
theorem dL_law_616 : Dx cL_law 616 (.iload 6) 2 618 := ⟨by decide +kernel, rfl⟩
theorem dL_law_618 : Dc cL_law 618 (fun o => .ifCond .ne o) 633 621 := ⟨15, by decide +kernel, by decide, rfl⟩
theorem dL_law_621 : Dx cL_law 621 (.aload_n 3) 1 622 := ⟨by decide +kernel, rfl⟩
theorem dL_law_622 : Dx cL_law 622 (.iconst 0) 1 623 := ⟨by decide +kernel, rfl⟩
theorem dL_law_623 : Dx cL_law 623 (.laload) 1 624 := ⟨by decide +kernel, rfl⟩
theorem dL_law_624 : Dx cL_law 624 (.iload 7) 2 626 := ⟨by decide +kernel, rfl⟩
theorem dL_law_626 : Dx cL_law 626 (.i2l) 1 627 := ⟨by decide +kernel, rfl⟩
theorem dL_law_627 : Dx cL_law 627 (.lcmp) 1 628 := ⟨by decide +kernel, rfl⟩
theorem dL_law_628 : Dc cL_law 628 (fun o => .ifCond .eq o) 633 631 := ⟨5, by decide +kernel, by decide, rfl⟩
theorem dL_law_631 : Dx cL_law 631 (.iconst 0) 1 632 := ⟨by decide +kernel, rfl⟩
theorem dL_law_632 : Dx cL_law 632 (.ireturn) 1 633 := ⟨by decide +kernel, rfl⟩
theorem dL_law_633 : Dc cL_law 633 (fun o => .goto o) 2186 636 := ⟨1553, by decide +kernel, by decide, rfl⟩
theorem dL_law_636 : Dx cL_law 636 (.aload_n 1) 1 637 := ⟨by decide +kernel, rfl⟩
theorem dL_law_637 : Dx cL_law 637 (.aload_n 0) 1 638 := ⟨by decide +kernel, rfl⟩
theorem dL_law_638 : Dx cL_law 638 (.iload 5) 2 640 := ⟨by decide +kernel, rfl⟩
theorem dL_law_640 : Dx cL_law 640 (.iconst 1) 1 641 := ⟨by decide +kernel, rfl⟩
theorem dL_law_641 : Dx cL_law 641 (.iadd) 1 642 := ⟨by decide +kernel, rfl⟩
theorem dL_law_642 : Dx cL_law 642 (.iaload) 1 643 := ⟨by decide +kernel, rfl⟩
theorem dL_law_643 : Dx cL_law 643 (.aload_n 3) 1 644 := ⟨by decide +kernel, rfl⟩
theorem dL_law_644 : Dx cL_law 644 (.invokestatic 156) 3 647 := ⟨by decide +kernel, rfl⟩
theorem dL_law_647 : Dx cL_law 647 (.istore 6) 2 649 := ⟨by decide +kernel, rfl⟩
theorem dL_law_649 : Dx cL_law 649 (.aload_n 2) 1 650 := ⟨by decide +kernel, rfl⟩
theorem dL_law_650 : Dx cL_law 650 (.aload_n 0) 1 651 := ⟨by decide +kernel, rfl⟩
theorem dL_law_651 : Dx cL_law 651 (.iload 5) 2 653 := ⟨by decide +kernel, rfl⟩
theorem dL_law_653 : Dx cL_law 653 (.iconst 1) 1 654 := ⟨by decide +kernel, rfl⟩
theorem dL_law_654 : Dx cL_law 654 (.iadd) 1 655 := ⟨by decide +kernel, rfl⟩
theorem dL_law_655 : Dx cL_law 655 (.iaload) 1 656 := ⟨by decide +kernel, rfl⟩
theorem dL_law_656 : Dx cL_law 656 (.invokevirtual 158) 3 659 := ⟨by decide +kernel, rfl⟩
theorem dL_law_659 : Dx cL_law 659 (.istore 7) 2 661 := ⟨by decide +kernel, rfl⟩
theorem dL_law_661 : Dx cL_law 661 (.aload_n 2) 1 662 := ⟨by decide +kernel, rfl⟩
theorem dL_law_662 : Dx cL_law 662 (.invokevirtual 134) 3 665 := ⟨by decide +kernel, rfl⟩
theorem dL_law_665 : Dx cL_law 665 (.iload 6) 2 667 := ⟨by decide +kernel, rfl⟩
theorem dL_law_667 : Dc cL_law 667 (fun o => .if_icmp .eq o) 672 670 := ⟨5, by decide +kernel, by decide, rfl⟩
theorem dL_law_670 : Dx cL_law 670 (.iconst 0) 1 671 := ⟨by decide +kernel, rfl⟩
theorem dL_law_671 : Dx cL_law 671 (.ireturn) 1 672 := ⟨by decide +kernel, rfl⟩
theorem dL_law_672 : Dx cL_law 672 (.iload 6) 2 674 := ⟨by decide +kernel, rfl⟩
theorem dL_law_674 : Dc cL_law 674 (fun o => .ifCond .ne o) 689 677 := ⟨15, by decide +kernel, by decide, rfl⟩
theorem dL_law_677 : Dx cL_law 677 (.aload_n 3) 1 678 := ⟨by decide +kernel, rfl⟩
theorem dL_law_678 : Dx cL_law 678 (.iconst 0) 1 679 := ⟨by decide +kernel, rfl⟩
theorem dL_law_679 : Dx cL_law 679 (.laload) 1 680 := ⟨by decide +kernel, rfl⟩
theorem dL_law_680 : Dx cL_law 680 (.iload 7) 2 682 := ⟨by decide +kernel, rfl⟩
theorem dL_law_682 : Dx cL_law 682 (.i2l) 1 683 := ⟨by decide +kernel, rfl⟩
theorem dL_law_683 : Dx cL_law 683 (.lcmp) 1 684 := ⟨by decide +kernel, rfl⟩
theorem dL_law_684 : Dc cL_law 684 (fun o => .ifCond .eq o) 689 687 := ⟨5, by decide +kernel, by decide, rfl⟩
theorem dL_law_687 : Dx cL_law 687 (.iconst 0) 1 688 := ⟨by decide +kernel, rfl⟩
theorem dL_law_688 : Dx cL_law 688 (.ireturn) 1 689 := ⟨by decide +kernel, rfl⟩
theorem dL_law_689 : Dc cL_law 689 (fun o => .goto o) 2186 692 := ⟨1497, by decide +kernel, by decide, rfl⟩
theorem dL_law_692 : Dx cL_law 692 (.aload_n 1) 1 693 := ⟨by decide +kernel, rfl⟩
theorem dL_law_693 : Dx cL_law 693 (.aload_n 0) 1 694 := ⟨by decide +kernel, rfl⟩
theorem dL_law_694 : Dx cL_law 694 (.iload 5) 2 696 := ⟨by decide +kernel, rfl⟩
theorem dL_law_696 : Dx cL_law 696 (.iconst 1) 1 697 := ⟨by decide +kernel, rfl⟩
theorem dL_law_697 : Dx cL_law 697 (.iadd) 1 698 := ⟨by decide +kernel, rfl⟩
theorem dL_law_698 : Dx cL_law 698 (.iaload) 1 699 := ⟨by decide +kernel, rfl⟩
theorem dL_law_699 : Dx cL_law 699 (.aload_n 3) 1 700 := ⟨by decide +kernel, rfl⟩
theorem dL_law_700 : Dx cL_law 700 (.invokestatic 159) 3 703 := ⟨by decide +kernel, rfl⟩
theorem dL_law_703 : Dx cL_law 703 (.istore 6) 2 705 := ⟨by decide +kernel, rfl⟩
theorem dL_law_705 : Dx cL_law 705 (.aload_n 2) 1 706 := ⟨by decide +kernel, rfl⟩
theorem dL_law_706 : Dx cL_law 706 (.aload_n 0) 1 707 := ⟨by decide +kernel, rfl⟩
theorem dL_law_707 : Dx cL_law 707 (.iload 5) 2 709 := ⟨by decide +kernel, rfl⟩
theorem dL_law_709 : Dx cL_law 709 (.iconst 1) 1 710 := ⟨by decide +kernel, rfl⟩
theorem dL_law_710 : Dx cL_law 710 (.iadd) 1 711 := ⟨by decide +kernel, rfl⟩
theorem dL_law_711 : Dx cL_law 711 (.iaload) 1 712 := ⟨by decide +kernel, rfl⟩
theorem dL_law_712 : Dx cL_law 712 (.invokevirtual 161) 3 715 := ⟨by decide +kernel, rfl⟩
theorem dL_law_715 : Dx cL_law 715 (.istore 7) 2 717 := ⟨by decide +kernel, rfl⟩
theorem dL_law_717 : Dx cL_law 717 (.aload_n 2) 1 718 := ⟨by decide +kernel, rfl⟩
theorem dL_law_718 : Dx cL_law 718 (.invokevirtual 134) 3 721 := ⟨by decide +kernel, rfl⟩
theorem dL_law_721 : Dx cL_law 721 (.iload 6) 2 723 := ⟨by decide +kernel, rfl⟩
theorem dL_law_723 : Dc cL_law 723 (fun o => .if_icmp .eq o) 728 726 := ⟨5, by decide +kernel, by decide, rfl⟩
theorem dL_law_726 : Dx cL_law 726 (.iconst 0) 1 727 := ⟨by decide +kernel, rfl⟩
theorem dL_law_727 : Dx cL_law 727 (.ireturn) 1 728 := ⟨by decide +kernel, rfl⟩
theorem dL_law_728 : Dx cL_law 728 (.iload 6) 2 730 := ⟨by decide +kernel, rfl⟩
theorem dL_law_730 : Dc cL_law 730 (fun o => .ifCond .ne o) 745 733 := ⟨15, by decide +kernel, by decide, rfl⟩
theorem dL_law_733 : Dx cL_law 733 (.aload_n 3) 1 734 := ⟨by decide +kernel, rfl⟩
theorem dL_law_734 : Dx cL_law 734 (.iconst 0) 1 735 := ⟨by decide +kernel, rfl⟩
theorem dL_law_735 : Dx cL_law 735 (.laload) 1 736 := ⟨by decide +kernel, rfl⟩
theorem dL_law_736 : Dx cL_law 736 (.iload 7) 2 738 := ⟨by decide +kernel, rfl⟩
theorem dL_law_738 : Dx cL_law 738 (.i2l) 1 739 := ⟨by decide +kernel, rfl⟩
theorem dL_law_739 : Dx cL_law 739 (.lcmp) 1 740 := ⟨by decide +kernel, rfl⟩
theorem dL_law_740 : Dc cL_law 740 (fun o => .ifCond .eq o) 745 743 := ⟨5, by decide +kernel, by decide, rfl⟩
theorem dL_law_743 : Dx cL_law 743 (.iconst 0) 1 744 := ⟨by decide +kernel, rfl⟩
theorem dL_law_744 : Dx cL_law 744 (.ireturn) 1 745 := ⟨by decide +kernel, rfl⟩
theorem dL_law_745 : Dc cL_law 745 (fun o => .goto o) 2186 748 := ⟨1441, by decide +kernel, by decide, rfl⟩
theorem dL_law_748 : Dx cL_law 748 (.aload_n 1) 1 749 := ⟨by decide +kernel, rfl⟩
theorem dL_law_749 : Dx cL_law 749 (.aload_n 0) 1 750 := ⟨by decide +kernel, rfl⟩
theorem dL_law_750 : Dx cL_law 750 (.iload 5) 2 752 := ⟨by decide +kernel, rfl⟩
theorem dL_law_752 : Dx cL_law 752 (.iconst 1) 1 753 := ⟨by decide +kernel, rfl⟩
theorem dL_law_753 : Dx cL_law 753 (.iadd) 1 754 := ⟨by decide +kernel, rfl⟩
theorem dL_law_754 : Dx cL_law 754 (.iaload) 1 755 := ⟨by decide +kernel, rfl⟩
theorem dL_law_755 : Dx cL_law 755 (.aload_n 3) 1 756 := ⟨by decide +kernel, rfl⟩
theorem dL_law_756 : Dx cL_law 756 (.invokestatic 162) 3 759 := ⟨by decide +kernel, rfl⟩
theorem dL_law_759 : Dx cL_law 759 (.istore 6) 2 761 := ⟨by decide +kernel, rfl⟩
theorem dL_law_761 : Dx cL_law 761 (.aload_n 2) 1 762 := ⟨by decide +kernel, rfl⟩
theorem dL_law_762 : Dx cL_law 762 (.aload_n 0) 1 763 := ⟨by decide +kernel, rfl⟩
theorem dL_law_763 : Dx cL_law 763 (.iload 5) 2 765 := ⟨by decide +kernel, rfl⟩
theorem dL_law_765 : Dx cL_law 765 (.iconst 1) 1 766 := ⟨by decide +kernel, rfl⟩
theorem dL_law_766 : Dx cL_law 766 (.iadd) 1 767 := ⟨by decide +kernel, rfl⟩
theorem dL_law_767 : Dx cL_law 767 (.iaload) 1 768 := ⟨by decide +kernel, rfl⟩
theorem dL_law_768 : Dx cL_law 768 (.invokevirtual 164) 3 771 := ⟨by decide +kernel, rfl⟩
theorem dL_law_771 : Dx cL_law 771 (.istore 7) 2 773 := ⟨by decide +kernel, rfl⟩
theorem dL_law_773 : Dx cL_law 773 (.aload_n 2) 1 774 := ⟨by decide +kernel, rfl⟩
theorem dL_law_774 : Dx cL_law 774 (.invokevirtual 134) 3 777 := ⟨by decide +kernel, rfl⟩
theorem dL_law_777 : Dx cL_law 777 (.iload 6) 2 779 := ⟨by decide +kernel, rfl⟩
theorem dL_law_779 : Dc cL_law 779 (fun o => .if_icmp .eq o) 784 782 := ⟨5, by decide +kernel, by decide, rfl⟩
theorem dL_law_782 : Dx cL_law 782 (.iconst 0) 1 783 := ⟨by decide +kernel, rfl⟩
theorem dL_law_783 : Dx cL_law 783 (.ireturn) 1 784 := ⟨by decide +kernel, rfl⟩
theorem dL_law_784 : Dx cL_law 784 (.iload 6) 2 786 := ⟨by decide +kernel, rfl⟩
theorem dL_law_786 : Dc cL_law 786 (fun o => .ifCond .ne o) 801 789 := ⟨15, by decide +kernel, by decide, rfl⟩
theorem dL_law_789 : Dx cL_law 789 (.aload_n 3) 1 790 := ⟨by decide +kernel, rfl⟩
theorem dL_law_790 : Dx cL_law 790 (.iconst 0) 1 791 := ⟨by decide +kernel, rfl⟩
theorem dL_law_791 : Dx cL_law 791 (.laload) 1 792 := ⟨by decide +kernel, rfl⟩
theorem dL_law_792 : Dx cL_law 792 (.iload 7) 2 794 := ⟨by decide +kernel, rfl⟩
theorem dL_law_794 : Dx cL_law 794 (.i2l) 1 795 := ⟨by decide +kernel, rfl⟩
theorem dL_law_795 : Dx cL_law 795 (.lcmp) 1 796 := ⟨by decide +kernel, rfl⟩
theorem dL_law_796 : Dc cL_law 796 (fun o => .ifCond .eq o) 801 799 := ⟨5, by decide +kernel, by decide, rfl⟩
theorem dL_law_799 : Dx cL_law 799 (.iconst 0) 1 800 := ⟨by decide +kernel, rfl⟩
theorem dL_law_800 : Dx cL_law 800 (.ireturn) 1 801 := ⟨by decide +kernel, rfl⟩
theorem dL_law_801 : Dc cL_law 801 (fun o => .goto o) 2186 804 := ⟨1385, by decide +kernel, by decide, rfl⟩
theorem dL_law_804 : Dx cL_law 804 (.aload_n 1) 1 805 := ⟨by decide +kernel, rfl⟩
theorem dL_law_805 : Dx cL_law 805 (.aload_n 0) 1 806 := ⟨by decide +kernel, rfl⟩
theorem dL_law_806 : Dx cL_law 806 (.iload 5) 2 808 := ⟨by decide +kernel, rfl⟩
theorem dL_law_808 : Dx cL_law 808 (.iconst 1) 1 809 := ⟨by decide +kernel, rfl⟩
theorem dL_law_809 : Dx cL_law 809 (.iadd) 1 810 := ⟨by decide +kernel, rfl⟩
theorem dL_law_810 : Dx cL_law 810 (.iaload) 1 811 := ⟨by decide +kernel, rfl⟩
theorem dL_law_811 : Dx cL_law 811 (.aload_n 0) 1 812 := ⟨by decide +kernel, rfl⟩
theorem dL_law_812 : Dx cL_law 812 (.iload 5) 2 814 := ⟨by decide +kernel, rfl⟩
theorem dL_law_814 : Dx cL_law 814 (.iconst 2) 1 815 := ⟨by decide +kernel, rfl⟩
theorem dL_law_815 : Dx cL_law 815 (.iadd) 1 816 := ⟨by decide +kernel, rfl⟩
theorem dL_law_816 : Dx cL_law 816 (.iaload) 1 817 := ⟨by decide +kernel, rfl⟩
theorem dL_law_817 : Dx cL_law 817 (.aload_n 3) 1 818 := ⟨by decide +kernel, rfl⟩
theorem dL_law_818 : Dx cL_law 818 (.invokestatic 165) 3 821 := ⟨by decide +kernel, rfl⟩
theorem dL_law_821 : Dx cL_law 821 (.istore 6) 2 823 := ⟨by decide +kernel, rfl⟩
theorem dL_law_823 : Dx cL_law 823 (.aload_n 2) 1 824 := ⟨by decide +kernel, rfl⟩
theorem dL_law_824 : Dx cL_law 824 (.aload_n 0) 1 825 := ⟨by decide +kernel, rfl⟩
theorem dL_law_825 : Dx cL_law 825 (.iload 5) 2 827 := ⟨by decide +kernel, rfl⟩
theorem dL_law_827 : Dx cL_law 827 (.iconst 1) 1 828 := ⟨by decide +kernel, rfl⟩
theorem dL_law_828 : Dx cL_law 828 (.iadd) 1 829 := ⟨by decide +kernel, rfl⟩
theorem dL_law_829 : Dx cL_law 829 (.iaload) 1 830 := ⟨by decide +kernel, rfl⟩
theorem dL_law_830 : Dx cL_law 830 (.aload_n 0) 1 831 := ⟨by decide +kernel, rfl⟩
theorem dL_law_831 : Dx cL_law 831 (.iload 5) 2 833 := ⟨by decide +kernel, rfl⟩
theorem dL_law_833 : Dx cL_law 833 (.iconst 2) 1 834 := ⟨by decide +kernel, rfl⟩
theorem dL_law_834 : Dx cL_law 834 (.iadd) 1 835 := ⟨by decide +kernel, rfl⟩
theorem dL_law_835 : Dx cL_law 835 (.iaload) 1 836 := ⟨by decide +kernel, rfl⟩
theorem dL_law_836 : Dx cL_law 836 (.invokevirtual 167) 3 839 := ⟨by decide +kernel, rfl⟩
theorem dL_law_839 : Dx cL_law 839 (.istore 7) 2 841 := ⟨by decide +kernel, rfl⟩
theorem dL_law_841 : Dx cL_law 841 (.aload_n 2) 1 842 := ⟨by decide +kernel, rfl⟩
theorem dL_law_842 : Dx cL_law 842 (.invokevirtual 134) 3 845 := ⟨by decide +kernel, rfl⟩
theorem dL_law_845 : Dx cL_law 845 (.iload 6) 2 847 := ⟨by decide +kernel, rfl⟩
theorem dL_law_847 : Dc cL_law 847 (fun o => .if_icmp .eq o) 852 850 := ⟨5, by decide +kernel, by decide, rfl⟩
theorem dL_law_850 : Dx cL_law 850 (.iconst 0) 1 851 := ⟨by decide +kernel, rfl⟩
theorem dL_law_851 : Dx cL_law 851 (.ireturn) 1 852 := ⟨by decide +kernel, rfl⟩
theorem dL_law_852 : Dx cL_law 852 (.iload 6) 2 854 := ⟨by decide +kernel, rfl⟩
theorem dL_law_854 : Dc cL_law 854 (fun o => .ifCond .ne o) 869 857 := ⟨15, by decide +kernel, by decide, rfl⟩
theorem dL_law_857 : Dx cL_law 857 (.aload_n 3) 1 858 := ⟨by decide +kernel, rfl⟩
theorem dL_law_858 : Dx cL_law 858 (.iconst 0) 1 859 := ⟨by decide +kernel, rfl⟩
theorem dL_law_859 : Dx cL_law 859 (.laload) 1 860 := ⟨by decide +kernel, rfl⟩
theorem dL_law_860 : Dx cL_law 860 (.iload 7) 2 862 := ⟨by decide +kernel, rfl⟩
theorem dL_law_862 : Dx cL_law 862 (.i2l) 1 863 := ⟨by decide +kernel, rfl⟩
theorem dL_law_863 : Dx cL_law 863 (.lcmp) 1 864 := ⟨by decide +kernel, rfl⟩
theorem dL_law_864 : Dc cL_law 864 (fun o => .ifCond .eq o) 869 867 := ⟨5, by decide +kernel, by decide, rfl⟩
theorem dL_law_867 : Dx cL_law 867 (.iconst 0) 1 868 := ⟨by decide +kernel, rfl⟩
theorem dL_law_868 : Dx cL_law 868 (.ireturn) 1 869 := ⟨by decide +kernel, rfl⟩
theorem dL_law_869 : Dc cL_law 869 (fun o => .goto o) 2186 872 := ⟨1317, by decide +kernel, by decide, rfl⟩
theorem dL_law_872 : Dx cL_law 872 (.aload_n 1) 1 873 := ⟨by decide +kernel, rfl⟩
theorem dL_law_873 : Dx cL_law 873 (.aload_n 0) 1 874 := ⟨by decide +kernel, rfl⟩
theorem dL_law_874 : Dx cL_law 874 (.iload 5) 2 876 := ⟨by decide +kernel, rfl⟩
theorem dL_law_876 : Dx cL_law 876 (.iconst 1) 1 877 := ⟨by decide +kernel, rfl⟩
theorem dL_law_877 : Dx cL_law 877 (.iadd) 1 878 := ⟨by decide +kernel, rfl⟩
theorem dL_law_878 : Dx cL_law 878 (.iaload) 1 879 := ⟨by decide +kernel, rfl⟩
theorem dL_law_879 : Dx cL_law 879 (.aload_n 0) 1 880 := ⟨by decide +kernel, rfl⟩
theorem dL_law_880 : Dx cL_law 880 (.iload 5) 2 882 := ⟨by decide +kernel, rfl⟩
theorem dL_law_882 : Dx cL_law 882 (.iconst 2) 1 883 := ⟨by decide +kernel, rfl⟩
theorem dL_law_883 : Dx cL_law 883 (.iadd) 1 884 := ⟨by decide +kernel, rfl⟩
theorem dL_law_884 : Dx cL_law 884 (.iaload) 1 885 := ⟨by decide +kernel, rfl⟩
theorem dL_law_885 : Dx cL_law 885 (.aload_n 3) 1 886 := ⟨by decide +kernel, rfl⟩
theorem dL_law_886 : Dx cL_law 886 (.invokestatic 168) 3 889 := ⟨by decide +kernel, rfl⟩
theorem dL_law_889 : Dx cL_law 889 (.istore 6) 2 891 := ⟨by decide +kernel, rfl⟩
theorem dL_law_891 : Dx cL_law 891 (.aload_n 2) 1 892 := ⟨by decide +kernel, rfl⟩
theorem dL_law_892 : Dx cL_law 892 (.aload_n 0) 1 893 := ⟨by decide +kernel, rfl⟩
theorem dL_law_893 : Dx cL_law 893 (.iload 5) 2 895 := ⟨by decide +kernel, rfl⟩
theorem dL_law_895 : Dx cL_law 895 (.iconst 1) 1 896 := ⟨by decide +kernel, rfl⟩
theorem dL_law_896 : Dx cL_law 896 (.iadd) 1 897 := ⟨by decide +kernel, rfl⟩
theorem dL_law_897 : Dx cL_law 897 (.iaload) 1 898 := ⟨by decide +kernel, rfl⟩
theorem dL_law_898 : Dx cL_law 898 (.aload_n 0) 1 899 := ⟨by decide +kernel, rfl⟩
theorem dL_law_899 : Dx cL_law 899 (.iload 5) 2 901 := ⟨by decide +kernel, rfl⟩
theorem dL_law_901 : Dx cL_law 901 (.iconst 2) 1 902 := ⟨by decide +kernel, rfl⟩
theorem dL_law_902 : Dx cL_law 902 (.iadd) 1 903 := ⟨by decide +kernel, rfl⟩
theorem dL_law_903 : Dx cL_law 903 (.iaload) 1 904 := ⟨by decide +kernel, rfl⟩
theorem dL_law_904 : Dx cL_law 904 (.invokevirtual 170) 3 907 := ⟨by decide +kernel, rfl⟩
theorem dL_law_907 : Dx cL_law 907 (.istore 7) 2 909 := ⟨by decide +kernel, rfl⟩
theorem dL_law_909 : Dx cL_law 909 (.aload_n 2) 1 910 := ⟨by decide +kernel, rfl⟩
theorem dL_law_910 : Dx cL_law 910 (.invokevirtual 134) 3 913 := ⟨by decide +kernel, rfl⟩
theorem dL_law_913 : Dx cL_law 913 (.iload 6) 2 915 := ⟨by decide +kernel, rfl⟩
theorem dL_law_915 : Dc cL_law 915 (fun o => .if_icmp .eq o) 920 918 := ⟨5, by decide +kernel, by decide, rfl⟩
theorem dL_law_918 : Dx cL_law 918 (.iconst 0) 1 919 := ⟨by decide +kernel, rfl⟩
theorem dL_law_919 : Dx cL_law 919 (.ireturn) 1 920 := ⟨by decide +kernel, rfl⟩
theorem dL_law_920 : Dx cL_law 920 (.iload 6) 2 922 := ⟨by decide +kernel, rfl⟩
theorem dL_law_922 : Dc cL_law 922 (fun o => .ifCond .ne o) 937 925 := ⟨15, by decide +kernel, by decide, rfl⟩
theorem dL_law_925 : Dx cL_law 925 (.aload_n 3) 1 926 := ⟨by decide +kernel, rfl⟩
theorem dL_law_926 : Dx cL_law 926 (.iconst 0) 1 927 := ⟨by decide +kernel, rfl⟩
theorem dL_law_927 : Dx cL_law 927 (.laload) 1 928 := ⟨by decide +kernel, rfl⟩
theorem dL_law_928 : Dx cL_law 928 (.iload 7) 2 930 := ⟨by decide +kernel, rfl⟩
theorem dL_law_930 : Dx cL_law 930 (.i2l) 1 931 := ⟨by decide +kernel, rfl⟩
theorem dL_law_931 : Dx cL_law 931 (.lcmp) 1 932 := ⟨by decide +kernel, rfl⟩
theorem dL_law_932 : Dc cL_law 932 (fun o => .ifCond .eq o) 937 935 := ⟨5, by decide +kernel, by decide, rfl⟩
theorem dL_law_935 : Dx cL_law 935 (.iconst 0) 1 936 := ⟨by decide +kernel, rfl⟩
theorem dL_law_936 : Dx cL_law 936 (.ireturn) 1 937 := ⟨by decide +kernel, rfl⟩
theorem dL_law_937 : Dc cL_law 937 (fun o => .goto o) 2186 940 := ⟨1249, by decide +kernel, by decide, rfl⟩
theorem dL_law_940 : Dx cL_law 940 (.aload_n 1) 1 941 := ⟨by decide +kernel, rfl⟩
theorem dL_law_941 : Dx cL_law 941 (.aload_n 0) 1 942 := ⟨by decide +kernel, rfl⟩
theorem dL_law_942 : Dx cL_law 942 (.iload 5) 2 944 := ⟨by decide +kernel, rfl⟩
theorem dL_law_944 : Dx cL_law 944 (.iconst 1) 1 945 := ⟨by decide +kernel, rfl⟩
theorem dL_law_945 : Dx cL_law 945 (.iadd) 1 946 := ⟨by decide +kernel, rfl⟩
theorem dL_law_946 : Dx cL_law 946 (.iaload) 1 947 := ⟨by decide +kernel, rfl⟩
theorem dL_law_947 : Dx cL_law 947 (.aload_n 3) 1 948 := ⟨by decide +kernel, rfl⟩
theorem dL_law_948 : Dx cL_law 948 (.invokestatic 171) 3 951 := ⟨by decide +kernel, rfl⟩
theorem dL_law_951 : Dx cL_law 951 (.istore 6) 2 953 := ⟨by decide +kernel, rfl⟩
theorem dL_law_953 : Dx cL_law 953 (.aload_n 2) 1 954 := ⟨by decide +kernel, rfl⟩
theorem dL_law_954 : Dx cL_law 954 (.aload_n 0) 1 955 := ⟨by decide +kernel, rfl⟩
theorem dL_law_955 : Dx cL_law 955 (.iload 5) 2 957 := ⟨by decide +kernel, rfl⟩
theorem dL_law_957 : Dx cL_law 957 (.iconst 1) 1 958 := ⟨by decide +kernel, rfl⟩
theorem dL_law_958 : Dx cL_law 958 (.iadd) 1 959 := ⟨by decide +kernel, rfl⟩
theorem dL_law_959 : Dx cL_law 959 (.iaload) 1 960 := ⟨by decide +kernel, rfl⟩
theorem dL_law_960 : Dx cL_law 960 (.invokevirtual 173) 3 963 := ⟨by decide +kernel, rfl⟩
theorem dL_law_963 : Dx cL_law 963 (.istore 7) 2 965 := ⟨by decide +kernel, rfl⟩
theorem dL_law_965 : Dx cL_law 965 (.aload_n 2) 1 966 := ⟨by decide +kernel, rfl⟩
theorem dL_law_966 : Dx cL_law 966 (.invokevirtual 134) 3 969 := ⟨by decide +kernel, rfl⟩
theorem dL_law_969 : Dx cL_law 969 (.iload 6) 2 971 := ⟨by decide +kernel, rfl⟩
theorem dL_law_971 : Dc cL_law 971 (fun o => .if_icmp .eq o) 976 974 := ⟨5, by decide +kernel, by decide, rfl⟩
theorem dL_law_974 : Dx cL_law 974 (.iconst 0) 1 975 := ⟨by decide +kernel, rfl⟩
theorem dL_law_975 : Dx cL_law 975 (.ireturn) 1 976 := ⟨by decide +kernel, rfl⟩
theorem dL_law_976 : Dx cL_law 976 (.iload 6) 2 978 := ⟨by decide +kernel, rfl⟩
theorem dL_law_978 : Dc cL_law 978 (fun o => .ifCond .ne o) 993 981 := ⟨15, by decide +kernel, by decide, rfl⟩
theorem dL_law_981 : Dx cL_law 981 (.aload_n 3) 1 982 := ⟨by decide +kernel, rfl⟩
theorem dL_law_982 : Dx cL_law 982 (.iconst 0) 1 983 := ⟨by decide +kernel, rfl⟩
theorem dL_law_983 : Dx cL_law 983 (.laload) 1 984 := ⟨by decide +kernel, rfl⟩
theorem dL_law_984 : Dx cL_law 984 (.iload 7) 2 986 := ⟨by decide +kernel, rfl⟩
theorem dL_law_986 : Dx cL_law 986 (.i2l) 1 987 := ⟨by decide +kernel, rfl⟩
theorem dL_law_987 : Dx cL_law 987 (.lcmp) 1 988 := ⟨by decide +kernel, rfl⟩
theorem dL_law_988 : Dc cL_law 988 (fun o => .ifCond .eq o) 993 991 := ⟨5, by decide +kernel, by decide, rfl⟩
theorem dL_law_991 : Dx cL_law 991 (.iconst 0) 1 992 := ⟨by decide +kernel, rfl⟩
theorem dL_law_992 : Dx cL_law 992 (.ireturn) 1 993 := ⟨by decide +kernel, rfl⟩
theorem dL_law_993 : Dc cL_law 993 (fun o => .goto o) 2186 996 := ⟨1193, by decide +kernel, by decide, rfl⟩
theorem dL_law_996 : Dx cL_law 996 (.aload_n 1) 1 997 := ⟨by decide +kernel, rfl⟩
theorem dL_law_997 : Dx cL_law 997 (.invokevirtual 174) 3 1000 := ⟨by decide +kernel, rfl⟩
theorem dL_law_1000 : Dx cL_law 1000 (.aload_n 2) 1 1001 := ⟨by decide +kernel, rfl⟩
theorem dL_law_1001 : Dx cL_law 1001 (.invokevirtual 177) 3 1004 := ⟨by decide +kernel, rfl⟩
theorem dL_law_1004 : Dc cL_law 1004 (fun o => .if_icmp .eq o) 2186 1007 := ⟨1182, by decide +kernel, by decide, rfl⟩
theorem dL_law_1007 : Dx cL_law 1007 (.iconst 0) 1 1008 := ⟨by decide +kernel, rfl⟩
theorem dL_law_1008 : Dx cL_law 1008 (.ireturn) 1 1009 := ⟨by decide +kernel, rfl⟩
theorem dL_law_1009 : Dx cL_law 1009 (.aload_n 1) 1 1010 := ⟨by decide +kernel, rfl⟩
theorem dL_law_1010 : Dx cL_law 1010 (.aload_n 0) 1 1011 := ⟨by decide +kernel, rfl⟩
theorem dL_law_1011 : Dx cL_law 1011 (.iload 5) 2 1013 := ⟨by decide +kernel, rfl⟩
theorem dL_law_1013 : Dx cL_law 1013 (.iconst 1) 1 1014 := ⟨by decide +kernel, rfl⟩
theorem dL_law_1014 : Dx cL_law 1014 (.iadd) 1 1015 := ⟨by decide +kernel, rfl⟩
theorem dL_law_1015 : Dx cL_law 1015 (.iaload) 1 1016 := ⟨by decide +kernel, rfl⟩
theorem dL_law_1016 : Dx cL_law 1016 (.aload_n 3) 1 1017 := ⟨by decide +kernel, rfl⟩
theorem dL_law_1017 : Dx cL_law 1017 (.invokestatic 178) 3 1020 := ⟨by decide +kernel, rfl⟩
theorem dL_law_1020 : Dx cL_law 1020 (.istore 6) 2 1022 := ⟨by decide +kernel, rfl⟩
theorem dL_law_1022 : Dx cL_law 1022 (.aload_n 2) 1 1023 := ⟨by decide +kernel, rfl⟩
theorem dL_law_1023 : Dx cL_law 1023 (.aload_n 0) 1 1024 := ⟨by decide +kernel, rfl⟩
theorem dL_law_1024 : Dx cL_law 1024 (.iload 5) 2 1026 := ⟨by decide +kernel, rfl⟩
theorem dL_law_1026 : Dx cL_law 1026 (.iconst 1) 1 1027 := ⟨by decide +kernel, rfl⟩
theorem dL_law_1027 : Dx cL_law 1027 (.iadd) 1 1028 := ⟨by decide +kernel, rfl⟩
theorem dL_law_1028 : Dx cL_law 1028 (.iaload) 1 1029 := ⟨by decide +kernel, rfl⟩
theorem dL_law_1029 : Dx cL_law 1029 (.invokevirtual 180) 3 1032 := ⟨by decide +kernel, rfl⟩
theorem dL_law_1032 : Dx cL_law 1032 (.istore 7) 2 1034 := ⟨by decide +kernel, rfl⟩
theorem dL_law_1034 : Dx cL_law 1034 (.aload_n 2) 1 1035 := ⟨by decide +kernel, rfl⟩
theorem dL_law_1035 : Dx cL_law 1035 (.invokevirtual 134) 3 1038 := ⟨by decide +kernel, rfl⟩
theorem dL_law_1038 : Dx cL_law 1038 (.iload 6) 2 1040 := ⟨by decide +kernel, rfl⟩
theorem dL_law_1040 : Dc cL_law 1040 (fun o => .if_icmp .eq o) 1045 1043 := ⟨5, by decide +kernel, by decide, rfl⟩
theorem dL_law_1043 : Dx cL_law 1043 (.iconst 0) 1 1044 := ⟨by decide +kernel, rfl⟩
theorem dL_law_1044 : Dx cL_law 1044 (.ireturn) 1 1045 := ⟨by decide +kernel, rfl⟩
theorem dL_law_1045 : Dx cL_law 1045 (.iload 6) 2 1047 := ⟨by decide +kernel, rfl⟩
theorem dL_law_1047 : Dc cL_law 1047 (fun o => .ifCond .ne o) 1062 1050 := ⟨15, by decide +kernel, by decide, rfl⟩
theorem dL_law_1050 : Dx cL_law 1050 (.aload_n 3) 1 1051 := ⟨by decide +kernel, rfl⟩
theorem dL_law_1051 : Dx cL_law 1051 (.iconst 0) 1 1052 := ⟨by decide +kernel, rfl⟩
theorem dL_law_1052 : Dx cL_law 1052 (.laload) 1 1053 := ⟨by decide +kernel, rfl⟩
theorem dL_law_1053 : Dx cL_law 1053 (.iload 7) 2 1055 := ⟨by decide +kernel, rfl⟩
theorem dL_law_1055 : Dx cL_law 1055 (.i2l) 1 1056 := ⟨by decide +kernel, rfl⟩
theorem dL_law_1056 : Dx cL_law 1056 (.lcmp) 1 1057 := ⟨by decide +kernel, rfl⟩
theorem dL_law_1057 : Dc cL_law 1057 (fun o => .ifCond .eq o) 1062 1060 := ⟨5, by decide +kernel, by decide, rfl⟩
theorem dL_law_1060 : Dx cL_law 1060 (.iconst 0) 1 1061 := ⟨by decide +kernel, rfl⟩
theorem dL_law_1061 : Dx cL_law 1061 (.ireturn) 1 1062 := ⟨by decide +kernel, rfl⟩
theorem dL_law_1062 : Dc cL_law 1062 (fun o => .goto o) 2186 1065 := ⟨1124, by decide +kernel, by decide, rfl⟩
theorem dL_law_1065 : Dx cL_law 1065 (.aload_n 1) 1 1066 := ⟨by decide +kernel, rfl⟩
theorem dL_law_1066 : Dx cL_law 1066 (.aload_n 0) 1 1067 := ⟨by decide +kernel, rfl⟩
theorem dL_law_1067 : Dx cL_law 1067 (.iload 5) 2 1069 := ⟨by decide +kernel, rfl⟩
theorem dL_law_1069 : Dx cL_law 1069 (.iconst 1) 1 1070 := ⟨by decide +kernel, rfl⟩
theorem dL_law_1070 : Dx cL_law 1070 (.iadd) 1 1071 := ⟨by decide +kernel, rfl⟩
theorem dL_law_1071 : Dx cL_law 1071 (.iaload) 1 1072 := ⟨by decide +kernel, rfl⟩
theorem dL_law_1072 : Dx cL_law 1072 (.aload_n 3) 1 1073 := ⟨by decide +kernel, rfl⟩
theorem dL_law_1073 : Dx cL_law 1073 (.invokestatic 181) 3 1076 := ⟨by decide +kernel, rfl⟩
theorem dL_law_1076 : Dx cL_law 1076 (.istore 6) 2 1078 := ⟨by decide +kernel, rfl⟩
theorem dL_law_1078 : Dx cL_law 1078 (.aload_n 2) 1 1079 := ⟨by decide +kernel, rfl⟩
theorem dL_law_1079 : Dx cL_law 1079 (.aload_n 0) 1 1080 := ⟨by decide +kernel, rfl⟩
theorem dL_law_1080 : Dx cL_law 1080 (.iload 5) 2 1082 := ⟨by decide +kernel, rfl⟩
theorem dL_law_1082 : Dx cL_law 1082 (.iconst 1) 1 1083 := ⟨by decide +kernel, rfl⟩
theorem dL_law_1083 : Dx cL_law 1083 (.iadd) 1 1084 := ⟨by decide +kernel, rfl⟩
theorem dL_law_1084 : Dx cL_law 1084 (.iaload) 1 1085 := ⟨by decide +kernel, rfl⟩
theorem dL_law_1085 : Dx cL_law 1085 (.invokevirtual 183) 3 1088 := ⟨by decide +kernel, rfl⟩
theorem dL_law_1088 : Dx cL_law 1088 (.istore 7) 2 1090 := ⟨by decide +kernel, rfl⟩
theorem dL_law_1090 : Dx cL_law 1090 (.aload_n 2) 1 1091 := ⟨by decide +kernel, rfl⟩
theorem dL_law_1091 : Dx cL_law 1091 (.invokevirtual 134) 3 1094 := ⟨by decide +kernel, rfl⟩
theorem dL_law_1094 : Dx cL_law 1094 (.iload 6) 2 1096 := ⟨by decide +kernel, rfl⟩
theorem dL_law_1096 : Dc cL_law 1096 (fun o => .if_icmp .eq o) 1101 1099 := ⟨5, by decide +kernel, by decide, rfl⟩
theorem dL_law_1099 : Dx cL_law 1099 (.iconst 0) 1 1100 := ⟨by decide +kernel, rfl⟩
theorem dL_law_1100 : Dx cL_law 1100 (.ireturn) 1 1101 := ⟨by decide +kernel, rfl⟩
theorem dL_law_1101 : Dx cL_law 1101 (.iload 6) 2 1103 := ⟨by decide +kernel, rfl⟩
theorem dL_law_1103 : Dc cL_law 1103 (fun o => .ifCond .ne o) 1118 1106 := ⟨15, by decide +kernel, by decide, rfl⟩
theorem dL_law_1106 : Dx cL_law 1106 (.aload_n 3) 1 1107 := ⟨by decide +kernel, rfl⟩
theorem dL_law_1107 : Dx cL_law 1107 (.iconst 0) 1 1108 := ⟨by decide +kernel, rfl⟩
theorem dL_law_1108 : Dx cL_law 1108 (.laload) 1 1109 := ⟨by decide +kernel, rfl⟩
theorem dL_law_1109 : Dx cL_law 1109 (.iload 7) 2 1111 := ⟨by decide +kernel, rfl⟩
theorem dL_law_1111 : Dx cL_law 1111 (.i2l) 1 1112 := ⟨by decide +kernel, rfl⟩
theorem dL_law_1112 : Dx cL_law 1112 (.lcmp) 1 1113 := ⟨by decide +kernel, rfl⟩
theorem dL_law_1113 : Dc cL_law 1113 (fun o => .ifCond .eq o) 1118 1116 := ⟨5, by decide +kernel, by decide, rfl⟩
theorem dL_law_1116 : Dx cL_law 1116 (.iconst 0) 1 1117 := ⟨by decide +kernel, rfl⟩
theorem dL_law_1117 : Dx cL_law 1117 (.ireturn) 1 1118 := ⟨by decide +kernel, rfl⟩
theorem dL_law_1118 : Dc cL_law 1118 (fun o => .goto o) 2186 1121 := ⟨1068, by decide +kernel, by decide, rfl⟩
theorem dL_law_1121 : Dx cL_law 1121 (.aload_n 1) 1 1122 := ⟨by decide +kernel, rfl⟩
theorem dL_law_1122 : Dx cL_law 1122 (.aload_n 0) 1 1123 := ⟨by decide +kernel, rfl⟩
theorem dL_law_1123 : Dx cL_law 1123 (.iload 5) 2 1125 := ⟨by decide +kernel, rfl⟩
theorem dL_law_1125 : Dx cL_law 1125 (.iconst 1) 1 1126 := ⟨by decide +kernel, rfl⟩
theorem dL_law_1126 : Dx cL_law 1126 (.iadd) 1 1127 := ⟨by decide +kernel, rfl⟩
theorem dL_law_1127 : Dx cL_law 1127 (.iaload) 1 1128 := ⟨by decide +kernel, rfl⟩
theorem dL_law_1128 : Dx cL_law 1128 (.aload_n 3) 1 1129 := ⟨by decide +kernel, rfl⟩
theorem dL_law_1129 : Dx cL_law 1129 (.invokestatic 184) 3 1132 := ⟨by decide +kernel, rfl⟩
theorem dL_law_1132 : Dx cL_law 1132 (.istore 6) 2 1134 := ⟨by decide +kernel, rfl⟩
theorem dL_law_1134 : Dx cL_law 1134 (.aload_n 2) 1 1135 := ⟨by decide +kernel, rfl⟩
theorem dL_law_1135 : Dx cL_law 1135 (.aload_n 0) 1 1136 := ⟨by decide +kernel, rfl⟩
theorem dL_law_1136 : Dx cL_law 1136 (.iload 5) 2 1138 := ⟨by decide +kernel, rfl⟩
theorem dL_law_1138 : Dx cL_law 1138 (.iconst 1) 1 1139 := ⟨by decide +kernel, rfl⟩
theorem dL_law_1139 : Dx cL_law 1139 (.iadd) 1 1140 := ⟨by decide +kernel, rfl⟩
theorem dL_law_1140 : Dx cL_law 1140 (.iaload) 1 1141 := ⟨by decide +kernel, rfl⟩
theorem dL_law_1141 : Dx cL_law 1141 (.invokevirtual 186) 3 1144 := ⟨by decide +kernel, rfl⟩
theorem dL_law_1144 : Dx cL_law 1144 (.istore 7) 2 1146 := ⟨by decide +kernel, rfl⟩
theorem dL_law_1146 : Dx cL_law 1146 (.aload_n 2) 1 1147 := ⟨by decide +kernel, rfl⟩
theorem dL_law_1147 : Dx cL_law 1147 (.invokevirtual 134) 3 1150 := ⟨by decide +kernel, rfl⟩
theorem dL_law_1150 : Dx cL_law 1150 (.iload 6) 2 1152 := ⟨by decide +kernel, rfl⟩
theorem dL_law_1152 : Dc cL_law 1152 (fun o => .if_icmp .eq o) 1157 1155 := ⟨5, by decide +kernel, by decide, rfl⟩
theorem dL_law_1155 : Dx cL_law 1155 (.iconst 0) 1 1156 := ⟨by decide +kernel, rfl⟩
theorem dL_law_1156 : Dx cL_law 1156 (.ireturn) 1 1157 := ⟨by decide +kernel, rfl⟩
theorem dL_law_1157 : Dx cL_law 1157 (.iload 6) 2 1159 := ⟨by decide +kernel, rfl⟩
theorem dL_law_1159 : Dc cL_law 1159 (fun o => .ifCond .ne o) 1174 1162 := ⟨15, by decide +kernel, by decide, rfl⟩
theorem dL_law_1162 : Dx cL_law 1162 (.aload_n 3) 1 1163 := ⟨by decide +kernel, rfl⟩
theorem dL_law_1163 : Dx cL_law 1163 (.iconst 0) 1 1164 := ⟨by decide +kernel, rfl⟩
theorem dL_law_1164 : Dx cL_law 1164 (.laload) 1 1165 := ⟨by decide +kernel, rfl⟩
theorem dL_law_1165 : Dx cL_law 1165 (.iload 7) 2 1167 := ⟨by decide +kernel, rfl⟩
theorem dL_law_1167 : Dx cL_law 1167 (.i2l) 1 1168 := ⟨by decide +kernel, rfl⟩
theorem dL_law_1168 : Dx cL_law 1168 (.lcmp) 1 1169 := ⟨by decide +kernel, rfl⟩
theorem dL_law_1169 : Dc cL_law 1169 (fun o => .ifCond .eq o) 1174 1172 := ⟨5, by decide +kernel, by decide, rfl⟩
theorem dL_law_1172 : Dx cL_law 1172 (.iconst 0) 1 1173 := ⟨by decide +kernel, rfl⟩
theorem dL_law_1173 : Dx cL_law 1173 (.ireturn) 1 1174 := ⟨by decide +kernel, rfl⟩
theorem dL_law_1174 : Dc cL_law 1174 (fun o => .goto o) 2186 1177 := ⟨1012, by decide +kernel, by decide, rfl⟩
theorem dL_law_1177 : Dx cL_law 1177 (.aload_n 1) 1 1178 := ⟨by decide +kernel, rfl⟩
theorem dL_law_1178 : Dx cL_law 1178 (.aload_n 0) 1 1179 := ⟨by decide +kernel, rfl⟩
theorem dL_law_1179 : Dx cL_law 1179 (.iload 5) 2 1181 := ⟨by decide +kernel, rfl⟩
theorem dL_law_1181 : Dx cL_law 1181 (.iconst 1) 1 1182 := ⟨by decide +kernel, rfl⟩
theorem dL_law_1182 : Dx cL_law 1182 (.iadd) 1 1183 := ⟨by decide +kernel, rfl⟩
theorem dL_law_1183 : Dx cL_law 1183 (.iaload) 1 1184 := ⟨by decide +kernel, rfl⟩
theorem dL_law_1184 : Dx cL_law 1184 (.aload_n 3) 1 1185 := ⟨by decide +kernel, rfl⟩
theorem dL_law_1185 : Dx cL_law 1185 (.invokestatic 187) 3 1188 := ⟨by decide +kernel, rfl⟩
theorem dL_law_1188 : Dx cL_law 1188 (.istore 6) 2 1190 := ⟨by decide +kernel, rfl⟩
theorem dL_law_1190 : Dx cL_law 1190 (.aload_n 2) 1 1191 := ⟨by decide +kernel, rfl⟩
theorem dL_law_1191 : Dx cL_law 1191 (.aload_n 0) 1 1192 := ⟨by decide +kernel, rfl⟩
theorem dL_law_1192 : Dx cL_law 1192 (.iload 5) 2 1194 := ⟨by decide +kernel, rfl⟩
theorem dL_law_1194 : Dx cL_law 1194 (.iconst 1) 1 1195 := ⟨by decide +kernel, rfl⟩
theorem dL_law_1195 : Dx cL_law 1195 (.iadd) 1 1196 := ⟨by decide +kernel, rfl⟩
theorem dL_law_1196 : Dx cL_law 1196 (.iaload) 1 1197 := ⟨by decide +kernel, rfl⟩
theorem dL_law_1197 : Dx cL_law 1197 (.invokevirtual 189) 3 1200 := ⟨by decide +kernel, rfl⟩
theorem dL_law_1200 : Dx cL_law 1200 (.istore 7) 2 1202 := ⟨by decide +kernel, rfl⟩
theorem dL_law_1202 : Dx cL_law 1202 (.aload_n 2) 1 1203 := ⟨by decide +kernel, rfl⟩
theorem dL_law_1203 : Dx cL_law 1203 (.invokevirtual 134) 3 1206 := ⟨by decide +kernel, rfl⟩
theorem dL_law_1206 : Dx cL_law 1206 (.iload 6) 2 1208 := ⟨by decide +kernel, rfl⟩
theorem dL_law_1208 : Dc cL_law 1208 (fun o => .if_icmp .eq o) 1213 1211 := ⟨5, by decide +kernel, by decide, rfl⟩
theorem dL_law_1211 : Dx cL_law 1211 (.iconst 0) 1 1212 := ⟨by decide +kernel, rfl⟩
theorem dL_law_1212 : Dx cL_law 1212 (.ireturn) 1 1213 := ⟨by decide +kernel, rfl⟩
theorem dL_law_1213 : Dx cL_law 1213 (.iload 6) 2 1215 := ⟨by decide +kernel, rfl⟩
theorem dL_law_1215 : Dc cL_law 1215 (fun o => .ifCond .ne o) 1230 1218 := ⟨15, by decide +kernel, by decide, rfl⟩
theorem dL_law_1218 : Dx cL_law 1218 (.aload_n 3) 1 1219 := ⟨by decide +kernel, rfl⟩
theorem dL_law_1219 : Dx cL_law 1219 (.iconst 0) 1 1220 := ⟨by decide +kernel, rfl⟩
theorem dL_law_1220 : Dx cL_law 1220 (.laload) 1 1221 := ⟨by decide +kernel, rfl⟩
theorem dL_law_1221 : Dx cL_law 1221 (.iload 7) 2 1223 := ⟨by decide +kernel, rfl⟩
theorem dL_law_1223 : Dx cL_law 1223 (.i2l) 1 1224 := ⟨by decide +kernel, rfl⟩
theorem dL_law_1224 : Dx cL_law 1224 (.lcmp) 1 1225 := ⟨by decide +kernel, rfl⟩
theorem dL_law_1225 : Dc cL_law 1225 (fun o => .ifCond .eq o) 1230 1228 := ⟨5, by decide +kernel, by decide, rfl⟩
theorem dL_law_1228 : Dx cL_law 1228 (.iconst 0) 1 1229 := ⟨by decide +kernel, rfl⟩
theorem dL_law_1229 : Dx cL_law 1229 (.ireturn) 1 1230 := ⟨by decide +kernel, rfl⟩
theorem dL_law_1230 : Dc cL_law 1230 (fun o => .goto o) 2186 1233 := ⟨956, by decide +kernel, by decide, rfl⟩
theorem dL_law_1233 : Dx cL_law 1233 (.aload_n 1) 1 1234 := ⟨by decide +kernel, rfl⟩
theorem dL_law_1234 : Dx cL_law 1234 (.aload_n 0) 1 1235 := ⟨by decide +kernel, rfl⟩
theorem dL_law_1235 : Dx cL_law 1235 (.iload 5) 2 1237 := ⟨by decide +kernel, rfl⟩
theorem dL_law_1237 : Dx cL_law 1237 (.iconst 1) 1 1238 := ⟨by decide +kernel, rfl⟩
theorem dL_law_1238 : Dx cL_law 1238 (.iadd) 1 1239 := ⟨by decide +kernel, rfl⟩
theorem dL_law_1239 : Dx cL_law 1239 (.iaload) 1 1240 := ⟨by decide +kernel, rfl⟩
theorem dL_law_1240 : Dx cL_law 1240 (.aload_n 3) 1 1241 := ⟨by decide +kernel, rfl⟩
theorem dL_law_1241 : Dx cL_law 1241 (.invokestatic 190) 3 1244 := ⟨by decide +kernel, rfl⟩
theorem dL_law_1244 : Dx cL_law 1244 (.istore 6) 2 1246 := ⟨by decide +kernel, rfl⟩
theorem dL_law_1246 : Dx cL_law 1246 (.aload_n 2) 1 1247 := ⟨by decide +kernel, rfl⟩
theorem dL_law_1247 : Dx cL_law 1247 (.aload_n 0) 1 1248 := ⟨by decide +kernel, rfl⟩
theorem dL_law_1248 : Dx cL_law 1248 (.iload 5) 2 1250 := ⟨by decide +kernel, rfl⟩
theorem dL_law_1250 : Dx cL_law 1250 (.iconst 1) 1 1251 := ⟨by decide +kernel, rfl⟩
theorem dL_law_1251 : Dx cL_law 1251 (.iadd) 1 1252 := ⟨by decide +kernel, rfl⟩
theorem dL_law_1252 : Dx cL_law 1252 (.iaload) 1 1253 := ⟨by decide +kernel, rfl⟩
theorem dL_law_1253 : Dx cL_law 1253 (.invokevirtual 192) 3 1256 := ⟨by decide +kernel, rfl⟩
theorem dL_law_1256 : Dx cL_law 1256 (.istore 7) 2 1258 := ⟨by decide +kernel, rfl⟩
theorem dL_law_1258 : Dx cL_law 1258 (.aload_n 2) 1 1259 := ⟨by decide +kernel, rfl⟩
theorem dL_law_1259 : Dx cL_law 1259 (.invokevirtual 134) 3 1262 := ⟨by decide +kernel, rfl⟩
theorem dL_law_1262 : Dx cL_law 1262 (.iload 6) 2 1264 := ⟨by decide +kernel, rfl⟩
theorem dL_law_1264 : Dc cL_law 1264 (fun o => .if_icmp .eq o) 1269 1267 := ⟨5, by decide +kernel, by decide, rfl⟩
theorem dL_law_1267 : Dx cL_law 1267 (.iconst 0) 1 1268 := ⟨by decide +kernel, rfl⟩
theorem dL_law_1268 : Dx cL_law 1268 (.ireturn) 1 1269 := ⟨by decide +kernel, rfl⟩
theorem dL_law_1269 : Dx cL_law 1269 (.iload 6) 2 1271 := ⟨by decide +kernel, rfl⟩
theorem dL_law_1271 : Dc cL_law 1271 (fun o => .ifCond .ne o) 1286 1274 := ⟨15, by decide +kernel, by decide, rfl⟩
theorem dL_law_1274 : Dx cL_law 1274 (.aload_n 3) 1 1275 := ⟨by decide +kernel, rfl⟩
theorem dL_law_1275 : Dx cL_law 1275 (.iconst 0) 1 1276 := ⟨by decide +kernel, rfl⟩
theorem dL_law_1276 : Dx cL_law 1276 (.laload) 1 1277 := ⟨by decide +kernel, rfl⟩
theorem dL_law_1277 : Dx cL_law 1277 (.iload 7) 2 1279 := ⟨by decide +kernel, rfl⟩
theorem dL_law_1279 : Dx cL_law 1279 (.i2l) 1 1280 := ⟨by decide +kernel, rfl⟩
theorem dL_law_1280 : Dx cL_law 1280 (.lcmp) 1 1281 := ⟨by decide +kernel, rfl⟩
theorem dL_law_1281 : Dc cL_law 1281 (fun o => .ifCond .eq o) 1286 1284 := ⟨5, by decide +kernel, by decide, rfl⟩
theorem dL_law_1284 : Dx cL_law 1284 (.iconst 0) 1 1285 := ⟨by decide +kernel, rfl⟩
theorem dL_law_1285 : Dx cL_law 1285 (.ireturn) 1 1286 := ⟨by decide +kernel, rfl⟩
theorem dL_law_1286 : Dc cL_law 1286 (fun o => .goto o) 2186 1289 := ⟨900, by decide +kernel, by decide, rfl⟩
theorem dL_law_1289 : Dx cL_law 1289 (.aload_n 1) 1 1290 := ⟨by decide +kernel, rfl⟩
theorem dL_law_1290 : Dx cL_law 1290 (.aload_n 0) 1 1291 := ⟨by decide +kernel, rfl⟩
theorem dL_law_1291 : Dx cL_law 1291 (.iload 5) 2 1293 := ⟨by decide +kernel, rfl⟩
theorem dL_law_1293 : Dx cL_law 1293 (.iconst 1) 1 1294 := ⟨by decide +kernel, rfl⟩
theorem dL_law_1294 : Dx cL_law 1294 (.iadd) 1 1295 := ⟨by decide +kernel, rfl⟩
theorem dL_law_1295 : Dx cL_law 1295 (.iaload) 1 1296 := ⟨by decide +kernel, rfl⟩
theorem dL_law_1296 : Dx cL_law 1296 (.aload_n 3) 1 1297 := ⟨by decide +kernel, rfl⟩
theorem dL_law_1297 : Dx cL_law 1297 (.invokestatic 193) 3 1300 := ⟨by decide +kernel, rfl⟩
theorem dL_law_1300 : Dx cL_law 1300 (.istore 6) 2 1302 := ⟨by decide +kernel, rfl⟩
theorem dL_law_1302 : Dx cL_law 1302 (.aload_n 2) 1 1303 := ⟨by decide +kernel, rfl⟩
theorem dL_law_1303 : Dx cL_law 1303 (.aload_n 0) 1 1304 := ⟨by decide +kernel, rfl⟩
theorem dL_law_1304 : Dx cL_law 1304 (.iload 5) 2 1306 := ⟨by decide +kernel, rfl⟩
theorem dL_law_1306 : Dx cL_law 1306 (.iconst 1) 1 1307 := ⟨by decide +kernel, rfl⟩
theorem dL_law_1307 : Dx cL_law 1307 (.iadd) 1 1308 := ⟨by decide +kernel, rfl⟩
theorem dL_law_1308 : Dx cL_law 1308 (.iaload) 1 1309 := ⟨by decide +kernel, rfl⟩
theorem dL_law_1309 : Dx cL_law 1309 (.invokevirtual 195) 3 1312 := ⟨by decide +kernel, rfl⟩
theorem dL_law_1312 : Dx cL_law 1312 (.istore 7) 2 1314 := ⟨by decide +kernel, rfl⟩
theorem dL_law_1314 : Dx cL_law 1314 (.aload_n 2) 1 1315 := ⟨by decide +kernel, rfl⟩
theorem dL_law_1315 : Dx cL_law 1315 (.invokevirtual 134) 3 1318 := ⟨by decide +kernel, rfl⟩
theorem dL_law_1318 : Dx cL_law 1318 (.iload 6) 2 1320 := ⟨by decide +kernel, rfl⟩
theorem dL_law_1320 : Dc cL_law 1320 (fun o => .if_icmp .eq o) 1325 1323 := ⟨5, by decide +kernel, by decide, rfl⟩
theorem dL_law_1323 : Dx cL_law 1323 (.iconst 0) 1 1324 := ⟨by decide +kernel, rfl⟩
theorem dL_law_1324 : Dx cL_law 1324 (.ireturn) 1 1325 := ⟨by decide +kernel, rfl⟩
theorem dL_law_1325 : Dx cL_law 1325 (.iload 6) 2 1327 := ⟨by decide +kernel, rfl⟩
theorem dL_law_1327 : Dc cL_law 1327 (fun o => .ifCond .ne o) 1342 1330 := ⟨15, by decide +kernel, by decide, rfl⟩
theorem dL_law_1330 : Dx cL_law 1330 (.aload_n 3) 1 1331 := ⟨by decide +kernel, rfl⟩
theorem dL_law_1331 : Dx cL_law 1331 (.iconst 0) 1 1332 := ⟨by decide +kernel, rfl⟩
theorem dL_law_1332 : Dx cL_law 1332 (.laload) 1 1333 := ⟨by decide +kernel, rfl⟩
theorem dL_law_1333 : Dx cL_law 1333 (.iload 7) 2 1335 := ⟨by decide +kernel, rfl⟩
theorem dL_law_1335 : Dx cL_law 1335 (.i2l) 1 1336 := ⟨by decide +kernel, rfl⟩
theorem dL_law_1336 : Dx cL_law 1336 (.lcmp) 1 1337 := ⟨by decide +kernel, rfl⟩
theorem dL_law_1337 : Dc cL_law 1337 (fun o => .ifCond .eq o) 1342 1340 := ⟨5, by decide +kernel, by decide, rfl⟩
theorem dL_law_1340 : Dx cL_law 1340 (.iconst 0) 1 1341 := ⟨by decide +kernel, rfl⟩
theorem dL_law_1341 : Dx cL_law 1341 (.ireturn) 1 1342 := ⟨by decide +kernel, rfl⟩
theorem dL_law_1342 : Dc cL_law 1342 (fun o => .goto o) 2186 1345 := ⟨844, by decide +kernel, by decide, rfl⟩
theorem dL_law_1345 : Dx cL_law 1345 (.aload_n 1) 1 1346 := ⟨by decide +kernel, rfl⟩
theorem dL_law_1346 : Dx cL_law 1346 (.aload_n 0) 1 1347 := ⟨by decide +kernel, rfl⟩
theorem dL_law_1347 : Dx cL_law 1347 (.iload 5) 2 1349 := ⟨by decide +kernel, rfl⟩
theorem dL_law_1349 : Dx cL_law 1349 (.iconst 1) 1 1350 := ⟨by decide +kernel, rfl⟩
theorem dL_law_1350 : Dx cL_law 1350 (.iadd) 1 1351 := ⟨by decide +kernel, rfl⟩
theorem dL_law_1351 : Dx cL_law 1351 (.iaload) 1 1352 := ⟨by decide +kernel, rfl⟩
theorem dL_law_1352 : Dx cL_law 1352 (.aload_n 3) 1 1353 := ⟨by decide +kernel, rfl⟩
theorem dL_law_1353 : Dx cL_law 1353 (.invokestatic 196) 3 1356 := ⟨by decide +kernel, rfl⟩
theorem dL_law_1356 : Dx cL_law 1356 (.istore 6) 2 1358 := ⟨by decide +kernel, rfl⟩
theorem dL_law_1358 : Dx cL_law 1358 (.aload_n 2) 1 1359 := ⟨by decide +kernel, rfl⟩
theorem dL_law_1359 : Dx cL_law 1359 (.aload_n 0) 1 1360 := ⟨by decide +kernel, rfl⟩
theorem dL_law_1360 : Dx cL_law 1360 (.iload 5) 2 1362 := ⟨by decide +kernel, rfl⟩
theorem dL_law_1362 : Dx cL_law 1362 (.iconst 1) 1 1363 := ⟨by decide +kernel, rfl⟩
theorem dL_law_1363 : Dx cL_law 1363 (.iadd) 1 1364 := ⟨by decide +kernel, rfl⟩
theorem dL_law_1364 : Dx cL_law 1364 (.iaload) 1 1365 := ⟨by decide +kernel, rfl⟩
theorem dL_law_1365 : Dx cL_law 1365 (.invokevirtual 198) 3 1368 := ⟨by decide +kernel, rfl⟩
theorem dL_law_1368 : Dx cL_law 1368 (.istore 7) 2 1370 := ⟨by decide +kernel, rfl⟩
theorem dL_law_1370 : Dx cL_law 1370 (.aload_n 2) 1 1371 := ⟨by decide +kernel, rfl⟩
theorem dL_law_1371 : Dx cL_law 1371 (.invokevirtual 134) 3 1374 := ⟨by decide +kernel, rfl⟩
theorem dL_law_1374 : Dx cL_law 1374 (.iload 6) 2 1376 := ⟨by decide +kernel, rfl⟩
theorem dL_law_1376 : Dc cL_law 1376 (fun o => .if_icmp .eq o) 1381 1379 := ⟨5, by decide +kernel, by decide, rfl⟩
theorem dL_law_1379 : Dx cL_law 1379 (.iconst 0) 1 1380 := ⟨by decide +kernel, rfl⟩
theorem dL_law_1380 : Dx cL_law 1380 (.ireturn) 1 1381 := ⟨by decide +kernel, rfl⟩
theorem dL_law_1381 : Dx cL_law 1381 (.iload 6) 2 1383 := ⟨by decide +kernel, rfl⟩
theorem dL_law_1383 : Dc cL_law 1383 (fun o => .ifCond .ne o) 1398 1386 := ⟨15, by decide +kernel, by decide, rfl⟩
theorem dL_law_1386 : Dx cL_law 1386 (.aload_n 3) 1 1387 := ⟨by decide +kernel, rfl⟩
theorem dL_law_1387 : Dx cL_law 1387 (.iconst 0) 1 1388 := ⟨by decide +kernel, rfl⟩
theorem dL_law_1388 : Dx cL_law 1388 (.laload) 1 1389 := ⟨by decide +kernel, rfl⟩
theorem dL_law_1389 : Dx cL_law 1389 (.iload 7) 2 1391 := ⟨by decide +kernel, rfl⟩
theorem dL_law_1391 : Dx cL_law 1391 (.i2l) 1 1392 := ⟨by decide +kernel, rfl⟩
theorem dL_law_1392 : Dx cL_law 1392 (.lcmp) 1 1393 := ⟨by decide +kernel, rfl⟩
theorem dL_law_1393 : Dc cL_law 1393 (fun o => .ifCond .eq o) 1398 1396 := ⟨5, by decide +kernel, by decide, rfl⟩
theorem dL_law_1396 : Dx cL_law 1396 (.iconst 0) 1 1397 := ⟨by decide +kernel, rfl⟩
theorem dL_law_1397 : Dx cL_law 1397 (.ireturn) 1 1398 := ⟨by decide +kernel, rfl⟩
theorem dL_law_1398 : Dc cL_law 1398 (fun o => .goto o) 2186 1401 := ⟨788, by decide +kernel, by decide, rfl⟩
theorem dL_law_1401 : Dx cL_law 1401 (.aload_n 1) 1 1402 := ⟨by decide +kernel, rfl⟩
theorem dL_law_1402 : Dx cL_law 1402 (.aload_n 0) 1 1403 := ⟨by decide +kernel, rfl⟩
theorem dL_law_1403 : Dx cL_law 1403 (.iload 5) 2 1405 := ⟨by decide +kernel, rfl⟩
theorem dL_law_1405 : Dx cL_law 1405 (.iconst 1) 1 1406 := ⟨by decide +kernel, rfl⟩
theorem dL_law_1406 : Dx cL_law 1406 (.iadd) 1 1407 := ⟨by decide +kernel, rfl⟩
theorem dL_law_1407 : Dx cL_law 1407 (.iaload) 1 1408 := ⟨by decide +kernel, rfl⟩
theorem dL_law_1408 : Dx cL_law 1408 (.aload_n 0) 1 1409 := ⟨by decide +kernel, rfl⟩
theorem dL_law_1409 : Dx cL_law 1409 (.iload 5) 2 1411 := ⟨by decide +kernel, rfl⟩
theorem dL_law_1411 : Dx cL_law 1411 (.iconst 2) 1 1412 := ⟨by decide +kernel, rfl⟩
theorem dL_law_1412 : Dx cL_law 1412 (.iadd) 1 1413 := ⟨by decide +kernel, rfl⟩
theorem dL_law_1413 : Dx cL_law 1413 (.iaload) 1 1414 := ⟨by decide +kernel, rfl⟩
theorem dL_law_1414 : Dx cL_law 1414 (.aload_n 3) 1 1415 := ⟨by decide +kernel, rfl⟩
theorem dL_law_1415 : Dx cL_law 1415 (.invokestatic 199) 3 1418 := ⟨by decide +kernel, rfl⟩
theorem dL_law_1418 : Dx cL_law 1418 (.istore 6) 2 1420 := ⟨by decide +kernel, rfl⟩
theorem dL_law_1420 : Dx cL_law 1420 (.aload_n 2) 1 1421 := ⟨by decide +kernel, rfl⟩
theorem dL_law_1421 : Dx cL_law 1421 (.aload_n 0) 1 1422 := ⟨by decide +kernel, rfl⟩
theorem dL_law_1422 : Dx cL_law 1422 (.iload 5) 2 1424 := ⟨by decide +kernel, rfl⟩
theorem dL_law_1424 : Dx cL_law 1424 (.iconst 1) 1 1425 := ⟨by decide +kernel, rfl⟩
theorem dL_law_1425 : Dx cL_law 1425 (.iadd) 1 1426 := ⟨by decide +kernel, rfl⟩
theorem dL_law_1426 : Dx cL_law 1426 (.iaload) 1 1427 := ⟨by decide +kernel, rfl⟩
theorem dL_law_1427 : Dx cL_law 1427 (.aload_n 0) 1 1428 := ⟨by decide +kernel, rfl⟩
theorem dL_law_1428 : Dx cL_law 1428 (.iload 5) 2 1430 := ⟨by decide +kernel, rfl⟩
theorem dL_law_1430 : Dx cL_law 1430 (.iconst 2) 1 1431 := ⟨by decide +kernel, rfl⟩
theorem dL_law_1431 : Dx cL_law 1431 (.iadd) 1 1432 := ⟨by decide +kernel, rfl⟩
theorem dL_law_1432 : Dx cL_law 1432 (.iaload) 1 1433 := ⟨by decide +kernel, rfl⟩
theorem dL_law_1433 : Dx cL_law 1433 (.invokevirtual 201) 3 1436 := ⟨by decide +kernel, rfl⟩
theorem dL_law_1436 : Dx cL_law 1436 (.istore 7) 2 1438 := ⟨by decide +kernel, rfl⟩
theorem dL_law_1438 : Dx cL_law 1438 (.aload_n 2) 1 1439 := ⟨by decide +kernel, rfl⟩
theorem dL_law_1439 : Dx cL_law 1439 (.invokevirtual 134) 3 1442 := ⟨by decide +kernel, rfl⟩
theorem dL_law_1442 : Dx cL_law 1442 (.iload 6) 2 1444 := ⟨by decide +kernel, rfl⟩
theorem dL_law_1444 : Dc cL_law 1444 (fun o => .if_icmp .eq o) 1449 1447 := ⟨5, by decide +kernel, by decide, rfl⟩
theorem dL_law_1447 : Dx cL_law 1447 (.iconst 0) 1 1448 := ⟨by decide +kernel, rfl⟩
theorem dL_law_1448 : Dx cL_law 1448 (.ireturn) 1 1449 := ⟨by decide +kernel, rfl⟩
theorem dL_law_1449 : Dx cL_law 1449 (.iload 6) 2 1451 := ⟨by decide +kernel, rfl⟩
theorem dL_law_1451 : Dc cL_law 1451 (fun o => .ifCond .ne o) 1466 1454 := ⟨15, by decide +kernel, by decide, rfl⟩
theorem dL_law_1454 : Dx cL_law 1454 (.aload_n 3) 1 1455 := ⟨by decide +kernel, rfl⟩
theorem dL_law_1455 : Dx cL_law 1455 (.iconst 0) 1 1456 := ⟨by decide +kernel, rfl⟩
theorem dL_law_1456 : Dx cL_law 1456 (.laload) 1 1457 := ⟨by decide +kernel, rfl⟩
theorem dL_law_1457 : Dx cL_law 1457 (.iload 7) 2 1459 := ⟨by decide +kernel, rfl⟩
theorem dL_law_1459 : Dx cL_law 1459 (.i2l) 1 1460 := ⟨by decide +kernel, rfl⟩
theorem dL_law_1460 : Dx cL_law 1460 (.lcmp) 1 1461 := ⟨by decide +kernel, rfl⟩
theorem dL_law_1461 : Dc cL_law 1461 (fun o => .ifCond .eq o) 1466 1464 := ⟨5, by decide +kernel, by decide, rfl⟩
theorem dL_law_1464 : Dx cL_law 1464 (.iconst 0) 1 1465 := ⟨by decide +kernel, rfl⟩
theorem dL_law_1465 : Dx cL_law 1465 (.ireturn) 1 1466 := ⟨by decide +kernel, rfl⟩
theorem dL_law_1466 : Dc cL_law 1466 (fun o => .goto o) 2186 1469 := ⟨720, by decide +kernel, by decide, rfl⟩
theorem dL_law_1469 : Dx cL_law 1469 (.aload_n 1) 1 1470 := ⟨by decide +kernel, rfl⟩
theorem dL_law_1470 : Dx cL_law 1470 (.invokevirtual 202) 3 1473 := ⟨by decide +kernel, rfl⟩
theorem dL_law_1473 : Dx cL_law 1473 (.aload_n 2) 1 1474 := ⟨by decide +kernel, rfl⟩
theorem dL_law_1474 : Dx cL_law 1474 (.invokevirtual 205) 3 1477 := ⟨by decide +kernel, rfl⟩
theorem dL_law_1477 : Dc cL_law 1477 (fun o => .if_icmp .eq o) 2186 1480 := ⟨709, by decide +kernel, by decide, rfl⟩
theorem dL_law_1480 : Dx cL_law 1480 (.iconst 0) 1 1481 := ⟨by decide +kernel, rfl⟩
theorem dL_law_1481 : Dx cL_law 1481 (.ireturn) 1 1482 := ⟨by decide +kernel, rfl⟩
theorem dL_law_1482 : Dx cL_law 1482 (.aload_n 1) 1 1483 := ⟨by decide +kernel, rfl⟩
theorem dL_law_1483 : Dx cL_law 1483 (.aload_n 0) 1 1484 := ⟨by decide +kernel, rfl⟩
theorem dL_law_1484 : Dx cL_law 1484 (.iload 5) 2 1486 := ⟨by decide +kernel, rfl⟩
theorem dL_law_1486 : Dx cL_law 1486 (.iconst 1) 1 1487 := ⟨by decide +kernel, rfl⟩
theorem dL_law_1487 : Dx cL_law 1487 (.iadd) 1 1488 := ⟨by decide +kernel, rfl⟩
theorem dL_law_1488 : Dx cL_law 1488 (.iaload) 1 1489 := ⟨by decide +kernel, rfl⟩
theorem dL_law_1489 : Dx cL_law 1489 (.aload_n 3) 1 1490 := ⟨by decide +kernel, rfl⟩
theorem dL_law_1490 : Dx cL_law 1490 (.invokestatic 206) 3 1493 := ⟨by decide +kernel, rfl⟩
theorem dL_law_1493 : Dx cL_law 1493 (.istore 6) 2 1495 := ⟨by decide +kernel, rfl⟩
theorem dL_law_1495 : Dx cL_law 1495 (.aload_n 2) 1 1496 := ⟨by decide +kernel, rfl⟩
theorem dL_law_1496 : Dx cL_law 1496 (.aload_n 0) 1 1497 := ⟨by decide +kernel, rfl⟩
theorem dL_law_1497 : Dx cL_law 1497 (.iload 5) 2 1499 := ⟨by decide +kernel, rfl⟩
theorem dL_law_1499 : Dx cL_law 1499 (.iconst 1) 1 1500 := ⟨by decide +kernel, rfl⟩
theorem dL_law_1500 : Dx cL_law 1500 (.iadd) 1 1501 := ⟨by decide +kernel, rfl⟩
theorem dL_law_1501 : Dx cL_law 1501 (.iaload) 1 1502 := ⟨by decide +kernel, rfl⟩
theorem dL_law_1502 : Dx cL_law 1502 (.invokevirtual 208) 3 1505 := ⟨by decide +kernel, rfl⟩
theorem dL_law_1505 : Dx cL_law 1505 (.istore 7) 2 1507 := ⟨by decide +kernel, rfl⟩
theorem dL_law_1507 : Dx cL_law 1507 (.aload_n 2) 1 1508 := ⟨by decide +kernel, rfl⟩
theorem dL_law_1508 : Dx cL_law 1508 (.invokevirtual 134) 3 1511 := ⟨by decide +kernel, rfl⟩
theorem dL_law_1511 : Dx cL_law 1511 (.iload 6) 2 1513 := ⟨by decide +kernel, rfl⟩
theorem dL_law_1513 : Dc cL_law 1513 (fun o => .if_icmp .eq o) 1518 1516 := ⟨5, by decide +kernel, by decide, rfl⟩
theorem dL_law_1516 : Dx cL_law 1516 (.iconst 0) 1 1517 := ⟨by decide +kernel, rfl⟩
theorem dL_law_1517 : Dx cL_law 1517 (.ireturn) 1 1518 := ⟨by decide +kernel, rfl⟩
theorem dL_law_1518 : Dx cL_law 1518 (.iload 6) 2 1520 := ⟨by decide +kernel, rfl⟩
theorem dL_law_1520 : Dc cL_law 1520 (fun o => .ifCond .ne o) 1535 1523 := ⟨15, by decide +kernel, by decide, rfl⟩
theorem dL_law_1523 : Dx cL_law 1523 (.aload_n 3) 1 1524 := ⟨by decide +kernel, rfl⟩
theorem dL_law_1524 : Dx cL_law 1524 (.iconst 0) 1 1525 := ⟨by decide +kernel, rfl⟩
theorem dL_law_1525 : Dx cL_law 1525 (.laload) 1 1526 := ⟨by decide +kernel, rfl⟩
theorem dL_law_1526 : Dx cL_law 1526 (.iload 7) 2 1528 := ⟨by decide +kernel, rfl⟩
theorem dL_law_1528 : Dx cL_law 1528 (.i2l) 1 1529 := ⟨by decide +kernel, rfl⟩
theorem dL_law_1529 : Dx cL_law 1529 (.lcmp) 1 1530 := ⟨by decide +kernel, rfl⟩
theorem dL_law_1530 : Dc cL_law 1530 (fun o => .ifCond .eq o) 1535 1533 := ⟨5, by decide +kernel, by decide, rfl⟩
theorem dL_law_1533 : Dx cL_law 1533 (.iconst 0) 1 1534 := ⟨by decide +kernel, rfl⟩
theorem dL_law_1534 : Dx cL_law 1534 (.ireturn) 1 1535 := ⟨by decide +kernel, rfl⟩
theorem dL_law_1535 : Dc cL_law 1535 (fun o => .goto o) 2186 1538 := ⟨651, by decide +kernel, by decide, rfl⟩
theorem dL_law_1538 : Dx cL_law 1538 (.aload_n 1) 1 1539 := ⟨by decide +kernel, rfl⟩
theorem dL_law_1539 : Dx cL_law 1539 (.aload_n 0) 1 1540 := ⟨by decide +kernel, rfl⟩
theorem dL_law_1540 : Dx cL_law 1540 (.iload 5) 2 1542 := ⟨by decide +kernel, rfl⟩
theorem dL_law_1542 : Dx cL_law 1542 (.iconst 1) 1 1543 := ⟨by decide +kernel, rfl⟩
theorem dL_law_1543 : Dx cL_law 1543 (.iadd) 1 1544 := ⟨by decide +kernel, rfl⟩
theorem dL_law_1544 : Dx cL_law 1544 (.iaload) 1 1545 := ⟨by decide +kernel, rfl⟩
theorem dL_law_1545 : Dx cL_law 1545 (.aload_n 3) 1 1546 := ⟨by decide +kernel, rfl⟩
theorem dL_law_1546 : Dx cL_law 1546 (.invokestatic 209) 3 1549 := ⟨by decide +kernel, rfl⟩
theorem dL_law_1549 : Dx cL_law 1549 (.istore 6) 2 1551 := ⟨by decide +kernel, rfl⟩
theorem dL_law_1551 : Dx cL_law 1551 (.aload_n 2) 1 1552 := ⟨by decide +kernel, rfl⟩
theorem dL_law_1552 : Dx cL_law 1552 (.aload_n 0) 1 1553 := ⟨by decide +kernel, rfl⟩
theorem dL_law_1553 : Dx cL_law 1553 (.iload 5) 2 1555 := ⟨by decide +kernel, rfl⟩
theorem dL_law_1555 : Dx cL_law 1555 (.iconst 1) 1 1556 := ⟨by decide +kernel, rfl⟩
theorem dL_law_1556 : Dx cL_law 1556 (.iadd) 1 1557 := ⟨by decide +kernel, rfl⟩
theorem dL_law_1557 : Dx cL_law 1557 (.iaload) 1 1558 := ⟨by decide +kernel, rfl⟩
theorem dL_law_1558 : Dx cL_law 1558 (.invokevirtual 211) 3 1561 := ⟨by decide +kernel, rfl⟩
theorem dL_law_1561 : Dx cL_law 1561 (.istore 7) 2 1563 := ⟨by decide +kernel, rfl⟩
theorem dL_law_1563 : Dx cL_law 1563 (.aload_n 2) 1 1564 := ⟨by decide +kernel, rfl⟩
theorem dL_law_1564 : Dx cL_law 1564 (.invokevirtual 134) 3 1567 := ⟨by decide +kernel, rfl⟩
theorem dL_law_1567 : Dx cL_law 1567 (.iload 6) 2 1569 := ⟨by decide +kernel, rfl⟩
theorem dL_law_1569 : Dc cL_law 1569 (fun o => .if_icmp .eq o) 1574 1572 := ⟨5, by decide +kernel, by decide, rfl⟩
theorem dL_law_1572 : Dx cL_law 1572 (.iconst 0) 1 1573 := ⟨by decide +kernel, rfl⟩
theorem dL_law_1573 : Dx cL_law 1573 (.ireturn) 1 1574 := ⟨by decide +kernel, rfl⟩
theorem dL_law_1574 : Dx cL_law 1574 (.iload 6) 2 1576 := ⟨by decide +kernel, rfl⟩
theorem dL_law_1576 : Dc cL_law 1576 (fun o => .ifCond .ne o) 1591 1579 := ⟨15, by decide +kernel, by decide, rfl⟩
theorem dL_law_1579 : Dx cL_law 1579 (.aload_n 3) 1 1580 := ⟨by decide +kernel, rfl⟩
theorem dL_law_1580 : Dx cL_law 1580 (.iconst 0) 1 1581 := ⟨by decide +kernel, rfl⟩
theorem dL_law_1581 : Dx cL_law 1581 (.laload) 1 1582 := ⟨by decide +kernel, rfl⟩
theorem dL_law_1582 : Dx cL_law 1582 (.iload 7) 2 1584 := ⟨by decide +kernel, rfl⟩
theorem dL_law_1584 : Dx cL_law 1584 (.i2l) 1 1585 := ⟨by decide +kernel, rfl⟩
theorem dL_law_1585 : Dx cL_law 1585 (.lcmp) 1 1586 := ⟨by decide +kernel, rfl⟩
theorem dL_law_1586 : Dc cL_law 1586 (fun o => .ifCond .eq o) 1591 1589 := ⟨5, by decide +kernel, by decide, rfl⟩
theorem dL_law_1589 : Dx cL_law 1589 (.iconst 0) 1 1590 := ⟨by decide +kernel, rfl⟩
theorem dL_law_1590 : Dx cL_law 1590 (.ireturn) 1 1591 := ⟨by decide +kernel, rfl⟩
theorem dL_law_1591 : Dc cL_law 1591 (fun o => .goto o) 2186 1594 := ⟨595, by decide +kernel, by decide, rfl⟩
theorem dL_law_1594 : Dx cL_law 1594 (.aload_n 1) 1 1595 := ⟨by decide +kernel, rfl⟩
theorem dL_law_1595 : Dx cL_law 1595 (.aload_n 0) 1 1596 := ⟨by decide +kernel, rfl⟩
theorem dL_law_1596 : Dx cL_law 1596 (.iload 5) 2 1598 := ⟨by decide +kernel, rfl⟩
theorem dL_law_1598 : Dx cL_law 1598 (.iconst 1) 1 1599 := ⟨by decide +kernel, rfl⟩
theorem dL_law_1599 : Dx cL_law 1599 (.iadd) 1 1600 := ⟨by decide +kernel, rfl⟩
theorem dL_law_1600 : Dx cL_law 1600 (.iaload) 1 1601 := ⟨by decide +kernel, rfl⟩
theorem dL_law_1601 : Dx cL_law 1601 (.i2c) 1 1602 := ⟨by decide +kernel, rfl⟩
theorem dL_law_1602 : Dx cL_law 1602 (.aload_n 3) 1 1603 := ⟨by decide +kernel, rfl⟩
theorem dL_law_1603 : Dx cL_law 1603 (.invokestatic 212) 3 1606 := ⟨by decide +kernel, rfl⟩
theorem dL_law_1606 : Dx cL_law 1606 (.istore 6) 2 1608 := ⟨by decide +kernel, rfl⟩
theorem dL_law_1608 : Dx cL_law 1608 (.aload_n 2) 1 1609 := ⟨by decide +kernel, rfl⟩
theorem dL_law_1609 : Dx cL_law 1609 (.aload_n 0) 1 1610 := ⟨by decide +kernel, rfl⟩
theorem dL_law_1610 : Dx cL_law 1610 (.iload 5) 2 1612 := ⟨by decide +kernel, rfl⟩
theorem dL_law_1612 : Dx cL_law 1612 (.iconst 1) 1 1613 := ⟨by decide +kernel, rfl⟩
theorem dL_law_1613 : Dx cL_law 1613 (.iadd) 1 1614 := ⟨by decide +kernel, rfl⟩
theorem dL_law_1614 : Dx cL_law 1614 (.iaload) 1 1615 := ⟨by decide +kernel, rfl⟩
theorem dL_law_1615 : Dx cL_law 1615 (.i2c) 1 1616 := ⟨by decide +kernel, rfl⟩
theorem dL_law_1616 : Dx cL_law 1616 (.invokevirtual 215) 3 1619 := ⟨by decide +kernel, rfl⟩
theorem dL_law_1619 : Dx cL_law 1619 (.istore 7) 2 1621 := ⟨by decide +kernel, rfl⟩
theorem dL_law_1621 : Dx cL_law 1621 (.aload_n 2) 1 1622 := ⟨by decide +kernel, rfl⟩
theorem dL_law_1622 : Dx cL_law 1622 (.invokevirtual 134) 3 1625 := ⟨by decide +kernel, rfl⟩
theorem dL_law_1625 : Dx cL_law 1625 (.iload 6) 2 1627 := ⟨by decide +kernel, rfl⟩
theorem dL_law_1627 : Dc cL_law 1627 (fun o => .if_icmp .eq o) 1632 1630 := ⟨5, by decide +kernel, by decide, rfl⟩
theorem dL_law_1630 : Dx cL_law 1630 (.iconst 0) 1 1631 := ⟨by decide +kernel, rfl⟩
theorem dL_law_1631 : Dx cL_law 1631 (.ireturn) 1 1632 := ⟨by decide +kernel, rfl⟩
theorem dL_law_1632 : Dx cL_law 1632 (.iload 6) 2 1634 := ⟨by decide +kernel, rfl⟩
theorem dL_law_1634 : Dc cL_law 1634 (fun o => .ifCond .ne o) 1649 1637 := ⟨15, by decide +kernel, by decide, rfl⟩
theorem dL_law_1637 : Dx cL_law 1637 (.aload_n 3) 1 1638 := ⟨by decide +kernel, rfl⟩
theorem dL_law_1638 : Dx cL_law 1638 (.iconst 0) 1 1639 := ⟨by decide +kernel, rfl⟩
theorem dL_law_1639 : Dx cL_law 1639 (.laload) 1 1640 := ⟨by decide +kernel, rfl⟩
theorem dL_law_1640 : Dx cL_law 1640 (.iload 7) 2 1642 := ⟨by decide +kernel, rfl⟩
theorem dL_law_1642 : Dx cL_law 1642 (.i2l) 1 1643 := ⟨by decide +kernel, rfl⟩
theorem dL_law_1643 : Dx cL_law 1643 (.lcmp) 1 1644 := ⟨by decide +kernel, rfl⟩
theorem dL_law_1644 : Dc cL_law 1644 (fun o => .ifCond .eq o) 1649 1647 := ⟨5, by decide +kernel, by decide, rfl⟩
theorem dL_law_1647 : Dx cL_law 1647 (.iconst 0) 1 1648 := ⟨by decide +kernel, rfl⟩
theorem dL_law_1648 : Dx cL_law 1648 (.ireturn) 1 1649 := ⟨by decide +kernel, rfl⟩
theorem dL_law_1649 : Dc cL_law 1649 (fun o => .goto o) 2186 1652 := ⟨537, by decide +kernel, by decide, rfl⟩
theorem dL_law_1652 : Dx cL_law 1652 (.aload_n 1) 1 1653 := ⟨by decide +kernel, rfl⟩
theorem dL_law_1653 : Dx cL_law 1653 (.aload_n 3) 1 1654 := ⟨by decide +kernel, rfl⟩
theorem dL_law_1654 : Dx cL_law 1654 (.invokestatic 216) 3 1657 := ⟨by decide +kernel, rfl⟩
theorem dL_law_1657 : Dx cL_law 1657 (.istore 6) 2 1659 := ⟨by decide +kernel, rfl⟩
theorem dL_law_1659 : Dx cL_law 1659 (.aload_n 2) 1 1660 := ⟨by decide +kernel, rfl⟩
theorem dL_law_1660 : Dx cL_law 1660 (.invokevirtual 219) 3 1663 := ⟨by decide +kernel, rfl⟩
theorem dL_law_1663 : Dx cL_law 1663 (.istore 7) 2 1665 := ⟨by decide +kernel, rfl⟩
theorem dL_law_1665 : Dx cL_law 1665 (.aload_n 2) 1 1666 := ⟨by decide +kernel, rfl⟩
theorem dL_law_1666 : Dx cL_law 1666 (.invokevirtual 134) 3 1669 := ⟨by decide +kernel, rfl⟩
theorem dL_law_1669 : Dx cL_law 1669 (.iload 6) 2 1671 := ⟨by decide +kernel, rfl⟩
theorem dL_law_1671 : Dc cL_law 1671 (fun o => .if_icmp .eq o) 1676 1674 := ⟨5, by decide +kernel, by decide, rfl⟩
theorem dL_law_1674 : Dx cL_law 1674 (.iconst 0) 1 1675 := ⟨by decide +kernel, rfl⟩
theorem dL_law_1675 : Dx cL_law 1675 (.ireturn) 1 1676 := ⟨by decide +kernel, rfl⟩
theorem dL_law_1676 : Dx cL_law 1676 (.iload 6) 2 1678 := ⟨by decide +kernel, rfl⟩
theorem dL_law_1678 : Dc cL_law 1678 (fun o => .ifCond .ne o) 1693 1681 := ⟨15, by decide +kernel, by decide, rfl⟩
theorem dL_law_1681 : Dx cL_law 1681 (.aload_n 3) 1 1682 := ⟨by decide +kernel, rfl⟩
theorem dL_law_1682 : Dx cL_law 1682 (.iconst 0) 1 1683 := ⟨by decide +kernel, rfl⟩
theorem dL_law_1683 : Dx cL_law 1683 (.laload) 1 1684 := ⟨by decide +kernel, rfl⟩
theorem dL_law_1684 : Dx cL_law 1684 (.iload 7) 2 1686 := ⟨by decide +kernel, rfl⟩
theorem dL_law_1686 : Dx cL_law 1686 (.i2l) 1 1687 := ⟨by decide +kernel, rfl⟩
theorem dL_law_1687 : Dx cL_law 1687 (.lcmp) 1 1688 := ⟨by decide +kernel, rfl⟩
theorem dL_law_1688 : Dc cL_law 1688 (fun o => .ifCond .eq o) 1693 1691 := ⟨5, by decide +kernel, by decide, rfl⟩
theorem dL_law_1691 : Dx cL_law 1691 (.iconst 0) 1 1692 := ⟨by decide +kernel, rfl⟩
theorem dL_law_1692 : Dx cL_law 1692 (.ireturn) 1 1693 := ⟨by decide +kernel, rfl⟩
theorem dL_law_1693 : Dc cL_law 1693 (fun o => .goto o) 2186 1696 := ⟨493, by decide +kernel, by decide, rfl⟩
theorem dL_law_1696 : Dx cL_law 1696 (.aload_n 1) 1 1697 := ⟨by decide +kernel, rfl⟩
theorem dL_law_1697 : Dx cL_law 1697 (.invokevirtual 220) 3 1700 := ⟨by decide +kernel, rfl⟩
theorem dL_law_1700 : Dx cL_law 1700 (.aload_n 2) 1 1701 := ⟨by decide +kernel, rfl⟩
theorem dL_law_1701 : Dx cL_law 1701 (.invokevirtual 223) 3 1704 := ⟨by decide +kernel, rfl⟩
theorem dL_law_1704 : Dc cL_law 1704 (fun o => .if_icmp .eq o) 2186 1707 := ⟨482, by decide +kernel, by decide, rfl⟩
theorem dL_law_1707 : Dx cL_law 1707 (.iconst 0) 1 1708 := ⟨by decide +kernel, rfl⟩
theorem dL_law_1708 : Dx cL_law 1708 (.ireturn) 1 1709 := ⟨by decide +kernel, rfl⟩
theorem dL_law_1709 : Dx cL_law 1709 (.aload_n 1) 1 1710 := ⟨by decide +kernel, rfl⟩
theorem dL_law_1710 : Dx cL_law 1710 (.aload_n 0) 1 1711 := ⟨by decide +kernel, rfl⟩
theorem dL_law_1711 : Dx cL_law 1711 (.iload 5) 2 1713 := ⟨by decide +kernel, rfl⟩
theorem dL_law_1713 : Dx cL_law 1713 (.iconst 1) 1 1714 := ⟨by decide +kernel, rfl⟩
theorem dL_law_1714 : Dx cL_law 1714 (.iadd) 1 1715 := ⟨by decide +kernel, rfl⟩
theorem dL_law_1715 : Dx cL_law 1715 (.iaload) 1 1716 := ⟨by decide +kernel, rfl⟩
theorem dL_law_1716 : Dc cL_law 1716 (fun o => .ifCond .eq o) 1723 1719 := ⟨7, by decide +kernel, by decide, rfl⟩
theorem dL_law_1719 : Dx cL_law 1719 (.iconst 1) 1 1720 := ⟨by decide +kernel, rfl⟩
theorem dL_law_1720 : Dc cL_law 1720 (fun o => .goto o) 1724 1723 := ⟨4, by decide +kernel, by decide, rfl⟩
theorem dL_law_1723 : Dx cL_law 1723 (.iconst 0) 1 1724 := ⟨by decide +kernel, rfl⟩
theorem dL_law_1724 : Dx cL_law 1724 (.aload_n 0) 1 1725 := ⟨by decide +kernel, rfl⟩
theorem dL_law_1725 : Dx cL_law 1725 (.iload 5) 2 1727 := ⟨by decide +kernel, rfl⟩
theorem dL_law_1727 : Dx cL_law 1727 (.iconst 2) 1 1728 := ⟨by decide +kernel, rfl⟩
theorem dL_law_1728 : Dx cL_law 1728 (.iadd) 1 1729 := ⟨by decide +kernel, rfl⟩
theorem dL_law_1729 : Dx cL_law 1729 (.iaload) 1 1730 := ⟨by decide +kernel, rfl⟩
theorem dL_law_1730 : Dc cL_law 1730 (fun o => .ifCond .eq o) 1737 1733 := ⟨7, by decide +kernel, by decide, rfl⟩
theorem dL_law_1733 : Dx cL_law 1733 (.iconst 1) 1 1734 := ⟨by decide +kernel, rfl⟩
theorem dL_law_1734 : Dc cL_law 1734 (fun o => .goto o) 1738 1737 := ⟨4, by decide +kernel, by decide, rfl⟩
theorem dL_law_1737 : Dx cL_law 1737 (.iconst 0) 1 1738 := ⟨by decide +kernel, rfl⟩
theorem dL_law_1738 : Dx cL_law 1738 (.aload_n 3) 1 1739 := ⟨by decide +kernel, rfl⟩
theorem dL_law_1739 : Dx cL_law 1739 (.invokestatic 224) 3 1742 := ⟨by decide +kernel, rfl⟩
theorem dL_law_1742 : Dx cL_law 1742 (.istore 6) 2 1744 := ⟨by decide +kernel, rfl⟩
theorem dL_law_1744 : Dx cL_law 1744 (.aload_n 2) 1 1745 := ⟨by decide +kernel, rfl⟩
theorem dL_law_1745 : Dx cL_law 1745 (.aload_n 0) 1 1746 := ⟨by decide +kernel, rfl⟩
theorem dL_law_1746 : Dx cL_law 1746 (.iload 5) 2 1748 := ⟨by decide +kernel, rfl⟩
theorem dL_law_1748 : Dx cL_law 1748 (.iconst 1) 1 1749 := ⟨by decide +kernel, rfl⟩
theorem dL_law_1749 : Dx cL_law 1749 (.iadd) 1 1750 := ⟨by decide +kernel, rfl⟩
theorem dL_law_1750 : Dx cL_law 1750 (.iaload) 1 1751 := ⟨by decide +kernel, rfl⟩
theorem dL_law_1751 : Dc cL_law 1751 (fun o => .ifCond .eq o) 1758 1754 := ⟨7, by decide +kernel, by decide, rfl⟩
theorem dL_law_1754 : Dx cL_law 1754 (.iconst 1) 1 1755 := ⟨by decide +kernel, rfl⟩
theorem dL_law_1755 : Dc cL_law 1755 (fun o => .goto o) 1759 1758 := ⟨4, by decide +kernel, by decide, rfl⟩
theorem dL_law_1758 : Dx cL_law 1758 (.iconst 0) 1 1759 := ⟨by decide +kernel, rfl⟩
theorem dL_law_1759 : Dx cL_law 1759 (.aload_n 0) 1 1760 := ⟨by decide +kernel, rfl⟩
theorem dL_law_1760 : Dx cL_law 1760 (.iload 5) 2 1762 := ⟨by decide +kernel, rfl⟩
theorem dL_law_1762 : Dx cL_law 1762 (.iconst 2) 1 1763 := ⟨by decide +kernel, rfl⟩
theorem dL_law_1763 : Dx cL_law 1763 (.iadd) 1 1764 := ⟨by decide +kernel, rfl⟩
theorem dL_law_1764 : Dx cL_law 1764 (.iaload) 1 1765 := ⟨by decide +kernel, rfl⟩
theorem dL_law_1765 : Dc cL_law 1765 (fun o => .ifCond .eq o) 1772 1768 := ⟨7, by decide +kernel, by decide, rfl⟩
theorem dL_law_1768 : Dx cL_law 1768 (.iconst 1) 1 1769 := ⟨by decide +kernel, rfl⟩
theorem dL_law_1769 : Dc cL_law 1769 (fun o => .goto o) 1773 1772 := ⟨4, by decide +kernel, by decide, rfl⟩
theorem dL_law_1772 : Dx cL_law 1772 (.iconst 0) 1 1773 := ⟨by decide +kernel, rfl⟩
theorem dL_law_1773 : Dx cL_law 1773 (.invokevirtual 227) 3 1776 := ⟨by decide +kernel, rfl⟩
theorem dL_law_1776 : Dx cL_law 1776 (.istore 7) 2 1778 := ⟨by decide +kernel, rfl⟩
theorem dL_law_1778 : Dx cL_law 1778 (.aload_n 2) 1 1779 := ⟨by decide +kernel, rfl⟩
theorem dL_law_1779 : Dx cL_law 1779 (.invokevirtual 134) 3 1782 := ⟨by decide +kernel, rfl⟩
theorem dL_law_1782 : Dx cL_law 1782 (.iload 6) 2 1784 := ⟨by decide +kernel, rfl⟩
theorem dL_law_1784 : Dc cL_law 1784 (fun o => .if_icmp .eq o) 1789 1787 := ⟨5, by decide +kernel, by decide, rfl⟩
theorem dL_law_1787 : Dx cL_law 1787 (.iconst 0) 1 1788 := ⟨by decide +kernel, rfl⟩
theorem dL_law_1788 : Dx cL_law 1788 (.ireturn) 1 1789 := ⟨by decide +kernel, rfl⟩
theorem dL_law_1789 : Dx cL_law 1789 (.iload 6) 2 1791 := ⟨by decide +kernel, rfl⟩
theorem dL_law_1791 : Dc cL_law 1791 (fun o => .ifCond .ne o) 1806 1794 := ⟨15, by decide +kernel, by decide, rfl⟩
theorem dL_law_1794 : Dx cL_law 1794 (.aload_n 3) 1 1795 := ⟨by decide +kernel, rfl⟩
theorem dL_law_1795 : Dx cL_law 1795 (.iconst 0) 1 1796 := ⟨by decide +kernel, rfl⟩
theorem dL_law_1796 : Dx cL_law 1796 (.laload) 1 1797 := ⟨by decide +kernel, rfl⟩
theorem dL_law_1797 : Dx cL_law 1797 (.iload 7) 2 1799 := ⟨by decide +kernel, rfl⟩
theorem dL_law_1799 : Dx cL_law 1799 (.i2l) 1 1800 := ⟨by decide +kernel, rfl⟩
theorem dL_law_1800 : Dx cL_law 1800 (.lcmp) 1 1801 := ⟨by decide +kernel, rfl⟩
theorem dL_law_1801 : Dc cL_law 1801 (fun o => .ifCond .eq o) 1806 1804 := ⟨5, by decide +kernel, by decide, rfl⟩
theorem dL_law_1804 : Dx cL_law 1804 (.iconst 0) 1 1805 := ⟨by decide +kernel, rfl⟩
theorem dL_law_1805 : Dx cL_law 1805 (.ireturn) 1 1806 := ⟨by decide +kernel, rfl⟩
theorem dL_law_1806 : Dc cL_law 1806 (fun o => .goto o) 2186 1809 := ⟨380, by decide +kernel, by decide, rfl⟩
theorem dL_law_1809 : Dx cL_law 1809 (.aload_n 1) 1 1810 := ⟨by decide +kernel, rfl⟩
theorem dL_law_1810 : Dx cL_law 1810 (.aload_n 0) 1 1811 := ⟨by decide +kernel, rfl⟩
theorem dL_law_1811 : Dx cL_law 1811 (.iload 5) 2 1813 := ⟨by decide +kernel, rfl⟩
theorem dL_law_1813 : Dx cL_law 1813 (.iconst 1) 1 1814 := ⟨by decide +kernel, rfl⟩
theorem dL_law_1814 : Dx cL_law 1814 (.iadd) 1 1815 := ⟨by decide +kernel, rfl⟩
theorem dL_law_1815 : Dx cL_law 1815 (.iaload) 1 1816 := ⟨by decide +kernel, rfl⟩
theorem dL_law_1816 : Dx cL_law 1816 (.aload_n 3) 1 1817 := ⟨by decide +kernel, rfl⟩
theorem dL_law_1817 : Dx cL_law 1817 (.invokestatic 228) 3 1820 := ⟨by decide +kernel, rfl⟩
theorem dL_law_1820 : Dx cL_law 1820 (.istore 6) 2 1822 := ⟨by decide +kernel, rfl⟩
theorem dL_law_1822 : Dx cL_law 1822 (.aload_n 2) 1 1823 := ⟨by decide +kernel, rfl⟩
theorem dL_law_1823 : Dx cL_law 1823 (.aload_n 0) 1 1824 := ⟨by decide +kernel, rfl⟩
theorem dL_law_1824 : Dx cL_law 1824 (.iload 5) 2 1826 := ⟨by decide +kernel, rfl⟩
theorem dL_law_1826 : Dx cL_law 1826 (.iconst 1) 1 1827 := ⟨by decide +kernel, rfl⟩
theorem dL_law_1827 : Dx cL_law 1827 (.iadd) 1 1828 := ⟨by decide +kernel, rfl⟩
theorem dL_law_1828 : Dx cL_law 1828 (.iaload) 1 1829 := ⟨by decide +kernel, rfl⟩
theorem dL_law_1829 : Dx cL_law 1829 (.invokevirtual 230) 3 1832 := ⟨by decide +kernel, rfl⟩
theorem dL_law_1832 : Dx cL_law 1832 (.istore 7) 2 1834 := ⟨by decide +kernel, rfl⟩
theorem dL_law_1834 : Dx cL_law 1834 (.aload_n 2) 1 1835 := ⟨by decide +kernel, rfl⟩
theorem dL_law_1835 : Dx cL_law 1835 (.invokevirtual 134) 3 1838 := ⟨by decide +kernel, rfl⟩
theorem dL_law_1838 : Dx cL_law 1838 (.iload 6) 2 1840 := ⟨by decide +kernel, rfl⟩
theorem dL_law_1840 : Dc cL_law 1840 (fun o => .if_icmp .eq o) 1845 1843 := ⟨5, by decide +kernel, by decide, rfl⟩
theorem dL_law_1843 : Dx cL_law 1843 (.iconst 0) 1 1844 := ⟨by decide +kernel, rfl⟩
theorem dL_law_1844 : Dx cL_law 1844 (.ireturn) 1 1845 := ⟨by decide +kernel, rfl⟩
theorem dL_law_1845 : Dx cL_law 1845 (.iload 6) 2 1847 := ⟨by decide +kernel, rfl⟩
theorem dL_law_1847 : Dc cL_law 1847 (fun o => .ifCond .ne o) 1862 1850 := ⟨15, by decide +kernel, by decide, rfl⟩
theorem dL_law_1850 : Dx cL_law 1850 (.aload_n 3) 1 1851 := ⟨by decide +kernel, rfl⟩
theorem dL_law_1851 : Dx cL_law 1851 (.iconst 0) 1 1852 := ⟨by decide +kernel, rfl⟩
theorem dL_law_1852 : Dx cL_law 1852 (.laload) 1 1853 := ⟨by decide +kernel, rfl⟩
theorem dL_law_1853 : Dx cL_law 1853 (.iload 7) 2 1855 := ⟨by decide +kernel, rfl⟩
theorem dL_law_1855 : Dx cL_law 1855 (.i2l) 1 1856 := ⟨by decide +kernel, rfl⟩
theorem dL_law_1856 : Dx cL_law 1856 (.lcmp) 1 1857 := ⟨by decide +kernel, rfl⟩
theorem dL_law_1857 : Dc cL_law 1857 (fun o => .ifCond .eq o) 1862 1860 := ⟨5, by decide +kernel, by decide, rfl⟩
theorem dL_law_1860 : Dx cL_law 1860 (.iconst 0) 1 1861 := ⟨by decide +kernel, rfl⟩
theorem dL_law_1861 : Dx cL_law 1861 (.ireturn) 1 1862 := ⟨by decide +kernel, rfl⟩
theorem dL_law_1862 : Dc cL_law 1862 (fun o => .goto o) 2186 1865 := ⟨324, by decide +kernel, by decide, rfl⟩
theorem dL_law_1865 : Dx cL_law 1865 (.aload_n 1) 1 1866 := ⟨by decide +kernel, rfl⟩
theorem dL_law_1866 : Dx cL_law 1866 (.aload_n 0) 1 1867 := ⟨by decide +kernel, rfl⟩
theorem dL_law_1867 : Dx cL_law 1867 (.iload 5) 2 1869 := ⟨by decide +kernel, rfl⟩
theorem dL_law_1869 : Dx cL_law 1869 (.iconst 1) 1 1870 := ⟨by decide +kernel, rfl⟩
theorem dL_law_1870 : Dx cL_law 1870 (.iadd) 1 1871 := ⟨by decide +kernel, rfl⟩
theorem dL_law_1871 : Dx cL_law 1871 (.iaload) 1 1872 := ⟨by decide +kernel, rfl⟩
theorem dL_law_1872 : Dx cL_law 1872 (.aload_n 3) 1 1873 := ⟨by decide +kernel, rfl⟩
theorem dL_law_1873 : Dx cL_law 1873 (.invokestatic 231) 3 1876 := ⟨by decide +kernel, rfl⟩
theorem dL_law_1876 : Dx cL_law 1876 (.istore 6) 2 1878 := ⟨by decide +kernel, rfl⟩
theorem dL_law_1878 : Dx cL_law 1878 (.aload_n 2) 1 1879 := ⟨by decide +kernel, rfl⟩
theorem dL_law_1879 : Dx cL_law 1879 (.aload_n 0) 1 1880 := ⟨by decide +kernel, rfl⟩
theorem dL_law_1880 : Dx cL_law 1880 (.iload 5) 2 1882 := ⟨by decide +kernel, rfl⟩
theorem dL_law_1882 : Dx cL_law 1882 (.iconst 1) 1 1883 := ⟨by decide +kernel, rfl⟩
theorem dL_law_1883 : Dx cL_law 1883 (.iadd) 1 1884 := ⟨by decide +kernel, rfl⟩
theorem dL_law_1884 : Dx cL_law 1884 (.iaload) 1 1885 := ⟨by decide +kernel, rfl⟩
theorem dL_law_1885 : Dx cL_law 1885 (.invokevirtual 233) 3 1888 := ⟨by decide +kernel, rfl⟩
theorem dL_law_1888 : Dx cL_law 1888 (.istore 7) 2 1890 := ⟨by decide +kernel, rfl⟩
theorem dL_law_1890 : Dx cL_law 1890 (.aload_n 2) 1 1891 := ⟨by decide +kernel, rfl⟩
theorem dL_law_1891 : Dx cL_law 1891 (.invokevirtual 134) 3 1894 := ⟨by decide +kernel, rfl⟩
theorem dL_law_1894 : Dx cL_law 1894 (.iload 6) 2 1896 := ⟨by decide +kernel, rfl⟩
theorem dL_law_1896 : Dc cL_law 1896 (fun o => .if_icmp .eq o) 1901 1899 := ⟨5, by decide +kernel, by decide, rfl⟩
theorem dL_law_1899 : Dx cL_law 1899 (.iconst 0) 1 1900 := ⟨by decide +kernel, rfl⟩
theorem dL_law_1900 : Dx cL_law 1900 (.ireturn) 1 1901 := ⟨by decide +kernel, rfl⟩
theorem dL_law_1901 : Dx cL_law 1901 (.iload 6) 2 1903 := ⟨by decide +kernel, rfl⟩
theorem dL_law_1903 : Dc cL_law 1903 (fun o => .ifCond .ne o) 1918 1906 := ⟨15, by decide +kernel, by decide, rfl⟩
theorem dL_law_1906 : Dx cL_law 1906 (.aload_n 3) 1 1907 := ⟨by decide +kernel, rfl⟩
theorem dL_law_1907 : Dx cL_law 1907 (.iconst 0) 1 1908 := ⟨by decide +kernel, rfl⟩
theorem dL_law_1908 : Dx cL_law 1908 (.laload) 1 1909 := ⟨by decide +kernel, rfl⟩
theorem dL_law_1909 : Dx cL_law 1909 (.iload 7) 2 1911 := ⟨by decide +kernel, rfl⟩
theorem dL_law_1911 : Dx cL_law 1911 (.i2l) 1 1912 := ⟨by decide +kernel, rfl⟩
theorem dL_law_1912 : Dx cL_law 1912 (.lcmp) 1 1913 := ⟨by decide +kernel, rfl⟩
theorem dL_law_1913 : Dc cL_law 1913 (fun o => .ifCond .eq o) 1918 1916 := ⟨5, by decide +kernel, by decide, rfl⟩
theorem dL_law_1916 : Dx cL_law 1916 (.iconst 0) 1 1917 := ⟨by decide +kernel, rfl⟩
theorem dL_law_1917 : Dx cL_law 1917 (.ireturn) 1 1918 := ⟨by decide +kernel, rfl⟩
theorem dL_law_1918 : Dc cL_law 1918 (fun o => .goto o) 2186 1921 := ⟨268, by decide +kernel, by decide, rfl⟩
theorem dL_law_1921 : Dx cL_law 1921 (.aload_n 1) 1 1922 := ⟨by decide +kernel, rfl⟩
theorem dL_law_1922 : Dx cL_law 1922 (.aload 4) 2 1924 := ⟨by decide +kernel, rfl⟩
theorem dL_law_1924 : Dx cL_law 1924 (.invokestatic 234) 3 1927 := ⟨by decide +kernel, rfl⟩
theorem dL_law_1927 : Dx cL_law 1927 (.istore 6) 2 1929 := ⟨by decide +kernel, rfl⟩
theorem dL_law_1929 : Dx cL_law 1929 (.aload_n 2) 1 1930 := ⟨by decide +kernel, rfl⟩
theorem dL_law_1930 : Dx cL_law 1930 (.invokevirtual 237) 3 1933 := ⟨by decide +kernel, rfl⟩
theorem dL_law_1933 : Dx cL_law 1933 (.dstore 7) 2 1935 := ⟨by decide +kernel, rfl⟩
theorem dL_law_1935 : Dx cL_law 1935 (.aload_n 2) 1 1936 := ⟨by decide +kernel, rfl⟩
theorem dL_law_1936 : Dx cL_law 1936 (.invokevirtual 134) 3 1939 := ⟨by decide +kernel, rfl⟩
theorem dL_law_1939 : Dx cL_law 1939 (.iload 6) 2 1941 := ⟨by decide +kernel, rfl⟩
theorem dL_law_1941 : Dc cL_law 1941 (fun o => .if_icmp .eq o) 1946 1944 := ⟨5, by decide +kernel, by decide, rfl⟩
theorem dL_law_1944 : Dx cL_law 1944 (.iconst 0) 1 1945 := ⟨by decide +kernel, rfl⟩
theorem dL_law_1945 : Dx cL_law 1945 (.ireturn) 1 1946 := ⟨by decide +kernel, rfl⟩
theorem dL_law_1946 : Dx cL_law 1946 (.iload 6) 2 1948 := ⟨by decide +kernel, rfl⟩
theorem dL_law_1948 : Dc cL_law 1948 (fun o => .ifCond .ne o) 1983 1951 := ⟨35, by decide +kernel, by decide, rfl⟩
theorem dL_law_1951 : Dx cL_law 1951 (.aload 4) 2 1953 := ⟨by decide +kernel, rfl⟩
theorem dL_law_1953 : Dx cL_law 1953 (.iconst 0) 1 1954 := ⟨by decide +kernel, rfl⟩
theorem dL_law_1954 : Dx cL_law 1954 (.daload) 1 1955 := ⟨by decide +kernel, rfl⟩
theorem dL_law_1955 : Dx cL_law 1955 (.dload 7) 2 1957 := ⟨by decide +kernel, rfl⟩
theorem dL_law_1957 : Dx cL_law 1957 (.dcmp .l) 1 1958 := ⟨by decide +kernel, rfl⟩
theorem dL_law_1958 : Dc cL_law 1958 (fun o => .ifCond .eq o) 1983 1961 := ⟨25, by decide +kernel, by decide, rfl⟩
theorem dL_law_1961 : Dx cL_law 1961 (.aload 4) 2 1963 := ⟨by decide +kernel, rfl⟩
theorem dL_law_1963 : Dx cL_law 1963 (.iconst 0) 1 1964 := ⟨by decide +kernel, rfl⟩
theorem dL_law_1964 : Dx cL_law 1964 (.daload) 1 1965 := ⟨by decide +kernel, rfl⟩
theorem dL_law_1965 : Dx cL_law 1965 (.aload 4) 2 1967 := ⟨by decide +kernel, rfl⟩
theorem dL_law_1967 : Dx cL_law 1967 (.iconst 0) 1 1968 := ⟨by decide +kernel, rfl⟩
theorem dL_law_1968 : Dx cL_law 1968 (.daload) 1 1969 := ⟨by decide +kernel, rfl⟩
theorem dL_law_1969 : Dx cL_law 1969 (.dcmp .l) 1 1970 := ⟨by decide +kernel, rfl⟩
theorem dL_law_1970 : Dc cL_law 1970 (fun o => .ifCond .eq o) 1981 1973 := ⟨11, by decide +kernel, by decide, rfl⟩
theorem dL_law_1973 : Dx cL_law 1973 (.dload 7) 2 1975 := ⟨by decide +kernel, rfl⟩
theorem dL_law_1975 : Dx cL_law 1975 (.dload 7) 2 1977 := ⟨by decide +kernel, rfl⟩
theorem dL_law_1977 : Dx cL_law 1977 (.dcmp .l) 1 1978 := ⟨by decide +kernel, rfl⟩
theorem dL_law_1978 : Dc cL_law 1978 (fun o => .ifCond .ne o) 1983 1981 := ⟨5, by decide +kernel, by decide, rfl⟩
theorem dL_law_1981 : Dx cL_law 1981 (.iconst 0) 1 1982 := ⟨by decide +kernel, rfl⟩
theorem dL_law_1982 : Dx cL_law 1982 (.ireturn) 1 1983 := ⟨by decide +kernel, rfl⟩
theorem dL_law_1983 : Dc cL_law 1983 (fun o => .goto o) 2186 1986 := ⟨203, by decide +kernel, by decide, rfl⟩
theorem dL_law_1986 : Dx cL_law 1986 (.aload_n 1) 1 1987 := ⟨by decide +kernel, rfl⟩
theorem dL_law_1987 : Dx cL_law 1987 (.invokevirtual 238) 3 1990 := ⟨by decide +kernel, rfl⟩
theorem dL_law_1990 : Dx cL_law 1990 (.f2d) 1 1991 := ⟨by decide +kernel, rfl⟩
theorem dL_law_1991 : Dx cL_law 1991 (.dstore 6) 2 1993 := ⟨by decide +kernel, rfl⟩
theorem dL_law_1993 : Dx cL_law 1993 (.aload_n 2) 1 1994 := ⟨by decide +kernel, rfl⟩
theorem dL_law_1994 : Dx cL_law 1994 (.invokevirtual 242) 3 1997 := ⟨by decide +kernel, rfl⟩
theorem dL_law_1997 : Dx cL_law 1997 (.f2d) 1 1998 := ⟨by decide +kernel, rfl⟩
theorem dL_law_1998 : Dx cL_law 1998 (.dstore 8) 2 2000 := ⟨by decide +kernel, rfl⟩
theorem dL_law_2000 : Dx cL_law 2000 (.dload 6) 2 2002 := ⟨by decide +kernel, rfl⟩
theorem dL_law_2002 : Dx cL_law 2002 (.dload 8) 2 2004 := ⟨by decide +kernel, rfl⟩
theorem dL_law_2004 : Dx cL_law 2004 (.dcmp .l) 1 2005 := ⟨by decide +kernel, rfl⟩
theorem dL_law_2005 : Dc cL_law 2005 (fun o => .ifCond .eq o) 2026 2008 := ⟨21, by decide +kernel, by decide, rfl⟩
theorem dL_law_2008 : Dx cL_law 2008 (.dload 6) 2 2010 := ⟨by decide +kernel, rfl⟩
theorem dL_law_2010 : Dx cL_law 2010 (.dload 6) 2 2012 := ⟨by decide +kernel, rfl⟩
theorem dL_law_2012 : Dx cL_law 2012 (.dcmp .l) 1 2013 := ⟨by decide +kernel, rfl⟩
theorem dL_law_2013 : Dc cL_law 2013 (fun o => .ifCond .eq o) 2024 2016 := ⟨11, by decide +kernel, by decide, rfl⟩
theorem dL_law_2016 : Dx cL_law 2016 (.dload 8) 2 2018 := ⟨by decide +kernel, rfl⟩
theorem dL_law_2018 : Dx cL_law 2018 (.dload 8) 2 2020 := ⟨by decide +kernel, rfl⟩
theorem dL_law_2020 : Dx cL_law 2020 (.dcmp .l) 1 2021 := ⟨by decide +kernel, rfl⟩
theorem dL_law_2021 : Dc cL_law 2021 (fun o => .ifCond .ne o) 2026 2024 := ⟨5, by decide +kernel, by decide, rfl⟩
theorem dL_law_2024 : Dx cL_law 2024 (.iconst 0) 1 2025 := ⟨by decide +kernel, rfl⟩
theorem dL_law_2025 : Dx cL_law 2025 (.ireturn) 1 2026 := ⟨by decide +kernel, rfl⟩
theorem dL_law_2026 : Dc cL_law 2026 (fun o => .goto o) 2186 2029 := ⟨160, by decide +kernel, by decide, rfl⟩
theorem dL_law_2029 : Dx cL_law 2029 (.aload_n 1) 1 2030 := ⟨by decide +kernel, rfl⟩
theorem dL_law_2030 : Dx cL_law 2030 (.aload_n 0) 1 2031 := ⟨by decide +kernel, rfl⟩
theorem dL_law_2031 : Dx cL_law 2031 (.iload 5) 2 2033 := ⟨by decide +kernel, rfl⟩
theorem dL_law_2033 : Dx cL_law 2033 (.iconst 1) 1 2034 := ⟨by decide +kernel, rfl⟩
theorem dL_law_2034 : Dx cL_law 2034 (.iadd) 1 2035 := ⟨by decide +kernel, rfl⟩
theorem dL_law_2035 : Dx cL_law 2035 (.iaload) 1 2036 := ⟨by decide +kernel, rfl⟩
theorem dL_law_2036 : Dx cL_law 2036 (.aload_n 3) 1 2037 := ⟨by decide +kernel, rfl⟩
theorem dL_law_2037 : Dx cL_law 2037 (.invokestatic 243) 3 2040 := ⟨by decide +kernel, rfl⟩
theorem dL_law_2040 : Dx cL_law 2040 (.istore 6) 2 2042 := ⟨by decide +kernel, rfl⟩
theorem dL_law_2042 : Dx cL_law 2042 (.aload_n 2) 1 2043 := ⟨by decide +kernel, rfl⟩
theorem dL_law_2043 : Dx cL_law 2043 (.aload_n 0) 1 2044 := ⟨by decide +kernel, rfl⟩
theorem dL_law_2044 : Dx cL_law 2044 (.iload 5) 2 2046 := ⟨by decide +kernel, rfl⟩
theorem dL_law_2046 : Dx cL_law 2046 (.iconst 1) 1 2047 := ⟨by decide +kernel, rfl⟩
theorem dL_law_2047 : Dx cL_law 2047 (.iadd) 1 2048 := ⟨by decide +kernel, rfl⟩
theorem dL_law_2048 : Dx cL_law 2048 (.iaload) 1 2049 := ⟨by decide +kernel, rfl⟩
theorem dL_law_2049 : Dx cL_law 2049 (.invokevirtual 245) 3 2052 := ⟨by decide +kernel, rfl⟩
theorem dL_law_2052 : Dx cL_law 2052 (.istore 7) 2 2054 := ⟨by decide +kernel, rfl⟩
theorem dL_law_2054 : Dx cL_law 2054 (.aload_n 2) 1 2055 := ⟨by decide +kernel, rfl⟩
theorem dL_law_2055 : Dx cL_law 2055 (.invokevirtual 134) 3 2058 := ⟨by decide +kernel, rfl⟩
theorem dL_law_2058 : Dx cL_law 2058 (.iload 6) 2 2060 := ⟨by decide +kernel, rfl⟩
theorem dL_law_2060 : Dc cL_law 2060 (fun o => .if_icmp .eq o) 2065 2063 := ⟨5, by decide +kernel, by decide, rfl⟩
theorem dL_law_2063 : Dx cL_law 2063 (.iconst 0) 1 2064 := ⟨by decide +kernel, rfl⟩
theorem dL_law_2064 : Dx cL_law 2064 (.ireturn) 1 2065 := ⟨by decide +kernel, rfl⟩
theorem dL_law_2065 : Dx cL_law 2065 (.iload 6) 2 2067 := ⟨by decide +kernel, rfl⟩
theorem dL_law_2067 : Dc cL_law 2067 (fun o => .ifCond .ne o) 2082 2070 := ⟨15, by decide +kernel, by decide, rfl⟩
theorem dL_law_2070 : Dx cL_law 2070 (.aload_n 3) 1 2071 := ⟨by decide +kernel, rfl⟩
theorem dL_law_2071 : Dx cL_law 2071 (.iconst 0) 1 2072 := ⟨by decide +kernel, rfl⟩
theorem dL_law_2072 : Dx cL_law 2072 (.laload) 1 2073 := ⟨by decide +kernel, rfl⟩
theorem dL_law_2073 : Dx cL_law 2073 (.iload 7) 2 2075 := ⟨by decide +kernel, rfl⟩
theorem dL_law_2075 : Dx cL_law 2075 (.i2l) 1 2076 := ⟨by decide +kernel, rfl⟩
theorem dL_law_2076 : Dx cL_law 2076 (.lcmp) 1 2077 := ⟨by decide +kernel, rfl⟩
theorem dL_law_2077 : Dc cL_law 2077 (fun o => .ifCond .eq o) 2082 2080 := ⟨5, by decide +kernel, by decide, rfl⟩
theorem dL_law_2080 : Dx cL_law 2080 (.iconst 0) 1 2081 := ⟨by decide +kernel, rfl⟩
theorem dL_law_2081 : Dx cL_law 2081 (.ireturn) 1 2082 := ⟨by decide +kernel, rfl⟩
theorem dL_law_2082 : Dc cL_law 2082 (fun o => .goto o) 2186 2085 := ⟨104, by decide +kernel, by decide, rfl⟩
theorem dL_law_2085 : Dx cL_law 2085 (.aload_n 1) 1 2086 := ⟨by decide +kernel, rfl⟩
theorem dL_law_2086 : Dx cL_law 2086 (.aload_n 3) 1 2087 := ⟨by decide +kernel, rfl⟩
theorem dL_law_2087 : Dx cL_law 2087 (.invokestatic 246) 3 2090 := ⟨by decide +kernel, rfl⟩
theorem dL_law_2090 : Dx cL_law 2090 (.istore 6) 2 2092 := ⟨by decide +kernel, rfl⟩
theorem dL_law_2092 : Dx cL_law 2092 (.aload_n 2) 1 2093 := ⟨by decide +kernel, rfl⟩
theorem dL_law_2093 : Dx cL_law 2093 (.invokevirtual 248) 3 2096 := ⟨by decide +kernel, rfl⟩
theorem dL_law_2096 : Dx cL_law 2096 (.istore 7) 2 2098 := ⟨by decide +kernel, rfl⟩
theorem dL_law_2098 : Dx cL_law 2098 (.aload_n 2) 1 2099 := ⟨by decide +kernel, rfl⟩
theorem dL_law_2099 : Dx cL_law 2099 (.invokevirtual 134) 3 2102 := ⟨by decide +kernel, rfl⟩
theorem dL_law_2102 : Dx cL_law 2102 (.iload 6) 2 2104 := ⟨by decide +kernel, rfl⟩
theorem dL_law_2104 : Dc cL_law 2104 (fun o => .if_icmp .eq o) 2109 2107 := ⟨5, by decide +kernel, by decide, rfl⟩
theorem dL_law_2107 : Dx cL_law 2107 (.iconst 0) 1 2108 := ⟨by decide +kernel, rfl⟩
theorem dL_law_2108 : Dx cL_law 2108 (.ireturn) 1 2109 := ⟨by decide +kernel, rfl⟩
theorem dL_law_2109 : Dx cL_law 2109 (.iload 6) 2 2111 := ⟨by decide +kernel, rfl⟩
theorem dL_law_2111 : Dc cL_law 2111 (fun o => .ifCond .ne o) 2126 2114 := ⟨15, by decide +kernel, by decide, rfl⟩
theorem dL_law_2114 : Dx cL_law 2114 (.aload_n 3) 1 2115 := ⟨by decide +kernel, rfl⟩
theorem dL_law_2115 : Dx cL_law 2115 (.iconst 0) 1 2116 := ⟨by decide +kernel, rfl⟩
theorem dL_law_2116 : Dx cL_law 2116 (.laload) 1 2117 := ⟨by decide +kernel, rfl⟩
theorem dL_law_2117 : Dx cL_law 2117 (.iload 7) 2 2119 := ⟨by decide +kernel, rfl⟩
theorem dL_law_2119 : Dx cL_law 2119 (.i2l) 1 2120 := ⟨by decide +kernel, rfl⟩
theorem dL_law_2120 : Dx cL_law 2120 (.lcmp) 1 2121 := ⟨by decide +kernel, rfl⟩
theorem dL_law_2121 : Dc cL_law 2121 (fun o => .ifCond .eq o) 2126 2124 := ⟨5, by decide +kernel, by decide, rfl⟩
theorem dL_law_2124 : Dx cL_law 2124 (.iconst 0) 1 2125 := ⟨by decide +kernel, rfl⟩
theorem dL_law_2125 : Dx cL_law 2125 (.ireturn) 1 2126 := ⟨by decide +kernel, rfl⟩
theorem dL_law_2126 : Dc cL_law 2126 (fun o => .goto o) 2186 2129 := ⟨60, by decide +kernel, by decide, rfl⟩
theorem dL_law_2129 : Dx cL_law 2129 (.aload_n 1) 1 2130 := ⟨by decide +kernel, rfl⟩
theorem dL_law_2130 : Dx cL_law 2130 (.invokevirtual 249) 3 2133 := ⟨by decide +kernel, rfl⟩
theorem dL_law_2133 : Dx cL_law 2133 (.aload_n 2) 1 2134 := ⟨by decide +kernel, rfl⟩
theorem dL_law_2134 : Dx cL_law 2134 (.invokevirtual 252) 3 2137 := ⟨by decide +kernel, rfl⟩
theorem dL_law_2137 : Dc cL_law 2137 (fun o => .if_icmp .eq o) 2186 2140 := ⟨49, by decide +kernel, by decide, rfl⟩
theorem dL_law_2140 : Dx cL_law 2140 (.iconst 0) 1 2141 := ⟨by decide +kernel, rfl⟩
theorem dL_law_2141 : Dx cL_law 2141 (.ireturn) 1 2142 := ⟨by decide +kernel, rfl⟩
theorem dL_law_2142 : Dx cL_law 2142 (.aload_n 1) 1 2143 := ⟨by decide +kernel, rfl⟩
theorem dL_law_2143 : Dx cL_law 2143 (.aload_n 3) 1 2144 := ⟨by decide +kernel, rfl⟩
theorem dL_law_2144 : Dx cL_law 2144 (.invokestatic 253) 3 2147 := ⟨by decide +kernel, rfl⟩
theorem dL_law_2147 : Dx cL_law 2147 (.istore 6) 2 2149 := ⟨by decide +kernel, rfl⟩
theorem dL_law_2149 : Dx cL_law 2149 (.aload_n 2) 1 2150 := ⟨by decide +kernel, rfl⟩
theorem dL_law_2150 : Dx cL_law 2150 (.invokevirtual 255) 3 2153 := ⟨by decide +kernel, rfl⟩
theorem dL_law_2153 : Dx cL_law 2153 (.istore 7) 2 2155 := ⟨by decide +kernel, rfl⟩
theorem dL_law_2155 : Dx cL_law 2155 (.aload_n 2) 1 2156 := ⟨by decide +kernel, rfl⟩
theorem dL_law_2156 : Dx cL_law 2156 (.invokevirtual 134) 3 2159 := ⟨by decide +kernel, rfl⟩
theorem dL_law_2159 : Dx cL_law 2159 (.iload 6) 2 2161 := ⟨by decide +kernel, rfl⟩
theorem dL_law_2161 : Dc cL_law 2161 (fun o => .if_icmp .eq o) 2166 2164 := ⟨5, by decide +kernel, by decide, rfl⟩
theorem dL_law_2164 : Dx cL_law 2164 (.iconst 0) 1 2165 := ⟨by decide +kernel, rfl⟩
theorem dL_law_2165 : Dx cL_law 2165 (.ireturn) 1 2166 := ⟨by decide +kernel, rfl⟩
theorem dL_law_2166 : Dx cL_law 2166 (.iload 6) 2 2168 := ⟨by decide +kernel, rfl⟩
theorem dL_law_2168 : Dc cL_law 2168 (fun o => .ifCond .ne o) 2183 2171 := ⟨15, by decide +kernel, by decide, rfl⟩
theorem dL_law_2171 : Dx cL_law 2171 (.aload_n 3) 1 2172 := ⟨by decide +kernel, rfl⟩
theorem dL_law_2172 : Dx cL_law 2172 (.iconst 0) 1 2173 := ⟨by decide +kernel, rfl⟩
theorem dL_law_2173 : Dx cL_law 2173 (.laload) 1 2174 := ⟨by decide +kernel, rfl⟩
theorem dL_law_2174 : Dx cL_law 2174 (.iload 7) 2 2176 := ⟨by decide +kernel, rfl⟩
theorem dL_law_2176 : Dx cL_law 2176 (.i2l) 1 2177 := ⟨by decide +kernel, rfl⟩
theorem dL_law_2177 : Dx cL_law 2177 (.lcmp) 1 2178 := ⟨by decide +kernel, rfl⟩
theorem dL_law_2178 : Dc cL_law 2178 (fun o => .ifCond .eq o) 2183 2181 := ⟨5, by decide +kernel, by decide, rfl⟩
theorem dL_law_2181 : Dx cL_law 2181 (.iconst 0) 1 2182 := ⟨by decide +kernel, rfl⟩
theorem dL_law_2182 : Dx cL_law 2182 (.ireturn) 1 2183 := ⟨by decide +kernel, rfl⟩
theorem dL_law_2183 : Dc cL_law 2183 (fun o => .goto o) 2186 2186 := ⟨3, by decide +kernel, by decide, rfl⟩
theorem dL_law_2186 : Dx cL_law 2186 (.iinc 5 3) 3 2189 := ⟨by decide +kernel, rfl⟩
theorem dL_law_2189 : Dc cL_law 2189 (fun o => .goto o) 28 2192 := ⟨(-2161), by decide +kernel, by decide, rfl⟩
theorem dL_law_2192 : Dx cL_law 2192 (.iconst 1) 1 2193 := ⟨by decide +kernel, rfl⟩
theorem dL_law_2193 : Dx cL_law 2193 (.ireturn) 1 2194 := ⟨by decide +kernel, rfl⟩
