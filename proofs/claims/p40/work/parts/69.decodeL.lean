theorem dL_cell_0 : Dx cL_cell 0 (.ldc 7) 2 2 := ⟨by decide +kernel, rfl⟩
theorem dL_cell_2 : Dx cL_cell 2 (.iload_n 1) 1 3 := ⟨by decide +kernel, rfl⟩
theorem dL_cell_3 : Dx cL_cell 3 (.aload_n 0) 1 4 := ⟨by decide +kernel, rfl⟩
theorem dL_cell_4 : Dx cL_cell 4 (.arraylength) 1 5 := ⟨by decide +kernel, rfl⟩
theorem dL_cell_5 : Dc cL_cell 5 (fun o => .if_icmp .ge o) 14 8 := ⟨9, by decide +kernel, by decide, rfl⟩
theorem dL_cell_8 : Dx cL_cell 8 (.aload_n 0) 1 9 := ⟨by decide +kernel, rfl⟩
theorem dL_cell_9 : Dx cL_cell 9 (.iload_n 1) 1 10 := ⟨by decide +kernel, rfl⟩
theorem dL_cell_10 : Dx cL_cell 10 (.iaload) 1 11 := ⟨by decide +kernel, rfl⟩
theorem dL_cell_11 : Dc cL_cell 11 (fun o => .goto o) 15 14 := ⟨4, by decide +kernel, by decide, rfl⟩
theorem dL_cell_14 : Dx cL_cell 14 (.iconst 0) 1 15 := ⟨by decide +kernel, rfl⟩
theorem dL_cell_15 : Dx cL_cell 15 (.sipush 1009) 3 18 := ⟨by decide +kernel, rfl⟩
theorem dL_cell_18 : Dx cL_cell 18 (.iload_n 1) 1 19 := ⟨by decide +kernel, rfl⟩
theorem dL_cell_19 : Dx cL_cell 19 (.imul) 1 20 := ⟨by decide +kernel, rfl⟩
theorem dL_cell_20 : Dx cL_cell 20 (.iadd) 1 21 := ⟨by decide +kernel, rfl⟩
theorem dL_cell_21 : Dx cL_cell 21 (.imul) 1 22 := ⟨by decide +kernel, rfl⟩
theorem dL_cell_22 : Dx cL_cell 22 (.sipush 12345) 3 25 := ⟨by decide +kernel, rfl⟩
theorem dL_cell_25 : Dx cL_cell 25 (.iadd) 1 26 := ⟨by decide +kernel, rfl⟩
theorem dL_cell_26 : Dx cL_cell 26 (.istore_n 2) 1 27 := ⟨by decide +kernel, rfl⟩
theorem dL_cell_27 : Dx cL_cell 27 (.iload_n 2) 1 28 := ⟨by decide +kernel, rfl⟩
theorem dL_cell_28 : Dx cL_cell 28 (.iload_n 2) 1 29 := ⟨by decide +kernel, rfl⟩
theorem dL_cell_29 : Dx cL_cell 29 (.bipush 13) 2 31 := ⟨by decide +kernel, rfl⟩
theorem dL_cell_31 : Dx cL_cell 31 (.iushr) 1 32 := ⟨by decide +kernel, rfl⟩
theorem dL_cell_32 : Dx cL_cell 32 (.ixor) 1 33 := ⟨by decide +kernel, rfl⟩
theorem dL_cell_33 : Dx cL_cell 33 (.ldc 8) 2 35 := ⟨by decide +kernel, rfl⟩
theorem dL_cell_35 : Dx cL_cell 35 (.imul) 1 36 := ⟨by decide +kernel, rfl⟩
theorem dL_cell_36 : Dx cL_cell 36 (.istore_n 2) 1 37 := ⟨by decide +kernel, rfl⟩
theorem dL_cell_37 : Dx cL_cell 37 (.iload_n 2) 1 38 := ⟨by decide +kernel, rfl⟩
theorem dL_cell_38 : Dx cL_cell 38 (.iload_n 2) 1 39 := ⟨by decide +kernel, rfl⟩
theorem dL_cell_39 : Dx cL_cell 39 (.bipush 16) 2 41 := ⟨by decide +kernel, rfl⟩
theorem dL_cell_41 : Dx cL_cell 41 (.iushr) 1 42 := ⟨by decide +kernel, rfl⟩
theorem dL_cell_42 : Dx cL_cell 42 (.ixor) 1 43 := ⟨by decide +kernel, rfl⟩
theorem dL_cell_43 : Dx cL_cell 43 (.ireturn) 1 44 := ⟨by decide +kernel, rfl⟩
theorem dL_member_0 : Dx cL_member 0 (.aload_n 0) 1 1 := ⟨by decide +kernel, rfl⟩
theorem dL_member_1 : Dx cL_member 1 (.iload_n 1) 1 2 := ⟨by decide +kernel, rfl⟩
theorem dL_member_2 : Dx cL_member 2 (.invokevirtual 9) 3 5 := ⟨by decide +kernel, rfl⟩
theorem dL_member_5 : Dx cL_member 5 (.ireturn) 1 6 := ⟨by decide +kernel, rfl⟩
theorem dL_member_6 : Dx cL_member 6 (.astore_n 2) 1 7 := ⟨by decide +kernel, rfl⟩
theorem dL_member_7 : Dx cL_member 7 (.ldc 17) 2 9 := ⟨by decide +kernel, rfl⟩
theorem dL_member_9 : Dx cL_member 9 (.ireturn) 1 10 := ⟨by decide +kernel, rfl⟩
theorem dL_leave_0 : Dx cL_leave 0 (.aload_n 0) 1 1 := ⟨by decide +kernel, rfl⟩
theorem dL_leave_1 : Dx cL_leave 1 (.iload_n 1) 1 2 := ⟨by decide +kernel, rfl⟩
theorem dL_leave_2 : Dx cL_leave 2 (.invokevirtual 18) 3 5 := ⟨by decide +kernel, rfl⟩
theorem dL_leave_5 : Dx cL_leave 5 (.ireturn) 1 6 := ⟨by decide +kernel, rfl⟩
theorem dL_leave_6 : Dx cL_leave 6 (.astore_n 2) 1 7 := ⟨by decide +kernel, rfl⟩
theorem dL_leave_7 : Dx cL_leave 7 (.ldc 17) 2 9 := ⟨by decide +kernel, rfl⟩
theorem dL_leave_9 : Dx cL_leave 9 (.ireturn) 1 10 := ⟨by decide +kernel, rfl⟩
theorem dL_train_0 : Dx cL_train 0 (.aload_n 0) 1 1 := ⟨by decide +kernel, rfl⟩
theorem dL_train_1 : Dx cL_train 1 (.iload_n 1) 1 2 := ⟨by decide +kernel, rfl⟩
theorem dL_train_2 : Dx cL_train 2 (.invokevirtual 21) 3 5 := ⟨by decide +kernel, rfl⟩
theorem dL_train_5 : Dx cL_train 5 (.ireturn) 1 6 := ⟨by decide +kernel, rfl⟩
theorem dL_train_6 : Dx cL_train 6 (.astore_n 2) 1 7 := ⟨by decide +kernel, rfl⟩
theorem dL_train_7 : Dx cL_train 7 (.ldc 17) 2 9 := ⟨by decide +kernel, rfl⟩
theorem dL_train_9 : Dx cL_train 9 (.ireturn) 1 10 := ⟨by decide +kernel, rfl⟩
theorem dL_boat_0 : Dx cL_boat 0 (.aload_n 0) 1 1 := ⟨by decide +kernel, rfl⟩
theorem dL_boat_1 : Dx cL_boat 1 (.iload_n 1) 1 2 := ⟨by decide +kernel, rfl⟩
theorem dL_boat_2 : Dx cL_boat 2 (.iload_n 2) 1 3 := ⟨by decide +kernel, rfl⟩
theorem dL_boat_3 : Dx cL_boat 3 (.invokevirtual 24) 3 6 := ⟨by decide +kernel, rfl⟩
theorem dL_boat_6 : Dx cL_boat 6 (.ireturn) 1 7 := ⟨by decide +kernel, rfl⟩
theorem dL_boat_7 : Dx cL_boat 7 (.astore_n 3) 1 8 := ⟨by decide +kernel, rfl⟩
theorem dL_boat_8 : Dx cL_boat 8 (.ldc 17) 2 10 := ⟨by decide +kernel, rfl⟩
theorem dL_boat_10 : Dx cL_boat 10 (.ireturn) 1 11 := ⟨by decide +kernel, rfl⟩
theorem dL_call_0 : Dx cL_call 0 (.aload_n 0) 1 1 := ⟨by decide +kernel, rfl⟩
theorem dL_call_1 : Dx cL_call 1 (.iload_n 1) 1 2 := ⟨by decide +kernel, rfl⟩
theorem dL_call_2 : Dx cL_call 2 (.iload_n 2) 1 3 := ⟨by decide +kernel, rfl⟩
theorem dL_call_3 : Dx cL_call 3 (.invokevirtual 28) 3 6 := ⟨by decide +kernel, rfl⟩
theorem dL_call_6 : Dx cL_call 6 (.ireturn) 1 7 := ⟨by decide +kernel, rfl⟩
theorem dL_call_7 : Dx cL_call 7 (.astore_n 3) 1 8 := ⟨by decide +kernel, rfl⟩
theorem dL_call_8 : Dx cL_call 8 (.ldc 17) 2 10 := ⟨by decide +kernel, rfl⟩
theorem dL_call_10 : Dx cL_call 10 (.ireturn) 1 11 := ⟨by decide +kernel, rfl⟩
theorem dL_borrow_0 : Dx cL_borrow 0 (.aload_n 0) 1 1 := ⟨by decide +kernel, rfl⟩
theorem dL_borrow_1 : Dx cL_borrow 1 (.iload_n 1) 1 2 := ⟨by decide +kernel, rfl⟩
theorem dL_borrow_2 : Dx cL_borrow 2 (.iload_n 2) 1 3 := ⟨by decide +kernel, rfl⟩
theorem dL_borrow_3 : Dx cL_borrow 3 (.invokevirtual 31) 3 6 := ⟨by decide +kernel, rfl⟩
theorem dL_borrow_6 : Dx cL_borrow 6 (.ireturn) 1 7 := ⟨by decide +kernel, rfl⟩
theorem dL_borrow_7 : Dx cL_borrow 7 (.astore_n 3) 1 8 := ⟨by decide +kernel, rfl⟩
theorem dL_borrow_8 : Dx cL_borrow 8 (.ldc 17) 2 10 := ⟨by decide +kernel, rfl⟩
theorem dL_borrow_10 : Dx cL_borrow 10 (.ireturn) 1 11 := ⟨by decide +kernel, rfl⟩
theorem dL_giveBack_0 : Dx cL_giveBack 0 (.aload_n 0) 1 1 := ⟨by decide +kernel, rfl⟩
theorem dL_giveBack_1 : Dx cL_giveBack 1 (.iload_n 1) 1 2 := ⟨by decide +kernel, rfl⟩
theorem dL_giveBack_2 : Dx cL_giveBack 2 (.invokevirtual 34) 3 5 := ⟨by decide +kernel, rfl⟩
theorem dL_giveBack_5 : Dx cL_giveBack 5 (.ireturn) 1 6 := ⟨by decide +kernel, rfl⟩
theorem dL_giveBack_6 : Dx cL_giveBack 6 (.astore_n 2) 1 7 := ⟨by decide +kernel, rfl⟩
theorem dL_giveBack_7 : Dx cL_giveBack 7 (.ldc 17) 2 9 := ⟨by decide +kernel, rfl⟩
theorem dL_giveBack_9 : Dx cL_giveBack 9 (.ireturn) 1 10 := ⟨by decide +kernel, rfl⟩
theorem dL_limit_0 : Dx cL_limit 0 (.aload_n 0) 1 1 := ⟨by decide +kernel, rfl⟩
theorem dL_limit_1 : Dx cL_limit 1 (.iload_n 1) 1 2 := ⟨by decide +kernel, rfl⟩
theorem dL_limit_2 : Dx cL_limit 2 (.invokevirtual 37) 3 5 := ⟨by decide +kernel, rfl⟩
theorem dL_limit_5 : Dx cL_limit 5 (.ireturn) 1 6 := ⟨by decide +kernel, rfl⟩
theorem dL_limit_6 : Dx cL_limit 6 (.astore_n 2) 1 7 := ⟨by decide +kernel, rfl⟩
theorem dL_limit_7 : Dx cL_limit 7 (.ldc 17) 2 9 := ⟨by decide +kernel, rfl⟩
theorem dL_limit_9 : Dx cL_limit 9 (.ireturn) 1 10 := ⟨by decide +kernel, rfl⟩
theorem dL_pass_0 : Dx cL_pass 0 (.aload_n 0) 1 1 := ⟨by decide +kernel, rfl⟩
theorem dL_pass_1 : Dx cL_pass 1 (.iload_n 1) 1 2 := ⟨by decide +kernel, rfl⟩
theorem dL_pass_2 : Dx cL_pass 2 (.invokevirtual 40) 3 5 := ⟨by decide +kernel, rfl⟩
theorem dL_pass_5 : Dx cL_pass 5 (.ireturn) 1 6 := ⟨by decide +kernel, rfl⟩
theorem dL_pass_6 : Dx cL_pass 6 (.astore_n 2) 1 7 := ⟨by decide +kernel, rfl⟩
theorem dL_pass_7 : Dx cL_pass 7 (.ldc 17) 2 9 := ⟨by decide +kernel, rfl⟩
theorem dL_pass_9 : Dx cL_pass 9 (.ireturn) 1 10 := ⟨by decide +kernel, rfl⟩
theorem dL_wouldGo_0 : Dx cL_wouldGo 0 (.aload_n 0) 1 1 := ⟨by decide +kernel, rfl⟩
theorem dL_wouldGo_1 : Dx cL_wouldGo 1 (.iload_n 1) 1 2 := ⟨by decide +kernel, rfl⟩
theorem dL_wouldGo_2 : Dx cL_wouldGo 2 (.invokevirtual 43) 3 5 := ⟨by decide +kernel, rfl⟩
theorem dL_wouldGo_5 : Dx cL_wouldGo 5 (.ireturn) 1 6 := ⟨by decide +kernel, rfl⟩
theorem dL_wouldGo_6 : Dx cL_wouldGo 6 (.astore_n 2) 1 7 := ⟨by decide +kernel, rfl⟩
theorem dL_wouldGo_7 : Dx cL_wouldGo 7 (.ldc 17) 2 9 := ⟨by decide +kernel, rfl⟩
theorem dL_wouldGo_9 : Dx cL_wouldGo 9 (.ireturn) 1 10 := ⟨by decide +kernel, rfl⟩
theorem dL_wouldGo_10 : Dx cL_wouldGo 10 (.astore_n 2) 1 11 := ⟨by decide +kernel, rfl⟩
theorem dL_wouldGo_11 : Dx cL_wouldGo 11 (.ldc 50) 2 13 := ⟨by decide +kernel, rfl⟩
theorem dL_wouldGo_13 : Dx cL_wouldGo 13 (.ireturn) 1 14 := ⟨by decide +kernel, rfl⟩
theorem dL_weariness_0 : Dx cL_weariness 0 (.aload_n 0) 1 1 := ⟨by decide +kernel, rfl⟩
theorem dL_weariness_1 : Dx cL_weariness 1 (.iload_n 1) 1 2 := ⟨by decide +kernel, rfl⟩
theorem dL_weariness_2 : Dx cL_weariness 2 (.invokevirtual 51) 3 5 := ⟨by decide +kernel, rfl⟩
theorem dL_weariness_5 : Dx cL_weariness 5 (.ireturn) 1 6 := ⟨by decide +kernel, rfl⟩
theorem dL_weariness_6 : Dx cL_weariness 6 (.astore_n 2) 1 7 := ⟨by decide +kernel, rfl⟩
theorem dL_weariness_7 : Dx cL_weariness 7 (.ldc 17) 2 9 := ⟨by decide +kernel, rfl⟩
theorem dL_weariness_9 : Dx cL_weariness 9 (.ireturn) 1 10 := ⟨by decide +kernel, rfl⟩
theorem dL_weariness_10 : Dx cL_weariness 10 (.astore_n 2) 1 11 := ⟨by decide +kernel, rfl⟩
theorem dL_weariness_11 : Dx cL_weariness 11 (.ldc 50) 2 13 := ⟨by decide +kernel, rfl⟩
theorem dL_weariness_13 : Dx cL_weariness 13 (.ireturn) 1 14 := ⟨by decide +kernel, rfl⟩
theorem dL_wearinessAgain_0 : Dx cL_wearinessAgain 0 (.aload_n 0) 1 1 := ⟨by decide +kernel, rfl⟩
theorem dL_wearinessAgain_1 : Dx cL_wearinessAgain 1 (.iload_n 1) 1 2 := ⟨by decide +kernel, rfl⟩
theorem dL_wearinessAgain_2 : Dx cL_wearinessAgain 2 (.invokevirtual 54) 3 5 := ⟨by decide +kernel, rfl⟩
theorem dL_wearinessAgain_5 : Dx cL_wearinessAgain 5 (.ireturn) 1 6 := ⟨by decide +kernel, rfl⟩
theorem dL_wearinessAgain_6 : Dx cL_wearinessAgain 6 (.astore_n 2) 1 7 := ⟨by decide +kernel, rfl⟩
theorem dL_wearinessAgain_7 : Dx cL_wearinessAgain 7 (.ldc 17) 2 9 := ⟨by decide +kernel, rfl⟩
theorem dL_wearinessAgain_9 : Dx cL_wearinessAgain 9 (.ireturn) 1 10 := ⟨by decide +kernel, rfl⟩
theorem dL_wearinessAgain_10 : Dx cL_wearinessAgain 10 (.astore_n 2) 1 11 := ⟨by decide +kernel, rfl⟩
theorem dL_wearinessAgain_11 : Dx cL_wearinessAgain 11 (.ldc 50) 2 13 := ⟨by decide +kernel, rfl⟩
theorem dL_wearinessAgain_13 : Dx cL_wearinessAgain 13 (.ireturn) 1 14 := ⟨by decide +kernel, rfl⟩
theorem dL_callableIn_0 : Dx cL_callableIn 0 (.aload_n 0) 1 1 := ⟨by decide +kernel, rfl⟩
theorem dL_callableIn_1 : Dx cL_callableIn 1 (.iload_n 1) 1 2 := ⟨by decide +kernel, rfl⟩
theorem dL_callableIn_2 : Dx cL_callableIn 2 (.invokevirtual 57) 3 5 := ⟨by decide +kernel, rfl⟩
theorem dL_callableIn_5 : Dx cL_callableIn 5 (.ireturn) 1 6 := ⟨by decide +kernel, rfl⟩
theorem dL_callableIn_6 : Dx cL_callableIn 6 (.astore_n 2) 1 7 := ⟨by decide +kernel, rfl⟩
theorem dL_callableIn_7 : Dx cL_callableIn 7 (.ldc 17) 2 9 := ⟨by decide +kernel, rfl⟩
theorem dL_callableIn_9 : Dx cL_callableIn 9 (.ireturn) 1 10 := ⟨by decide +kernel, rfl⟩
theorem dL_callableIn_10 : Dx cL_callableIn 10 (.astore_n 2) 1 11 := ⟨by decide +kernel, rfl⟩
theorem dL_callableIn_11 : Dx cL_callableIn 11 (.ldc 50) 2 13 := ⟨by decide +kernel, rfl⟩
theorem dL_callableIn_13 : Dx cL_callableIn 13 (.ireturn) 1 14 := ⟨by decide +kernel, rfl⟩
theorem dL_homeIn_0 : Dx cL_homeIn 0 (.aload_n 0) 1 1 := ⟨by decide +kernel, rfl⟩
theorem dL_homeIn_1 : Dx cL_homeIn 1 (.iload_n 1) 1 2 := ⟨by decide +kernel, rfl⟩
theorem dL_homeIn_2 : Dx cL_homeIn 2 (.invokevirtual 60) 3 5 := ⟨by decide +kernel, rfl⟩
theorem dL_homeIn_5 : Dx cL_homeIn 5 (.ireturn) 1 6 := ⟨by decide +kernel, rfl⟩
theorem dL_homeIn_6 : Dx cL_homeIn 6 (.astore_n 2) 1 7 := ⟨by decide +kernel, rfl⟩
theorem dL_homeIn_7 : Dx cL_homeIn 7 (.ldc 17) 2 9 := ⟨by decide +kernel, rfl⟩
theorem dL_homeIn_9 : Dx cL_homeIn 9 (.ireturn) 1 10 := ⟨by decide +kernel, rfl⟩
theorem dL_homeIn_10 : Dx cL_homeIn 10 (.astore_n 2) 1 11 := ⟨by decide +kernel, rfl⟩
theorem dL_homeIn_11 : Dx cL_homeIn 11 (.ldc 50) 2 13 := ⟨by decide +kernel, rfl⟩
theorem dL_homeIn_13 : Dx cL_homeIn 13 (.ireturn) 1 14 := ⟨by decide +kernel, rfl⟩
theorem dL_homeInAgain_0 : Dx cL_homeInAgain 0 (.aload_n 0) 1 1 := ⟨by decide +kernel, rfl⟩
theorem dL_homeInAgain_1 : Dx cL_homeInAgain 1 (.iload_n 1) 1 2 := ⟨by decide +kernel, rfl⟩
theorem dL_homeInAgain_2 : Dx cL_homeInAgain 2 (.invokevirtual 63) 3 5 := ⟨by decide +kernel, rfl⟩
theorem dL_homeInAgain_5 : Dx cL_homeInAgain 5 (.ireturn) 1 6 := ⟨by decide +kernel, rfl⟩
theorem dL_homeInAgain_6 : Dx cL_homeInAgain 6 (.astore_n 2) 1 7 := ⟨by decide +kernel, rfl⟩
theorem dL_homeInAgain_7 : Dx cL_homeInAgain 7 (.ldc 17) 2 9 := ⟨by decide +kernel, rfl⟩
theorem dL_homeInAgain_9 : Dx cL_homeInAgain 9 (.ireturn) 1 10 := ⟨by decide +kernel, rfl⟩
theorem dL_homeInAgain_10 : Dx cL_homeInAgain 10 (.astore_n 2) 1 11 := ⟨by decide +kernel, rfl⟩
theorem dL_homeInAgain_11 : Dx cL_homeInAgain 11 (.ldc 50) 2 13 := ⟨by decide +kernel, rfl⟩
theorem dL_homeInAgain_13 : Dx cL_homeInAgain 13 (.ireturn) 1 14 := ⟨by decide +kernel, rfl⟩
theorem dL_least_0 : Dx cL_least 0 (.aload_n 0) 1 1 := ⟨by decide +kernel, rfl⟩
theorem dL_least_1 : Dx cL_least 1 (.iload_n 1) 1 2 := ⟨by decide +kernel, rfl⟩
theorem dL_least_2 : Dx cL_least 2 (.invokevirtual 66) 3 5 := ⟨by decide +kernel, rfl⟩
theorem dL_least_5 : Dx cL_least 5 (.ireturn) 1 6 := ⟨by decide +kernel, rfl⟩
theorem dL_least_6 : Dx cL_least 6 (.astore_n 2) 1 7 := ⟨by decide +kernel, rfl⟩
theorem dL_least_7 : Dx cL_least 7 (.ldc 17) 2 9 := ⟨by decide +kernel, rfl⟩
theorem dL_least_9 : Dx cL_least 9 (.ireturn) 1 10 := ⟨by decide +kernel, rfl⟩
theorem dL_busiest_0 : Dx cL_busiest 0 (.aload_n 0) 1 1 := ⟨by decide +kernel, rfl⟩
theorem dL_busiest_1 : Dx cL_busiest 1 (.iload_n 1) 1 2 := ⟨by decide +kernel, rfl⟩
theorem dL_busiest_2 : Dx cL_busiest 2 (.invokevirtual 69) 3 5 := ⟨by decide +kernel, rfl⟩
theorem dL_busiest_5 : Dx cL_busiest 5 (.ireturn) 1 6 := ⟨by decide +kernel, rfl⟩
theorem dL_busiest_6 : Dx cL_busiest 6 (.astore_n 2) 1 7 := ⟨by decide +kernel, rfl⟩
theorem dL_busiest_7 : Dx cL_busiest 7 (.ldc 17) 2 9 := ⟨by decide +kernel, rfl⟩
theorem dL_busiest_9 : Dx cL_busiest 9 (.ireturn) 1 10 := ⟨by decide +kernel, rfl⟩
theorem dL_commands_0 : Dx cL_commands 0 (.aload_n 0) 1 1 := ⟨by decide +kernel, rfl⟩
theorem dL_commands_1 : Dx cL_commands 1 (.invokevirtual 72) 3 4 := ⟨by decide +kernel, rfl⟩
theorem dL_commands_4 : Dx cL_commands 4 (.ireturn) 1 5 := ⟨by decide +kernel, rfl⟩
theorem dL_commands_5 : Dx cL_commands 5 (.astore_n 1) 1 6 := ⟨by decide +kernel, rfl⟩
theorem dL_commands_6 : Dx cL_commands 6 (.ldc 17) 2 8 := ⟨by decide +kernel, rfl⟩
theorem dL_commands_8 : Dx cL_commands 8 (.ireturn) 1 9 := ⟨by decide +kernel, rfl⟩
theorem dL_commands_9 : Dx cL_commands 9 (.astore_n 1) 1 10 := ⟨by decide +kernel, rfl⟩
theorem dL_commands_10 : Dx cL_commands 10 (.ldc 50) 2 12 := ⟨by decide +kernel, rfl⟩
theorem dL_commands_12 : Dx cL_commands 12 (.ireturn) 1 13 := ⟨by decide +kernel, rfl⟩
theorem dL_undo_0 : Dx cL_undo 0 (.aload_n 0) 1 1 := ⟨by decide +kernel, rfl⟩
theorem dL_undo_1 : Dx cL_undo 1 (.invokevirtual 78) 3 4 := ⟨by decide +kernel, rfl⟩
theorem dL_undo_4 : Dx cL_undo 4 (.ireturn) 1 5 := ⟨by decide +kernel, rfl⟩
theorem dL_undo_5 : Dx cL_undo 5 (.astore_n 1) 1 6 := ⟨by decide +kernel, rfl⟩
theorem dL_undo_6 : Dx cL_undo 6 (.ldc 17) 2 8 := ⟨by decide +kernel, rfl⟩
theorem dL_undo_8 : Dx cL_undo 8 (.ireturn) 1 9 := ⟨by decide +kernel, rfl⟩
theorem dL_restore_0 : Dx cL_restore 0 (.aload_n 0) 1 1 := ⟨by decide +kernel, rfl⟩
theorem dL_restore_1 : Dx cL_restore 1 (.invokevirtual 83) 3 4 := ⟨by decide +kernel, rfl⟩
theorem dL_restore_4 : Dx cL_restore 4 (.ireturn) 1 5 := ⟨by decide +kernel, rfl⟩
theorem dL_restore_5 : Dx cL_restore 5 (.astore_n 1) 1 6 := ⟨by decide +kernel, rfl⟩
theorem dL_restore_6 : Dx cL_restore 6 (.ldc 17) 2 8 := ⟨by decide +kernel, rfl⟩
theorem dL_restore_8 : Dx cL_restore 8 (.ireturn) 1 9 := ⟨by decide +kernel, rfl⟩
theorem dL_in_0 : Dx cL_in 0 (.aload_n 0) 1 1 := ⟨by decide +kernel, rfl⟩
theorem dL_in_1 : Dx cL_in 1 (.iload_n 1) 1 2 := ⟨by decide +kernel, rfl⟩
theorem dL_in_2 : Dx cL_in 2 (.invokestatic 86) 3 5 := ⟨by decide +kernel, rfl⟩
theorem dL_in_5 : Dx cL_in 5 (.ldc 92) 2 7 := ⟨by decide +kernel, rfl⟩
theorem dL_in_7 : Dx cL_in 7 (.iand) 1 8 := ⟨by decide +kernel, rfl⟩
theorem dL_in_8 : Dx cL_in 8 (.iload_n 2) 1 9 := ⟨by decide +kernel, rfl⟩
theorem dL_in_9 : Dx cL_in 9 (.irem) 1 10 := ⟨by decide +kernel, rfl⟩
theorem dL_in_10 : Dx cL_in 10 (.ireturn) 1 11 := ⟨by decide +kernel, rfl⟩
theorem dL_does_0 : Dx cL_does 0 (.iconst 0) 1 1 := ⟨by decide +kernel, rfl⟩
theorem dL_does_1 : Dx cL_does 1 (.istore_n 2) 1 2 := ⟨by decide +kernel, rfl⟩
theorem dL_does_2 : Dx cL_does 2 (.iconst 0) 1 3 := ⟨by decide +kernel, rfl⟩
theorem dL_does_3 : Dx cL_does 3 (.istore_n 3) 1 4 := ⟨by decide +kernel, rfl⟩
theorem dL_does_4 : Dx cL_does 4 (.iload_n 3) 1 5 := ⟨by decide +kernel, rfl⟩
theorem dL_does_5 : Dx cL_does 5 (.aload_n 1) 1 6 := ⟨by decide +kernel, rfl⟩
theorem dL_does_6 : Dx cL_does 6 (.invokevirtual 93) 3 9 := ⟨by decide +kernel, rfl⟩
theorem dL_does_9 : Dc cL_does 9 (fun o => .if_icmp .ge o) 30 12 := ⟨21, by decide +kernel, by decide, rfl⟩
theorem dL_does_12 : Dx cL_does 12 (.iload_n 2) 1 13 := ⟨by decide +kernel, rfl⟩
theorem dL_does_13 : Dx cL_does 13 (.aload_n 0) 1 14 := ⟨by decide +kernel, rfl⟩
theorem dL_does_14 : Dx cL_does 14 (.aload_n 1) 1 15 := ⟨by decide +kernel, rfl⟩
theorem dL_does_15 : Dx cL_does 15 (.iload_n 3) 1 16 := ⟨by decide +kernel, rfl⟩
theorem dL_does_16 : Dx cL_does 16 (.invokevirtual 98) 3 19 := ⟨by decide +kernel, rfl⟩
theorem dL_does_19 : Dx cL_does 19 (.invokevirtual 102) 3 22 := ⟨by decide +kernel, rfl⟩
theorem dL_does_22 : Dx cL_does 22 (.iadd) 1 23 := ⟨by decide +kernel, rfl⟩
theorem dL_does_23 : Dx cL_does 23 (.istore_n 2) 1 24 := ⟨by decide +kernel, rfl⟩
theorem dL_does_24 : Dx cL_does 24 (.iinc 3 1) 3 27 := ⟨by decide +kernel, rfl⟩
theorem dL_does_27 : Dc cL_does 27 (fun o => .goto o) 4 30 := ⟨(-23), by decide +kernel, by decide, rfl⟩
theorem dL_does_30 : Dx cL_does 30 (.iload_n 2) 1 31 := ⟨by decide +kernel, rfl⟩
theorem dL_does_31 : Dx cL_does 31 (.ldc 106) 2 33 := ⟨by decide +kernel, rfl⟩
theorem dL_does_33 : Dc cL_does 33 (fun o => .if_icmp .ge o) 40 36 := ⟨7, by decide +kernel, by decide, rfl⟩
theorem dL_does_36 : Dx cL_does 36 (.iload_n 2) 1 37 := ⟨by decide +kernel, rfl⟩
theorem dL_does_37 : Dc cL_does 37 (fun o => .goto o) 44 40 := ⟨7, by decide +kernel, by decide, rfl⟩
theorem dL_does_40 : Dx cL_does 40 (.aload_n 0) 1 41 := ⟨by decide +kernel, rfl⟩
theorem dL_does_41 : Dx cL_does 41 (.invokestatic 107) 3 44 := ⟨by decide +kernel, rfl⟩
theorem dL_does_44 : Dx cL_does 44 (.ireturn) 1 45 := ⟨by decide +kernel, rfl⟩
theorem dL_bits_0 : Dx cL_bits 0 (.iload_n 0) 1 1 := ⟨by decide +kernel, rfl⟩
theorem dL_bits_1 : Dx cL_bits 1 (.invokestatic 110) 3 4 := ⟨by decide +kernel, rfl⟩
theorem dL_bits_4 : Dx cL_bits 4 (.ireturn) 1 5 := ⟨by decide +kernel, rfl⟩
theorem dL_begun_0 : Dx cL_begun 0 (.new 10) 3 3 := ⟨by decide +kernel, rfl⟩
theorem dL_begun_3 : Dx cL_begun 3 (.dup) 1 4 := ⟨by decide +kernel, rfl⟩
theorem dL_begun_4 : Dx cL_begun 4 (.invokespecial 115) 3 7 := ⟨by decide +kernel, rfl⟩
theorem dL_begun_7 : Dx cL_begun 7 (.astore_n 1) 1 8 := ⟨by decide +kernel, rfl⟩
theorem dL_begun_8 : Dx cL_begun 8 (.iconst 0) 1 9 := ⟨by decide +kernel, rfl⟩
theorem dL_begun_9 : Dx cL_begun 9 (.istore_n 2) 1 10 := ⟨by decide +kernel, rfl⟩
theorem dL_begun_10 : Dx cL_begun 10 (.iconst 0) 1 11 := ⟨by decide +kernel, rfl⟩
theorem dL_begun_11 : Dx cL_begun 11 (.istore_n 3) 1 12 := ⟨by decide +kernel, rfl⟩
theorem dL_begun_12 : Dx cL_begun 12 (.iload_n 3) 1 13 := ⟨by decide +kernel, rfl⟩
theorem dL_begun_13 : Dx cL_begun 13 (.bipush 8) 2 15 := ⟨by decide +kernel, rfl⟩
theorem dL_begun_15 : Dc cL_begun 15 (fun o => .if_icmp .ge o) 45 18 := ⟨30, by decide +kernel, by decide, rfl⟩
theorem dL_begun_18 : Dx cL_begun 18 (.iload_n 2) 1 19 := ⟨by decide +kernel, rfl⟩
theorem dL_begun_19 : Dx cL_begun 19 (.aload_n 1) 1 20 := ⟨by decide +kernel, rfl⟩
theorem dL_begun_20 : Dx cL_begun 20 (.iload_n 3) 1 21 := ⟨by decide +kernel, rfl⟩
theorem dL_begun_21 : Dc cL_begun 21 (fun o => .ifCond .ne o) 28 24 := ⟨7, by decide +kernel, by decide, rfl⟩
theorem dL_begun_24 : Dx cL_begun 24 (.iconst 2) 1 25 := ⟨by decide +kernel, rfl⟩
theorem dL_begun_25 : Dc cL_begun 25 (fun o => .goto o) 34 28 := ⟨9, by decide +kernel, by decide, rfl⟩
theorem dL_begun_28 : Dx cL_begun 28 (.aload_n 0) 1 29 := ⟨by decide +kernel, rfl⟩
theorem dL_begun_29 : Dx cL_begun 29 (.iload_n 3) 1 30 := ⟨by decide +kernel, rfl⟩
theorem dL_begun_30 : Dx cL_begun 30 (.iconst 3) 1 31 := ⟨by decide +kernel, rfl⟩
theorem dL_begun_31 : Dx cL_begun 31 (.invokestatic 116) 3 34 := ⟨by decide +kernel, rfl⟩
theorem dL_begun_34 : Dx cL_begun 34 (.invokestatic 120) 3 37 := ⟨by decide +kernel, rfl⟩
theorem dL_begun_37 : Dx cL_begun 37 (.iadd) 1 38 := ⟨by decide +kernel, rfl⟩
theorem dL_begun_38 : Dx cL_begun 38 (.istore_n 2) 1 39 := ⟨by decide +kernel, rfl⟩
theorem dL_begun_39 : Dx cL_begun 39 (.iinc 3 1) 3 42 := ⟨by decide +kernel, rfl⟩
theorem dL_begun_42 : Dc cL_begun 42 (fun o => .goto o) 12 45 := ⟨(-30), by decide +kernel, by decide, rfl⟩
theorem dL_begun_45 : Dx cL_begun 45 (.iconst 0) 1 46 := ⟨by decide +kernel, rfl⟩
theorem dL_begun_46 : Dx cL_begun 46 (.istore_n 3) 1 47 := ⟨by decide +kernel, rfl⟩
theorem dL_begun_47 : Dx cL_begun 47 (.iload_n 3) 1 48 := ⟨by decide +kernel, rfl⟩
theorem dL_begun_48 : Dx cL_begun 48 (.iconst 3) 1 49 := ⟨by decide +kernel, rfl⟩
theorem dL_begun_49 : Dc cL_begun 49 (fun o => .if_icmp .ge o) 86 52 := ⟨37, by decide +kernel, by decide, rfl⟩
theorem dL_begun_52 : Dx cL_begun 52 (.iload_n 2) 1 53 := ⟨by decide +kernel, rfl⟩
theorem dL_begun_53 : Dx cL_begun 53 (.aload_n 1) 1 54 := ⟨by decide +kernel, rfl⟩
theorem dL_begun_54 : Dx cL_begun 54 (.aload_n 0) 1 55 := ⟨by decide +kernel, rfl⟩
theorem dL_begun_55 : Dx cL_begun 55 (.bipush 8) 2 57 := ⟨by decide +kernel, rfl⟩
theorem dL_begun_57 : Dx cL_begun 57 (.iload_n 3) 1 58 := ⟨by decide +kernel, rfl⟩
theorem dL_begun_58 : Dx cL_begun 58 (.iadd) 1 59 := ⟨by decide +kernel, rfl⟩
theorem dL_begun_59 : Dx cL_begun 59 (.bipush 7) 2 61 := ⟨by decide +kernel, rfl⟩
theorem dL_begun_61 : Dx cL_begun 61 (.invokestatic 116) 3 64 := ⟨by decide +kernel, rfl⟩
theorem dL_begun_64 : Dx cL_begun 64 (.iconst 2) 1 65 := ⟨by decide +kernel, rfl⟩
theorem dL_begun_65 : Dx cL_begun 65 (.aload_n 0) 1 66 := ⟨by decide +kernel, rfl⟩
theorem dL_begun_66 : Dx cL_begun 66 (.bipush 11) 2 68 := ⟨by decide +kernel, rfl⟩
theorem dL_begun_68 : Dx cL_begun 68 (.iload_n 3) 1 69 := ⟨by decide +kernel, rfl⟩
theorem dL_begun_69 : Dx cL_begun 69 (.iadd) 1 70 := ⟨by decide +kernel, rfl⟩
theorem dL_begun_70 : Dx cL_begun 70 (.iconst 5) 1 71 := ⟨by decide +kernel, rfl⟩
theorem dL_begun_71 : Dx cL_begun 71 (.invokestatic 116) 3 74 := ⟨by decide +kernel, rfl⟩
theorem dL_begun_74 : Dx cL_begun 74 (.iadd) 1 75 := ⟨by decide +kernel, rfl⟩
theorem dL_begun_75 : Dx cL_begun 75 (.invokestatic 123) 3 78 := ⟨by decide +kernel, rfl⟩
theorem dL_begun_78 : Dx cL_begun 78 (.iadd) 1 79 := ⟨by decide +kernel, rfl⟩
theorem dL_begun_79 : Dx cL_begun 79 (.istore_n 2) 1 80 := ⟨by decide +kernel, rfl⟩
theorem dL_begun_80 : Dx cL_begun 80 (.iinc 3 1) 3 83 := ⟨by decide +kernel, rfl⟩
theorem dL_begun_83 : Dc cL_begun 83 (fun o => .goto o) 47 86 := ⟨(-36), by decide +kernel, by decide, rfl⟩
theorem dL_begun_86 : Dx cL_begun 86 (.iload_n 2) 1 87 := ⟨by decide +kernel, rfl⟩
theorem dL_begun_87 : Dx cL_begun 87 (.aload_n 0) 1 88 := ⟨by decide +kernel, rfl⟩
theorem dL_begun_88 : Dx cL_begun 88 (.bipush 14) 2 90 := ⟨by decide +kernel, rfl⟩
theorem dL_begun_90 : Dx cL_begun 90 (.iconst 2) 1 91 := ⟨by decide +kernel, rfl⟩
theorem dL_begun_91 : Dx cL_begun 91 (.invokestatic 116) 3 94 := ⟨by decide +kernel, rfl⟩
theorem dL_begun_94 : Dc cL_begun 94 (fun o => .ifCond .ne o) 124 97 := ⟨30, by decide +kernel, by decide, rfl⟩
theorem dL_begun_97 : Dx cL_begun 97 (.aload_n 1) 1 98 := ⟨by decide +kernel, rfl⟩
theorem dL_begun_98 : Dx cL_begun 98 (.iconst 1) 1 99 := ⟨by decide +kernel, rfl⟩
theorem dL_begun_99 : Dx cL_begun 99 (.aload_n 0) 1 100 := ⟨by decide +kernel, rfl⟩
theorem dL_begun_100 : Dx cL_begun 100 (.bipush 15) 2 102 := ⟨by decide +kernel, rfl⟩
theorem dL_begun_102 : Dx cL_begun 102 (.bipush 9) 2 104 := ⟨by decide +kernel, rfl⟩
theorem dL_begun_104 : Dx cL_begun 104 (.invokestatic 116) 3 107 := ⟨by decide +kernel, rfl⟩
theorem dL_begun_107 : Dx cL_begun 107 (.iadd) 1 108 := ⟨by decide +kernel, rfl⟩
theorem dL_begun_108 : Dx cL_begun 108 (.iconst 1) 1 109 := ⟨by decide +kernel, rfl⟩
theorem dL_begun_109 : Dx cL_begun 109 (.aload_n 0) 1 110 := ⟨by decide +kernel, rfl⟩
theorem dL_begun_110 : Dx cL_begun 110 (.bipush 16) 2 112 := ⟨by decide +kernel, rfl⟩
theorem dL_begun_112 : Dx cL_begun 112 (.bipush 20) 2 114 := ⟨by decide +kernel, rfl⟩
theorem dL_begun_114 : Dx cL_begun 114 (.invokestatic 116) 3 117 := ⟨by decide +kernel, rfl⟩
theorem dL_begun_117 : Dx cL_begun 117 (.iadd) 1 118 := ⟨by decide +kernel, rfl⟩
theorem dL_begun_118 : Dx cL_begun 118 (.invokestatic 126) 3 121 := ⟨by decide +kernel, rfl⟩
theorem dL_begun_121 : Dc cL_begun 121 (fun o => .goto o) 125 124 := ⟨4, by decide +kernel, by decide, rfl⟩
theorem dL_begun_124 : Dx cL_begun 124 (.iconst 0) 1 125 := ⟨by decide +kernel, rfl⟩
theorem dL_begun_125 : Dx cL_begun 125 (.iadd) 1 126 := ⟨by decide +kernel, rfl⟩
theorem dL_begun_126 : Dx cL_begun 126 (.istore_n 2) 1 127 := ⟨by decide +kernel, rfl⟩
theorem dL_begun_127 : Dx cL_begun 127 (.iload_n 2) 1 128 := ⟨by decide +kernel, rfl⟩
theorem dL_begun_128 : Dx cL_begun 128 (.aload_n 0) 1 129 := ⟨by decide +kernel, rfl⟩
theorem dL_begun_129 : Dx cL_begun 129 (.bipush 17) 2 131 := ⟨by decide +kernel, rfl⟩
theorem dL_begun_131 : Dx cL_begun 131 (.iconst 3) 1 132 := ⟨by decide +kernel, rfl⟩
theorem dL_begun_132 : Dx cL_begun 132 (.invokestatic 116) 3 135 := ⟨by decide +kernel, rfl⟩
theorem dL_begun_135 : Dc cL_begun 135 (fun o => .ifCond .ne o) 155 138 := ⟨20, by decide +kernel, by decide, rfl⟩
theorem dL_begun_138 : Dx cL_begun 138 (.aload_n 1) 1 139 := ⟨by decide +kernel, rfl⟩
theorem dL_begun_139 : Dx cL_begun 139 (.iconst 1) 1 140 := ⟨by decide +kernel, rfl⟩
theorem dL_begun_140 : Dx cL_begun 140 (.aload_n 0) 1 141 := ⟨by decide +kernel, rfl⟩
theorem dL_begun_141 : Dx cL_begun 141 (.bipush 18) 2 143 := ⟨by decide +kernel, rfl⟩
theorem dL_begun_143 : Dx cL_begun 143 (.bipush 20) 2 145 := ⟨by decide +kernel, rfl⟩
theorem dL_begun_145 : Dx cL_begun 145 (.invokestatic 116) 3 148 := ⟨by decide +kernel, rfl⟩
theorem dL_begun_148 : Dx cL_begun 148 (.iadd) 1 149 := ⟨by decide +kernel, rfl⟩
theorem dL_begun_149 : Dx cL_begun 149 (.invokestatic 128) 3 152 := ⟨by decide +kernel, rfl⟩
theorem dL_begun_152 : Dc cL_begun 152 (fun o => .goto o) 156 155 := ⟨4, by decide +kernel, by decide, rfl⟩
theorem dL_begun_155 : Dx cL_begun 155 (.iconst 0) 1 156 := ⟨by decide +kernel, rfl⟩
theorem dL_begun_156 : Dx cL_begun 156 (.iadd) 1 157 := ⟨by decide +kernel, rfl⟩
theorem dL_begun_157 : Dx cL_begun 157 (.istore_n 2) 1 158 := ⟨by decide +kernel, rfl⟩
theorem dL_begun_158 : Dx cL_begun 158 (.iload_n 2) 1 159 := ⟨by decide +kernel, rfl⟩
theorem dL_begun_159 : Dx cL_begun 159 (.aload_n 1) 1 160 := ⟨by decide +kernel, rfl⟩
theorem dL_begun_160 : Dx cL_begun 160 (.iconst 1) 1 161 := ⟨by decide +kernel, rfl⟩
theorem dL_begun_161 : Dx cL_begun 161 (.aload_n 0) 1 162 := ⟨by decide +kernel, rfl⟩
theorem dL_begun_162 : Dx cL_begun 162 (.bipush 19) 2 164 := ⟨by decide +kernel, rfl⟩
theorem dL_begun_164 : Dx cL_begun 164 (.bipush 12) 2 166 := ⟨by decide +kernel, rfl⟩
theorem dL_begun_166 : Dx cL_begun 166 (.invokestatic 116) 3 169 := ⟨by decide +kernel, rfl⟩
theorem dL_begun_169 : Dx cL_begun 169 (.iadd) 1 170 := ⟨by decide +kernel, rfl⟩
theorem dL_begun_170 : Dx cL_begun 170 (.invokestatic 130) 3 173 := ⟨by decide +kernel, rfl⟩
theorem dL_begun_173 : Dx cL_begun 173 (.aload_n 1) 1 174 := ⟨by decide +kernel, rfl⟩
theorem dL_begun_174 : Dx cL_begun 174 (.aload_n 0) 1 175 := ⟨by decide +kernel, rfl⟩
theorem dL_begun_175 : Dx cL_begun 175 (.bipush 20) 2 177 := ⟨by decide +kernel, rfl⟩
theorem dL_begun_177 : Dx cL_begun 177 (.iconst 3) 1 178 := ⟨by decide +kernel, rfl⟩
theorem dL_begun_178 : Dx cL_begun 178 (.invokestatic 116) 3 181 := ⟨by decide +kernel, rfl⟩
theorem dL_begun_181 : Dx cL_begun 181 (.iconst 1) 1 182 := ⟨by decide +kernel, rfl⟩
theorem dL_begun_182 : Dx cL_begun 182 (.aload_n 0) 1 183 := ⟨by decide +kernel, rfl⟩
theorem dL_begun_183 : Dx cL_begun 183 (.bipush 21) 2 185 := ⟨by decide +kernel, rfl⟩
theorem dL_begun_185 : Dx cL_begun 185 (.bipush 9) 2 187 := ⟨by decide +kernel, rfl⟩
theorem dL_begun_187 : Dx cL_begun 187 (.invokestatic 116) 3 190 := ⟨by decide +kernel, rfl⟩
theorem dL_begun_190 : Dx cL_begun 190 (.iadd) 1 191 := ⟨by decide +kernel, rfl⟩
theorem dL_begun_191 : Dx cL_begun 191 (.invokestatic 132) 3 194 := ⟨by decide +kernel, rfl⟩
theorem dL_begun_194 : Dx cL_begun 194 (.iadd) 1 195 := ⟨by decide +kernel, rfl⟩
theorem dL_begun_195 : Dx cL_begun 195 (.iadd) 1 196 := ⟨by decide +kernel, rfl⟩
theorem dL_begun_196 : Dx cL_begun 196 (.istore_n 2) 1 197 := ⟨by decide +kernel, rfl⟩
theorem dL_begun_197 : Dx cL_begun 197 (.iload_n 2) 1 198 := ⟨by decide +kernel, rfl⟩
theorem dL_begun_198 : Dx cL_begun 198 (.ldc 134) 2 200 := ⟨by decide +kernel, rfl⟩
theorem dL_begun_200 : Dc cL_begun 200 (fun o => .if_icmp .ge o) 207 203 := ⟨7, by decide +kernel, by decide, rfl⟩
theorem dL_begun_203 : Dx cL_begun 203 (.aconst_null) 1 204 := ⟨by decide +kernel, rfl⟩
theorem dL_begun_204 : Dc cL_begun 204 (fun o => .goto o) 208 207 := ⟨4, by decide +kernel, by decide, rfl⟩
theorem dL_begun_207 : Dx cL_begun 207 (.aload_n 1) 1 208 := ⟨by decide +kernel, rfl⟩
theorem dL_begun_208 : Dx cL_begun 208 (.areturn) 1 209 := ⟨by decide +kernel, rfl⟩
theorem dL_acts_0 : Dx cL_acts 0 (.aload_n 1) 1 1 := ⟨by decide +kernel, rfl⟩
theorem dL_acts_1 : Dx cL_acts 1 (.iload_n 2) 1 2 := ⟨by decide +kernel, rfl⟩
theorem dL_acts_2 : Dx cL_acts 2 (.iconst 1) 1 3 := ⟨by decide +kernel, rfl⟩
theorem dL_acts_3 : Dx cL_acts 3 (.iadd) 1 4 := ⟨by decide +kernel, rfl⟩
theorem dL_acts_4 : Dx cL_acts 4 (.sipush 1000) 3 7 := ⟨by decide +kernel, rfl⟩
theorem dL_acts_7 : Dx cL_acts 7 (.invokestatic 116) 3 10 := ⟨by decide +kernel, rfl⟩
theorem dL_acts_10 : Dx cL_acts 10 (.istore_n 3) 1 11 := ⟨by decide +kernel, rfl⟩
theorem dL_acts_11 : Dx cL_acts 11 (.aload_n 1) 1 12 := ⟨by decide +kernel, rfl⟩
theorem dL_acts_12 : Dx cL_acts 12 (.iload_n 2) 1 13 := ⟨by decide +kernel, rfl⟩
theorem dL_acts_13 : Dx cL_acts 13 (.iconst 2) 1 14 := ⟨by decide +kernel, rfl⟩
theorem dL_acts_14 : Dx cL_acts 14 (.iadd) 1 15 := ⟨by decide +kernel, rfl⟩
theorem dL_acts_15 : Dx cL_acts 15 (.sipush 1000) 3 18 := ⟨by decide +kernel, rfl⟩
theorem dL_acts_18 : Dx cL_acts 18 (.invokestatic 116) 3 21 := ⟨by decide +kernel, rfl⟩
theorem dL_acts_21 : Dx cL_acts 21 (.istore 4) 2 23 := ⟨by decide +kernel, rfl⟩
theorem dL_acts_23 : Dx cL_acts 23 (.aload_n 1) 1 24 := ⟨by decide +kernel, rfl⟩
theorem dL_acts_24 : Dx cL_acts 24 (.iload_n 2) 1 25 := ⟨by decide +kernel, rfl⟩
theorem dL_acts_25 : Dx cL_acts 25 (.bipush 16) 2 27 := ⟨by decide +kernel, rfl⟩
theorem dL_acts_27 : Dx cL_acts 27 (.invokestatic 116) 3 30 := ⟨by decide +kernel, rfl⟩
theorem dL_acts_30 : Dx cL_acts 30 (.tableswitch 254 0 12 #[66, 66, 66, 66, 81, 89, 98, 107, 107, 125, 133, 144, 144]) 66 96 := ⟨by decide +kernel, rfl⟩
theorem dL_acts_96 : Dx cL_acts 96 (.aload_n 0) 1 97 := ⟨by decide +kernel, rfl⟩
theorem dL_acts_97 : Dx cL_acts 97 (.iload_n 3) 1 98 := ⟨by decide +kernel, rfl⟩
theorem dL_acts_98 : Dx cL_acts 98 (.iconst 3) 1 99 := ⟨by decide +kernel, rfl⟩
theorem dL_acts_99 : Dx cL_acts 99 (.irem) 1 100 := ⟨by decide +kernel, rfl⟩
theorem dL_acts_100 : Dx cL_acts 100 (.iconst 1) 1 101 := ⟨by decide +kernel, rfl⟩
theorem dL_acts_101 : Dx cL_acts 101 (.iload 4) 2 103 := ⟨by decide +kernel, rfl⟩
theorem dL_acts_103 : Dx cL_acts 103 (.bipush 9) 2 105 := ⟨by decide +kernel, rfl⟩
theorem dL_acts_105 : Dx cL_acts 105 (.irem) 1 106 := ⟨by decide +kernel, rfl⟩
theorem dL_acts_106 : Dx cL_acts 106 (.iadd) 1 107 := ⟨by decide +kernel, rfl⟩
theorem dL_acts_107 : Dx cL_acts 107 (.invokestatic 132) 3 110 := ⟨by decide +kernel, rfl⟩
theorem dL_acts_110 : Dx cL_acts 110 (.ireturn) 1 111 := ⟨by decide +kernel, rfl⟩
theorem dL_acts_111 : Dx cL_acts 111 (.aload_n 0) 1 112 := ⟨by decide +kernel, rfl⟩
theorem dL_acts_112 : Dx cL_acts 112 (.iload_n 3) 1 113 := ⟨by decide +kernel, rfl⟩
theorem dL_acts_113 : Dx cL_acts 113 (.iconst 3) 1 114 := ⟨by decide +kernel, rfl⟩
theorem dL_acts_114 : Dx cL_acts 114 (.irem) 1 115 := ⟨by decide +kernel, rfl⟩
theorem dL_acts_115 : Dx cL_acts 115 (.invokestatic 120) 3 118 := ⟨by decide +kernel, rfl⟩
theorem dL_acts_118 : Dx cL_acts 118 (.ireturn) 1 119 := ⟨by decide +kernel, rfl⟩
theorem dL_acts_119 : Dx cL_acts 119 (.aload_n 0) 1 120 := ⟨by decide +kernel, rfl⟩
theorem dL_acts_120 : Dx cL_acts 120 (.iload_n 3) 1 121 := ⟨by decide +kernel, rfl⟩
theorem dL_acts_121 : Dx cL_acts 121 (.bipush 11) 2 123 := ⟨by decide +kernel, rfl⟩
theorem dL_acts_123 : Dx cL_acts 123 (.irem) 1 124 := ⟨by decide +kernel, rfl⟩
theorem dL_acts_124 : Dx cL_acts 124 (.invokestatic 135) 3 127 := ⟨by decide +kernel, rfl⟩
theorem dL_acts_127 : Dx cL_acts 127 (.ireturn) 1 128 := ⟨by decide +kernel, rfl⟩
theorem dL_acts_128 : Dx cL_acts 128 (.aload_n 0) 1 129 := ⟨by decide +kernel, rfl⟩
theorem dL_acts_129 : Dx cL_acts 129 (.iload_n 3) 1 130 := ⟨by decide +kernel, rfl⟩
theorem dL_acts_130 : Dx cL_acts 130 (.bipush 11) 2 132 := ⟨by decide +kernel, rfl⟩
theorem dL_acts_132 : Dx cL_acts 132 (.irem) 1 133 := ⟨by decide +kernel, rfl⟩
theorem dL_acts_133 : Dx cL_acts 133 (.invokestatic 137) 3 136 := ⟨by decide +kernel, rfl⟩
theorem dL_acts_136 : Dx cL_acts 136 (.ireturn) 1 137 := ⟨by decide +kernel, rfl⟩
theorem dL_acts_137 : Dx cL_acts 137 (.aload_n 0) 1 138 := ⟨by decide +kernel, rfl⟩
theorem dL_acts_138 : Dx cL_acts 138 (.iconst 1) 1 139 := ⟨by decide +kernel, rfl⟩
theorem dL_acts_139 : Dx cL_acts 139 (.iload_n 3) 1 140 := ⟨by decide +kernel, rfl⟩
theorem dL_acts_140 : Dx cL_acts 140 (.bipush 9) 2 142 := ⟨by decide +kernel, rfl⟩
theorem dL_acts_142 : Dx cL_acts 142 (.irem) 1 143 := ⟨by decide +kernel, rfl⟩
theorem dL_acts_143 : Dx cL_acts 143 (.iadd) 1 144 := ⟨by decide +kernel, rfl⟩
theorem dL_acts_144 : Dx cL_acts 144 (.iconst 1) 1 145 := ⟨by decide +kernel, rfl⟩
theorem dL_acts_145 : Dx cL_acts 145 (.iload 4) 2 147 := ⟨by decide +kernel, rfl⟩
theorem dL_acts_147 : Dx cL_acts 147 (.bipush 30) 2 149 := ⟨by decide +kernel, rfl⟩
theorem dL_acts_149 : Dx cL_acts 149 (.irem) 1 150 := ⟨by decide +kernel, rfl⟩
theorem dL_acts_150 : Dx cL_acts 150 (.iadd) 1 151 := ⟨by decide +kernel, rfl⟩
theorem dL_acts_151 : Dx cL_acts 151 (.invokestatic 126) 3 154 := ⟨by decide +kernel, rfl⟩
theorem dL_acts_154 : Dx cL_acts 154 (.ireturn) 1 155 := ⟨by decide +kernel, rfl⟩
theorem dL_acts_155 : Dx cL_acts 155 (.aload_n 0) 1 156 := ⟨by decide +kernel, rfl⟩
theorem dL_acts_156 : Dx cL_acts 156 (.iload_n 3) 1 157 := ⟨by decide +kernel, rfl⟩
theorem dL_acts_157 : Dx cL_acts 157 (.iconst 5) 1 158 := ⟨by decide +kernel, rfl⟩
theorem dL_acts_158 : Dx cL_acts 158 (.irem) 1 159 := ⟨by decide +kernel, rfl⟩
theorem dL_acts_159 : Dx cL_acts 159 (.invokestatic 139) 3 162 := ⟨by decide +kernel, rfl⟩
theorem dL_acts_162 : Dx cL_acts 162 (.ireturn) 1 163 := ⟨by decide +kernel, rfl⟩
theorem dL_acts_163 : Dx cL_acts 163 (.aload_n 0) 1 164 := ⟨by decide +kernel, rfl⟩
theorem dL_acts_164 : Dx cL_acts 164 (.iconst 1) 1 165 := ⟨by decide +kernel, rfl⟩
theorem dL_acts_165 : Dx cL_acts 165 (.iload_n 3) 1 166 := ⟨by decide +kernel, rfl⟩
theorem dL_acts_166 : Dx cL_acts 166 (.bipush 20) 2 168 := ⟨by decide +kernel, rfl⟩
theorem dL_acts_168 : Dx cL_acts 168 (.irem) 1 169 := ⟨by decide +kernel, rfl⟩
theorem dL_acts_169 : Dx cL_acts 169 (.iadd) 1 170 := ⟨by decide +kernel, rfl⟩
theorem dL_acts_170 : Dx cL_acts 170 (.invokestatic 128) 3 173 := ⟨by decide +kernel, rfl⟩
theorem dL_acts_173 : Dx cL_acts 173 (.ireturn) 1 174 := ⟨by decide +kernel, rfl⟩
theorem dL_acts_174 : Dx cL_acts 174 (.aload_n 0) 1 175 := ⟨by decide +kernel, rfl⟩
theorem dL_acts_175 : Dx cL_acts 175 (.new 141) 3 178 := ⟨by decide +kernel, rfl⟩
theorem dL_acts_178 : Dx cL_acts 178 (.dup) 1 179 := ⟨by decide +kernel, rfl⟩
theorem dL_acts_179 : Dx cL_acts 179 (.invokespecial 143) 3 182 := ⟨by decide +kernel, rfl⟩
theorem dL_acts_182 : Dx cL_acts 182 (.ldc 144) 2 184 := ⟨by decide +kernel, rfl⟩
theorem dL_acts_184 : Dx cL_acts 184 (.invokevirtual 146) 3 187 := ⟨by decide +kernel, rfl⟩
theorem dL_acts_187 : Dx cL_acts 187 (.iconst 1) 1 188 := ⟨by decide +kernel, rfl⟩
theorem dL_acts_188 : Dx cL_acts 188 (.iload_n 3) 1 189 := ⟨by decide +kernel, rfl⟩
theorem dL_acts_189 : Dx cL_acts 189 (.bipush 20) 2 191 := ⟨by decide +kernel, rfl⟩
theorem dL_acts_191 : Dx cL_acts 191 (.irem) 1 192 := ⟨by decide +kernel, rfl⟩
theorem dL_acts_192 : Dx cL_acts 192 (.iadd) 1 193 := ⟨by decide +kernel, rfl⟩
theorem dL_acts_193 : Dx cL_acts 193 (.invokevirtual 149) 3 196 := ⟨by decide +kernel, rfl⟩
theorem dL_acts_196 : Dx cL_acts 196 (.ldc 152) 2 198 := ⟨by decide +kernel, rfl⟩
theorem dL_acts_198 : Dx cL_acts 198 (.invokevirtual 146) 3 201 := ⟨by decide +kernel, rfl⟩
theorem dL_acts_201 : Dx cL_acts 201 (.iload 4) 2 203 := ⟨by decide +kernel, rfl⟩
theorem dL_acts_203 : Dx cL_acts 203 (.iconst 3) 1 204 := ⟨by decide +kernel, rfl⟩
theorem dL_acts_204 : Dx cL_acts 204 (.irem) 1 205 := ⟨by decide +kernel, rfl⟩
theorem dL_acts_205 : Dx cL_acts 205 (.invokevirtual 149) 3 208 := ⟨by decide +kernel, rfl⟩
theorem dL_acts_208 : Dx cL_acts 208 (.iconst 1) 1 209 := ⟨by decide +kernel, rfl⟩
theorem dL_acts_209 : Dx cL_acts 209 (.iload_n 3) 1 210 := ⟨by decide +kernel, rfl⟩
theorem dL_acts_210 : Dx cL_acts 210 (.bipush 9) 2 212 := ⟨by decide +kernel, rfl⟩
theorem dL_acts_212 : Dx cL_acts 212 (.irem) 1 213 := ⟨by decide +kernel, rfl⟩
theorem dL_acts_213 : Dx cL_acts 213 (.iadd) 1 214 := ⟨by decide +kernel, rfl⟩
theorem dL_acts_214 : Dx cL_acts 214 (.invokevirtual 149) 3 217 := ⟨by decide +kernel, rfl⟩
theorem dL_acts_217 : Dx cL_acts 217 (.iload_n 3) 1 218 := ⟨by decide +kernel, rfl⟩
theorem dL_acts_218 : Dx cL_acts 218 (.iconst 3) 1 219 := ⟨by decide +kernel, rfl⟩
theorem dL_acts_219 : Dx cL_acts 219 (.irem) 1 220 := ⟨by decide +kernel, rfl⟩
theorem dL_acts_220 : Dc cL_acts 220 (fun o => .ifCond .ne o) 251 223 := ⟨31, by decide +kernel, by decide, rfl⟩
theorem dL_acts_223 : Dx cL_acts 223 (.new 141) 3 226 := ⟨by decide +kernel, rfl⟩
theorem dL_acts_226 : Dx cL_acts 226 (.dup) 1 227 := ⟨by decide +kernel, rfl⟩
theorem dL_acts_227 : Dx cL_acts 227 (.invokespecial 143) 3 230 := ⟨by decide +kernel, rfl⟩
theorem dL_acts_230 : Dx cL_acts 230 (.ldc 154) 2 232 := ⟨by decide +kernel, rfl⟩
theorem dL_acts_232 : Dx cL_acts 232 (.invokevirtual 146) 3 235 := ⟨by decide +kernel, rfl⟩
theorem dL_acts_235 : Dx cL_acts 235 (.iconst 1) 1 236 := ⟨by decide +kernel, rfl⟩
theorem dL_acts_236 : Dx cL_acts 236 (.iload 4) 2 238 := ⟨by decide +kernel, rfl⟩
theorem dL_acts_238 : Dx cL_acts 238 (.bipush 30) 2 240 := ⟨by decide +kernel, rfl⟩
theorem dL_acts_240 : Dx cL_acts 240 (.irem) 1 241 := ⟨by decide +kernel, rfl⟩
theorem dL_acts_241 : Dx cL_acts 241 (.iadd) 1 242 := ⟨by decide +kernel, rfl⟩
theorem dL_acts_242 : Dx cL_acts 242 (.invokevirtual 149) 3 245 := ⟨by decide +kernel, rfl⟩
theorem dL_acts_245 : Dx cL_acts 245 (.invokevirtual 156) 3 248 := ⟨by decide +kernel, rfl⟩
theorem dL_acts_248 : Dc cL_acts 248 (fun o => .goto o) 274 251 := ⟨26, by decide +kernel, by decide, rfl⟩
theorem dL_acts_251 : Dx cL_acts 251 (.new 141) 3 254 := ⟨by decide +kernel, rfl⟩
theorem dL_acts_254 : Dx cL_acts 254 (.dup) 1 255 := ⟨by decide +kernel, rfl⟩
theorem dL_acts_255 : Dx cL_acts 255 (.invokespecial 143) 3 258 := ⟨by decide +kernel, rfl⟩
theorem dL_acts_258 : Dx cL_acts 258 (.ldc 160) 2 260 := ⟨by decide +kernel, rfl⟩
theorem dL_acts_260 : Dx cL_acts 260 (.invokevirtual 146) 3 263 := ⟨by decide +kernel, rfl⟩
theorem dL_acts_263 : Dx cL_acts 263 (.iload 4) 2 265 := ⟨by decide +kernel, rfl⟩
theorem dL_acts_265 : Dx cL_acts 265 (.bipush 8) 2 267 := ⟨by decide +kernel, rfl⟩
theorem dL_acts_267 : Dx cL_acts 267 (.irem) 1 268 := ⟨by decide +kernel, rfl⟩
theorem dL_acts_268 : Dx cL_acts 268 (.invokevirtual 149) 3 271 := ⟨by decide +kernel, rfl⟩
theorem dL_acts_271 : Dx cL_acts 271 (.invokevirtual 156) 3 274 := ⟨by decide +kernel, rfl⟩
theorem dL_acts_274 : Dx cL_acts 274 (.invokevirtual 146) 3 277 := ⟨by decide +kernel, rfl⟩
theorem dL_acts_277 : Dx cL_acts 277 (.invokevirtual 156) 3 280 := ⟨by decide +kernel, rfl⟩
theorem dL_acts_280 : Dx cL_acts 280 (.invokestatic 162) 3 283 := ⟨by decide +kernel, rfl⟩
theorem dL_acts_283 : Dx cL_acts 283 (.ireturn) 1 284 := ⟨by decide +kernel, rfl⟩
theorem dL_acts_284 : Dx cL_acts 284 (.aload_n 0) 1 285 := ⟨by decide +kernel, rfl⟩
theorem dL_acts_285 : Dx cL_acts 285 (.iconst 1) 1 286 := ⟨by decide +kernel, rfl⟩
theorem dL_acts_286 : Dx cL_acts 286 (.iload_n 3) 1 287 := ⟨by decide +kernel, rfl⟩
theorem dL_acts_287 : Dx cL_acts 287 (.bipush 9) 2 289 := ⟨by decide +kernel, rfl⟩
theorem dL_acts_289 : Dx cL_acts 289 (.irem) 1 290 := ⟨by decide +kernel, rfl⟩
theorem dL_acts_290 : Dx cL_acts 290 (.iadd) 1 291 := ⟨by decide +kernel, rfl⟩
theorem dL_acts_291 : Dx cL_acts 291 (.invokestatic 130) 3 294 := ⟨by decide +kernel, rfl⟩
theorem dL_acts_294 : Dx cL_acts 294 (.ireturn) 1 295 := ⟨by decide +kernel, rfl⟩
theorem dL_seen_0 : Dx cL_seen 0 (.sipush 200) 3 3 := ⟨by decide +kernel, rfl⟩
theorem dL_seen_3 : Dx cL_seen 3 (.newarray .int) 2 5 := ⟨by decide +kernel, rfl⟩
theorem dL_seen_5 : Dx cL_seen 5 (.astore_n 1) 1 6 := ⟨by decide +kernel, rfl⟩
theorem dL_seen_6 : Dx cL_seen 6 (.iconst 0) 1 7 := ⟨by decide +kernel, rfl⟩
theorem dL_seen_7 : Dx cL_seen 7 (.istore_n 2) 1 8 := ⟨by decide +kernel, rfl⟩
theorem dL_seen_8 : Dx cL_seen 8 (.iload_n 2) 1 9 := ⟨by decide +kernel, rfl⟩
theorem dL_seen_9 : Dx cL_seen 9 (.bipush 11) 2 11 := ⟨by decide +kernel, rfl⟩
theorem dL_seen_11 : Dc cL_seen 11 (fun o => .if_icmp .ge o) 28 14 := ⟨17, by decide +kernel, by decide, rfl⟩
theorem dL_seen_14 : Dx cL_seen 14 (.aload_n 1) 1 15 := ⟨by decide +kernel, rfl⟩
theorem dL_seen_15 : Dx cL_seen 15 (.iload_n 2) 1 16 := ⟨by decide +kernel, rfl⟩
theorem dL_seen_16 : Dx cL_seen 16 (.aload_n 0) 1 17 := ⟨by decide +kernel, rfl⟩
theorem dL_seen_17 : Dx cL_seen 17 (.iload_n 2) 1 18 := ⟨by decide +kernel, rfl⟩
theorem dL_seen_18 : Dx cL_seen 18 (.invokevirtual 166) 3 21 := ⟨by decide +kernel, rfl⟩
theorem dL_seen_21 : Dx cL_seen 21 (.iastore) 1 22 := ⟨by decide +kernel, rfl⟩
theorem dL_seen_22 : Dx cL_seen 22 (.iinc 2 1) 3 25 := ⟨by decide +kernel, rfl⟩
theorem dL_seen_25 : Dc cL_seen 25 (fun o => .goto o) 8 28 := ⟨(-17), by decide +kernel, by decide, rfl⟩
theorem dL_seen_28 : Dx cL_seen 28 (.iconst 0) 1 29 := ⟨by decide +kernel, rfl⟩
theorem dL_seen_29 : Dx cL_seen 29 (.istore_n 2) 1 30 := ⟨by decide +kernel, rfl⟩
theorem dL_seen_30 : Dx cL_seen 30 (.iload_n 2) 1 31 := ⟨by decide +kernel, rfl⟩
theorem dL_seen_31 : Dx cL_seen 31 (.aload_n 0) 1 32 := ⟨by decide +kernel, rfl⟩
theorem dL_seen_32 : Dx cL_seen 32 (.iconst 1) 1 33 := ⟨by decide +kernel, rfl⟩
theorem dL_seen_33 : Dx cL_seen 33 (.invokevirtual 166) 3 36 := ⟨by decide +kernel, rfl⟩
theorem dL_seen_36 : Dc cL_seen 36 (fun o => .if_icmp .ge o) 76 39 := ⟨40, by decide +kernel, by decide, rfl⟩
theorem dL_seen_39 : Dx cL_seen 39 (.iconst 0) 1 40 := ⟨by decide +kernel, rfl⟩
theorem dL_seen_40 : Dx cL_seen 40 (.istore_n 3) 1 41 := ⟨by decide +kernel, rfl⟩
theorem dL_seen_41 : Dx cL_seen 41 (.iload_n 3) 1 42 := ⟨by decide +kernel, rfl⟩
theorem dL_seen_42 : Dx cL_seen 42 (.bipush 8) 2 44 := ⟨by decide +kernel, rfl⟩
theorem dL_seen_44 : Dc cL_seen 44 (fun o => .if_icmp .ge o) 70 47 := ⟨26, by decide +kernel, by decide, rfl⟩
theorem dL_seen_47 : Dx cL_seen 47 (.aload_n 1) 1 48 := ⟨by decide +kernel, rfl⟩
theorem dL_seen_48 : Dx cL_seen 48 (.bipush 12) 2 50 := ⟨by decide +kernel, rfl⟩
theorem dL_seen_50 : Dx cL_seen 50 (.bipush 8) 2 52 := ⟨by decide +kernel, rfl⟩
theorem dL_seen_52 : Dx cL_seen 52 (.iload_n 2) 1 53 := ⟨by decide +kernel, rfl⟩
theorem dL_seen_53 : Dx cL_seen 53 (.imul) 1 54 := ⟨by decide +kernel, rfl⟩
theorem dL_seen_54 : Dx cL_seen 54 (.iadd) 1 55 := ⟨by decide +kernel, rfl⟩
theorem dL_seen_55 : Dx cL_seen 55 (.iload_n 3) 1 56 := ⟨by decide +kernel, rfl⟩
theorem dL_seen_56 : Dx cL_seen 56 (.iadd) 1 57 := ⟨by decide +kernel, rfl⟩
theorem dL_seen_57 : Dx cL_seen 57 (.aload_n 0) 1 58 := ⟨by decide +kernel, rfl⟩
theorem dL_seen_58 : Dx cL_seen 58 (.iload_n 2) 1 59 := ⟨by decide +kernel, rfl⟩
theorem dL_seen_59 : Dx cL_seen 59 (.iload_n 3) 1 60 := ⟨by decide +kernel, rfl⟩
theorem dL_seen_60 : Dx cL_seen 60 (.invokevirtual 169) 3 63 := ⟨by decide +kernel, rfl⟩
theorem dL_seen_63 : Dx cL_seen 63 (.iastore) 1 64 := ⟨by decide +kernel, rfl⟩
theorem dL_seen_64 : Dx cL_seen 64 (.iinc 3 1) 3 67 := ⟨by decide +kernel, rfl⟩
theorem dL_seen_67 : Dc cL_seen 67 (fun o => .goto o) 41 70 := ⟨(-26), by decide +kernel, by decide, rfl⟩
theorem dL_seen_70 : Dx cL_seen 70 (.iinc 2 1) 3 73 := ⟨by decide +kernel, rfl⟩
theorem dL_seen_73 : Dc cL_seen 73 (fun o => .goto o) 30 76 := ⟨(-43), by decide +kernel, by decide, rfl⟩
theorem dL_seen_76 : Dx cL_seen 76 (.iconst 0) 1 77 := ⟨by decide +kernel, rfl⟩
theorem dL_seen_77 : Dx cL_seen 77 (.istore_n 2) 1 78 := ⟨by decide +kernel, rfl⟩
theorem dL_seen_78 : Dx cL_seen 78 (.iload_n 2) 1 79 := ⟨by decide +kernel, rfl⟩
theorem dL_seen_79 : Dx cL_seen 79 (.aload_n 0) 1 80 := ⟨by decide +kernel, rfl⟩
theorem dL_seen_80 : Dx cL_seen 80 (.iconst 3) 1 81 := ⟨by decide +kernel, rfl⟩
theorem dL_seen_81 : Dx cL_seen 81 (.invokevirtual 166) 3 84 := ⟨by decide +kernel, rfl⟩
theorem dL_seen_84 : Dc cL_seen 84 (fun o => .if_icmp .ge o) 138 87 := ⟨54, by decide +kernel, by decide, rfl⟩
theorem dL_seen_87 : Dx cL_seen 87 (.iconst 0) 1 88 := ⟨by decide +kernel, rfl⟩
theorem dL_seen_88 : Dx cL_seen 88 (.istore_n 3) 1 89 := ⟨by decide +kernel, rfl⟩
theorem dL_seen_89 : Dx cL_seen 89 (.iload_n 3) 1 90 := ⟨by decide +kernel, rfl⟩
theorem dL_seen_90 : Dx cL_seen 90 (.bipush 7) 2 92 := ⟨by decide +kernel, rfl⟩
theorem dL_seen_92 : Dc cL_seen 92 (fun o => .if_icmp .ge o) 118 95 := ⟨26, by decide +kernel, by decide, rfl⟩
theorem dL_seen_95 : Dx cL_seen 95 (.aload_n 1) 1 96 := ⟨by decide +kernel, rfl⟩
theorem dL_seen_96 : Dx cL_seen 96 (.bipush 100) 2 98 := ⟨by decide +kernel, rfl⟩
theorem dL_seen_98 : Dx cL_seen 98 (.bipush 8) 2 100 := ⟨by decide +kernel, rfl⟩
theorem dL_seen_100 : Dx cL_seen 100 (.iload_n 2) 1 101 := ⟨by decide +kernel, rfl⟩
theorem dL_seen_101 : Dx cL_seen 101 (.imul) 1 102 := ⟨by decide +kernel, rfl⟩
theorem dL_seen_102 : Dx cL_seen 102 (.iadd) 1 103 := ⟨by decide +kernel, rfl⟩
theorem dL_seen_103 : Dx cL_seen 103 (.iload_n 3) 1 104 := ⟨by decide +kernel, rfl⟩
theorem dL_seen_104 : Dx cL_seen 104 (.iadd) 1 105 := ⟨by decide +kernel, rfl⟩
theorem dL_seen_105 : Dx cL_seen 105 (.aload_n 0) 1 106 := ⟨by decide +kernel, rfl⟩
theorem dL_seen_106 : Dx cL_seen 106 (.iload_n 2) 1 107 := ⟨by decide +kernel, rfl⟩
theorem dL_seen_107 : Dx cL_seen 107 (.iload_n 3) 1 108 := ⟨by decide +kernel, rfl⟩
theorem dL_seen_108 : Dx cL_seen 108 (.invokevirtual 172) 3 111 := ⟨by decide +kernel, rfl⟩
theorem dL_seen_111 : Dx cL_seen 111 (.iastore) 1 112 := ⟨by decide +kernel, rfl⟩
theorem dL_seen_112 : Dx cL_seen 112 (.iinc 3 1) 3 115 := ⟨by decide +kernel, rfl⟩
theorem dL_seen_115 : Dc cL_seen 115 (fun o => .goto o) 89 118 := ⟨(-26), by decide +kernel, by decide, rfl⟩
theorem dL_seen_118 : Dx cL_seen 118 (.aload_n 1) 1 119 := ⟨by decide +kernel, rfl⟩
theorem dL_seen_119 : Dx cL_seen 119 (.bipush 107) 2 121 := ⟨by decide +kernel, rfl⟩
theorem dL_seen_121 : Dx cL_seen 121 (.bipush 8) 2 123 := ⟨by decide +kernel, rfl⟩
theorem dL_seen_123 : Dx cL_seen 123 (.iload_n 2) 1 124 := ⟨by decide +kernel, rfl⟩
theorem dL_seen_124 : Dx cL_seen 124 (.imul) 1 125 := ⟨by decide +kernel, rfl⟩
theorem dL_seen_125 : Dx cL_seen 125 (.iadd) 1 126 := ⟨by decide +kernel, rfl⟩
theorem dL_seen_126 : Dx cL_seen 126 (.aload_n 0) 1 127 := ⟨by decide +kernel, rfl⟩
theorem dL_seen_127 : Dx cL_seen 127 (.iload_n 2) 1 128 := ⟨by decide +kernel, rfl⟩
theorem dL_seen_128 : Dx cL_seen 128 (.invokevirtual 175) 3 131 := ⟨by decide +kernel, rfl⟩
theorem dL_seen_131 : Dx cL_seen 131 (.iastore) 1 132 := ⟨by decide +kernel, rfl⟩
theorem dL_seen_132 : Dx cL_seen 132 (.iinc 2 1) 3 135 := ⟨by decide +kernel, rfl⟩
theorem dL_seen_135 : Dc cL_seen 135 (fun o => .goto o) 78 138 := ⟨(-57), by decide +kernel, by decide, rfl⟩
theorem dL_seen_138 : Dx cL_seen 138 (.iconst 0) 1 139 := ⟨by decide +kernel, rfl⟩
theorem dL_seen_139 : Dx cL_seen 139 (.istore_n 2) 1 140 := ⟨by decide +kernel, rfl⟩
theorem dL_seen_140 : Dx cL_seen 140 (.iload_n 2) 1 141 := ⟨by decide +kernel, rfl⟩
theorem dL_seen_141 : Dx cL_seen 141 (.aload_n 0) 1 142 := ⟨by decide +kernel, rfl⟩
theorem dL_seen_142 : Dx cL_seen 142 (.iconst 5) 1 143 := ⟨by decide +kernel, rfl⟩
theorem dL_seen_143 : Dx cL_seen 143 (.invokevirtual 166) 3 146 := ⟨by decide +kernel, rfl⟩
theorem dL_seen_146 : Dc cL_seen 146 (fun o => .if_icmp .ge o) 185 149 := ⟨39, by decide +kernel, by decide, rfl⟩
theorem dL_seen_149 : Dx cL_seen 149 (.iconst 0) 1 150 := ⟨by decide +kernel, rfl⟩
theorem dL_seen_150 : Dx cL_seen 150 (.istore_n 3) 1 151 := ⟨by decide +kernel, rfl⟩
theorem dL_seen_151 : Dx cL_seen 151 (.iload_n 3) 1 152 := ⟨by decide +kernel, rfl⟩
theorem dL_seen_152 : Dx cL_seen 152 (.iconst 3) 1 153 := ⟨by decide +kernel, rfl⟩
theorem dL_seen_153 : Dc cL_seen 153 (fun o => .if_icmp .ge o) 179 156 := ⟨26, by decide +kernel, by decide, rfl⟩
theorem dL_seen_156 : Dx cL_seen 156 (.aload_n 1) 1 157 := ⟨by decide +kernel, rfl⟩
theorem dL_seen_157 : Dx cL_seen 157 (.sipush 130) 3 160 := ⟨by decide +kernel, rfl⟩
theorem dL_seen_160 : Dx cL_seen 160 (.iconst 3) 1 161 := ⟨by decide +kernel, rfl⟩
theorem dL_seen_161 : Dx cL_seen 161 (.iload_n 2) 1 162 := ⟨by decide +kernel, rfl⟩
theorem dL_seen_162 : Dx cL_seen 162 (.imul) 1 163 := ⟨by decide +kernel, rfl⟩
theorem dL_seen_163 : Dx cL_seen 163 (.iadd) 1 164 := ⟨by decide +kernel, rfl⟩
theorem dL_seen_164 : Dx cL_seen 164 (.iload_n 3) 1 165 := ⟨by decide +kernel, rfl⟩
theorem dL_seen_165 : Dx cL_seen 165 (.iadd) 1 166 := ⟨by decide +kernel, rfl⟩
theorem dL_seen_166 : Dx cL_seen 166 (.aload_n 0) 1 167 := ⟨by decide +kernel, rfl⟩
theorem dL_seen_167 : Dx cL_seen 167 (.iload_n 2) 1 168 := ⟨by decide +kernel, rfl⟩
theorem dL_seen_168 : Dx cL_seen 168 (.iload_n 3) 1 169 := ⟨by decide +kernel, rfl⟩
theorem dL_seen_169 : Dx cL_seen 169 (.invokevirtual 178) 3 172 := ⟨by decide +kernel, rfl⟩
theorem dL_seen_172 : Dx cL_seen 172 (.iastore) 1 173 := ⟨by decide +kernel, rfl⟩
theorem dL_seen_173 : Dx cL_seen 173 (.iinc 3 1) 3 176 := ⟨by decide +kernel, rfl⟩
theorem dL_seen_176 : Dc cL_seen 176 (fun o => .goto o) 151 179 := ⟨(-25), by decide +kernel, by decide, rfl⟩
theorem dL_seen_179 : Dx cL_seen 179 (.iinc 2 1) 3 182 := ⟨by decide +kernel, rfl⟩
theorem dL_seen_182 : Dc cL_seen 182 (fun o => .goto o) 140 185 := ⟨(-42), by decide +kernel, by decide, rfl⟩
theorem dL_seen_185 : Dx cL_seen 185 (.aload_n 1) 1 186 := ⟨by decide +kernel, rfl⟩
theorem dL_seen_186 : Dx cL_seen 186 (.areturn) 1 187 := ⟨by decide +kernel, rfl⟩
theorem dL_areAlike_0 : Dx cL_areAlike 0 (.iconst 0) 1 1 := ⟨by decide +kernel, rfl⟩
theorem dL_areAlike_1 : Dx cL_areAlike 1 (.istore_n 2) 1 2 := ⟨by decide +kernel, rfl⟩
theorem dL_areAlike_2 : Dx cL_areAlike 2 (.iload_n 2) 1 3 := ⟨by decide +kernel, rfl⟩
theorem dL_areAlike_3 : Dx cL_areAlike 3 (.aload_n 0) 1 4 := ⟨by decide +kernel, rfl⟩
theorem dL_areAlike_4 : Dx cL_areAlike 4 (.arraylength) 1 5 := ⟨by decide +kernel, rfl⟩
theorem dL_areAlike_5 : Dc cL_areAlike 5 (fun o => .if_icmp .ge o) 25 8 := ⟨20, by decide +kernel, by decide, rfl⟩
theorem dL_areAlike_8 : Dx cL_areAlike 8 (.aload_n 0) 1 9 := ⟨by decide +kernel, rfl⟩
theorem dL_areAlike_9 : Dx cL_areAlike 9 (.iload_n 2) 1 10 := ⟨by decide +kernel, rfl⟩
theorem dL_areAlike_10 : Dx cL_areAlike 10 (.iaload) 1 11 := ⟨by decide +kernel, rfl⟩
theorem dL_areAlike_11 : Dx cL_areAlike 11 (.aload_n 1) 1 12 := ⟨by decide +kernel, rfl⟩
theorem dL_areAlike_12 : Dx cL_areAlike 12 (.iload_n 2) 1 13 := ⟨by decide +kernel, rfl⟩
theorem dL_areAlike_13 : Dx cL_areAlike 13 (.iaload) 1 14 := ⟨by decide +kernel, rfl⟩
theorem dL_areAlike_14 : Dc cL_areAlike 14 (fun o => .if_icmp .eq o) 19 17 := ⟨5, by decide +kernel, by decide, rfl⟩
theorem dL_areAlike_17 : Dx cL_areAlike 17 (.iconst 0) 1 18 := ⟨by decide +kernel, rfl⟩
theorem dL_areAlike_18 : Dx cL_areAlike 18 (.ireturn) 1 19 := ⟨by decide +kernel, rfl⟩
theorem dL_areAlike_19 : Dx cL_areAlike 19 (.iinc 2 1) 3 22 := ⟨by decide +kernel, rfl⟩
theorem dL_areAlike_22 : Dc cL_areAlike 22 (fun o => .goto o) 2 25 := ⟨(-20), by decide +kernel, by decide, rfl⟩
theorem dL_areAlike_25 : Dx cL_areAlike 25 (.iconst 1) 1 26 := ⟨by decide +kernel, rfl⟩
theorem dL_areAlike_26 : Dx cL_areAlike 26 (.ireturn) 1 27 := ⟨by decide +kernel, rfl⟩
theorem dL_isWell_0 : Dx cL_isWell 0 (.iconst 0) 1 1 := ⟨by decide +kernel, rfl⟩
theorem dL_isWell_1 : Dx cL_isWell 1 (.istore_n 1) 1 2 := ⟨by decide +kernel, rfl⟩
theorem dL_isWell_2 : Dx cL_isWell 2 (.iconst 0) 1 3 := ⟨by decide +kernel, rfl⟩
theorem dL_isWell_3 : Dx cL_isWell 3 (.istore_n 2) 1 4 := ⟨by decide +kernel, rfl⟩
theorem dL_isWell_4 : Dx cL_isWell 4 (.iconst 0) 1 5 := ⟨by decide +kernel, rfl⟩
theorem dL_isWell_5 : Dx cL_isWell 5 (.istore_n 3) 1 6 := ⟨by decide +kernel, rfl⟩
theorem dL_isWell_6 : Dx cL_isWell 6 (.iconst 0) 1 7 := ⟨by decide +kernel, rfl⟩
theorem dL_isWell_7 : Dx cL_isWell 7 (.istore 4) 2 9 := ⟨by decide +kernel, rfl⟩
theorem dL_isWell_9 : Dx cL_isWell 9 (.iload 4) 2 11 := ⟨by decide +kernel, rfl⟩
theorem dL_isWell_11 : Dx cL_isWell 11 (.aload_n 0) 1 12 := ⟨by decide +kernel, rfl⟩
theorem dL_isWell_12 : Dx cL_isWell 12 (.iconst 1) 1 13 := ⟨by decide +kernel, rfl⟩
theorem dL_isWell_13 : Dx cL_isWell 13 (.invokevirtual 166) 3 16 := ⟨by decide +kernel, rfl⟩
theorem dL_isWell_16 : Dc cL_isWell 16 (fun o => .if_icmp .ge o) 190 19 := ⟨174, by decide +kernel, by decide, rfl⟩
theorem dL_isWell_19 : Dx cL_isWell 19 (.aload_n 0) 1 20 := ⟨by decide +kernel, rfl⟩
theorem dL_isWell_20 : Dx cL_isWell 20 (.iload 4) 2 22 := ⟨by decide +kernel, rfl⟩
theorem dL_isWell_22 : Dx cL_isWell 22 (.iconst 1) 1 23 := ⟨by decide +kernel, rfl⟩
theorem dL_isWell_23 : Dx cL_isWell 23 (.invokevirtual 169) 3 26 := ⟨by decide +kernel, rfl⟩
theorem dL_isWell_26 : Dx cL_isWell 26 (.istore 5) 2 28 := ⟨by decide +kernel, rfl⟩
theorem dL_isWell_28 : Dx cL_isWell 28 (.iload 5) 2 30 := ⟨by decide +kernel, rfl⟩
theorem dL_isWell_30 : Dc cL_isWell 30 (fun o => .ifCond .ne o) 53 33 := ⟨23, by decide +kernel, by decide, rfl⟩
theorem dL_isWell_33 : Dx cL_isWell 33 (.aload_n 0) 1 34 := ⟨by decide +kernel, rfl⟩
theorem dL_isWell_34 : Dx cL_isWell 34 (.iload 4) 2 36 := ⟨by decide +kernel, rfl⟩
theorem dL_isWell_36 : Dx cL_isWell 36 (.iconst 2) 1 37 := ⟨by decide +kernel, rfl⟩
theorem dL_isWell_37 : Dx cL_isWell 37 (.invokevirtual 169) 3 40 := ⟨by decide +kernel, rfl⟩
theorem dL_isWell_40 : Dx cL_isWell 40 (.aload_n 0) 1 41 := ⟨by decide +kernel, rfl⟩
theorem dL_isWell_41 : Dx cL_isWell 41 (.bipush 10) 2 43 := ⟨by decide +kernel, rfl⟩
theorem dL_isWell_43 : Dx cL_isWell 43 (.invokevirtual 166) 3 46 := ⟨by decide +kernel, rfl⟩
theorem dL_isWell_46 : Dc cL_isWell 46 (fun o => .if_icmp .ge o) 53 49 := ⟨7, by decide +kernel, by decide, rfl⟩
theorem dL_isWell_49 : Dx cL_isWell 49 (.iconst 1) 1 50 := ⟨by decide +kernel, rfl⟩
theorem dL_isWell_50 : Dc cL_isWell 50 (fun o => .goto o) 54 53 := ⟨4, by decide +kernel, by decide, rfl⟩
theorem dL_isWell_53 : Dx cL_isWell 53 (.iconst 0) 1 54 := ⟨by decide +kernel, rfl⟩
theorem dL_isWell_54 : Dx cL_isWell 54 (.istore 6) 2 56 := ⟨by decide +kernel, rfl⟩
theorem dL_isWell_56 : Dx cL_isWell 56 (.iload_n 1) 1 57 := ⟨by decide +kernel, rfl⟩
theorem dL_isWell_57 : Dx cL_isWell 57 (.iload 6) 2 59 := ⟨by decide +kernel, rfl⟩
theorem dL_isWell_59 : Dc cL_isWell 59 (fun o => .ifCond .eq o) 69 62 := ⟨10, by decide +kernel, by decide, rfl⟩
theorem dL_isWell_62 : Dx cL_isWell 62 (.iconst 1) 1 63 := ⟨by decide +kernel, rfl⟩
theorem dL_isWell_63 : Dx cL_isWell 63 (.iload 4) 2 65 := ⟨by decide +kernel, rfl⟩
theorem dL_isWell_65 : Dx cL_isWell 65 (.ishl) 1 66 := ⟨by decide +kernel, rfl⟩
theorem dL_isWell_66 : Dc cL_isWell 66 (fun o => .goto o) 70 69 := ⟨4, by decide +kernel, by decide, rfl⟩
theorem dL_isWell_69 : Dx cL_isWell 69 (.iconst 0) 1 70 := ⟨by decide +kernel, rfl⟩
theorem dL_isWell_70 : Dx cL_isWell 70 (.ior) 1 71 := ⟨by decide +kernel, rfl⟩
theorem dL_isWell_71 : Dx cL_isWell 71 (.istore_n 1) 1 72 := ⟨by decide +kernel, rfl⟩
theorem dL_isWell_72 : Dx cL_isWell 72 (.iload_n 2) 1 73 := ⟨by decide +kernel, rfl⟩
theorem dL_isWell_73 : Dx cL_isWell 73 (.iload 5) 2 75 := ⟨by decide +kernel, rfl⟩
theorem dL_isWell_75 : Dx cL_isWell 75 (.iconst 2) 1 76 := ⟨by decide +kernel, rfl⟩
theorem dL_isWell_76 : Dc cL_isWell 76 (fun o => .if_icmp .ne o) 83 79 := ⟨7, by decide +kernel, by decide, rfl⟩
theorem dL_isWell_79 : Dx cL_isWell 79 (.iconst 1) 1 80 := ⟨by decide +kernel, rfl⟩
theorem dL_isWell_80 : Dc cL_isWell 80 (fun o => .goto o) 84 83 := ⟨4, by decide +kernel, by decide, rfl⟩
theorem dL_isWell_83 : Dx cL_isWell 83 (.iconst 0) 1 84 := ⟨by decide +kernel, rfl⟩
theorem dL_isWell_84 : Dx cL_isWell 84 (.iadd) 1 85 := ⟨by decide +kernel, rfl⟩
theorem dL_isWell_85 : Dx cL_isWell 85 (.istore_n 2) 1 86 := ⟨by decide +kernel, rfl⟩
theorem dL_isWell_86 : Dx cL_isWell 86 (.iload_n 3) 1 87 := ⟨by decide +kernel, rfl⟩
theorem dL_isWell_87 : Dx cL_isWell 87 (.iload 5) 2 89 := ⟨by decide +kernel, rfl⟩
theorem dL_isWell_89 : Dx cL_isWell 89 (.iconst 1) 1 90 := ⟨by decide +kernel, rfl⟩
theorem dL_isWell_90 : Dc cL_isWell 90 (fun o => .if_icmp .ne o) 100 93 := ⟨10, by decide +kernel, by decide, rfl⟩
theorem dL_isWell_93 : Dx cL_isWell 93 (.iconst 1) 1 94 := ⟨by decide +kernel, rfl⟩
theorem dL_isWell_94 : Dx cL_isWell 94 (.iload 4) 2 96 := ⟨by decide +kernel, rfl⟩
theorem dL_isWell_96 : Dx cL_isWell 96 (.ishl) 1 97 := ⟨by decide +kernel, rfl⟩
theorem dL_isWell_97 : Dc cL_isWell 97 (fun o => .goto o) 101 100 := ⟨4, by decide +kernel, by decide, rfl⟩
theorem dL_isWell_100 : Dx cL_isWell 100 (.iconst 0) 1 101 := ⟨by decide +kernel, rfl⟩
theorem dL_isWell_101 : Dx cL_isWell 101 (.ior) 1 102 := ⟨by decide +kernel, rfl⟩
theorem dL_isWell_102 : Dx cL_isWell 102 (.istore_n 3) 1 103 := ⟨by decide +kernel, rfl⟩
theorem dL_isWell_103 : Dx cL_isWell 103 (.iload 6) 2 105 := ⟨by decide +kernel, rfl⟩
theorem dL_isWell_105 : Dx cL_isWell 105 (.aload_n 0) 1 106 := ⟨by decide +kernel, rfl⟩
theorem dL_isWell_106 : Dx cL_isWell 106 (.iload 4) 2 108 := ⟨by decide +kernel, rfl⟩
theorem dL_isWell_108 : Dx cL_isWell 108 (.iconst 4) 1 109 := ⟨by decide +kernel, rfl⟩
theorem dL_isWell_109 : Dx cL_isWell 109 (.invokevirtual 169) 3 112 := ⟨by decide +kernel, rfl⟩
theorem dL_isWell_112 : Dx cL_isWell 112 (.iconst 1) 1 113 := ⟨by decide +kernel, rfl⟩
theorem dL_isWell_113 : Dc cL_isWell 113 (fun o => .if_icmp .ne o) 120 116 := ⟨7, by decide +kernel, by decide, rfl⟩
theorem dL_isWell_116 : Dx cL_isWell 116 (.iconst 1) 1 117 := ⟨by decide +kernel, rfl⟩
theorem dL_isWell_117 : Dc cL_isWell 117 (fun o => .goto o) 121 120 := ⟨4, by decide +kernel, by decide, rfl⟩
theorem dL_isWell_120 : Dx cL_isWell 120 (.iconst 0) 1 121 := ⟨by decide +kernel, rfl⟩
theorem dL_isWell_121 : Dc cL_isWell 121 (fun o => .if_icmp .ne o) 182 124 := ⟨61, by decide +kernel, by decide, rfl⟩
theorem dL_isWell_124 : Dx cL_isWell 124 (.iload 5) 2 126 := ⟨by decide +kernel, rfl⟩
theorem dL_isWell_126 : Dx cL_isWell 126 (.iconst 1) 1 127 := ⟨by decide +kernel, rfl⟩
theorem dL_isWell_127 : Dc cL_isWell 127 (fun o => .if_icmp .ne o) 134 130 := ⟨7, by decide +kernel, by decide, rfl⟩
theorem dL_isWell_130 : Dx cL_isWell 130 (.iconst 1) 1 131 := ⟨by decide +kernel, rfl⟩
theorem dL_isWell_131 : Dc cL_isWell 131 (fun o => .goto o) 135 134 := ⟨4, by decide +kernel, by decide, rfl⟩
theorem dL_isWell_134 : Dx cL_isWell 134 (.iconst 0) 1 135 := ⟨by decide +kernel, rfl⟩
theorem dL_isWell_135 : Dx cL_isWell 135 (.aload_n 0) 1 136 := ⟨by decide +kernel, rfl⟩
theorem dL_isWell_136 : Dx cL_isWell 136 (.iload 4) 2 138 := ⟨by decide +kernel, rfl⟩
theorem dL_isWell_138 : Dx cL_isWell 138 (.iconst 3) 1 139 := ⟨by decide +kernel, rfl⟩
theorem dL_isWell_139 : Dx cL_isWell 139 (.invokevirtual 169) 3 142 := ⟨by decide +kernel, rfl⟩
theorem dL_isWell_142 : Dc cL_isWell 142 (fun o => .ifCond .lt o) 149 145 := ⟨7, by decide +kernel, by decide, rfl⟩
theorem dL_isWell_145 : Dx cL_isWell 145 (.iconst 1) 1 146 := ⟨by decide +kernel, rfl⟩
theorem dL_isWell_146 : Dc cL_isWell 146 (fun o => .goto o) 150 149 := ⟨4, by decide +kernel, by decide, rfl⟩
theorem dL_isWell_149 : Dx cL_isWell 149 (.iconst 0) 1 150 := ⟨by decide +kernel, rfl⟩
theorem dL_isWell_150 : Dc cL_isWell 150 (fun o => .if_icmp .ne o) 182 153 := ⟨32, by decide +kernel, by decide, rfl⟩
theorem dL_isWell_153 : Dx cL_isWell 153 (.aload_n 0) 1 154 := ⟨by decide +kernel, rfl⟩
theorem dL_isWell_154 : Dx cL_isWell 154 (.iload 4) 2 156 := ⟨by decide +kernel, rfl⟩
theorem dL_isWell_156 : Dx cL_isWell 156 (.bipush 7) 2 158 := ⟨by decide +kernel, rfl⟩
theorem dL_isWell_158 : Dx cL_isWell 158 (.invokevirtual 169) 3 161 := ⟨by decide +kernel, rfl⟩
theorem dL_isWell_161 : Dx cL_isWell 161 (.aload_n 0) 1 162 := ⟨by decide +kernel, rfl⟩
theorem dL_isWell_162 : Dx cL_isWell 162 (.iload 4) 2 164 := ⟨by decide +kernel, rfl⟩
theorem dL_isWell_164 : Dx cL_isWell 164 (.bipush 6) 2 166 := ⟨by decide +kernel, rfl⟩
theorem dL_isWell_166 : Dx cL_isWell 166 (.invokevirtual 169) 3 169 := ⟨by decide +kernel, rfl⟩
theorem dL_isWell_169 : Dc cL_isWell 169 (fun o => .if_icmp .gt o) 182 172 := ⟨13, by decide +kernel, by decide, rfl⟩
theorem dL_isWell_172 : Dx cL_isWell 172 (.aload_n 0) 1 173 := ⟨by decide +kernel, rfl⟩
theorem dL_isWell_173 : Dx cL_isWell 173 (.iload 4) 2 175 := ⟨by decide +kernel, rfl⟩
theorem dL_isWell_175 : Dx cL_isWell 175 (.iconst 2) 1 176 := ⟨by decide +kernel, rfl⟩
theorem dL_isWell_176 : Dx cL_isWell 176 (.invokevirtual 169) 3 179 := ⟨by decide +kernel, rfl⟩
theorem dL_isWell_179 : Dc cL_isWell 179 (fun o => .ifCond .ge o) 184 182 := ⟨5, by decide +kernel, by decide, rfl⟩
theorem dL_isWell_182 : Dx cL_isWell 182 (.iconst 0) 1 183 := ⟨by decide +kernel, rfl⟩
theorem dL_isWell_183 : Dx cL_isWell 183 (.ireturn) 1 184 := ⟨by decide +kernel, rfl⟩
theorem dL_isWell_184 : Dx cL_isWell 184 (.iinc 4 1) 3 187 := ⟨by decide +kernel, rfl⟩
theorem dL_isWell_187 : Dc cL_isWell 187 (fun o => .goto o) 9 190 := ⟨(-178), by decide +kernel, by decide, rfl⟩
theorem dL_isWell_190 : Dx cL_isWell 190 (.bipush 6) 2 192 := ⟨by decide +kernel, rfl⟩
theorem dL_isWell_192 : Dx cL_isWell 192 (.istore 4) 2 194 := ⟨by decide +kernel, rfl⟩
theorem dL_isWell_194 : Dx cL_isWell 194 (.iconst 0) 1 195 := ⟨by decide +kernel, rfl⟩
theorem dL_isWell_195 : Dx cL_isWell 195 (.istore 5) 2 197 := ⟨by decide +kernel, rfl⟩
theorem dL_isWell_197 : Dx cL_isWell 197 (.iload 5) 2 199 := ⟨by decide +kernel, rfl⟩
theorem dL_isWell_199 : Dx cL_isWell 199 (.aload_n 0) 1 200 := ⟨by decide +kernel, rfl⟩
theorem dL_isWell_200 : Dx cL_isWell 200 (.iconst 5) 1 201 := ⟨by decide +kernel, rfl⟩
theorem dL_isWell_201 : Dx cL_isWell 201 (.invokevirtual 166) 3 204 := ⟨by decide +kernel, rfl⟩
theorem dL_isWell_204 : Dc cL_isWell 204 (fun o => .if_icmp .ge o) 225 207 := ⟨21, by decide +kernel, by decide, rfl⟩
theorem dL_isWell_207 : Dx cL_isWell 207 (.iload 4) 2 209 := ⟨by decide +kernel, rfl⟩
theorem dL_isWell_209 : Dx cL_isWell 209 (.aload_n 0) 1 210 := ⟨by decide +kernel, rfl⟩
theorem dL_isWell_210 : Dx cL_isWell 210 (.iload 5) 2 212 := ⟨by decide +kernel, rfl⟩
theorem dL_isWell_212 : Dx cL_isWell 212 (.iconst 0) 1 213 := ⟨by decide +kernel, rfl⟩
theorem dL_isWell_213 : Dx cL_isWell 213 (.invokevirtual 178) 3 216 := ⟨by decide +kernel, rfl⟩
theorem dL_isWell_216 : Dx cL_isWell 216 (.iadd) 1 217 := ⟨by decide +kernel, rfl⟩
theorem dL_isWell_217 : Dx cL_isWell 217 (.istore 4) 2 219 := ⟨by decide +kernel, rfl⟩
theorem dL_isWell_219 : Dx cL_isWell 219 (.iinc 5 1) 3 222 := ⟨by decide +kernel, rfl⟩
theorem dL_isWell_222 : Dc cL_isWell 222 (fun o => .goto o) 197 225 := ⟨(-25), by decide +kernel, by decide, rfl⟩
theorem dL_isWell_225 : Dx cL_isWell 225 (.iconst 0) 1 226 := ⟨by decide +kernel, rfl⟩
theorem dL_isWell_226 : Dx cL_isWell 226 (.istore 5) 2 228 := ⟨by decide +kernel, rfl⟩
theorem dL_isWell_228 : Dx cL_isWell 228 (.iconst 0) 1 229 := ⟨by decide +kernel, rfl⟩
theorem dL_isWell_229 : Dx cL_isWell 229 (.istore 6) 2 231 := ⟨by decide +kernel, rfl⟩
theorem dL_isWell_231 : Dx cL_isWell 231 (.iconst 0) 1 232 := ⟨by decide +kernel, rfl⟩
theorem dL_isWell_232 : Dx cL_isWell 232 (.istore 7) 2 234 := ⟨by decide +kernel, rfl⟩
theorem dL_isWell_234 : Dx cL_isWell 234 (.iload 7) 2 236 := ⟨by decide +kernel, rfl⟩
theorem dL_isWell_236 : Dx cL_isWell 236 (.aload_n 0) 1 237 := ⟨by decide +kernel, rfl⟩
theorem dL_isWell_237 : Dx cL_isWell 237 (.iconst 3) 1 238 := ⟨by decide +kernel, rfl⟩
theorem dL_isWell_238 : Dx cL_isWell 238 (.invokevirtual 166) 3 241 := ⟨by decide +kernel, rfl⟩
theorem dL_isWell_241 : Dc cL_isWell 241 (fun o => .if_icmp .ge o) 573 244 := ⟨332, by decide +kernel, by decide, rfl⟩
theorem dL_isWell_244 : Dx cL_isWell 244 (.aload_n 0) 1 245 := ⟨by decide +kernel, rfl⟩
theorem dL_isWell_245 : Dx cL_isWell 245 (.iload 7) 2 247 := ⟨by decide +kernel, rfl⟩
theorem dL_isWell_247 : Dx cL_isWell 247 (.iconst 2) 1 248 := ⟨by decide +kernel, rfl⟩
theorem dL_isWell_248 : Dx cL_isWell 248 (.invokevirtual 172) 3 251 := ⟨by decide +kernel, rfl⟩
theorem dL_isWell_251 : Dx cL_isWell 251 (.iconst 1) 1 252 := ⟨by decide +kernel, rfl⟩
theorem dL_isWell_252 : Dc cL_isWell 252 (fun o => .if_icmp .ne o) 259 255 := ⟨7, by decide +kernel, by decide, rfl⟩
theorem dL_isWell_255 : Dx cL_isWell 255 (.iconst 1) 1 256 := ⟨by decide +kernel, rfl⟩
theorem dL_isWell_256 : Dc cL_isWell 256 (fun o => .goto o) 260 259 := ⟨4, by decide +kernel, by decide, rfl⟩
theorem dL_isWell_259 : Dx cL_isWell 259 (.iconst 0) 1 260 := ⟨by decide +kernel, rfl⟩
theorem dL_isWell_260 : Dx cL_isWell 260 (.istore 8) 2 262 := ⟨by decide +kernel, rfl⟩
theorem dL_isWell_262 : Dx cL_isWell 262 (.aload_n 0) 1 263 := ⟨by decide +kernel, rfl⟩
theorem dL_isWell_263 : Dx cL_isWell 263 (.iload 7) 2 265 := ⟨by decide +kernel, rfl⟩
theorem dL_isWell_265 : Dx cL_isWell 265 (.invokevirtual 175) 3 268 := ⟨by decide +kernel, rfl⟩
theorem dL_isWell_268 : Dx cL_isWell 268 (.istore 9) 2 270 := ⟨by decide +kernel, rfl⟩
theorem dL_isWell_270 : Dx cL_isWell 270 (.aload_n 0) 1 271 := ⟨by decide +kernel, rfl⟩
theorem dL_isWell_271 : Dx cL_isWell 271 (.iload 7) 2 273 := ⟨by decide +kernel, rfl⟩
theorem dL_isWell_273 : Dx cL_isWell 273 (.iconst 1) 1 274 := ⟨by decide +kernel, rfl⟩
theorem dL_isWell_274 : Dx cL_isWell 274 (.invokevirtual 172) 3 277 := ⟨by decide +kernel, rfl⟩
theorem dL_isWell_277 : Dx cL_isWell 277 (.istore 10) 2 279 := ⟨by decide +kernel, rfl⟩
theorem dL_isWell_279 : Dx cL_isWell 279 (.aload_n 0) 1 280 := ⟨by decide +kernel, rfl⟩
theorem dL_isWell_280 : Dx cL_isWell 280 (.iload 7) 2 282 := ⟨by decide +kernel, rfl⟩
theorem dL_isWell_282 : Dx cL_isWell 282 (.iconst 5) 1 283 := ⟨by decide +kernel, rfl⟩
theorem dL_isWell_283 : Dx cL_isWell 283 (.invokevirtual 172) 3 286 := ⟨by decide +kernel, rfl⟩
theorem dL_isWell_286 : Dx cL_isWell 286 (.istore 11) 2 288 := ⟨by decide +kernel, rfl⟩
theorem dL_isWell_288 : Dx cL_isWell 288 (.iconst 0) 1 289 := ⟨by decide +kernel, rfl⟩
theorem dL_isWell_289 : Dx cL_isWell 289 (.istore 12) 2 291 := ⟨by decide +kernel, rfl⟩
theorem dL_isWell_291 : Dx cL_isWell 291 (.iconst 0) 1 292 := ⟨by decide +kernel, rfl⟩
theorem dL_isWell_292 : Dx cL_isWell 292 (.istore 13) 2 294 := ⟨by decide +kernel, rfl⟩
theorem dL_isWell_294 : Dx cL_isWell 294 (.iload 13) 2 296 := ⟨by decide +kernel, rfl⟩
theorem dL_isWell_296 : Dx cL_isWell 296 (.aload_n 0) 1 297 := ⟨by decide +kernel, rfl⟩
theorem dL_isWell_297 : Dx cL_isWell 297 (.iconst 1) 1 298 := ⟨by decide +kernel, rfl⟩
theorem dL_isWell_298 : Dx cL_isWell 298 (.invokevirtual 166) 3 301 := ⟨by decide +kernel, rfl⟩
theorem dL_isWell_301 : Dc cL_isWell 301 (fun o => .if_icmp .ge o) 366 304 := ⟨65, by decide +kernel, by decide, rfl⟩
theorem dL_isWell_304 : Dx cL_isWell 304 (.iload 12) 2 306 := ⟨by decide +kernel, rfl⟩
theorem dL_isWell_306 : Dx cL_isWell 306 (.iload 9) 2 308 := ⟨by decide +kernel, rfl⟩
theorem dL_isWell_308 : Dx cL_isWell 308 (.iload 13) 2 310 := ⟨by decide +kernel, rfl⟩
theorem dL_isWell_310 : Dx cL_isWell 310 (.ishr) 1 311 := ⟨by decide +kernel, rfl⟩
theorem dL_isWell_311 : Dx cL_isWell 311 (.iconst 1) 1 312 := ⟨by decide +kernel, rfl⟩
theorem dL_isWell_312 : Dx cL_isWell 312 (.iand) 1 313 := ⟨by decide +kernel, rfl⟩
theorem dL_isWell_313 : Dx cL_isWell 313 (.iconst 1) 1 314 := ⟨by decide +kernel, rfl⟩
theorem dL_isWell_314 : Dc cL_isWell 314 (fun o => .if_icmp .ne o) 331 317 := ⟨17, by decide +kernel, by decide, rfl⟩
theorem dL_isWell_317 : Dx cL_isWell 317 (.aload_n 0) 1 318 := ⟨by decide +kernel, rfl⟩
theorem dL_isWell_318 : Dx cL_isWell 318 (.iload 13) 2 320 := ⟨by decide +kernel, rfl⟩
theorem dL_isWell_320 : Dx cL_isWell 320 (.iconst 0) 1 321 := ⟨by decide +kernel, rfl⟩
theorem dL_isWell_321 : Dx cL_isWell 321 (.invokevirtual 169) 3 324 := ⟨by decide +kernel, rfl⟩
theorem dL_isWell_324 : Dc cL_isWell 324 (fun o => .ifCond .le o) 331 327 := ⟨7, by decide +kernel, by decide, rfl⟩
theorem dL_isWell_327 : Dx cL_isWell 327 (.iconst 1) 1 328 := ⟨by decide +kernel, rfl⟩
theorem dL_isWell_328 : Dc cL_isWell 328 (fun o => .goto o) 332 331 := ⟨4, by decide +kernel, by decide, rfl⟩
theorem dL_isWell_331 : Dx cL_isWell 331 (.iconst 0) 1 332 := ⟨by decide +kernel, rfl⟩
theorem dL_isWell_332 : Dx cL_isWell 332 (.iadd) 1 333 := ⟨by decide +kernel, rfl⟩
theorem dL_isWell_333 : Dx cL_isWell 333 (.istore 12) 2 335 := ⟨by decide +kernel, rfl⟩
theorem dL_isWell_335 : Dx cL_isWell 335 (.iload 9) 2 337 := ⟨by decide +kernel, rfl⟩
theorem dL_isWell_337 : Dx cL_isWell 337 (.iload 13) 2 339 := ⟨by decide +kernel, rfl⟩
theorem dL_isWell_339 : Dx cL_isWell 339 (.ishr) 1 340 := ⟨by decide +kernel, rfl⟩
theorem dL_isWell_340 : Dx cL_isWell 340 (.iconst 1) 1 341 := ⟨by decide +kernel, rfl⟩
theorem dL_isWell_341 : Dx cL_isWell 341 (.iand) 1 342 := ⟨by decide +kernel, rfl⟩
theorem dL_isWell_342 : Dx cL_isWell 342 (.iconst 1) 1 343 := ⟨by decide +kernel, rfl⟩
theorem dL_isWell_343 : Dc cL_isWell 343 (fun o => .if_icmp .ne o) 360 346 := ⟨17, by decide +kernel, by decide, rfl⟩
theorem dL_isWell_346 : Dx cL_isWell 346 (.aload_n 0) 1 347 := ⟨by decide +kernel, rfl⟩
theorem dL_isWell_347 : Dx cL_isWell 347 (.iload 13) 2 349 := ⟨by decide +kernel, rfl⟩
theorem dL_isWell_349 : Dx cL_isWell 349 (.iconst 3) 1 350 := ⟨by decide +kernel, rfl⟩
theorem dL_isWell_350 : Dx cL_isWell 350 (.invokevirtual 169) 3 353 := ⟨by decide +kernel, rfl⟩
theorem dL_isWell_353 : Dx cL_isWell 353 (.iload 7) 2 355 := ⟨by decide +kernel, rfl⟩
theorem dL_isWell_355 : Dc cL_isWell 355 (fun o => .if_icmp .eq o) 360 358 := ⟨5, by decide +kernel, by decide, rfl⟩
theorem dL_isWell_358 : Dx cL_isWell 358 (.iconst 0) 1 359 := ⟨by decide +kernel, rfl⟩
theorem dL_isWell_359 : Dx cL_isWell 359 (.ireturn) 1 360 := ⟨by decide +kernel, rfl⟩
theorem dL_isWell_360 : Dx cL_isWell 360 (.iinc 13 1) 3 363 := ⟨by decide +kernel, rfl⟩
theorem dL_isWell_363 : Dc cL_isWell 363 (fun o => .goto o) 294 366 := ⟨(-69), by decide +kernel, by decide, rfl⟩
theorem dL_isWell_366 : Dx cL_isWell 366 (.iload 8) 2 368 := ⟨by decide +kernel, rfl⟩
theorem dL_isWell_368 : Dc cL_isWell 368 (fun o => .ifCond .eq o) 423 371 := ⟨55, by decide +kernel, by decide, rfl⟩
theorem dL_isWell_371 : Dx cL_isWell 371 (.iload 9) 2 373 := ⟨by decide +kernel, rfl⟩
theorem dL_isWell_373 : Dx cL_isWell 373 (.invokestatic 181) 3 376 := ⟨by decide +kernel, rfl⟩
theorem dL_isWell_376 : Dx cL_isWell 376 (.iload 10) 2 378 := ⟨by decide +kernel, rfl⟩
theorem dL_isWell_378 : Dc cL_isWell 378 (fun o => .if_icmp .ne o) 444 381 := ⟨66, by decide +kernel, by decide, rfl⟩
theorem dL_isWell_381 : Dx cL_isWell 381 (.iload 11) 2 383 := ⟨by decide +kernel, rfl⟩
theorem dL_isWell_383 : Dc cL_isWell 383 (fun o => .ifCond .lt o) 444 386 := ⟨61, by decide +kernel, by decide, rfl⟩
theorem dL_isWell_386 : Dx cL_isWell 386 (.iload 9) 2 388 := ⟨by decide +kernel, rfl⟩
theorem dL_isWell_388 : Dx cL_isWell 388 (.iload 11) 2 390 := ⟨by decide +kernel, rfl⟩
theorem dL_isWell_390 : Dx cL_isWell 390 (.ishr) 1 391 := ⟨by decide +kernel, rfl⟩
theorem dL_isWell_391 : Dx cL_isWell 391 (.iconst 1) 1 392 := ⟨by decide +kernel, rfl⟩
theorem dL_isWell_392 : Dx cL_isWell 392 (.iand) 1 393 := ⟨by decide +kernel, rfl⟩
theorem dL_isWell_393 : Dc cL_isWell 393 (fun o => .ifCond .eq o) 444 396 := ⟨51, by decide +kernel, by decide, rfl⟩
theorem dL_isWell_396 : Dx cL_isWell 396 (.aload_n 0) 1 397 := ⟨by decide +kernel, rfl⟩
theorem dL_isWell_397 : Dx cL_isWell 397 (.iload 11) 2 399 := ⟨by decide +kernel, rfl⟩
theorem dL_isWell_399 : Dx cL_isWell 399 (.iconst 0) 1 400 := ⟨by decide +kernel, rfl⟩
theorem dL_isWell_400 : Dx cL_isWell 400 (.invokevirtual 169) 3 403 := ⟨by decide +kernel, rfl⟩
theorem dL_isWell_403 : Dx cL_isWell 403 (.iconst 2) 1 404 := ⟨by decide +kernel, rfl⟩
theorem dL_isWell_404 : Dc cL_isWell 404 (fun o => .if_icmp .ne o) 444 407 := ⟨40, by decide +kernel, by decide, rfl⟩
theorem dL_isWell_407 : Dx cL_isWell 407 (.iload 12) 2 409 := ⟨by decide +kernel, rfl⟩
theorem dL_isWell_409 : Dx cL_isWell 409 (.iconst 1) 1 410 := ⟨by decide +kernel, rfl⟩
theorem dL_isWell_410 : Dx cL_isWell 410 (.isub) 1 411 := ⟨by decide +kernel, rfl⟩
theorem dL_isWell_411 : Dx cL_isWell 411 (.iload 10) 2 413 := ⟨by decide +kernel, rfl⟩
theorem dL_isWell_413 : Dx cL_isWell 413 (.iconst 1) 1 414 := ⟨by decide +kernel, rfl⟩
theorem dL_isWell_414 : Dx cL_isWell 414 (.isub) 1 415 := ⟨by decide +kernel, rfl⟩
theorem dL_isWell_415 : Dx cL_isWell 415 (.iconst 2) 1 416 := ⟨by decide +kernel, rfl⟩
theorem dL_isWell_416 : Dx cL_isWell 416 (.idiv) 1 417 := ⟨by decide +kernel, rfl⟩
theorem dL_isWell_417 : Dc cL_isWell 417 (fun o => .if_icmp .ge o) 446 420 := ⟨29, by decide +kernel, by decide, rfl⟩
theorem dL_isWell_420 : Dc cL_isWell 420 (fun o => .goto o) 444 423 := ⟨24, by decide +kernel, by decide, rfl⟩
theorem dL_isWell_423 : Dx cL_isWell 423 (.iload 9) 2 425 := ⟨by decide +kernel, rfl⟩
theorem dL_isWell_425 : Dc cL_isWell 425 (fun o => .ifCond .ne o) 444 428 := ⟨19, by decide +kernel, by decide, rfl⟩
theorem dL_isWell_428 : Dx cL_isWell 428 (.iload 11) 2 430 := ⟨by decide +kernel, rfl⟩
theorem dL_isWell_430 : Dx cL_isWell 430 (.iconst (-1)) 1 431 := ⟨by decide +kernel, rfl⟩
theorem dL_isWell_431 : Dc cL_isWell 431 (fun o => .if_icmp .ne o) 444 434 := ⟨13, by decide +kernel, by decide, rfl⟩
theorem dL_isWell_434 : Dx cL_isWell 434 (.aload_n 0) 1 435 := ⟨by decide +kernel, rfl⟩
theorem dL_isWell_435 : Dx cL_isWell 435 (.iload 7) 2 437 := ⟨by decide +kernel, rfl⟩
theorem dL_isWell_437 : Dx cL_isWell 437 (.iconst 3) 1 438 := ⟨by decide +kernel, rfl⟩
theorem dL_isWell_438 : Dx cL_isWell 438 (.invokevirtual 172) 3 441 := ⟨by decide +kernel, rfl⟩
theorem dL_isWell_441 : Dc cL_isWell 441 (fun o => .ifCond .eq o) 446 444 := ⟨5, by decide +kernel, by decide, rfl⟩
theorem dL_isWell_444 : Dx cL_isWell 444 (.iconst 0) 1 445 := ⟨by decide +kernel, rfl⟩
theorem dL_isWell_445 : Dx cL_isWell 445 (.ireturn) 1 446 := ⟨by decide +kernel, rfl⟩
theorem dL_isWell_446 : Dx cL_isWell 446 (.iload_n 3) 1 447 := ⟨by decide +kernel, rfl⟩
theorem dL_isWell_447 : Dx cL_isWell 447 (.iload 9) 2 449 := ⟨by decide +kernel, rfl⟩
theorem dL_isWell_449 : Dx cL_isWell 449 (.iconst (-1)) 1 450 := ⟨by decide +kernel, rfl⟩
theorem dL_isWell_450 : Dx cL_isWell 450 (.ixor) 1 451 := ⟨by decide +kernel, rfl⟩
theorem dL_isWell_451 : Dx cL_isWell 451 (.iand) 1 452 := ⟨by decide +kernel, rfl⟩
theorem dL_isWell_452 : Dx cL_isWell 452 (.istore_n 3) 1 453 := ⟨by decide +kernel, rfl⟩
theorem dL_isWell_453 : Dx cL_isWell 453 (.iload 5) 2 455 := ⟨by decide +kernel, rfl⟩
theorem dL_isWell_455 : Dx cL_isWell 455 (.iload 8) 2 457 := ⟨by decide +kernel, rfl⟩
theorem dL_isWell_457 : Dc cL_isWell 457 (fun o => .ifCond .eq o) 467 460 := ⟨10, by decide +kernel, by decide, rfl⟩
theorem dL_isWell_460 : Dx cL_isWell 460 (.iload 10) 2 462 := ⟨by decide +kernel, rfl⟩
theorem dL_isWell_462 : Dx cL_isWell 462 (.iconst 1) 1 463 := ⟨by decide +kernel, rfl⟩
theorem dL_isWell_463 : Dx cL_isWell 463 (.isub) 1 464 := ⟨by decide +kernel, rfl⟩
theorem dL_isWell_464 : Dc cL_isWell 464 (fun o => .goto o) 468 467 := ⟨4, by decide +kernel, by decide, rfl⟩
theorem dL_isWell_467 : Dx cL_isWell 467 (.iconst 0) 1 468 := ⟨by decide +kernel, rfl⟩
theorem dL_isWell_468 : Dx cL_isWell 468 (.iadd) 1 469 := ⟨by decide +kernel, rfl⟩
theorem dL_isWell_469 : Dx cL_isWell 469 (.istore 5) 2 471 := ⟨by decide +kernel, rfl⟩
theorem dL_isWell_471 : Dx cL_isWell 471 (.iload 6) 2 473 := ⟨by decide +kernel, rfl⟩
theorem dL_isWell_473 : Dx cL_isWell 473 (.iload 8) 2 475 := ⟨by decide +kernel, rfl⟩
theorem dL_isWell_475 : Dc cL_isWell 475 (fun o => .ifCond .eq o) 482 478 := ⟨7, by decide +kernel, by decide, rfl⟩
theorem dL_isWell_478 : Dx cL_isWell 478 (.iconst 1) 1 479 := ⟨by decide +kernel, rfl⟩
theorem dL_isWell_479 : Dc cL_isWell 479 (fun o => .goto o) 483 482 := ⟨4, by decide +kernel, by decide, rfl⟩
theorem dL_isWell_482 : Dx cL_isWell 482 (.iconst 0) 1 483 := ⟨by decide +kernel, rfl⟩
theorem dL_isWell_483 : Dx cL_isWell 483 (.iadd) 1 484 := ⟨by decide +kernel, rfl⟩
theorem dL_isWell_484 : Dx cL_isWell 484 (.istore 6) 2 486 := ⟨by decide +kernel, rfl⟩
theorem dL_isWell_486 : Dx cL_isWell 486 (.aload_n 0) 1 487 := ⟨by decide +kernel, rfl⟩
theorem dL_isWell_487 : Dx cL_isWell 487 (.iload 7) 2 489 := ⟨by decide +kernel, rfl⟩
theorem dL_isWell_489 : Dx cL_isWell 489 (.invokestatic 184) 3 492 := ⟨by decide +kernel, rfl⟩
theorem dL_isWell_492 : Dx cL_isWell 492 (.istore 13) 2 494 := ⟨by decide +kernel, rfl⟩
theorem dL_isWell_494 : Dx cL_isWell 494 (.aload_n 0) 1 495 := ⟨by decide +kernel, rfl⟩
theorem dL_isWell_495 : Dx cL_isWell 495 (.iload 7) 2 497 := ⟨by decide +kernel, rfl⟩
theorem dL_isWell_497 : Dx cL_isWell 497 (.invokestatic 186) 3 500 := ⟨by decide +kernel, rfl⟩
theorem dL_isWell_500 : Dx cL_isWell 500 (.istore 14) 2 502 := ⟨by decide +kernel, rfl⟩
theorem dL_isWell_502 : Dx cL_isWell 502 (.iload 13) 2 504 := ⟨by decide +kernel, rfl⟩
theorem dL_isWell_504 : Dx cL_isWell 504 (.aload_n 0) 1 505 := ⟨by decide +kernel, rfl⟩
theorem dL_isWell_505 : Dx cL_isWell 505 (.iload 7) 2 507 := ⟨by decide +kernel, rfl⟩
theorem dL_isWell_507 : Dx cL_isWell 507 (.invokestatic 188) 3 510 := ⟨by decide +kernel, rfl⟩
theorem dL_isWell_510 : Dc cL_isWell 510 (fun o => .if_icmp .ne o) 565 513 := ⟨55, by decide +kernel, by decide, rfl⟩
theorem dL_isWell_513 : Dx cL_isWell 513 (.aload_n 0) 1 514 := ⟨by decide +kernel, rfl⟩
theorem dL_isWell_514 : Dx cL_isWell 514 (.iload 7) 2 516 := ⟨by decide +kernel, rfl⟩
theorem dL_isWell_516 : Dx cL_isWell 516 (.invokestatic 190) 3 519 := ⟨by decide +kernel, rfl⟩
theorem dL_isWell_519 : Dx cL_isWell 519 (.aload_n 0) 1 520 := ⟨by decide +kernel, rfl⟩
theorem dL_isWell_520 : Dx cL_isWell 520 (.iload 7) 2 522 := ⟨by decide +kernel, rfl⟩
theorem dL_isWell_522 : Dx cL_isWell 522 (.invokestatic 192) 3 525 := ⟨by decide +kernel, rfl⟩
theorem dL_isWell_525 : Dc cL_isWell 525 (fun o => .if_icmp .ne o) 565 528 := ⟨40, by decide +kernel, by decide, rfl⟩
theorem dL_isWell_528 : Dx cL_isWell 528 (.iload 13) 2 530 := ⟨by decide +kernel, rfl⟩
theorem dL_isWell_530 : Dc cL_isWell 530 (fun o => .ifCond .ge o) 537 533 := ⟨7, by decide +kernel, by decide, rfl⟩
theorem dL_isWell_533 : Dx cL_isWell 533 (.iconst 1) 1 534 := ⟨by decide +kernel, rfl⟩
theorem dL_isWell_534 : Dc cL_isWell 534 (fun o => .goto o) 538 537 := ⟨4, by decide +kernel, by decide, rfl⟩
theorem dL_isWell_537 : Dx cL_isWell 537 (.iconst 0) 1 538 := ⟨by decide +kernel, rfl⟩
theorem dL_isWell_538 : Dx cL_isWell 538 (.iload 14) 2 540 := ⟨by decide +kernel, rfl⟩
theorem dL_isWell_540 : Dc cL_isWell 540 (fun o => .ifCond .ge o) 547 543 := ⟨7, by decide +kernel, by decide, rfl⟩
theorem dL_isWell_543 : Dx cL_isWell 543 (.iconst 1) 1 544 := ⟨by decide +kernel, rfl⟩
theorem dL_isWell_544 : Dc cL_isWell 544 (fun o => .goto o) 548 547 := ⟨4, by decide +kernel, by decide, rfl⟩
theorem dL_isWell_547 : Dx cL_isWell 547 (.iconst 0) 1 548 := ⟨by decide +kernel, rfl⟩
theorem dL_isWell_548 : Dc cL_isWell 548 (fun o => .if_icmp .ne o) 565 551 := ⟨17, by decide +kernel, by decide, rfl⟩
theorem dL_isWell_551 : Dx cL_isWell 551 (.iload 14) 2 553 := ⟨by decide +kernel, rfl⟩
theorem dL_isWell_553 : Dc cL_isWell 553 (fun o => .ifCond .lt o) 567 556 := ⟨14, by decide +kernel, by decide, rfl⟩
theorem dL_isWell_556 : Dx cL_isWell 556 (.iload 14) 2 558 := ⟨by decide +kernel, rfl⟩
theorem dL_isWell_558 : Dx cL_isWell 558 (.iload_n 1) 1 559 := ⟨by decide +kernel, rfl⟩
theorem dL_isWell_559 : Dx cL_isWell 559 (.iconst (-1)) 1 560 := ⟨by decide +kernel, rfl⟩
theorem dL_isWell_560 : Dx cL_isWell 560 (.ixor) 1 561 := ⟨by decide +kernel, rfl⟩
theorem dL_isWell_561 : Dx cL_isWell 561 (.iand) 1 562 := ⟨by decide +kernel, rfl⟩
theorem dL_isWell_562 : Dc cL_isWell 562 (fun o => .ifCond .eq o) 567 565 := ⟨5, by decide +kernel, by decide, rfl⟩
theorem dL_isWell_565 : Dx cL_isWell 565 (.iconst 0) 1 566 := ⟨by decide +kernel, rfl⟩
theorem dL_isWell_566 : Dx cL_isWell 566 (.ireturn) 1 567 := ⟨by decide +kernel, rfl⟩
theorem dL_isWell_567 : Dx cL_isWell 567 (.iinc 7 1) 3 570 := ⟨by decide +kernel, rfl⟩
theorem dL_isWell_570 : Dc cL_isWell 570 (fun o => .goto o) 234 573 := ⟨(-336), by decide +kernel, by decide, rfl⟩
theorem dL_isWell_573 : Dx cL_isWell 573 (.iload_n 1) 1 574 := ⟨by decide +kernel, rfl⟩
theorem dL_isWell_574 : Dx cL_isWell 574 (.aload_n 0) 1 575 := ⟨by decide +kernel, rfl⟩
theorem dL_isWell_575 : Dx cL_isWell 575 (.invokevirtual 194) 3 578 := ⟨by decide +kernel, rfl⟩
theorem dL_isWell_578 : Dc cL_isWell 578 (fun o => .if_icmp .ne o) 656 581 := ⟨78, by decide +kernel, by decide, rfl⟩
theorem dL_isWell_581 : Dx cL_isWell 581 (.iload_n 2) 1 582 := ⟨by decide +kernel, rfl⟩
theorem dL_isWell_582 : Dx cL_isWell 582 (.aload_n 0) 1 583 := ⟨by decide +kernel, rfl⟩
theorem dL_isWell_583 : Dx cL_isWell 583 (.iconst 2) 1 584 := ⟨by decide +kernel, rfl⟩
theorem dL_isWell_584 : Dx cL_isWell 584 (.invokevirtual 166) 3 587 := ⟨by decide +kernel, rfl⟩
theorem dL_isWell_587 : Dc cL_isWell 587 (fun o => .if_icmp .ne o) 656 590 := ⟨69, by decide +kernel, by decide, rfl⟩
theorem dL_isWell_590 : Dx cL_isWell 590 (.iload_n 3) 1 591 := ⟨by decide +kernel, rfl⟩
theorem dL_isWell_591 : Dc cL_isWell 591 (fun o => .ifCond .ne o) 656 594 := ⟨65, by decide +kernel, by decide, rfl⟩
theorem dL_isWell_594 : Dx cL_isWell 594 (.iload 4) 2 596 := ⟨by decide +kernel, rfl⟩
theorem dL_isWell_596 : Dx cL_isWell 596 (.aload_n 0) 1 597 := ⟨by decide +kernel, rfl⟩
theorem dL_isWell_597 : Dx cL_isWell 597 (.bipush 6) 2 599 := ⟨by decide +kernel, rfl⟩
theorem dL_isWell_599 : Dx cL_isWell 599 (.invokevirtual 166) 3 602 := ⟨by decide +kernel, rfl⟩
theorem dL_isWell_602 : Dc cL_isWell 602 (fun o => .if_icmp .ne o) 656 605 := ⟨54, by decide +kernel, by decide, rfl⟩
theorem dL_isWell_605 : Dx cL_isWell 605 (.iload 5) 2 607 := ⟨by decide +kernel, rfl⟩
theorem dL_isWell_607 : Dx cL_isWell 607 (.iload 4) 2 609 := ⟨by decide +kernel, rfl⟩
theorem dL_isWell_609 : Dc cL_isWell 609 (fun o => .if_icmp .gt o) 656 612 := ⟨47, by decide +kernel, by decide, rfl⟩
theorem dL_isWell_612 : Dx cL_isWell 612 (.aload_n 0) 1 613 := ⟨by decide +kernel, rfl⟩
theorem dL_isWell_613 : Dx cL_isWell 613 (.invokevirtual 197) 3 616 := ⟨by decide +kernel, rfl⟩
theorem dL_isWell_616 : Dx cL_isWell 616 (.iload 4) 2 618 := ⟨by decide +kernel, rfl⟩
theorem dL_isWell_618 : Dx cL_isWell 618 (.iload 5) 2 620 := ⟨by decide +kernel, rfl⟩
theorem dL_isWell_620 : Dx cL_isWell 620 (.isub) 1 621 := ⟨by decide +kernel, rfl⟩
theorem dL_isWell_621 : Dc cL_isWell 621 (fun o => .if_icmp .ne o) 656 624 := ⟨35, by decide +kernel, by decide, rfl⟩
theorem dL_isWell_624 : Dx cL_isWell 624 (.iload 6) 2 626 := ⟨by decide +kernel, rfl⟩
theorem dL_isWell_626 : Dx cL_isWell 626 (.aload_n 0) 1 627 := ⟨by decide +kernel, rfl⟩
theorem dL_isWell_627 : Dx cL_isWell 627 (.iconst 4) 1 628 := ⟨by decide +kernel, rfl⟩
theorem dL_isWell_628 : Dx cL_isWell 628 (.invokevirtual 166) 3 631 := ⟨by decide +kernel, rfl⟩
theorem dL_isWell_631 : Dc cL_isWell 631 (fun o => .if_icmp .ne o) 656 634 := ⟨25, by decide +kernel, by decide, rfl⟩
theorem dL_isWell_634 : Dx cL_isWell 634 (.aload_n 0) 1 635 := ⟨by decide +kernel, rfl⟩
theorem dL_isWell_635 : Dx cL_isWell 635 (.bipush 7) 2 637 := ⟨by decide +kernel, rfl⟩
theorem dL_isWell_637 : Dx cL_isWell 637 (.invokevirtual 166) 3 640 := ⟨by decide +kernel, rfl⟩
theorem dL_isWell_640 : Dx cL_isWell 640 (.aload_n 0) 1 641 := ⟨by decide +kernel, rfl⟩
theorem dL_isWell_641 : Dx cL_isWell 641 (.bipush 8) 2 643 := ⟨by decide +kernel, rfl⟩
theorem dL_isWell_643 : Dx cL_isWell 643 (.invokevirtual 166) 3 646 := ⟨by decide +kernel, rfl⟩
theorem dL_isWell_646 : Dx cL_isWell 646 (.iload 6) 2 648 := ⟨by decide +kernel, rfl⟩
theorem dL_isWell_648 : Dx cL_isWell 648 (.iadd) 1 649 := ⟨by decide +kernel, rfl⟩
theorem dL_isWell_649 : Dc cL_isWell 649 (fun o => .if_icmp .ne o) 656 652 := ⟨7, by decide +kernel, by decide, rfl⟩
theorem dL_isWell_652 : Dx cL_isWell 652 (.iconst 1) 1 653 := ⟨by decide +kernel, rfl⟩
theorem dL_isWell_653 : Dc cL_isWell 653 (fun o => .goto o) 657 656 := ⟨4, by decide +kernel, by decide, rfl⟩
theorem dL_isWell_656 : Dx cL_isWell 656 (.iconst 0) 1 657 := ⟨by decide +kernel, rfl⟩
theorem dL_isWell_657 : Dx cL_isWell 657 (.ireturn) 1 658 := ⟨by decide +kernel, rfl⟩
theorem dL_law_0 : Dx cL_law 0 (.aload_n 0) 1 1 := ⟨by decide +kernel, rfl⟩
theorem dL_law_1 : Dx cL_law 1 (.invokestatic 200) 3 4 := ⟨by decide +kernel, rfl⟩
theorem dL_law_4 : Dx cL_law 4 (.astore_n 1) 1 5 := ⟨by decide +kernel, rfl⟩
theorem dL_law_5 : Dx cL_law 5 (.aload_n 1) 1 6 := ⟨by decide +kernel, rfl⟩
theorem dL_law_6 : Dc cL_law 6 (fun o => .ifnull o) 16 9 := ⟨10, by decide +kernel, by decide, rfl⟩
theorem dL_law_9 : Dx cL_law 9 (.aload_n 1) 1 10 := ⟨by decide +kernel, rfl⟩
theorem dL_law_10 : Dx cL_law 10 (.invokestatic 204) 3 13 := ⟨by decide +kernel, rfl⟩
theorem dL_law_13 : Dc cL_law 13 (fun o => .ifCond .ne o) 18 16 := ⟨5, by decide +kernel, by decide, rfl⟩
theorem dL_law_16 : Dx cL_law 16 (.iconst 0) 1 17 := ⟨by decide +kernel, rfl⟩
theorem dL_law_17 : Dx cL_law 17 (.ireturn) 1 18 := ⟨by decide +kernel, rfl⟩
theorem dL_law_18 : Dx cL_law 18 (.iconst 0) 1 19 := ⟨by decide +kernel, rfl⟩
theorem dL_law_19 : Dx cL_law 19 (.istore_n 2) 1 20 := ⟨by decide +kernel, rfl⟩
theorem dL_law_20 : Dx cL_law 20 (.iload_n 2) 1 21 := ⟨by decide +kernel, rfl⟩
theorem dL_law_21 : Dx cL_law 21 (.bipush 16) 2 23 := ⟨by decide +kernel, rfl⟩
theorem dL_law_23 : Dc cL_law 23 (fun o => .if_icmp .ge o) 125 26 := ⟨102, by decide +kernel, by decide, rfl⟩
theorem dL_law_26 : Dx cL_law 26 (.aload_n 1) 1 27 := ⟨by decide +kernel, rfl⟩
theorem dL_law_27 : Dx cL_law 27 (.invokestatic 208) 3 30 := ⟨by decide +kernel, rfl⟩
theorem dL_law_30 : Dx cL_law 30 (.astore_n 3) 1 31 := ⟨by decide +kernel, rfl⟩
theorem dL_law_31 : Dx cL_law 31 (.aload_n 1) 1 32 := ⟨by decide +kernel, rfl⟩
theorem dL_law_32 : Dx cL_law 32 (.aload_n 0) 1 33 := ⟨by decide +kernel, rfl⟩
theorem dL_law_33 : Dx cL_law 33 (.bipush 22) 2 35 := ⟨by decide +kernel, rfl⟩
theorem dL_law_35 : Dx cL_law 35 (.iconst 3) 1 36 := ⟨by decide +kernel, rfl⟩
theorem dL_law_36 : Dx cL_law 36 (.iload_n 2) 1 37 := ⟨by decide +kernel, rfl⟩
theorem dL_law_37 : Dx cL_law 37 (.imul) 1 38 := ⟨by decide +kernel, rfl⟩
theorem dL_law_38 : Dx cL_law 38 (.iadd) 1 39 := ⟨by decide +kernel, rfl⟩
theorem dL_law_39 : Dx cL_law 39 (.invokestatic 212) 3 42 := ⟨by decide +kernel, rfl⟩
theorem dL_law_42 : Dx cL_law 42 (.istore 4) 2 44 := ⟨by decide +kernel, rfl⟩
theorem dL_law_44 : Dx cL_law 44 (.aload_n 1) 1 45 := ⟨by decide +kernel, rfl⟩
theorem dL_law_45 : Dx cL_law 45 (.invokestatic 204) 3 48 := ⟨by decide +kernel, rfl⟩
theorem dL_law_48 : Dc cL_law 48 (fun o => .ifCond .eq o) 78 51 := ⟨30, by decide +kernel, by decide, rfl⟩
theorem dL_law_51 : Dx cL_law 51 (.aload_n 1) 1 52 := ⟨by decide +kernel, rfl⟩
theorem dL_law_52 : Dx cL_law 52 (.bipush 12) 2 54 := ⟨by decide +kernel, rfl⟩
theorem dL_law_54 : Dx cL_law 54 (.invokevirtual 166) 3 57 := ⟨by decide +kernel, rfl⟩
theorem dL_law_57 : Dc cL_law 57 (fun o => .ifCond .ne o) 78 60 := ⟨21, by decide +kernel, by decide, rfl⟩
theorem dL_law_60 : Dx cL_law 60 (.iload 4) 2 62 := ⟨by decide +kernel, rfl⟩
theorem dL_law_62 : Dx cL_law 62 (.ldc 216) 2 64 := ⟨by decide +kernel, rfl⟩
theorem dL_law_64 : Dc cL_law 64 (fun o => .if_icmp .gt o) 80 67 := ⟨16, by decide +kernel, by decide, rfl⟩
theorem dL_law_67 : Dx cL_law 67 (.aload_n 3) 1 68 := ⟨by decide +kernel, rfl⟩
theorem dL_law_68 : Dx cL_law 68 (.aload_n 1) 1 69 := ⟨by decide +kernel, rfl⟩
theorem dL_law_69 : Dx cL_law 69 (.invokestatic 208) 3 72 := ⟨by decide +kernel, rfl⟩
theorem dL_law_72 : Dx cL_law 72 (.invokestatic 217) 3 75 := ⟨by decide +kernel, rfl⟩
theorem dL_law_75 : Dc cL_law 75 (fun o => .ifCond .ne o) 80 78 := ⟨5, by decide +kernel, by decide, rfl⟩
theorem dL_law_78 : Dx cL_law 78 (.iconst 0) 1 79 := ⟨by decide +kernel, rfl⟩
theorem dL_law_79 : Dx cL_law 79 (.ireturn) 1 80 := ⟨by decide +kernel, rfl⟩
theorem dL_law_80 : Dx cL_law 80 (.iload 4) 2 82 := ⟨by decide +kernel, rfl⟩
theorem dL_law_82 : Dx cL_law 82 (.ldc 216) 2 84 := ⟨by decide +kernel, rfl⟩
theorem dL_law_84 : Dc cL_law 84 (fun o => .if_icmp .le o) 119 87 := ⟨35, by decide +kernel, by decide, rfl⟩
theorem dL_law_87 : Dx cL_law 87 (.aload_n 0) 1 88 := ⟨by decide +kernel, rfl⟩
theorem dL_law_88 : Dx cL_law 88 (.bipush 80) 2 90 := ⟨by decide +kernel, rfl⟩
theorem dL_law_90 : Dx cL_law 90 (.iload_n 2) 1 91 := ⟨by decide +kernel, rfl⟩
theorem dL_law_91 : Dx cL_law 91 (.iadd) 1 92 := ⟨by decide +kernel, rfl⟩
theorem dL_law_92 : Dx cL_law 92 (.iconst 5) 1 93 := ⟨by decide +kernel, rfl⟩
theorem dL_law_93 : Dx cL_law 93 (.invokestatic 116) 3 96 := ⟨by decide +kernel, rfl⟩
theorem dL_law_96 : Dc cL_law 96 (fun o => .ifCond .ne o) 119 99 := ⟨23, by decide +kernel, by decide, rfl⟩
theorem dL_law_99 : Dx cL_law 99 (.aload_n 1) 1 100 := ⟨by decide +kernel, rfl⟩
theorem dL_law_100 : Dx cL_law 100 (.invokestatic 221) 3 103 := ⟨by decide +kernel, rfl⟩
theorem dL_law_103 : Dc cL_law 103 (fun o => .ifCond .lt o) 117 106 := ⟨14, by decide +kernel, by decide, rfl⟩
theorem dL_law_106 : Dx cL_law 106 (.aload_n 3) 1 107 := ⟨by decide +kernel, rfl⟩
theorem dL_law_107 : Dx cL_law 107 (.aload_n 1) 1 108 := ⟨by decide +kernel, rfl⟩
theorem dL_law_108 : Dx cL_law 108 (.invokestatic 208) 3 111 := ⟨by decide +kernel, rfl⟩
theorem dL_law_111 : Dx cL_law 111 (.invokestatic 217) 3 114 := ⟨by decide +kernel, rfl⟩
theorem dL_law_114 : Dc cL_law 114 (fun o => .ifCond .ne o) 119 117 := ⟨5, by decide +kernel, by decide, rfl⟩
theorem dL_law_117 : Dx cL_law 117 (.iconst 0) 1 118 := ⟨by decide +kernel, rfl⟩
theorem dL_law_118 : Dx cL_law 118 (.ireturn) 1 119 := ⟨by decide +kernel, rfl⟩
theorem dL_law_119 : Dx cL_law 119 (.iinc 2 1) 3 122 := ⟨by decide +kernel, rfl⟩
theorem dL_law_122 : Dc cL_law 122 (fun o => .goto o) 20 125 := ⟨(-102), by decide +kernel, by decide, rfl⟩
theorem dL_law_125 : Dx cL_law 125 (.aload_n 1) 1 126 := ⟨by decide +kernel, rfl⟩
theorem dL_law_126 : Dx cL_law 126 (.invokestatic 208) 3 129 := ⟨by decide +kernel, rfl⟩
theorem dL_law_129 : Dx cL_law 129 (.astore_n 2) 1 130 := ⟨by decide +kernel, rfl⟩
theorem dL_law_130 : Dx cL_law 130 (.aload_n 1) 1 131 := ⟨by decide +kernel, rfl⟩
theorem dL_law_131 : Dx cL_law 131 (.invokevirtual 223) 3 134 := ⟨by decide +kernel, rfl⟩
theorem dL_law_134 : Dx cL_law 134 (.istore_n 3) 1 135 := ⟨by decide +kernel, rfl⟩
theorem dL_law_135 : Dx cL_law 135 (.aload_n 1) 1 136 := ⟨by decide +kernel, rfl⟩
theorem dL_law_136 : Dx cL_law 136 (.iconst 0) 1 137 := ⟨by decide +kernel, rfl⟩
theorem dL_law_137 : Dx cL_law 137 (.invokestatic 226) 3 140 := ⟨by decide +kernel, rfl⟩
theorem dL_law_140 : Dx cL_law 140 (.aload_n 1) 1 141 := ⟨by decide +kernel, rfl⟩
theorem dL_law_141 : Dx cL_law 141 (.iconst 1) 1 142 := ⟨by decide +kernel, rfl⟩
theorem dL_law_142 : Dx cL_law 142 (.invokestatic 190) 3 145 := ⟨by decide +kernel, rfl⟩
theorem dL_law_145 : Dx cL_law 145 (.iadd) 1 146 := ⟨by decide +kernel, rfl⟩
theorem dL_law_146 : Dx cL_law 146 (.aload_n 1) 1 147 := ⟨by decide +kernel, rfl⟩
theorem dL_law_147 : Dx cL_law 147 (.iconst 0) 1 148 := ⟨by decide +kernel, rfl⟩
theorem dL_law_148 : Dx cL_law 148 (.invokestatic 228) 3 151 := ⟨by decide +kernel, rfl⟩
theorem dL_law_151 : Dx cL_law 151 (.iadd) 1 152 := ⟨by decide +kernel, rfl⟩
theorem dL_law_152 : Dx cL_law 152 (.aload_n 1) 1 153 := ⟨by decide +kernel, rfl⟩
theorem dL_law_153 : Dx cL_law 153 (.iconst 0) 1 154 := ⟨by decide +kernel, rfl⟩
theorem dL_law_154 : Dx cL_law 154 (.invokestatic 230) 3 157 := ⟨by decide +kernel, rfl⟩
theorem dL_law_157 : Dx cL_law 157 (.iadd) 1 158 := ⟨by decide +kernel, rfl⟩
theorem dL_law_158 : Dx cL_law 158 (.aload_n 1) 1 159 := ⟨by decide +kernel, rfl⟩
theorem dL_law_159 : Dx cL_law 159 (.iconst 2) 1 160 := ⟨by decide +kernel, rfl⟩
theorem dL_law_160 : Dx cL_law 160 (.invokevirtual 232) 3 163 := ⟨by decide +kernel, rfl⟩
theorem dL_law_163 : Dx cL_law 163 (.iadd) 1 164 := ⟨by decide +kernel, rfl⟩
theorem dL_law_164 : Dx cL_law 164 (.istore 4) 2 166 := ⟨by decide +kernel, rfl⟩
theorem dL_law_166 : Dx cL_law 166 (.aload_n 2) 1 167 := ⟨by decide +kernel, rfl⟩
theorem dL_law_167 : Dx cL_law 167 (.aload_n 1) 1 168 := ⟨by decide +kernel, rfl⟩
theorem dL_law_168 : Dx cL_law 168 (.invokestatic 208) 3 171 := ⟨by decide +kernel, rfl⟩
theorem dL_law_171 : Dx cL_law 171 (.invokestatic 217) 3 174 := ⟨by decide +kernel, rfl⟩
theorem dL_law_174 : Dc cL_law 174 (fun o => .ifCond .ne o) 179 177 := ⟨5, by decide +kernel, by decide, rfl⟩
theorem dL_law_177 : Dx cL_law 177 (.iconst 0) 1 178 := ⟨by decide +kernel, rfl⟩
theorem dL_law_178 : Dx cL_law 178 (.ireturn) 1 179 := ⟨by decide +kernel, rfl⟩
theorem dL_law_179 : Dx cL_law 179 (.iload 4) 2 181 := ⟨by decide +kernel, rfl⟩
theorem dL_law_181 : Dx cL_law 181 (.aload_n 1) 1 182 := ⟨by decide +kernel, rfl⟩
theorem dL_law_182 : Dx cL_law 182 (.bipush 13) 2 184 := ⟨by decide +kernel, rfl⟩
theorem dL_law_184 : Dx cL_law 184 (.invokestatic 130) 3 187 := ⟨by decide +kernel, rfl⟩
theorem dL_law_187 : Dx cL_law 187 (.aload_n 1) 1 188 := ⟨by decide +kernel, rfl⟩
theorem dL_law_188 : Dx cL_law 188 (.iconst 0) 1 189 := ⟨by decide +kernel, rfl⟩
theorem dL_law_189 : Dx cL_law 189 (.iconst 2) 1 190 := ⟨by decide +kernel, rfl⟩
theorem dL_law_190 : Dx cL_law 190 (.invokestatic 132) 3 193 := ⟨by decide +kernel, rfl⟩
theorem dL_law_193 : Dx cL_law 193 (.iadd) 1 194 := ⟨by decide +kernel, rfl⟩
theorem dL_law_194 : Dx cL_law 194 (.aload_n 1) 1 195 := ⟨by decide +kernel, rfl⟩
theorem dL_law_195 : Dx cL_law 195 (.iconst 3) 1 196 := ⟨by decide +kernel, rfl⟩
theorem dL_law_196 : Dx cL_law 196 (.invokestatic 128) 3 199 := ⟨by decide +kernel, rfl⟩
theorem dL_law_199 : Dx cL_law 199 (.iadd) 1 200 := ⟨by decide +kernel, rfl⟩
theorem dL_law_200 : Dx cL_law 200 (.iadd) 1 201 := ⟨by decide +kernel, rfl⟩
theorem dL_law_201 : Dx cL_law 201 (.istore 4) 2 203 := ⟨by decide +kernel, rfl⟩
theorem dL_law_203 : Dx cL_law 203 (.aload_n 1) 1 204 := ⟨by decide +kernel, rfl⟩
theorem dL_law_204 : Dx cL_law 204 (.invokestatic 235) 3 207 := ⟨by decide +kernel, rfl⟩
theorem dL_law_207 : Dx cL_law 207 (.iload_n 3) 1 208 := ⟨by decide +kernel, rfl⟩
theorem dL_law_208 : Dc cL_law 208 (fun o => .if_icmp .ne o) 242 211 := ⟨34, by decide +kernel, by decide, rfl⟩
theorem dL_law_211 : Dx cL_law 211 (.aload_n 2) 1 212 := ⟨by decide +kernel, rfl⟩
theorem dL_law_212 : Dx cL_law 212 (.aload_n 1) 1 213 := ⟨by decide +kernel, rfl⟩
theorem dL_law_213 : Dx cL_law 213 (.invokestatic 208) 3 216 := ⟨by decide +kernel, rfl⟩
theorem dL_law_216 : Dx cL_law 216 (.invokestatic 217) 3 219 := ⟨by decide +kernel, rfl⟩
theorem dL_law_219 : Dc cL_law 219 (fun o => .ifCond .eq o) 242 222 := ⟨23, by decide +kernel, by decide, rfl⟩
theorem dL_law_222 : Dx cL_law 222 (.aload_n 1) 1 223 := ⟨by decide +kernel, rfl⟩
theorem dL_law_223 : Dx cL_law 223 (.bipush 11) 2 225 := ⟨by decide +kernel, rfl⟩
theorem dL_law_225 : Dx cL_law 225 (.invokevirtual 166) 3 228 := ⟨by decide +kernel, rfl⟩
theorem dL_law_228 : Dc cL_law 228 (fun o => .ifCond .ne o) 242 231 := ⟨14, by decide +kernel, by decide, rfl⟩
theorem dL_law_231 : Dx cL_law 231 (.iload 4) 2 233 := ⟨by decide +kernel, rfl⟩
theorem dL_law_233 : Dx cL_law 233 (.ldc 134) 2 235 := ⟨by decide +kernel, rfl⟩
theorem dL_law_235 : Dc cL_law 235 (fun o => .if_icmp .le o) 242 238 := ⟨7, by decide +kernel, by decide, rfl⟩
theorem dL_law_238 : Dx cL_law 238 (.iconst 1) 1 239 := ⟨by decide +kernel, rfl⟩
theorem dL_law_239 : Dc cL_law 239 (fun o => .goto o) 243 242 := ⟨4, by decide +kernel, by decide, rfl⟩
theorem dL_law_242 : Dx cL_law 242 (.iconst 0) 1 243 := ⟨by decide +kernel, rfl⟩
theorem dL_law_243 : Dx cL_law 243 (.ireturn) 1 244 := ⟨by decide +kernel, rfl⟩
