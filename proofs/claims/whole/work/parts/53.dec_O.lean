theorem d_O_init_0 : decode b_O_init 0 = .ok (.aload_n 0, 1) := by decide +kernel
theorem d_O_init_1 : decode b_O_init 1 = .ok (.invokespecial 3, 3) := by decide +kernel
theorem d_O_init_4 : decode b_O_init 4 = .ok (.aload_n 0, 1) := by decide +kernel
theorem d_O_init_5 : decode b_O_init 5 = .ok (.sipush 6000, 3) := by decide +kernel
theorem d_O_init_8 : decode b_O_init 8 = .ok (.newarray .int, 2) := by decide +kernel
theorem d_O_init_10 : decode b_O_init 10 = .ok (.putfield 9, 3) := by decide +kernel
theorem d_O_init_13 : decode b_O_init 13 = .ok (.aload_n 0, 1) := by decide +kernel
theorem d_O_init_14 : decode b_O_init 14 = .ok (.iconst 0, 1) := by decide +kernel
theorem d_O_init_15 : decode b_O_init 15 = .ok (.putfield 15, 3) := by decide +kernel
theorem d_O_init_18 : decode b_O_init 18 = .ok (.return_, 1) := by decide +kernel
theorem d_O_size_0 : decode b_O_size 0 = .ok (.aload_n 0, 1) := by decide +kernel
theorem d_O_size_1 : decode b_O_size 1 = .ok (.getfield 15, 3) := by decide +kernel
theorem d_O_size_4 : decode b_O_size 4 = .ok (.ireturn, 1) := by decide +kernel
theorem d_O_get_0 : decode b_O_get 0 = .ok (.iload_n 1, 1) := by decide +kernel
theorem d_O_get_1 : decode b_O_get 1 = .ok (.ifCond .lt 20, 3) := by decide +kernel
theorem d_O_get_4 : decode b_O_get 4 = .ok (.iload_n 1, 1) := by decide +kernel
theorem d_O_get_5 : decode b_O_get 5 = .ok (.aload_n 0, 1) := by decide +kernel
theorem d_O_get_6 : decode b_O_get 6 = .ok (.getfield 15, 3) := by decide +kernel
theorem d_O_get_9 : decode b_O_get 9 = .ok (.if_icmp .ge 12, 3) := by decide +kernel
theorem d_O_get_12 : decode b_O_get 12 = .ok (.aload_n 0, 1) := by decide +kernel
theorem d_O_get_13 : decode b_O_get 13 = .ok (.getfield 9, 3) := by decide +kernel
theorem d_O_get_16 : decode b_O_get 16 = .ok (.iload_n 1, 1) := by decide +kernel
theorem d_O_get_17 : decode b_O_get 17 = .ok (.iaload, 1) := by decide +kernel
theorem d_O_get_18 : decode b_O_get 18 = .ok (.goto 4, 3) := by decide +kernel
theorem d_O_get_21 : decode b_O_get 21 = .ok (.iconst (-1), 1) := by decide +kernel
theorem d_O_get_22 : decode b_O_get 22 = .ok (.ireturn, 1) := by decide +kernel
theorem d_O_put_0 : decode b_O_put 0 = .ok (.iload_n 1, 1) := by decide +kernel
theorem d_O_put_1 : decode b_O_put 1 = .ok (.ifCond .lt 11, 3) := by decide +kernel
theorem d_O_put_4 : decode b_O_put 4 = .ok (.iload_n 1, 1) := by decide +kernel
theorem d_O_put_5 : decode b_O_put 5 = .ok (.aload_n 0, 1) := by decide +kernel
theorem d_O_put_6 : decode b_O_put 6 = .ok (.getfield 15, 3) := by decide +kernel
theorem d_O_put_9 : decode b_O_put 9 = .ok (.if_icmp .lt 5, 3) := by decide +kernel
theorem d_O_put_12 : decode b_O_put 12 = .ok (.iconst 0, 1) := by decide +kernel
theorem d_O_put_13 : decode b_O_put 13 = .ok (.ireturn, 1) := by decide +kernel
theorem d_O_put_14 : decode b_O_put 14 = .ok (.aload_n 0, 1) := by decide +kernel
theorem d_O_put_15 : decode b_O_put 15 = .ok (.getfield 9, 3) := by decide +kernel
theorem d_O_put_18 : decode b_O_put 18 = .ok (.iload_n 1, 1) := by decide +kernel
theorem d_O_put_19 : decode b_O_put 19 = .ok (.iload_n 2, 1) := by decide +kernel
theorem d_O_put_20 : decode b_O_put 20 = .ok (.sipush 255, 3) := by decide +kernel
theorem d_O_put_23 : decode b_O_put 23 = .ok (.iand, 1) := by decide +kernel
theorem d_O_put_24 : decode b_O_put 24 = .ok (.iastore, 1) := by decide +kernel
theorem d_O_put_25 : decode b_O_put 25 = .ok (.iconst 1, 1) := by decide +kernel
theorem d_O_put_26 : decode b_O_put 26 = .ok (.ireturn, 1) := by decide +kernel
theorem d_O_append_0 : decode b_O_append 0 = .ok (.aload_n 0, 1) := by decide +kernel
theorem d_O_append_1 : decode b_O_append 1 = .ok (.getfield 15, 3) := by decide +kernel
theorem d_O_append_4 : decode b_O_append 4 = .ok (.sipush 6000, 3) := by decide +kernel
theorem d_O_append_7 : decode b_O_append 7 = .ok (.if_icmp .lt 5, 3) := by decide +kernel
theorem d_O_append_10 : decode b_O_append 10 = .ok (.iconst 0, 1) := by decide +kernel
theorem d_O_append_11 : decode b_O_append 11 = .ok (.ireturn, 1) := by decide +kernel
theorem d_O_append_12 : decode b_O_append 12 = .ok (.aload_n 0, 1) := by decide +kernel
theorem d_O_append_13 : decode b_O_append 13 = .ok (.getfield 9, 3) := by decide +kernel
theorem d_O_append_16 : decode b_O_append 16 = .ok (.aload_n 0, 1) := by decide +kernel
theorem d_O_append_17 : decode b_O_append 17 = .ok (.getfield 15, 3) := by decide +kernel
theorem d_O_append_20 : decode b_O_append 20 = .ok (.iload_n 1, 1) := by decide +kernel
theorem d_O_append_21 : decode b_O_append 21 = .ok (.sipush 255, 3) := by decide +kernel
theorem d_O_append_24 : decode b_O_append 24 = .ok (.iand, 1) := by decide +kernel
theorem d_O_append_25 : decode b_O_append 25 = .ok (.iastore, 1) := by decide +kernel
theorem d_O_append_26 : decode b_O_append 26 = .ok (.aload_n 0, 1) := by decide +kernel
theorem d_O_append_27 : decode b_O_append 27 = .ok (.dup, 1) := by decide +kernel
theorem d_O_append_28 : decode b_O_append 28 = .ok (.getfield 15, 3) := by decide +kernel
theorem d_O_append_31 : decode b_O_append 31 = .ok (.iconst 1, 1) := by decide +kernel
theorem d_O_append_32 : decode b_O_append 32 = .ok (.iadd, 1) := by decide +kernel
theorem d_O_append_33 : decode b_O_append 33 = .ok (.putfield 15, 3) := by decide +kernel
theorem d_O_append_36 : decode b_O_append 36 = .ok (.iconst 1, 1) := by decide +kernel
theorem d_O_append_37 : decode b_O_append 37 = .ok (.ireturn, 1) := by decide +kernel
theorem d_O_keep_0 : decode b_O_keep 0 = .ok (.iload_n 1, 1) := by decide +kernel
theorem d_O_keep_1 : decode b_O_keep 1 = .ok (.ifCond .lt 11, 3) := by decide +kernel
theorem d_O_keep_4 : decode b_O_keep 4 = .ok (.iload_n 1, 1) := by decide +kernel
theorem d_O_keep_5 : decode b_O_keep 5 = .ok (.aload_n 0, 1) := by decide +kernel
theorem d_O_keep_6 : decode b_O_keep 6 = .ok (.getfield 15, 3) := by decide +kernel
theorem d_O_keep_9 : decode b_O_keep 9 = .ok (.if_icmp .le 5, 3) := by decide +kernel
theorem d_O_keep_12 : decode b_O_keep 12 = .ok (.iconst 0, 1) := by decide +kernel
theorem d_O_keep_13 : decode b_O_keep 13 = .ok (.ireturn, 1) := by decide +kernel
theorem d_O_keep_14 : decode b_O_keep 14 = .ok (.aload_n 0, 1) := by decide +kernel
theorem d_O_keep_15 : decode b_O_keep 15 = .ok (.iload_n 1, 1) := by decide +kernel
theorem d_O_keep_16 : decode b_O_keep 16 = .ok (.putfield 15, 3) := by decide +kernel
theorem d_O_keep_19 : decode b_O_keep 19 = .ok (.iconst 1, 1) := by decide +kernel
theorem d_O_keep_20 : decode b_O_keep 20 = .ok (.ireturn, 1) := by decide +kernel
