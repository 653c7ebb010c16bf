theorem dJx4a65c_grow_92f84_48 : decode cJx4a65c_grow_92f84 48 = .ok (.iload_n 1, 1) := by decide +kernel
theorem dJx4a65c_grow_92f84_49 : decode cJx4a65c_grow_92f84 49 = .ok (.invokestatic 79, 3) := by decide +kernel
theorem dJx4a65c_grow_92f84_52 : decode cJx4a65c_grow_92f84 52 = .ok (.anewarray 7, 3) := by decide +kernel
theorem dJx4a65c_grow_92f84_55 : decode cJx4a65c_grow_92f84 55 = .ok (.dup_x1, 1) := by decide +kernel
theorem dJx4a65c_grow_92f84_56 : decode cJx4a65c_grow_92f84 56 = .ok (.putfield 9, 3) := by decide +kernel
theorem dJx4a65c_grow_92f84_59 : decode cJx4a65c_grow_92f84 59 = .ok (.areturn, 1) := by decide +kernel
theorem dJx4a65c_grow_d5877_0 : decode cJx4a65c_grow_d5877 0 = .ok (.aload_n 0, 1) := by decide +kernel
theorem dJx4a65c_grow_d5877_1 : decode cJx4a65c_grow_d5877 1 = .ok (.aload_n 0, 1) := by decide +kernel
theorem dJx4a65c_grow_d5877_2 : decode cJx4a65c_grow_d5877 2 = .ok (.getfield 48, 3) := by decide +kernel
theorem dJx4a65c_grow_d5877_5 : decode cJx4a65c_grow_d5877 5 = .ok (.iconst 1, 1) := by decide +kernel
theorem dJx4a65c_grow_d5877_6 : decode cJx4a65c_grow_d5877 6 = .ok (.iadd, 1) := by decide +kernel
theorem dJx4a65c_grow_d5877_7 : decode cJx4a65c_grow_d5877 7 = .ok (.invokevirtual 69, 3) := by decide +kernel
theorem dJx4a65c_grow_d5877_10 : decode cJx4a65c_grow_d5877 10 = .ok (.areturn, 1) := by decide +kernel
theorem dJx4a65c_size_8abf5_0 : decode cJx4a65c_size_8abf5 0 = .ok (.aload_n 0, 1) := by decide +kernel
theorem dJx4a65c_size_8abf5_1 : decode cJx4a65c_size_8abf5 1 = .ok (.getfield 48, 3) := by decide +kernel
theorem dJx4a65c_size_8abf5_4 : decode cJx4a65c_size_8abf5 4 = .ok (.ireturn, 1) := by decide +kernel
theorem dJx4a65c_elementData_915e3_0 : decode cJx4a65c_elementData_915e3 0 = .ok (.aload_n 0, 1) := by decide +kernel
theorem dJx4a65c_elementData_915e3_1 : decode cJx4a65c_elementData_915e3 1 = .ok (.getfield 9, 3) := by decide +kernel
theorem dJx4a65c_elementData_915e3_4 : decode cJx4a65c_elementData_915e3 4 = .ok (.iload_n 1, 1) := by decide +kernel
theorem dJx4a65c_elementData_915e3_5 : decode cJx4a65c_elementData_915e3 5 = .ok (.aaload, 1) := by decide +kernel
theorem dJx4a65c_elementData_915e3_6 : decode cJx4a65c_elementData_915e3 6 = .ok (.areturn, 1) := by decide +kernel
theorem dJx4a65c_get_915e3_0 : decode cJx4a65c_get_915e3 0 = .ok (.iload_n 1, 1) := by decide +kernel
theorem dJx4a65c_get_915e3_1 : decode cJx4a65c_get_915e3 1 = .ok (.aload_n 0, 1) := by decide +kernel
theorem dJx4a65c_get_915e3_2 : decode cJx4a65c_get_915e3 2 = .ok (.getfield 48, 3) := by decide +kernel
theorem dJx4a65c_get_915e3_5 : decode cJx4a65c_get_915e3 5 = .ok (.invokestatic 118, 3) := by decide +kernel
theorem dJx4a65c_get_915e3_8 : decode cJx4a65c_get_915e3 8 = .ok (.pop, 1) := by decide +kernel
theorem dJx4a65c_get_915e3_9 : decode cJx4a65c_get_915e3 9 = .ok (.aload_n 0, 1) := by decide +kernel
theorem dJx4a65c_get_915e3_10 : decode cJx4a65c_get_915e3 10 = .ok (.iload_n 1, 1) := by decide +kernel
theorem dJx4a65c_get_915e3_11 : decode cJx4a65c_get_915e3 11 = .ok (.invokevirtual 123, 3) := by decide +kernel
theorem dJx4a65c_get_915e3_14 : decode cJx4a65c_get_915e3 14 = .ok (.areturn, 1) := by decide +kernel
theorem dJx4a65c_add_72be8_0 : decode cJx4a65c_add_72be8 0 = .ok (.iload_n 3, 1) := by decide +kernel
theorem dJx4a65c_add_72be8_1 : decode cJx4a65c_add_72be8 1 = .ok (.aload_n 2, 1) := by decide +kernel
theorem dJx4a65c_add_72be8_2 : decode cJx4a65c_add_72be8 2 = .ok (.arraylength, 1) := by decide +kernel
theorem dJx4a65c_add_72be8_3 : decode cJx4a65c_add_72be8 3 = .ok (.if_icmp .ne 8, 3) := by decide +kernel
theorem dJx4a65c_add_72be8_6 : decode cJx4a65c_add_72be8 6 = .ok (.aload_n 0, 1) := by decide +kernel
theorem dJx4a65c_add_72be8_7 : decode cJx4a65c_add_72be8 7 = .ok (.invokevirtual 129, 3) := by decide +kernel
theorem dJx4a65c_add_72be8_10 : decode cJx4a65c_add_72be8 10 = .ok (.astore_n 2, 1) := by decide +kernel
theorem dJx4a65c_add_72be8_11 : decode cJx4a65c_add_72be8 11 = .ok (.aload_n 2, 1) := by decide +kernel
theorem dJx4a65c_add_72be8_12 : decode cJx4a65c_add_72be8 12 = .ok (.iload_n 3, 1) := by decide +kernel
theorem dJx4a65c_add_72be8_13 : decode cJx4a65c_add_72be8 13 = .ok (.aload_n 1, 1) := by decide +kernel
theorem dJx4a65c_add_72be8_14 : decode cJx4a65c_add_72be8 14 = .ok (.aastore, 1) := by decide +kernel
theorem dJx4a65c_add_72be8_15 : decode cJx4a65c_add_72be8 15 = .ok (.aload_n 0, 1) := by decide +kernel
theorem dJx4a65c_add_72be8_16 : decode cJx4a65c_add_72be8 16 = .ok (.iload_n 3, 1) := by decide +kernel
theorem dJx4a65c_add_72be8_17 : decode cJx4a65c_add_72be8 17 = .ok (.iconst 1, 1) := by decide +kernel
theorem dJx4a65c_add_72be8_18 : decode cJx4a65c_add_72be8 18 = .ok (.iadd, 1) := by decide +kernel
theorem dJx4a65c_add_72be8_19 : decode cJx4a65c_add_72be8 19 = .ok (.putfield 48, 3) := by decide +kernel
theorem dJx4a65c_add_72be8_22 : decode cJx4a65c_add_72be8 22 = .ok (.return_, 1) := by decide +kernel
theorem dJx4a65c_add_9ea2d_0 : decode cJx4a65c_add_9ea2d 0 = .ok (.aload_n 0, 1) := by decide +kernel
theorem dJx4a65c_add_9ea2d_1 : decode cJx4a65c_add_9ea2d 1 = .ok (.dup, 1) := by decide +kernel
theorem dJx4a65c_add_9ea2d_2 : decode cJx4a65c_add_9ea2d 2 = .ok (.getfield 63, 3) := by decide +kernel
theorem dJx4a65c_add_9ea2d_5 : decode cJx4a65c_add_9ea2d 5 = .ok (.iconst 1, 1) := by decide +kernel
theorem dJx4a65c_add_9ea2d_6 : decode cJx4a65c_add_9ea2d 6 = .ok (.iadd, 1) := by decide +kernel
theorem dJx4a65c_add_9ea2d_7 : decode cJx4a65c_add_9ea2d 7 = .ok (.putfield 63, 3) := by decide +kernel
theorem dJx4a65c_add_9ea2d_10 : decode cJx4a65c_add_9ea2d 10 = .ok (.aload_n 0, 1) := by decide +kernel
theorem dJx4a65c_add_9ea2d_11 : decode cJx4a65c_add_9ea2d 11 = .ok (.aload_n 1, 1) := by decide +kernel
theorem dJx4a65c_add_9ea2d_12 : decode cJx4a65c_add_9ea2d 12 = .ok (.aload_n 0, 1) := by decide +kernel
theorem dJx4a65c_add_9ea2d_13 : decode cJx4a65c_add_9ea2d 13 = .ok (.getfield 9, 3) := by decide +kernel
theorem dJx4a65c_add_9ea2d_16 : decode cJx4a65c_add_9ea2d 16 = .ok (.aload_n 0, 1) := by decide +kernel
theorem dJx4a65c_add_9ea2d_17 : decode cJx4a65c_add_9ea2d 17 = .ok (.getfield 48, 3) := by decide +kernel
theorem dJx4a65c_add_9ea2d_20 : decode cJx4a65c_add_9ea2d 20 = .ok (.invokevirtual 131, 3) := by decide +kernel
theorem dJx4a65c_add_9ea2d_23 : decode cJx4a65c_add_9ea2d 23 = .ok (.iconst 1, 1) := by decide +kernel
theorem dJx4a65c_add_9ea2d_24 : decode cJx4a65c_add_9ea2d 24 = .ok (.ireturn, 1) := by decide +kernel
theorem dJx4a65c_remove_915e3_0 : decode cJx4a65c_remove_915e3 0 = .ok (.iload_n 1, 1) := by decide +kernel
theorem dJx4a65c_remove_915e3_1 : decode cJx4a65c_remove_915e3 1 = .ok (.aload_n 0, 1) := by decide +kernel
theorem dJx4a65c_remove_915e3_2 : decode cJx4a65c_remove_915e3 2 = .ok (.getfield 48, 3) := by decide +kernel
theorem dJx4a65c_remove_915e3_5 : decode cJx4a65c_remove_915e3 5 = .ok (.invokestatic 118, 3) := by decide +kernel
theorem dJx4a65c_remove_915e3_8 : decode cJx4a65c_remove_915e3 8 = .ok (.pop, 1) := by decide +kernel
theorem dJx4a65c_remove_915e3_9 : decode cJx4a65c_remove_915e3 9 = .ok (.aload_n 0, 1) := by decide +kernel
theorem dJx4a65c_remove_915e3_10 : decode cJx4a65c_remove_915e3 10 = .ok (.getfield 9, 3) := by decide +kernel
theorem dJx4a65c_remove_915e3_13 : decode cJx4a65c_remove_915e3 13 = .ok (.astore_n 2, 1) := by decide +kernel
theorem dJx4a65c_remove_915e3_14 : decode cJx4a65c_remove_915e3 14 = .ok (.aload_n 2, 1) := by decide +kernel
theorem dJx4a65c_remove_915e3_15 : decode cJx4a65c_remove_915e3 15 = .ok (.iload_n 1, 1) := by decide +kernel
theorem dJx4a65c_remove_915e3_16 : decode cJx4a65c_remove_915e3 16 = .ok (.aaload, 1) := by decide +kernel
theorem dJx4a65c_remove_915e3_17 : decode cJx4a65c_remove_915e3 17 = .ok (.astore_n 3, 1) := by decide +kernel
theorem dJx4a65c_remove_915e3_18 : decode cJx4a65c_remove_915e3 18 = .ok (.aload_n 0, 1) := by decide +kernel
theorem dJx4a65c_remove_915e3_19 : decode cJx4a65c_remove_915e3 19 = .ok (.aload_n 2, 1) := by decide +kernel
theorem dJx4a65c_remove_915e3_20 : decode cJx4a65c_remove_915e3 20 = .ok (.iload_n 1, 1) := by decide +kernel
theorem dJx4a65c_remove_915e3_21 : decode cJx4a65c_remove_915e3 21 = .ok (.invokevirtual 144, 3) := by decide +kernel
theorem dJx4a65c_remove_915e3_24 : decode cJx4a65c_remove_915e3 24 = .ok (.aload_n 3, 1) := by decide +kernel
theorem dJx4a65c_remove_915e3_25 : decode cJx4a65c_remove_915e3 25 = .ok (.areturn, 1) := by decide +kernel
theorem dJx4a65c_fastRemove_b59b0_0 : decode cJx4a65c_fastRemove_b59b0 0 = .ok (.aload_n 0, 1) := by decide +kernel
theorem dJx4a65c_fastRemove_b59b0_1 : decode cJx4a65c_fastRemove_b59b0 1 = .ok (.dup, 1) := by decide +kernel
theorem dJx4a65c_fastRemove_b59b0_2 : decode cJx4a65c_fastRemove_b59b0 2 = .ok (.getfield 63, 3) := by decide +kernel
theorem dJx4a65c_fastRemove_b59b0_5 : decode cJx4a65c_fastRemove_b59b0 5 = .ok (.iconst 1, 1) := by decide +kernel
theorem dJx4a65c_fastRemove_b59b0_6 : decode cJx4a65c_fastRemove_b59b0 6 = .ok (.iadd, 1) := by decide +kernel
theorem dJx4a65c_fastRemove_b59b0_7 : decode cJx4a65c_fastRemove_b59b0 7 = .ok (.putfield 63, 3) := by decide +kernel
theorem dJx4a65c_fastRemove_b59b0_10 : decode cJx4a65c_fastRemove_b59b0 10 = .ok (.aload_n 0, 1) := by decide +kernel
theorem dJx4a65c_fastRemove_b59b0_11 : decode cJx4a65c_fastRemove_b59b0 11 = .ok (.getfield 48, 3) := by decide +kernel
theorem dJx4a65c_fastRemove_b59b0_14 : decode cJx4a65c_fastRemove_b59b0 14 = .ok (.iconst 1, 1) := by decide +kernel
theorem dJx4a65c_fastRemove_b59b0_15 : decode cJx4a65c_fastRemove_b59b0 15 = .ok (.isub, 1) := by decide +kernel
theorem dJx4a65c_fastRemove_b59b0_16 : decode cJx4a65c_fastRemove_b59b0 16 = .ok (.dup, 1) := by decide +kernel
theorem dJx4a65c_fastRemove_b59b0_17 : decode cJx4a65c_fastRemove_b59b0 17 = .ok (.istore_n 3, 1) := by decide +kernel
theorem dJx4a65c_fastRemove_b59b0_18 : decode cJx4a65c_fastRemove_b59b0 18 = .ok (.iload_n 2, 1) := by decide +kernel
theorem dJx4a65c_fastRemove_b59b0_19 : decode cJx4a65c_fastRemove_b59b0 19 = .ok (.if_icmp .le 15, 3) := by decide +kernel
theorem dJx4a65c_fastRemove_b59b0_22 : decode cJx4a65c_fastRemove_b59b0 22 = .ok (.aload_n 1, 1) := by decide +kernel
theorem dJx4a65c_fastRemove_b59b0_23 : decode cJx4a65c_fastRemove_b59b0 23 = .ok (.iload_n 2, 1) := by decide +kernel
theorem dJx4a65c_fastRemove_b59b0_24 : decode cJx4a65c_fastRemove_b59b0 24 = .ok (.iconst 1, 1) := by decide +kernel
theorem dJx4a65c_fastRemove_b59b0_25 : decode cJx4a65c_fastRemove_b59b0 25 = .ok (.iadd, 1) := by decide +kernel
theorem dJx4a65c_fastRemove_b59b0_26 : decode cJx4a65c_fastRemove_b59b0 26 = .ok (.aload_n 1, 1) := by decide +kernel
theorem dJx4a65c_fastRemove_b59b0_27 : decode cJx4a65c_fastRemove_b59b0 27 = .ok (.iload_n 2, 1) := by decide +kernel
theorem dJx4a65c_fastRemove_b59b0_28 : decode cJx4a65c_fastRemove_b59b0 28 = .ok (.iload_n 3, 1) := by decide +kernel
theorem dJx4a65c_fastRemove_b59b0_29 : decode cJx4a65c_fastRemove_b59b0 29 = .ok (.iload_n 2, 1) := by decide +kernel
theorem dJx4a65c_fastRemove_b59b0_30 : decode cJx4a65c_fastRemove_b59b0 30 = .ok (.isub, 1) := by decide +kernel
theorem dJx4a65c_fastRemove_b59b0_31 : decode cJx4a65c_fastRemove_b59b0 31 = .ok (.invokestatic 112, 3) := by decide +kernel
theorem dJx4a65c_fastRemove_b59b0_34 : decode cJx4a65c_fastRemove_b59b0 34 = .ok (.aload_n 1, 1) := by decide +kernel
theorem dJx4a65c_fastRemove_b59b0_35 : decode cJx4a65c_fastRemove_b59b0 35 = .ok (.aload_n 0, 1) := by decide +kernel
theorem dJx4a65c_fastRemove_b59b0_36 : decode cJx4a65c_fastRemove_b59b0 36 = .ok (.iload_n 3, 1) := by decide +kernel
theorem dJx4a65c_fastRemove_b59b0_37 : decode cJx4a65c_fastRemove_b59b0 37 = .ok (.dup_x1, 1) := by decide +kernel
theorem dJx4a65c_fastRemove_b59b0_38 : decode cJx4a65c_fastRemove_b59b0 38 = .ok (.putfield 48, 3) := by decide +kernel
theorem dJx4a65c_fastRemove_b59b0_41 : decode cJx4a65c_fastRemove_b59b0 41 = .ok (.aconst_null, 1) := by decide +kernel
theorem dJx4a65c_fastRemove_b59b0_42 : decode cJx4a65c_fastRemove_b59b0 42 = .ok (.aastore, 1) := by decide +kernel
theorem dJx4a65c_fastRemove_b59b0_43 : decode cJx4a65c_fastRemove_b59b0 43 = .ok (.return_, 1) := by decide +kernel
theorem dJxa1e45_init_da8c8_0 : decode cJxa1e45_init_da8c8 0 = .ok (.aload_n 0, 1) := by decide +kernel
theorem dJxa1e45_init_da8c8_1 : decode cJxa1e45_init_da8c8 1 = .ok (.invokespecial 1, 3) := by decide +kernel
theorem dJxa1e45_init_da8c8_4 : decode cJxa1e45_init_da8c8 4 = .ok (.return_, 1) := by decide +kernel
theorem dJxc12de_init_da8c8_0 : decode cJxc12de_init_da8c8 0 = .ok (.aload_n 0, 1) := by decide +kernel
theorem dJxc12de_init_da8c8_1 : decode cJxc12de_init_da8c8 1 = .ok (.invokespecial 1, 3) := by decide +kernel
theorem dJxc12de_init_da8c8_4 : decode cJxc12de_init_da8c8 4 = .ok (.aload_n 0, 1) := by decide +kernel
theorem dJxc12de_init_da8c8_5 : decode cJxc12de_init_da8c8 5 = .ok (.iconst 0, 1) := by decide +kernel
theorem dJxc12de_init_da8c8_6 : decode cJxc12de_init_da8c8 6 = .ok (.putfield 7, 3) := by decide +kernel
theorem dJxc12de_init_da8c8_9 : decode cJxc12de_init_da8c8 9 = .ok (.return_, 1) := by decide +kernel
theorem dL_part_0 : decode cL_part 0 = .ok (.iload_n 1, 1) := by decide +kernel
theorem dL_part_1 : decode cL_part 1 = .ok (.aload_n 0, 1) := by decide +kernel
theorem dL_part_2 : decode cL_part 2 = .ok (.arraylength, 1) := by decide +kernel
theorem dL_part_3 : decode cL_part 3 = .ok (.if_icmp .ge 9, 3) := by decide +kernel
theorem dL_part_6 : decode cL_part 6 = .ok (.aload_n 0, 1) := by decide +kernel
theorem dL_part_7 : decode cL_part 7 = .ok (.iload_n 1, 1) := by decide +kernel
theorem dL_part_8 : decode cL_part 8 = .ok (.iaload, 1) := by decide +kernel
theorem dL_part_9 : decode cL_part 9 = .ok (.goto 16, 3) := by decide +kernel
theorem dL_part_12 : decode cL_part 12 = .ok (.sipush 1069, 3) := by decide +kernel
theorem dL_part_15 : decode cL_part 15 = .ok (.iload_n 1, 1) := by decide +kernel
theorem dL_part_16 : decode cL_part 16 = .ok (.imul, 1) := by decide +kernel
theorem dL_part_17 : decode cL_part 17 = .ok (.sipush 967, 3) := by decide +kernel
theorem dL_part_20 : decode cL_part 20 = .ok (.iload_n 1, 1) := by decide +kernel
theorem dL_part_21 : decode cL_part 21 = .ok (.imul, 1) := by decide +kernel
theorem dL_part_22 : decode cL_part 22 = .ok (.iload_n 1, 1) := by decide +kernel
theorem dL_part_23 : decode cL_part 23 = .ok (.imul, 1) := by decide +kernel
theorem dL_part_24 : decode cL_part 24 = .ok (.iadd, 1) := by decide +kernel
theorem dL_part_25 : decode cL_part 25 = .ok (.istore_n 3, 1) := by decide +kernel
theorem dL_part_26 : decode cL_part 26 = .ok (.iload_n 3, 1) := by decide +kernel
theorem dL_part_27 : decode cL_part 27 = .ok (.ldc 7, 2) := by decide +kernel
theorem dL_part_29 : decode cL_part 29 = .ok (.iand, 1) := by decide +kernel
theorem dL_part_30 : decode cL_part 30 = .ok (.iload_n 2, 1) := by decide +kernel
theorem dL_part_31 : decode cL_part 31 = .ok (.irem, 1) := by decide +kernel
theorem dL_part_32 : decode cL_part 32 = .ok (.ireturn, 1) := by decide +kernel
theorem dL_does_0 : decode cL_does 0 = .ok (.iload_n 1, 1) := by decide +kernel
theorem dL_does_1 : decode cL_does 1 = .ok (.ifCond .ne 12, 3) := by decide +kernel
theorem dL_does_4 : decode cL_does 4 = .ok (.aload_n 0, 1) := by decide +kernel
theorem dL_does_5 : decode cL_does 5 = .ok (.iload_n 2, 1) := by decide +kernel
theorem dL_does_6 : decode cL_does 6 = .ok (.iload_n 3, 1) := by decide +kernel
theorem dL_does_7 : decode cL_does 7 = .ok (.invokevirtual 8, 3) := by decide +kernel
theorem dL_does_10 : decode cL_does 10 = .ok (.goto 281, 3) := by decide +kernel
theorem dL_does_13 : decode cL_does 13 = .ok (.iload_n 1, 1) := by decide +kernel
theorem dL_does_14 : decode cL_does 14 = .ok (.iconst 1, 1) := by decide +kernel
theorem dL_does_15 : decode cL_does 15 = .ok (.if_icmp .ne 16, 3) := by decide +kernel
theorem dL_does_18 : decode cL_does 18 = .ok (.aload_n 0, 1) := by decide +kernel
theorem dL_does_19 : decode cL_does 19 = .ok (.iload_n 2, 1) := by decide +kernel
theorem dL_does_20 : decode cL_does 20 = .ok (.iload_n 3, 1) := by decide +kernel
theorem dL_does_21 : decode cL_does 21 = .ok (.iload 4, 2) := by decide +kernel
theorem dL_does_23 : decode cL_does 23 = .ok (.iload 5, 2) := by decide +kernel
theorem dL_does_25 : decode cL_does 25 = .ok (.invokestatic 14, 3) := by decide +kernel
theorem dL_does_28 : decode cL_does 28 = .ok (.goto 263, 3) := by decide +kernel
theorem dL_does_31 : decode cL_does 31 = .ok (.iload_n 1, 1) := by decide +kernel
theorem dL_does_32 : decode cL_does 32 = .ok (.iconst 2, 1) := by decide +kernel
theorem dL_does_33 : decode cL_does 33 = .ok (.if_icmp .ne 12, 3) := by decide +kernel
theorem dL_does_36 : decode cL_does 36 = .ok (.aload_n 0, 1) := by decide +kernel
theorem dL_does_37 : decode cL_does 37 = .ok (.iload_n 2, 1) := by decide +kernel
theorem dL_does_38 : decode cL_does 38 = .ok (.iload_n 3, 1) := by decide +kernel
theorem dL_does_39 : decode cL_does 39 = .ok (.invokevirtual 20, 3) := by decide +kernel
theorem dL_does_42 : decode cL_does 42 = .ok (.goto 249, 3) := by decide +kernel
theorem dL_does_45 : decode cL_does 45 = .ok (.iload_n 1, 1) := by decide +kernel
theorem dL_does_46 : decode cL_does 46 = .ok (.iconst 3, 1) := by decide +kernel
theorem dL_does_47 : decode cL_does 47 = .ok (.if_icmp .ne 11, 3) := by decide +kernel
theorem dL_does_50 : decode cL_does 50 = .ok (.aload_n 0, 1) := by decide +kernel
theorem dL_does_51 : decode cL_does 51 = .ok (.iload_n 2, 1) := by decide +kernel
theorem dL_does_52 : decode cL_does 52 = .ok (.invokevirtual 23, 3) := by decide +kernel
theorem dL_does_55 : decode cL_does 55 = .ok (.goto 236, 3) := by decide +kernel
theorem dL_does_58 : decode cL_does 58 = .ok (.iload_n 1, 1) := by decide +kernel
theorem dL_does_59 : decode cL_does 59 = .ok (.iconst 4, 1) := by decide +kernel
theorem dL_does_60 : decode cL_does 60 = .ok (.if_icmp .ne 11, 3) := by decide +kernel
theorem dL_does_63 : decode cL_does 63 = .ok (.aload_n 0, 1) := by decide +kernel
theorem dL_does_64 : decode cL_does 64 = .ok (.iload_n 2, 1) := by decide +kernel
theorem dL_does_65 : decode cL_does 65 = .ok (.invokevirtual 27, 3) := by decide +kernel
theorem dL_does_68 : decode cL_does 68 = .ok (.goto 223, 3) := by decide +kernel
theorem dL_does_71 : decode cL_does 71 = .ok (.iload_n 1, 1) := by decide +kernel
theorem dL_does_72 : decode cL_does 72 = .ok (.iconst 5, 1) := by decide +kernel
theorem dL_does_73 : decode cL_does 73 = .ok (.if_icmp .ne 12, 3) := by decide +kernel
theorem dL_does_76 : decode cL_does 76 = .ok (.aload_n 0, 1) := by decide +kernel
theorem dL_does_77 : decode cL_does 77 = .ok (.iload_n 2, 1) := by decide +kernel
theorem dL_does_78 : decode cL_does 78 = .ok (.iload_n 3, 1) := by decide +kernel
theorem dL_does_79 : decode cL_does 79 = .ok (.invokevirtual 30, 3) := by decide +kernel
theorem dL_does_82 : decode cL_does 82 = .ok (.goto 209, 3) := by decide +kernel
theorem dL_does_85 : decode cL_does 85 = .ok (.iload_n 1, 1) := by decide +kernel
theorem dL_does_86 : decode cL_does 86 = .ok (.bipush 6, 2) := by decide +kernel
theorem dL_does_88 : decode cL_does 88 = .ok (.if_icmp .ne 18, 3) := by decide +kernel
theorem dL_does_91 : decode cL_does 91 = .ok (.aload_n 0, 1) := by decide +kernel
theorem dL_does_92 : decode cL_does 92 = .ok (.iload_n 2, 1) := by decide +kernel
theorem dL_does_93 : decode cL_does 93 = .ok (.iload_n 3, 1) := by decide +kernel
theorem dL_does_94 : decode cL_does 94 = .ok (.iload 4, 2) := by decide +kernel
theorem dL_does_96 : decode cL_does 96 = .ok (.iload 5, 2) := by decide +kernel
theorem dL_does_98 : decode cL_does 98 = .ok (.iload 6, 2) := by decide +kernel
theorem dL_does_100 : decode cL_does 100 = .ok (.invokevirtual 33, 3) := by decide +kernel
theorem dL_does_103 : decode cL_does 103 = .ok (.goto 188, 3) := by decide +kernel
theorem dL_does_106 : decode cL_does 106 = .ok (.iload_n 1, 1) := by decide +kernel
theorem dL_does_107 : decode cL_does 107 = .ok (.bipush 7, 2) := by decide +kernel
theorem dL_does_109 : decode cL_does 109 = .ok (.if_icmp .ne 14, 3) := by decide +kernel
theorem dL_does_112 : decode cL_does 112 = .ok (.aload_n 0, 1) := by decide +kernel
theorem dL_does_113 : decode cL_does 113 = .ok (.iload_n 2, 1) := by decide +kernel
theorem dL_does_114 : decode cL_does 114 = .ok (.iload_n 3, 1) := by decide +kernel
theorem dL_does_115 : decode cL_does 115 = .ok (.iload 4, 2) := by decide +kernel
theorem dL_does_117 : decode cL_does 117 = .ok (.invokestatic 37, 3) := by decide +kernel
theorem dL_does_120 : decode cL_does 120 = .ok (.goto 171, 3) := by decide +kernel
theorem dL_does_123 : decode cL_does 123 = .ok (.iload_n 1, 1) := by decide +kernel
theorem dL_does_124 : decode cL_does 124 = .ok (.bipush 8, 2) := by decide +kernel
theorem dL_does_126 : decode cL_does 126 = .ok (.if_icmp .ne 12, 3) := by decide +kernel
theorem dL_does_129 : decode cL_does 129 = .ok (.aload_n 0, 1) := by decide +kernel
theorem dL_does_130 : decode cL_does 130 = .ok (.iload_n 2, 1) := by decide +kernel
theorem dL_does_131 : decode cL_does 131 = .ok (.iload_n 3, 1) := by decide +kernel
theorem dL_does_132 : decode cL_does 132 = .ok (.invokevirtual 41, 3) := by decide +kernel
theorem dL_does_135 : decode cL_does 135 = .ok (.goto 156, 3) := by decide +kernel
theorem dL_does_138 : decode cL_does 138 = .ok (.iload_n 1, 1) := by decide +kernel
theorem dL_does_139 : decode cL_does 139 = .ok (.bipush 9, 2) := by decide +kernel
theorem dL_does_141 : decode cL_does 141 = .ok (.if_icmp .ne 18, 3) := by decide +kernel
theorem dL_does_144 : decode cL_does 144 = .ok (.aload_n 0, 1) := by decide +kernel
theorem dL_does_145 : decode cL_does 145 = .ok (.iload_n 2, 1) := by decide +kernel
theorem dL_does_146 : decode cL_does 146 = .ok (.iload_n 3, 1) := by decide +kernel
theorem dL_does_147 : decode cL_does 147 = .ok (.iload 4, 2) := by decide +kernel
theorem dL_does_149 : decode cL_does 149 = .ok (.iload 5, 2) := by decide +kernel
theorem dL_does_151 : decode cL_does 151 = .ok (.iload 6, 2) := by decide +kernel
theorem dL_does_153 : decode cL_does 153 = .ok (.invokevirtual 44, 3) := by decide +kernel
theorem dL_does_156 : decode cL_does 156 = .ok (.goto 135, 3) := by decide +kernel
theorem dL_does_159 : decode cL_does 159 = .ok (.iload_n 1, 1) := by decide +kernel
theorem dL_does_160 : decode cL_does 160 = .ok (.bipush 10, 2) := by decide +kernel
theorem dL_does_162 : decode cL_does 162 = .ok (.if_icmp .ne 11, 3) := by decide +kernel
theorem dL_does_165 : decode cL_does 165 = .ok (.aload_n 0, 1) := by decide +kernel
theorem dL_does_166 : decode cL_does 166 = .ok (.iload_n 2, 1) := by decide +kernel
theorem dL_does_167 : decode cL_does 167 = .ok (.invokevirtual 47, 3) := by decide +kernel
theorem dL_does_170 : decode cL_does 170 = .ok (.goto 121, 3) := by decide +kernel
theorem dL_does_173 : decode cL_does 173 = .ok (.iload_n 1, 1) := by decide +kernel
theorem dL_does_174 : decode cL_does 174 = .ok (.bipush 11, 2) := by decide +kernel
theorem dL_does_176 : decode cL_does 176 = .ok (.if_icmp .ne 14, 3) := by decide +kernel
theorem dL_does_179 : decode cL_does 179 = .ok (.aload_n 0, 1) := by decide +kernel
theorem dL_does_180 : decode cL_does 180 = .ok (.iload_n 2, 1) := by decide +kernel
theorem dL_does_181 : decode cL_does 181 = .ok (.iload_n 3, 1) := by decide +kernel
theorem dL_does_182 : decode cL_does 182 = .ok (.iload 4, 2) := by decide +kernel
theorem dL_does_184 : decode cL_does 184 = .ok (.invokevirtual 50, 3) := by decide +kernel
theorem dL_does_187 : decode cL_does 187 = .ok (.goto 104, 3) := by decide +kernel
theorem dL_does_190 : decode cL_does 190 = .ok (.iload_n 1, 1) := by decide +kernel
theorem dL_does_191 : decode cL_does 191 = .ok (.bipush 12, 2) := by decide +kernel
theorem dL_does_193 : decode cL_does 193 = .ok (.if_icmp .ne 11, 3) := by decide +kernel
theorem dL_does_196 : decode cL_does 196 = .ok (.aload_n 0, 1) := by decide +kernel
theorem dL_does_197 : decode cL_does 197 = .ok (.iload_n 2, 1) := by decide +kernel
theorem dL_does_198 : decode cL_does 198 = .ok (.invokevirtual 54, 3) := by decide +kernel
theorem dL_does_201 : decode cL_does 201 = .ok (.goto 90, 3) := by decide +kernel
theorem dL_does_204 : decode cL_does 204 = .ok (.iload_n 1, 1) := by decide +kernel
theorem dL_does_205 : decode cL_does 205 = .ok (.bipush 13, 2) := by decide +kernel
theorem dL_does_207 : decode cL_does 207 = .ok (.if_icmp .ne 12, 3) := by decide +kernel
theorem dL_does_210 : decode cL_does 210 = .ok (.aload_n 0, 1) := by decide +kernel
theorem dL_does_211 : decode cL_does 211 = .ok (.iload_n 2, 1) := by decide +kernel
theorem dL_does_212 : decode cL_does 212 = .ok (.iload_n 3, 1) := by decide +kernel
theorem dL_does_213 : decode cL_does 213 = .ok (.invokevirtual 57, 3) := by decide +kernel
theorem dL_does_216 : decode cL_does 216 = .ok (.goto 75, 3) := by decide +kernel
theorem dL_does_219 : decode cL_does 219 = .ok (.iload_n 1, 1) := by decide +kernel
theorem dL_does_220 : decode cL_does 220 = .ok (.bipush 14, 2) := by decide +kernel
theorem dL_does_222 : decode cL_does 222 = .ok (.if_icmp .ne 12, 3) := by decide +kernel
theorem dL_does_225 : decode cL_does 225 = .ok (.aload_n 0, 1) := by decide +kernel
theorem dL_does_226 : decode cL_does 226 = .ok (.iload_n 2, 1) := by decide +kernel
theorem dL_does_227 : decode cL_does 227 = .ok (.iload_n 3, 1) := by decide +kernel
theorem dL_does_228 : decode cL_does 228 = .ok (.invokevirtual 60, 3) := by decide +kernel
theorem dL_does_231 : decode cL_does 231 = .ok (.goto 60, 3) := by decide +kernel
theorem dL_does_234 : decode cL_does 234 = .ok (.iload_n 1, 1) := by decide +kernel
theorem dL_does_235 : decode cL_does 235 = .ok (.bipush 15, 2) := by decide +kernel
theorem dL_does_237 : decode cL_does 237 = .ok (.if_icmp .ne 12, 3) := by decide +kernel
theorem dL_does_240 : decode cL_does 240 = .ok (.aload_n 0, 1) := by decide +kernel
theorem dL_does_241 : decode cL_does 241 = .ok (.iload_n 2, 1) := by decide +kernel
theorem dL_does_242 : decode cL_does 242 = .ok (.iload_n 3, 1) := by decide +kernel
theorem dL_does_243 : decode cL_does 243 = .ok (.invokevirtual 63, 3) := by decide +kernel
theorem dL_does_246 : decode cL_does 246 = .ok (.goto 45, 3) := by decide +kernel
theorem dL_does_249 : decode cL_does 249 = .ok (.iload_n 1, 1) := by decide +kernel
theorem dL_does_250 : decode cL_does 250 = .ok (.bipush 16, 2) := by decide +kernel
theorem dL_does_252 : decode cL_does 252 = .ok (.if_icmp .ne 14, 3) := by decide +kernel
theorem dL_does_255 : decode cL_does 255 = .ok (.aload_n 0, 1) := by decide +kernel
theorem dL_does_256 : decode cL_does 256 = .ok (.iload_n 2, 1) := by decide +kernel
theorem dL_does_257 : decode cL_does 257 = .ok (.iload_n 3, 1) := by decide +kernel
theorem dL_does_258 : decode cL_does 258 = .ok (.iload 4, 2) := by decide +kernel
theorem dL_does_260 : decode cL_does 260 = .ok (.invokevirtual 66, 3) := by decide +kernel
theorem dL_does_263 : decode cL_does 263 = .ok (.goto 28, 3) := by decide +kernel
theorem dL_does_266 : decode cL_does 266 = .ok (.iload_n 1, 1) := by decide +kernel
theorem dL_does_267 : decode cL_does 267 = .ok (.bipush 17, 2) := by decide +kernel
theorem dL_does_269 : decode cL_does 269 = .ok (.if_icmp .ne 14, 3) := by decide +kernel
theorem dL_does_272 : decode cL_does 272 = .ok (.aload_n 0, 1) := by decide +kernel
theorem dL_does_273 : decode cL_does 273 = .ok (.iload_n 2, 1) := by decide +kernel
theorem dL_does_274 : decode cL_does 274 = .ok (.iload_n 3, 1) := by decide +kernel
theorem dL_does_275 : decode cL_does 275 = .ok (.iload 4, 2) := by decide +kernel
theorem dL_does_277 : decode cL_does 277 = .ok (.invokevirtual 69, 3) := by decide +kernel
theorem dL_does_280 : decode cL_does 280 = .ok (.goto 11, 3) := by decide +kernel
theorem dL_does_283 : decode cL_does 283 = .ok (.aload_n 0, 1) := by decide +kernel
theorem dL_does_284 : decode cL_does 284 = .ok (.iload_n 2, 1) := by decide +kernel
theorem dL_does_285 : decode cL_does 285 = .ok (.iload_n 3, 1) := by decide +kernel
theorem dL_does_286 : decode cL_does 286 = .ok (.iload 4, 2) := by decide +kernel
theorem dL_does_288 : decode cL_does 288 = .ok (.invokevirtual 72, 3) := by decide +kernel
theorem dL_does_291 : decode cL_does 291 = .ok (.ireturn, 1) := by decide +kernel
theorem dL_does_292 : decode cL_does 292 = .ok (.astore 7, 2) := by decide +kernel
theorem dL_does_294 : decode cL_does 294 = .ok (.ldc 77, 2) := by decide +kernel
theorem dL_does_296 : decode cL_does 296 = .ok (.ireturn, 1) := by decide +kernel
theorem dL_does_297 : decode cL_does 297 = .ok (.astore 7, 2) := by decide +kernel
theorem dL_does_299 : decode cL_does 299 = .ok (.ldc 80, 2) := by decide +kernel
theorem dL_does_301 : decode cL_does 301 = .ok (.ireturn, 1) := by decide +kernel
theorem dL_does_302 : decode cL_does 302 = .ok (.astore 7, 2) := by decide +kernel
theorem dL_does_304 : decode cL_does 304 = .ok (.ldc 83, 2) := by decide +kernel
theorem dL_does_306 : decode cL_does 306 = .ok (.ireturn, 1) := by decide +kernel
theorem dL_ruled_0 : decode cL_ruled 0 = .ok (.aload_n 0, 1) := by decide +kernel
theorem dL_ruled_1 : decode cL_ruled 1 = .ok (.iload_n 1, 1) := by decide +kernel
theorem dL_ruled_2 : decode cL_ruled 2 = .ok (.iload_n 2, 1) := by decide +kernel
theorem dL_ruled_3 : decode cL_ruled 3 = .ok (.iload_n 3, 1) := by decide +kernel
theorem dL_ruled_4 : decode cL_ruled 4 = .ok (.iload 4, 2) := by decide +kernel
theorem dL_ruled_6 : decode cL_ruled 6 = .ok (.invokevirtual 84, 3) := by decide +kernel
theorem dL_ruled_9 : decode cL_ruled 9 = .ok (.iconst 0, 1) := by decide +kernel
theorem dL_ruled_10 : decode cL_ruled 10 = .ok (.ireturn, 1) := by decide +kernel
theorem dL_timed_0 : decode cL_timed 0 = .ok (.aload_n 0, 1) := by decide +kernel
theorem dL_timed_1 : decode cL_timed 1 = .ok (.iload_n 1, 1) := by decide +kernel
theorem dL_timed_2 : decode cL_timed 2 = .ok (.iload_n 2, 1) := by decide +kernel
theorem dL_timed_3 : decode cL_timed 3 = .ok (.iload_n 3, 1) := by decide +kernel
theorem dL_timed_4 : decode cL_timed 4 = .ok (.invokevirtual 88, 3) := by decide +kernel
theorem dL_timed_7 : decode cL_timed 7 = .ok (.iconst 0, 1) := by decide +kernel
theorem dL_timed_8 : decode cL_timed 8 = .ok (.ireturn, 1) := by decide +kernel
theorem dL_trended_0 : decode cL_trended 0 = .ok (.aload_n 0, 1) := by decide +kernel
theorem dL_trended_1 : decode cL_trended 1 = .ok (.iload_n 1, 1) := by decide +kernel
theorem dL_trended_2 : decode cL_trended 2 = .ok (.invokevirtual 92, 3) := by decide +kernel
theorem dL_trended_5 : decode cL_trended 5 = .ok (.lreturn, 1) := by decide +kernel
theorem dL_trended_6 : decode cL_trended 6 = .ok (.astore_n 2, 1) := by decide +kernel
theorem dL_trended_7 : decode cL_trended 7 = .ok (.ldc2_w 96, 3) := by decide +kernel
theorem dL_trended_10 : decode cL_trended 10 = .ok (.lreturn, 1) := by decide +kernel
theorem dL_size_0 : decode cL_size 0 = .ok (.iload_n 0, 1) := by decide +kernel
theorem dL_size_1 : decode cL_size 1 = .ok (.ifCond .le 7, 3) := by decide +kernel
theorem dL_size_4 : decode cL_size 4 = .ok (.iload_n 0, 1) := by decide +kernel
theorem dL_size_5 : decode cL_size 5 = .ok (.goto 5, 3) := by decide +kernel
theorem dL_size_8 : decode cL_size 8 = .ok (.iload_n 0, 1) := by decide +kernel
theorem dL_size_9 : decode cL_size 9 = .ok (.ineg, 1) := by decide +kernel
theorem dL_size_10 : decode cL_size 10 = .ok (.ireturn, 1) := by decide +kernel
theorem dL_burns_0 : decode cL_burns 0 = .ok (.aload 4, 2) := by decide +kernel
theorem dL_burns_2 : decode cL_burns 2 = .ok (.iconst 0, 1) := by decide +kernel
theorem dL_burns_3 : decode cL_burns 3 = .ok (.iaload, 1) := by decide +kernel
theorem dL_burns_4 : decode cL_burns 4 = .ok (.bipush 24, 2) := by decide +kernel
theorem dL_burns_6 : decode cL_burns 6 = .ok (.irem, 1) := by decide +kernel
theorem dL_burns_7 : decode cL_burns 7 = .ok (.istore 6, 2) := by decide +kernel
theorem dL_burns_9 : decode cL_burns 9 = .ok (.aload 4, 2) := by decide +kernel
theorem dL_burns_11 : decode cL_burns 11 = .ok (.iconst 0, 1) := by decide +kernel
theorem dL_burns_12 : decode cL_burns 12 = .ok (.iaload, 1) := by decide +kernel
theorem dL_burns_13 : decode cL_burns 13 = .ok (.bipush 24, 2) := by decide +kernel
theorem dL_burns_15 : decode cL_burns 15 = .ok (.idiv, 1) := by decide +kernel
theorem dL_burns_16 : decode cL_burns 16 = .ok (.istore 7, 2) := by decide +kernel
theorem dL_burns_18 : decode cL_burns 18 = .ok (.aload_n 3, 1) := by decide +kernel
theorem dL_burns_19 : decode cL_burns 19 = .ok (.bipush 6, 2) := by decide +kernel
theorem dL_burns_21 : decode cL_burns 21 = .ok (.iload 5, 2) := by decide +kernel
theorem dL_burns_23 : decode cL_burns 23 = .ok (.imul, 1) := by decide +kernel
theorem dL_burns_24 : decode cL_burns 24 = .ok (.iconst 3, 1) := by decide +kernel
theorem dL_burns_25 : decode cL_burns 25 = .ok (.iadd, 1) := by decide +kernel
theorem dL_burns_26 : decode cL_burns 26 = .ok (.iaload, 1) := by decide +kernel
theorem dL_burns_27 : decode cL_burns 27 = .ok (.bipush 32, 2) := by decide +kernel
theorem dL_burns_29 : decode cL_burns 29 = .ok (.irem, 1) := by decide +kernel
theorem dL_burns_30 : decode cL_burns 30 = .ok (.istore 8, 2) := by decide +kernel
theorem dL_burns_32 : decode cL_burns 32 = .ok (.aload_n 3, 1) := by decide +kernel
theorem dL_burns_33 : decode cL_burns 33 = .ok (.bipush 6, 2) := by decide +kernel
theorem dL_burns_35 : decode cL_burns 35 = .ok (.iload 5, 2) := by decide +kernel
theorem dL_burns_37 : decode cL_burns 37 = .ok (.imul, 1) := by decide +kernel
theorem dL_burns_38 : decode cL_burns 38 = .ok (.iconst 3, 1) := by decide +kernel
theorem dL_burns_39 : decode cL_burns 39 = .ok (.iadd, 1) := by decide +kernel
theorem dL_burns_40 : decode cL_burns 40 = .ok (.iaload, 1) := by decide +kernel
theorem dL_burns_41 : decode cL_burns 41 = .ok (.bipush 32, 2) := by decide +kernel
theorem dL_burns_43 : decode cL_burns 43 = .ok (.idiv, 1) := by decide +kernel
theorem dL_burns_44 : decode cL_burns 44 = .ok (.istore 9, 2) := by decide +kernel
theorem dL_burns_46 : decode cL_burns 46 = .ok (.iload 8, 2) := by decide +kernel
theorem dL_burns_48 : decode cL_burns 48 = .ok (.iload 9, 2) := by decide +kernel
theorem dL_burns_50 : decode cL_burns 50 = .ok (.if_icmp .eq 28, 3) := by decide +kernel
theorem dL_burns_53 : decode cL_burns 53 = .ok (.iload 6, 2) := by decide +kernel
theorem dL_burns_55 : decode cL_burns 55 = .ok (.iload 8, 2) := by decide +kernel
theorem dL_burns_57 : decode cL_burns 57 = .ok (.isub, 1) := by decide +kernel
theorem dL_burns_58 : decode cL_burns 58 = .ok (.bipush 24, 2) := by decide +kernel
theorem dL_burns_60 : decode cL_burns 60 = .ok (.iadd, 1) := by decide +kernel
theorem dL_burns_61 : decode cL_burns 61 = .ok (.bipush 24, 2) := by decide +kernel
theorem dL_burns_63 : decode cL_burns 63 = .ok (.irem, 1) := by decide +kernel
theorem dL_burns_64 : decode cL_burns 64 = .ok (.iload 9, 2) := by decide +kernel
theorem dL_burns_66 : decode cL_burns 66 = .ok (.iload 8, 2) := by decide +kernel
theorem dL_burns_68 : decode cL_burns 68 = .ok (.isub, 1) := by decide +kernel
theorem dL_burns_69 : decode cL_burns 69 = .ok (.bipush 24, 2) := by decide +kernel
theorem dL_burns_71 : decode cL_burns 71 = .ok (.iadd, 1) := by decide +kernel
theorem dL_burns_72 : decode cL_burns 72 = .ok (.bipush 24, 2) := by decide +kernel
theorem dL_burns_74 : decode cL_burns 74 = .ok (.irem, 1) := by decide +kernel
theorem dL_burns_75 : decode cL_burns 75 = .ok (.if_icmp .ge 7, 3) := by decide +kernel
theorem dL_burns_78 : decode cL_burns 78 = .ok (.iconst 1, 1) := by decide +kernel
theorem dL_burns_79 : decode cL_burns 79 = .ok (.goto 4, 3) := by decide +kernel
theorem dL_burns_82 : decode cL_burns 82 = .ok (.iconst 0, 1) := by decide +kernel
theorem dL_burns_83 : decode cL_burns 83 = .ok (.istore 10, 2) := by decide +kernel
theorem dL_burns_85 : decode cL_burns 85 = .ok (.aload_n 3, 1) := by decide +kernel
theorem dL_burns_86 : decode cL_burns 86 = .ok (.bipush 6, 2) := by decide +kernel
theorem dL_burns_88 : decode cL_burns 88 = .ok (.iload 5, 2) := by decide +kernel
theorem dL_burns_90 : decode cL_burns 90 = .ok (.imul, 1) := by decide +kernel
theorem dL_burns_91 : decode cL_burns 91 = .ok (.iaload, 1) := by decide +kernel
theorem dL_burns_92 : decode cL_burns 92 = .ok (.bipush 64, 2) := by decide +kernel
theorem dL_burns_94 : decode cL_burns 94 = .ok (.irem, 1) := by decide +kernel
theorem dL_burns_95 : decode cL_burns 95 = .ok (.istore 11, 2) := by decide +kernel
theorem dL_burns_97 : decode cL_burns 97 = .ok (.aload_n 0, 1) := by decide +kernel
theorem dL_burns_98 : decode cL_burns 98 = .ok (.iload 11, 2) := by decide +kernel
theorem dL_burns_100 : decode cL_burns 100 = .ok (.iaload, 1) := by decide +kernel
theorem dL_burns_101 : decode cL_burns 101 = .ok (.iconst 4, 1) := by decide +kernel
theorem dL_burns_102 : decode cL_burns 102 = .ok (.irem, 1) := by decide +kernel
theorem dL_burns_103 : decode cL_burns 103 = .ok (.istore 12, 2) := by decide +kernel
theorem dL_burns_105 : decode cL_burns 105 = .ok (.aload_n 1, 1) := by decide +kernel
theorem dL_burns_106 : decode cL_burns 106 = .ok (.iload 12, 2) := by decide +kernel
theorem dL_burns_108 : decode cL_burns 108 = .ok (.iaload, 1) := by decide +kernel
theorem dL_burns_109 : decode cL_burns 109 = .ok (.bipush 32, 2) := by decide +kernel
theorem dL_burns_111 : decode cL_burns 111 = .ok (.irem, 1) := by decide +kernel
theorem dL_burns_112 : decode cL_burns 112 = .ok (.istore 13, 2) := by decide +kernel
theorem dL_burns_114 : decode cL_burns 114 = .ok (.iload 13, 2) := by decide +kernel
theorem dL_burns_116 : decode cL_burns 116 = .ok (.bipush 24, 2) := by decide +kernel
theorem dL_burns_118 : decode cL_burns 118 = .ok (.if_icmp .ge 55, 3) := by decide +kernel
theorem dL_burns_121 : decode cL_burns 121 = .ok (.iload 6, 2) := by decide +kernel
theorem dL_burns_123 : decode cL_burns 123 = .ok (.bipush 6, 2) := by decide +kernel
theorem dL_burns_125 : decode cL_burns 125 = .ok (.if_icmp .lt 10, 3) := by decide +kernel
theorem dL_burns_128 : decode cL_burns 128 = .ok (.iload 6, 2) := by decide +kernel
theorem dL_burns_130 : decode cL_burns 130 = .ok (.iload 13, 2) := by decide +kernel
theorem dL_burns_132 : decode cL_burns 132 = .ok (.if_icmp .lt 41, 3) := by decide +kernel
theorem dL_burns_135 : decode cL_burns 135 = .ok (.aload_n 3, 1) := by decide +kernel
theorem dL_burns_136 : decode cL_burns 136 = .ok (.bipush 6, 2) := by decide +kernel
theorem dL_burns_138 : decode cL_burns 138 = .ok (.iload 5, 2) := by decide +kernel
theorem dL_burns_140 : decode cL_burns 140 = .ok (.imul, 1) := by decide +kernel
theorem dL_burns_141 : decode cL_burns 141 = .ok (.iaload, 1) := by decide +kernel
theorem dL_burns_142 : decode cL_burns 142 = .ok (.sipush 128, 3) := by decide +kernel
theorem dL_burns_145 : decode cL_burns 145 = .ok (.if_icmp .ge 28, 3) := by decide +kernel
theorem dL_burns_148 : decode cL_burns 148 = .ok (.iload 7, 2) := by decide +kernel
theorem dL_burns_150 : decode cL_burns 150 = .ok (.bipush 29, 2) := by decide +kernel
theorem dL_burns_152 : decode cL_burns 152 = .ok (.if_icmp .gt 17, 3) := by decide +kernel
theorem dL_burns_155 : decode cL_burns 155 = .ok (.aload_n 1, 1) := by decide +kernel
theorem dL_burns_156 : decode cL_burns 156 = .ok (.iconst 4, 1) := by decide +kernel
theorem dL_burns_157 : decode cL_burns 157 = .ok (.iload 12, 2) := by decide +kernel
theorem dL_burns_159 : decode cL_burns 159 = .ok (.iadd, 1) := by decide +kernel
theorem dL_burns_160 : decode cL_burns 160 = .ok (.iaload, 1) := by decide +kernel
theorem dL_burns_161 : decode cL_burns 161 = .ok (.iload 7, 2) := by decide +kernel
theorem dL_burns_163 : decode cL_burns 163 = .ok (.ishr, 1) := by decide +kernel
theorem dL_burns_164 : decode cL_burns 164 = .ok (.iconst 1, 1) := by decide +kernel
theorem dL_burns_165 : decode cL_burns 165 = .ok (.iand, 1) := by decide +kernel
theorem dL_burns_166 : decode cL_burns 166 = .ok (.ifCond .ne 7, 3) := by decide +kernel
theorem dL_burns_169 : decode cL_burns 169 = .ok (.iconst 1, 1) := by decide +kernel
theorem dL_burns_170 : decode cL_burns 170 = .ok (.goto 4, 3) := by decide +kernel
theorem dL_burns_173 : decode cL_burns 173 = .ok (.iconst 0, 1) := by decide +kernel
theorem dL_burns_174 : decode cL_burns 174 = .ok (.istore 14, 2) := by decide +kernel
theorem dL_burns_176 : decode cL_burns 176 = .ok (.iload 10, 2) := by decide +kernel
theorem dL_burns_178 : decode cL_burns 178 = .ok (.ifCond .eq 37, 3) := by decide +kernel
theorem dL_burns_181 : decode cL_burns 181 = .ok (.iload 14, 2) := by decide +kernel
theorem dL_burns_183 : decode cL_burns 183 = .ok (.ifCond .ne 32, 3) := by decide +kernel
theorem dL_burns_186 : decode cL_burns 186 = .ok (.aload_n 2, 1) := by decide +kernel
theorem dL_burns_187 : decode cL_burns 187 = .ok (.iconst 4, 1) := by decide +kernel
theorem dL_burns_188 : decode cL_burns 188 = .ok (.aload_n 3, 1) := by decide +kernel
theorem dL_burns_189 : decode cL_burns 189 = .ok (.bipush 6, 2) := by decide +kernel
theorem dL_burns_191 : decode cL_burns 191 = .ok (.iload 5, 2) := by decide +kernel
theorem dL_burns_193 : decode cL_burns 193 = .ok (.imul, 1) := by decide +kernel
theorem dL_burns_194 : decode cL_burns 194 = .ok (.iaload, 1) := by decide +kernel
theorem dL_burns_195 : decode cL_burns 195 = .ok (.bipush 64, 2) := by decide +kernel
theorem dL_burns_197 : decode cL_burns 197 = .ok (.idiv, 1) := by decide +kernel
theorem dL_burns_198 : decode cL_burns 198 = .ok (.iconst 2, 1) := by decide +kernel
theorem dL_burns_199 : decode cL_burns 199 = .ok (.irem, 1) := by decide +kernel
theorem dL_burns_200 : decode cL_burns 200 = .ok (.imul, 1) := by decide +kernel
theorem dL_burns_201 : decode cL_burns 201 = .ok (.iconst 3, 1) := by decide +kernel
theorem dL_burns_202 : decode cL_burns 202 = .ok (.iadd, 1) := by decide +kernel
theorem dL_burns_203 : decode cL_burns 203 = .ok (.iaload, 1) := by decide +kernel
theorem dL_burns_204 : decode cL_burns 204 = .ok (.aload 4, 2) := by decide +kernel
theorem dL_burns_206 : decode cL_burns 206 = .ok (.iconst 0, 1) := by decide +kernel
theorem dL_burns_207 : decode cL_burns 207 = .ok (.iaload, 1) := by decide +kernel
theorem dL_burns_208 : decode cL_burns 208 = .ok (.if_icmp .gt 7, 3) := by decide +kernel
theorem dL_burns_211 : decode cL_burns 211 = .ok (.iconst 1, 1) := by decide +kernel
theorem dL_burns_212 : decode cL_burns 212 = .ok (.goto 4, 3) := by decide +kernel
theorem dL_burns_215 : decode cL_burns 215 = .ok (.iconst 0, 1) := by decide +kernel
theorem dL_burns_216 : decode cL_burns 216 = .ok (.ireturn, 1) := by decide +kernel
theorem dL_light_0 : decode cL_light 0 = .ok (.aload_n 0, 1) := by decide +kernel
theorem dL_light_1 : decode cL_light 1 = .ok (.bipush 6, 2) := by decide +kernel
theorem dL_light_3 : decode cL_light 3 = .ok (.iload_n 1, 1) := by decide +kernel
theorem dL_light_4 : decode cL_light 4 = .ok (.imul, 1) := by decide +kernel
theorem dL_light_5 : decode cL_light 5 = .ok (.iconst 4, 1) := by decide +kernel
theorem dL_light_6 : decode cL_light 6 = .ok (.iadd, 1) := by decide +kernel
theorem dL_light_7 : decode cL_light 7 = .ok (.iaload, 1) := by decide +kernel
theorem dL_light_8 : decode cL_light 8 = .ok (.bipush 100, 2) := by decide +kernel
theorem dL_light_10 : decode cL_light 10 = .ok (.idiv, 1) := by decide +kernel
theorem dL_light_11 : decode cL_light 11 = .ok (.istore_n 2, 1) := by decide +kernel
theorem dL_light_12 : decode cL_light 12 = .ok (.aload_n 0, 1) := by decide +kernel
theorem dL_light_13 : decode cL_light 13 = .ok (.bipush 6, 2) := by decide +kernel
theorem dL_light_15 : decode cL_light 15 = .ok (.iload_n 1, 1) := by decide +kernel
theorem dL_light_16 : decode cL_light 16 = .ok (.imul, 1) := by decide +kernel
theorem dL_light_17 : decode cL_light 17 = .ok (.iconst 1, 1) := by decide +kernel
theorem dL_light_18 : decode cL_light 18 = .ok (.iadd, 1) := by decide +kernel
theorem dL_light_19 : decode cL_light 19 = .ok (.iaload, 1) := by decide +kernel
theorem dL_light_20 : decode cL_light 20 = .ok (.iload_n 2, 1) := by decide +kernel
theorem dL_light_21 : decode cL_light 21 = .ok (.bipush 50, 2) := by decide +kernel
theorem dL_light_23 : decode cL_light 23 = .ok (.if_icmp .le 8, 3) := by decide +kernel
theorem dL_light_26 : decode cL_light 26 = .ok (.bipush 50, 2) := by decide +kernel
theorem dL_light_28 : decode cL_light 28 = .ok (.goto 7, 3) := by decide +kernel
theorem dL_light_31 : decode cL_light 31 = .ok (.bipush 100, 2) := by decide +kernel
theorem dL_light_33 : decode cL_light 33 = .ok (.iload_n 2, 1) := by decide +kernel
theorem dL_light_34 : decode cL_light 34 = .ok (.isub, 1) := by decide +kernel
theorem dL_light_35 : decode cL_light 35 = .ok (.imul, 1) := by decide +kernel
theorem dL_light_36 : decode cL_light 36 = .ok (.bipush 100, 2) := by decide +kernel
theorem dL_light_38 : decode cL_light 38 = .ok (.idiv, 1) := by decide +kernel
theorem dL_light_39 : decode cL_light 39 = .ok (.istore_n 3, 1) := by decide +kernel
theorem dL_light_40 : decode cL_light 40 = .ok (.iload_n 3, 1) := by decide +kernel
theorem dL_light_41 : decode cL_light 41 = .ok (.bipush 10, 2) := by decide +kernel
theorem dL_light_43 : decode cL_light 43 = .ok (.aload_n 0, 1) := by decide +kernel
theorem dL_light_44 : decode cL_light 44 = .ok (.bipush 6, 2) := by decide +kernel
theorem dL_light_46 : decode cL_light 46 = .ok (.iload_n 1, 1) := by decide +kernel
theorem dL_light_47 : decode cL_light 47 = .ok (.imul, 1) := by decide +kernel
theorem dL_light_48 : decode cL_light 48 = .ok (.iconst 2, 1) := by decide +kernel
theorem dL_light_49 : decode cL_light 49 = .ok (.iadd, 1) := by decide +kernel
theorem dL_light_50 : decode cL_light 50 = .ok (.iaload, 1) := by decide +kernel
theorem dL_light_51 : decode cL_light 51 = .ok (.bipush 64, 2) := by decide +kernel
theorem dL_light_53 : decode cL_light 53 = .ok (.idiv, 1) := by decide +kernel
theorem dL_light_54 : decode cL_light 54 = .ok (.isub, 1) := by decide +kernel
theorem dL_light_55 : decode cL_light 55 = .ok (.imul, 1) := by decide +kernel
theorem dL_light_56 : decode cL_light 56 = .ok (.bipush 10, 2) := by decide +kernel
theorem dL_light_58 : decode cL_light 58 = .ok (.idiv, 1) := by decide +kernel
theorem dL_light_59 : decode cL_light 59 = .ok (.ireturn, 1) := by decide +kernel
theorem dL_isShaded_0 : decode cL_isShaded 0 = .ok (.iload_n 2, 1) := by decide +kernel
theorem dL_isShaded_1 : decode cL_isShaded 1 = .ok (.bipush 8, 2) := by decide +kernel
theorem dL_isShaded_3 : decode cL_isShaded 3 = .ok (.irem, 1) := by decide +kernel
theorem dL_isShaded_4 : decode cL_isShaded 4 = .ok (.iload_n 1, 1) := by decide +kernel
theorem dL_isShaded_5 : decode cL_isShaded 5 = .ok (.bipush 8, 2) := by decide +kernel
theorem dL_isShaded_7 : decode cL_isShaded 7 = .ok (.irem, 1) := by decide +kernel
theorem dL_isShaded_8 : decode cL_isShaded 8 = .ok (.isub, 1) := by decide +kernel
theorem dL_isShaded_9 : decode cL_isShaded 9 = .ok (.istore_n 3, 1) := by decide +kernel
theorem dL_isShaded_10 : decode cL_isShaded 10 = .ok (.iload_n 2, 1) := by decide +kernel
theorem dL_isShaded_11 : decode cL_isShaded 11 = .ok (.bipush 8, 2) := by decide +kernel
theorem dL_isShaded_13 : decode cL_isShaded 13 = .ok (.idiv, 1) := by decide +kernel
theorem dL_isShaded_14 : decode cL_isShaded 14 = .ok (.iload_n 1, 1) := by decide +kernel
theorem dL_isShaded_15 : decode cL_isShaded 15 = .ok (.bipush 8, 2) := by decide +kernel
theorem dL_isShaded_17 : decode cL_isShaded 17 = .ok (.idiv, 1) := by decide +kernel
theorem dL_isShaded_18 : decode cL_isShaded 18 = .ok (.isub, 1) := by decide +kernel
theorem dL_isShaded_19 : decode cL_isShaded 19 = .ok (.istore 4, 2) := by decide +kernel
theorem dL_isShaded_21 : decode cL_isShaded 21 = .ok (.iload_n 3, 1) := by decide +kernel
theorem dL_isShaded_22 : decode cL_isShaded 22 = .ok (.invokestatic 98, 3) := by decide +kernel
theorem dL_isShaded_25 : decode cL_isShaded 25 = .ok (.iload 4, 2) := by decide +kernel
theorem dL_isShaded_27 : decode cL_isShaded 27 = .ok (.invokestatic 98, 3) := by decide +kernel
theorem dL_isShaded_30 : decode cL_isShaded 30 = .ok (.if_icmp .le 10, 3) := by decide +kernel
theorem dL_isShaded_33 : decode cL_isShaded 33 = .ok (.iload_n 3, 1) := by decide +kernel
theorem dL_isShaded_34 : decode cL_isShaded 34 = .ok (.invokestatic 98, 3) := by decide +kernel
theorem dL_isShaded_37 : decode cL_isShaded 37 = .ok (.goto 8, 3) := by decide +kernel
theorem dL_isShaded_40 : decode cL_isShaded 40 = .ok (.iload 4, 2) := by decide +kernel
theorem dL_isShaded_42 : decode cL_isShaded 42 = .ok (.invokestatic 98, 3) := by decide +kernel
theorem dL_isShaded_45 : decode cL_isShaded 45 = .ok (.istore 5, 2) := by decide +kernel
theorem dL_isShaded_47 : decode cL_isShaded 47 = .ok (.iconst 0, 1) := by decide +kernel
theorem dL_isShaded_48 : decode cL_isShaded 48 = .ok (.istore 6, 2) := by decide +kernel
theorem dL_isShaded_50 : decode cL_isShaded 50 = .ok (.iload 6, 2) := by decide +kernel
theorem dL_isShaded_52 : decode cL_isShaded 52 = .ok (.iload_n 3, 1) := by decide +kernel
theorem dL_isShaded_53 : decode cL_isShaded 53 = .ok (.invokestatic 98, 3) := by decide +kernel
theorem dL_isShaded_56 : decode cL_isShaded 56 = .ok (.if_icmp .gt 122, 3) := by decide +kernel
theorem dL_isShaded_59 : decode cL_isShaded 59 = .ok (.iconst 0, 1) := by decide +kernel
theorem dL_isShaded_60 : decode cL_isShaded 60 = .ok (.istore 7, 2) := by decide +kernel
theorem dL_isShaded_62 : decode cL_isShaded 62 = .ok (.iload 7, 2) := by decide +kernel
theorem dL_isShaded_64 : decode cL_isShaded 64 = .ok (.iload 4, 2) := by decide +kernel
theorem dL_isShaded_66 : decode cL_isShaded 66 = .ok (.invokestatic 98, 3) := by decide +kernel
theorem dL_isShaded_69 : decode cL_isShaded 69 = .ok (.if_icmp .gt 103, 3) := by decide +kernel
theorem dL_isShaded_72 : decode cL_isShaded 72 = .ok (.iload_n 3, 1) := by decide +kernel
theorem dL_isShaded_73 : decode cL_isShaded 73 = .ok (.ifCond .ge 9, 3) := by decide +kernel
theorem dL_isShaded_76 : decode cL_isShaded 76 = .ok (.iload 6, 2) := by decide +kernel
theorem dL_isShaded_78 : decode cL_isShaded 78 = .ok (.ineg, 1) := by decide +kernel
theorem dL_isShaded_79 : decode cL_isShaded 79 = .ok (.goto 5, 3) := by decide +kernel
theorem dL_isShaded_82 : decode cL_isShaded 82 = .ok (.iload 6, 2) := by decide +kernel
theorem dL_isShaded_84 : decode cL_isShaded 84 = .ok (.istore 8, 2) := by decide +kernel
theorem dL_isShaded_86 : decode cL_isShaded 86 = .ok (.iload 4, 2) := by decide +kernel
theorem dL_isShaded_88 : decode cL_isShaded 88 = .ok (.ifCond .ge 9, 3) := by decide +kernel
theorem dL_isShaded_91 : decode cL_isShaded 91 = .ok (.iload 7, 2) := by decide +kernel
theorem dL_isShaded_93 : decode cL_isShaded 93 = .ok (.ineg, 1) := by decide +kernel
theorem dL_isShaded_94 : decode cL_isShaded 94 = .ok (.goto 5, 3) := by decide +kernel
theorem dL_isShaded_97 : decode cL_isShaded 97 = .ok (.iload 7, 2) := by decide +kernel
theorem dL_isShaded_99 : decode cL_isShaded 99 = .ok (.istore 9, 2) := by decide +kernel
theorem dL_isShaded_101 : decode cL_isShaded 101 = .ok (.iload_n 1, 1) := by decide +kernel
theorem dL_isShaded_102 : decode cL_isShaded 102 = .ok (.iload 8, 2) := by decide +kernel
theorem dL_isShaded_104 : decode cL_isShaded 104 = .ok (.iadd, 1) := by decide +kernel
theorem dL_isShaded_105 : decode cL_isShaded 105 = .ok (.bipush 8, 2) := by decide +kernel
theorem dL_isShaded_107 : decode cL_isShaded 107 = .ok (.iload 9, 2) := by decide +kernel
theorem dL_isShaded_109 : decode cL_isShaded 109 = .ok (.imul, 1) := by decide +kernel
theorem dL_isShaded_110 : decode cL_isShaded 110 = .ok (.iadd, 1) := by decide +kernel
theorem dL_isShaded_111 : decode cL_isShaded 111 = .ok (.istore 10, 2) := by decide +kernel
theorem dL_isShaded_113 : decode cL_isShaded 113 = .ok (.iload_n 3, 1) := by decide +kernel
theorem dL_isShaded_114 : decode cL_isShaded 114 = .ok (.iload 9, 2) := by decide +kernel
theorem dL_isShaded_116 : decode cL_isShaded 116 = .ok (.imul, 1) := by decide +kernel
theorem dL_isShaded_117 : decode cL_isShaded 117 = .ok (.iload 4, 2) := by decide +kernel
theorem dL_isShaded_119 : decode cL_isShaded 119 = .ok (.iload 8, 2) := by decide +kernel
theorem dL_isShaded_121 : decode cL_isShaded 121 = .ok (.imul, 1) := by decide +kernel
theorem dL_isShaded_122 : decode cL_isShaded 122 = .ok (.isub, 1) := by decide +kernel
theorem dL_isShaded_123 : decode cL_isShaded 123 = .ok (.istore 11, 2) := by decide +kernel
theorem dL_isShaded_125 : decode cL_isShaded 125 = .ok (.iload 10, 2) := by decide +kernel
theorem dL_isShaded_127 : decode cL_isShaded 127 = .ok (.iload_n 1, 1) := by decide +kernel
theorem dL_isShaded_128 : decode cL_isShaded 128 = .ok (.if_icmp .eq 38, 3) := by decide +kernel
theorem dL_isShaded_131 : decode cL_isShaded 131 = .ok (.iload 10, 2) := by decide +kernel
theorem dL_isShaded_133 : decode cL_isShaded 133 = .ok (.iload_n 2, 1) := by decide +kernel
theorem dL_isShaded_134 : decode cL_isShaded 134 = .ok (.if_icmp .eq 32, 3) := by decide +kernel
theorem dL_isShaded_137 : decode cL_isShaded 137 = .ok (.aload_n 0, 1) := by decide +kernel
theorem dL_isShaded_138 : decode cL_isShaded 138 = .ok (.iload 10, 2) := by decide +kernel
theorem dL_isShaded_140 : decode cL_isShaded 140 = .ok (.iaload, 1) := by decide +kernel
theorem dL_isShaded_141 : decode cL_isShaded 141 = .ok (.iconst 3, 1) := by decide +kernel
theorem dL_isShaded_142 : decode cL_isShaded 142 = .ok (.if_icmp .le 24, 3) := by decide +kernel
theorem dL_isShaded_145 : decode cL_isShaded 145 = .ok (.iconst 2, 1) := by decide +kernel
theorem dL_isShaded_146 : decode cL_isShaded 146 = .ok (.iload 11, 2) := by decide +kernel
theorem dL_isShaded_148 : decode cL_isShaded 148 = .ok (.imul, 1) := by decide +kernel
theorem dL_isShaded_149 : decode cL_isShaded 149 = .ok (.iload 5, 2) := by decide +kernel
theorem dL_isShaded_151 : decode cL_isShaded 151 = .ok (.if_icmp .gt 15, 3) := by decide +kernel
theorem dL_isShaded_154 : decode cL_isShaded 154 = .ok (.bipush (-2), 2) := by decide +kernel
theorem dL_isShaded_156 : decode cL_isShaded 156 = .ok (.iload 11, 2) := by decide +kernel
theorem dL_isShaded_158 : decode cL_isShaded 158 = .ok (.imul, 1) := by decide +kernel
theorem dL_isShaded_159 : decode cL_isShaded 159 = .ok (.iload 5, 2) := by decide +kernel
theorem dL_isShaded_161 : decode cL_isShaded 161 = .ok (.if_icmp .gt 5, 3) := by decide +kernel
theorem dL_isShaded_164 : decode cL_isShaded 164 = .ok (.iconst 1, 1) := by decide +kernel
theorem dL_isShaded_165 : decode cL_isShaded 165 = .ok (.ireturn, 1) := by decide +kernel
theorem dL_isShaded_166 : decode cL_isShaded 166 = .ok (.iinc 7 1, 3) := by decide +kernel
theorem dL_isShaded_169 : decode cL_isShaded 169 = .ok (.goto (-107), 3) := by decide +kernel
theorem dL_isShaded_172 : decode cL_isShaded 172 = .ok (.iinc 6 1, 3) := by decide +kernel
theorem dL_isShaded_175 : decode cL_isShaded 175 = .ok (.goto (-125), 3) := by decide +kernel
theorem dL_isShaded_178 : decode cL_isShaded 178 = .ok (.iconst 0, 1) := by decide +kernel
theorem dL_isShaded_179 : decode cL_isShaded 179 = .ok (.ireturn, 1) := by decide +kernel
theorem dL_apart_0 : decode cL_apart 0 = .ok (.iload_n 0, 1) := by decide +kernel
theorem dL_apart_1 : decode cL_apart 1 = .ok (.bipush 8, 2) := by decide +kernel
theorem dL_apart_3 : decode cL_apart 3 = .ok (.irem, 1) := by decide +kernel
theorem dL_apart_4 : decode cL_apart 4 = .ok (.iload_n 1, 1) := by decide +kernel
theorem dL_apart_5 : decode cL_apart 5 = .ok (.bipush 8, 2) := by decide +kernel
theorem dL_apart_7 : decode cL_apart 7 = .ok (.irem, 1) := by decide +kernel
theorem dL_apart_8 : decode cL_apart 8 = .ok (.isub, 1) := by decide +kernel
theorem dL_apart_9 : decode cL_apart 9 = .ok (.istore_n 2, 1) := by decide +kernel
theorem dL_apart_10 : decode cL_apart 10 = .ok (.iload_n 0, 1) := by decide +kernel
theorem dL_apart_11 : decode cL_apart 11 = .ok (.bipush 8, 2) := by decide +kernel
theorem dL_apart_13 : decode cL_apart 13 = .ok (.idiv, 1) := by decide +kernel
theorem dL_apart_14 : decode cL_apart 14 = .ok (.iload_n 1, 1) := by decide +kernel
theorem dL_apart_15 : decode cL_apart 15 = .ok (.bipush 8, 2) := by decide +kernel
theorem dL_apart_17 : decode cL_apart 17 = .ok (.idiv, 1) := by decide +kernel
theorem dL_apart_18 : decode cL_apart 18 = .ok (.isub, 1) := by decide +kernel
theorem dL_apart_19 : decode cL_apart 19 = .ok (.istore_n 3, 1) := by decide +kernel
theorem dL_apart_20 : decode cL_apart 20 = .ok (.iload_n 2, 1) := by decide +kernel
theorem dL_apart_21 : decode cL_apart 21 = .ok (.iload_n 2, 1) := by decide +kernel
theorem dL_apart_22 : decode cL_apart 22 = .ok (.imul, 1) := by decide +kernel
theorem dL_apart_23 : decode cL_apart 23 = .ok (.iload_n 3, 1) := by decide +kernel
theorem dL_apart_24 : decode cL_apart 24 = .ok (.iload_n 3, 1) := by decide +kernel
theorem dL_apart_25 : decode cL_apart 25 = .ok (.imul, 1) := by decide +kernel
theorem dL_apart_26 : decode cL_apart 26 = .ok (.iadd, 1) := by decide +kernel
theorem dL_apart_27 : decode cL_apart 27 = .ok (.iconst 1, 1) := by decide +kernel
theorem dL_apart_28 : decode cL_apart 28 = .ok (.iadd, 1) := by decide +kernel
theorem dL_apart_29 : decode cL_apart 29 = .ok (.ireturn, 1) := by decide +kernel
theorem dL_gives_0 : decode cL_gives 0 = .ok (.aload_n 3, 1) := by decide +kernel
theorem dL_gives_1 : decode cL_gives 1 = .ok (.bipush 6, 2) := by decide +kernel
theorem dL_gives_3 : decode cL_gives 3 = .ok (.iload 5, 2) := by decide +kernel
theorem dL_gives_5 : decode cL_gives 5 = .ok (.imul, 1) := by decide +kernel
theorem dL_gives_6 : decode cL_gives 6 = .ok (.iaload, 1) := by decide +kernel
theorem dL_gives_7 : decode cL_gives 7 = .ok (.bipush 64, 2) := by decide +kernel
theorem dL_gives_9 : decode cL_gives 9 = .ok (.irem, 1) := by decide +kernel
theorem dL_gives_10 : decode cL_gives 10 = .ok (.istore 7, 2) := by decide +kernel
theorem dL_gives_12 : decode cL_gives 12 = .ok (.aload_n 0, 1) := by decide +kernel
theorem dL_gives_13 : decode cL_gives 13 = .ok (.aload_n 1, 1) := by decide +kernel
theorem dL_gives_14 : decode cL_gives 14 = .ok (.aload_n 2, 1) := by decide +kernel
theorem dL_gives_15 : decode cL_gives 15 = .ok (.aload_n 3, 1) := by decide +kernel
theorem dL_gives_16 : decode cL_gives 16 = .ok (.aload 4, 2) := by decide +kernel
theorem dL_gives_18 : decode cL_gives 18 = .ok (.iload 5, 2) := by decide +kernel
theorem dL_gives_20 : decode cL_gives 20 = .ok (.invokestatic 101, 3) := by decide +kernel
theorem dL_gives_23 : decode cL_gives 23 = .ok (.ifCond .eq 33, 3) := by decide +kernel
theorem dL_gives_26 : decode cL_gives 26 = .ok (.aload_n 3, 1) := by decide +kernel
theorem dL_gives_27 : decode cL_gives 27 = .ok (.iload 5, 2) := by decide +kernel
theorem dL_gives_29 : decode cL_gives 29 = .ok (.invokestatic 105, 3) := by decide +kernel
theorem dL_gives_32 : decode cL_gives 32 = .ok (.bipush 10, 2) := by decide +kernel
theorem dL_gives_34 : decode cL_gives 34 = .ok (.aload_n 3, 1) := by decide +kernel
theorem dL_gives_35 : decode cL_gives 35 = .ok (.bipush 6, 2) := by decide +kernel
theorem dL_gives_37 : decode cL_gives 37 = .ok (.iload 5, 2) := by decide +kernel
theorem dL_gives_39 : decode cL_gives 39 = .ok (.imul, 1) := by decide +kernel
theorem dL_gives_40 : decode cL_gives 40 = .ok (.iconst 2, 1) := by decide +kernel
theorem dL_gives_41 : decode cL_gives 41 = .ok (.iadd, 1) := by decide +kernel
theorem dL_gives_42 : decode cL_gives 42 = .ok (.iaload, 1) := by decide +kernel
theorem dL_gives_43 : decode cL_gives 43 = .ok (.iconst 4, 1) := by decide +kernel
theorem dL_gives_44 : decode cL_gives 44 = .ok (.idiv, 1) := by decide +kernel
theorem dL_gives_45 : decode cL_gives 45 = .ok (.bipush 16, 2) := by decide +kernel
theorem dL_gives_47 : decode cL_gives 47 = .ok (.irem, 1) := by decide +kernel
theorem dL_gives_48 : decode cL_gives 48 = .ok (.isub, 1) := by decide +kernel
theorem dL_gives_49 : decode cL_gives 49 = .ok (.imul, 1) := by decide +kernel
theorem dL_gives_50 : decode cL_gives 50 = .ok (.bipush 10, 2) := by decide +kernel
theorem dL_gives_52 : decode cL_gives 52 = .ok (.idiv, 1) := by decide +kernel
theorem dL_gives_53 : decode cL_gives 53 = .ok (.goto 4, 3) := by decide +kernel
theorem dL_gives_56 : decode cL_gives 56 = .ok (.iconst 0, 1) := by decide +kernel
theorem dL_gives_57 : decode cL_gives 57 = .ok (.istore 8, 2) := by decide +kernel
theorem dL_gives_59 : decode cL_gives 59 = .ok (.aload_n 3, 1) := by decide +kernel
theorem dL_gives_60 : decode cL_gives 60 = .ok (.bipush 6, 2) := by decide +kernel
theorem dL_gives_62 : decode cL_gives 62 = .ok (.iload 5, 2) := by decide +kernel
theorem dL_gives_64 : decode cL_gives 64 = .ok (.imul, 1) := by decide +kernel
theorem dL_gives_65 : decode cL_gives 65 = .ok (.iconst 2, 1) := by decide +kernel
theorem dL_gives_66 : decode cL_gives 66 = .ok (.iadd, 1) := by decide +kernel
theorem dL_gives_67 : decode cL_gives 67 = .ok (.iaload, 1) := by decide +kernel
theorem dL_gives_68 : decode cL_gives 68 = .ok (.iconst 4, 1) := by decide +kernel
theorem dL_gives_69 : decode cL_gives 69 = .ok (.irem, 1) := by decide +kernel
theorem dL_gives_70 : decode cL_gives 70 = .ok (.ifCond .ne 8, 3) := by decide +kernel
theorem dL_gives_73 : decode cL_gives 73 = .ok (.iload 8, 2) := by decide +kernel
theorem dL_gives_75 : decode cL_gives 75 = .ok (.goto 29, 3) := by decide +kernel
theorem dL_gives_78 : decode cL_gives 78 = .ok (.aload_n 3, 1) := by decide +kernel
theorem dL_gives_79 : decode cL_gives 79 = .ok (.bipush 6, 2) := by decide +kernel
theorem dL_gives_81 : decode cL_gives 81 = .ok (.iload 5, 2) := by decide +kernel
theorem dL_gives_83 : decode cL_gives 83 = .ok (.imul, 1) := by decide +kernel
theorem dL_gives_84 : decode cL_gives 84 = .ok (.iconst 2, 1) := by decide +kernel
theorem dL_gives_85 : decode cL_gives 85 = .ok (.iadd, 1) := by decide +kernel
theorem dL_gives_86 : decode cL_gives 86 = .ok (.iaload, 1) := by decide +kernel
theorem dL_gives_87 : decode cL_gives 87 = .ok (.iconst 4, 1) := by decide +kernel
theorem dL_gives_88 : decode cL_gives 88 = .ok (.irem, 1) := by decide +kernel
theorem dL_gives_89 : decode cL_gives 89 = .ok (.iconst 1, 1) := by decide +kernel
theorem dL_gives_90 : decode cL_gives 90 = .ok (.if_icmp .ne 10, 3) := by decide +kernel
theorem dL_gives_93 : decode cL_gives 93 = .ok (.iconst 2, 1) := by decide +kernel
theorem dL_gives_94 : decode cL_gives 94 = .ok (.iload 8, 2) := by decide +kernel
theorem dL_gives_96 : decode cL_gives 96 = .ok (.imul, 1) := by decide +kernel
theorem dL_gives_97 : decode cL_gives 97 = .ok (.goto 7, 3) := by decide +kernel
theorem dL_gives_100 : decode cL_gives 100 = .ok (.iconst 4, 1) := by decide +kernel
theorem dL_gives_101 : decode cL_gives 101 = .ok (.iload 8, 2) := by decide +kernel
theorem dL_gives_103 : decode cL_gives 103 = .ok (.imul, 1) := by decide +kernel
theorem dL_gives_104 : decode cL_gives 104 = .ok (.iload 7, 2) := by decide +kernel
theorem dL_gives_106 : decode cL_gives 106 = .ok (.iload 6, 2) := by decide +kernel
theorem dL_gives_108 : decode cL_gives 108 = .ok (.invokestatic 109, 3) := by decide +kernel
theorem dL_gives_111 : decode cL_gives 111 = .ok (.idiv, 1) := by decide +kernel
theorem dL_gives_112 : decode cL_gives 112 = .ok (.istore 8, 2) := by decide +kernel
theorem dL_gives_114 : decode cL_gives 114 = .ok (.aload_n 0, 1) := by decide +kernel
theorem dL_gives_115 : decode cL_gives 115 = .ok (.iload 7, 2) := by decide +kernel
theorem dL_gives_117 : decode cL_gives 117 = .ok (.iload 6, 2) := by decide +kernel
theorem dL_gives_119 : decode cL_gives 119 = .ok (.invokestatic 112, 3) := by decide +kernel
theorem dL_gives_122 : decode cL_gives 122 = .ok (.ifCond .eq 10, 3) := by decide +kernel
theorem dL_gives_125 : decode cL_gives 125 = .ok (.iload 8, 2) := by decide +kernel
theorem dL_gives_127 : decode cL_gives 127 = .ok (.iconst 2, 1) := by decide +kernel
theorem dL_gives_128 : decode cL_gives 128 = .ok (.idiv, 1) := by decide +kernel
theorem dL_gives_129 : decode cL_gives 129 = .ok (.goto 5, 3) := by decide +kernel
theorem dL_gives_132 : decode cL_gives 132 = .ok (.iload 8, 2) := by decide +kernel
theorem dL_gives_134 : decode cL_gives 134 = .ok (.istore 8, 2) := by decide +kernel
theorem dL_gives_136 : decode cL_gives 136 = .ok (.aload 4, 2) := by decide +kernel
theorem dL_gives_138 : decode cL_gives 138 = .ok (.iconst 1, 1) := by decide +kernel
theorem dL_gives_139 : decode cL_gives 139 = .ok (.iaload, 1) := by decide +kernel
theorem dL_gives_140 : decode cL_gives 140 = .ok (.ifCond .ne 8, 3) := by decide +kernel
theorem dL_gives_143 : decode cL_gives 143 = .ok (.iload 8, 2) := by decide +kernel
theorem dL_gives_145 : decode cL_gives 145 = .ok (.goto 23, 3) := by decide +kernel
theorem dL_gives_148 : decode cL_gives 148 = .ok (.aload 4, 2) := by decide +kernel
theorem dL_gives_150 : decode cL_gives 150 = .ok (.iconst 1, 1) := by decide +kernel
theorem dL_gives_151 : decode cL_gives 151 = .ok (.iaload, 1) := by decide +kernel
theorem dL_gives_152 : decode cL_gives 152 = .ok (.iconst 1, 1) := by decide +kernel
theorem dL_gives_153 : decode cL_gives 153 = .ok (.if_icmp .ne 11, 3) := by decide +kernel
theorem dL_gives_156 : decode cL_gives 156 = .ok (.iload 8, 2) := by decide +kernel
theorem dL_gives_158 : decode cL_gives 158 = .ok (.iload 8, 2) := by decide +kernel
theorem dL_gives_160 : decode cL_gives 160 = .ok (.iadd, 1) := by decide +kernel
theorem dL_gives_161 : decode cL_gives 161 = .ok (.goto 7, 3) := by decide +kernel
theorem dL_gives_164 : decode cL_gives 164 = .ok (.iconst 5, 1) := by decide +kernel
theorem dL_gives_165 : decode cL_gives 165 = .ok (.iload 8, 2) := by decide +kernel
theorem dL_gives_167 : decode cL_gives 167 = .ok (.imul, 1) := by decide +kernel
theorem dL_gives_168 : decode cL_gives 168 = .ok (.ireturn, 1) := by decide +kernel
theorem dL_glow_0 : decode cL_glow 0 = .ok (.iconst 0, 1) := by decide +kernel
theorem dL_glow_1 : decode cL_glow 1 = .ok (.istore 7, 2) := by decide +kernel
theorem dL_glow_3 : decode cL_glow 3 = .ok (.iconst 0, 1) := by decide +kernel
theorem dL_glow_4 : decode cL_glow 4 = .ok (.istore 8, 2) := by decide +kernel
theorem dL_glow_6 : decode cL_glow 6 = .ok (.iload 8, 2) := by decide +kernel
theorem dL_glow_8 : decode cL_glow 8 = .ok (.aload 4, 2) := by decide +kernel
theorem dL_glow_10 : decode cL_glow 10 = .ok (.iconst 3, 1) := by decide +kernel
theorem dL_glow_11 : decode cL_glow 11 = .ok (.iaload, 1) := by decide +kernel
theorem dL_glow_12 : decode cL_glow 12 = .ok (.if_icmp .ge 153, 3) := by decide +kernel
theorem dL_glow_15 : decode cL_glow 15 = .ok (.aload_n 3, 1) := by decide +kernel
theorem dL_glow_16 : decode cL_glow 16 = .ok (.bipush 6, 2) := by decide +kernel
theorem dL_glow_18 : decode cL_glow 18 = .ok (.iload 8, 2) := by decide +kernel
theorem dL_glow_20 : decode cL_glow 20 = .ok (.imul, 1) := by decide +kernel
theorem dL_glow_21 : decode cL_glow 21 = .ok (.iaload, 1) := by decide +kernel
theorem dL_glow_22 : decode cL_glow 22 = .ok (.bipush 64, 2) := by decide +kernel
theorem dL_glow_24 : decode cL_glow 24 = .ok (.irem, 1) := by decide +kernel
theorem dL_glow_25 : decode cL_glow 25 = .ok (.istore 9, 2) := by decide +kernel
theorem dL_glow_27 : decode cL_glow 27 = .ok (.iload 9, 2) := by decide +kernel
theorem dL_glow_29 : decode cL_glow 29 = .ok (.bipush 8, 2) := by decide +kernel
theorem dL_glow_31 : decode cL_glow 31 = .ok (.irem, 1) := by decide +kernel
theorem dL_glow_32 : decode cL_glow 32 = .ok (.iload 5, 2) := by decide +kernel
theorem dL_glow_34 : decode cL_glow 34 = .ok (.bipush 8, 2) := by decide +kernel
theorem dL_glow_36 : decode cL_glow 36 = .ok (.irem, 1) := by decide +kernel
theorem dL_glow_37 : decode cL_glow 37 = .ok (.isub, 1) := by decide +kernel
theorem dL_glow_38 : decode cL_glow 38 = .ok (.istore 10, 2) := by decide +kernel
theorem dL_glow_40 : decode cL_glow 40 = .ok (.iload 9, 2) := by decide +kernel
theorem dL_glow_42 : decode cL_glow 42 = .ok (.bipush 8, 2) := by decide +kernel
theorem dL_glow_44 : decode cL_glow 44 = .ok (.idiv, 1) := by decide +kernel
theorem dL_glow_45 : decode cL_glow 45 = .ok (.iload 5, 2) := by decide +kernel
theorem dL_glow_47 : decode cL_glow 47 = .ok (.bipush 8, 2) := by decide +kernel
theorem dL_glow_49 : decode cL_glow 49 = .ok (.idiv, 1) := by decide +kernel
theorem dL_glow_50 : decode cL_glow 50 = .ok (.isub, 1) := by decide +kernel
theorem dL_glow_51 : decode cL_glow 51 = .ok (.istore 11, 2) := by decide +kernel
theorem dL_glow_53 : decode cL_glow 53 = .ok (.iload 9, 2) := by decide +kernel
theorem dL_glow_55 : decode cL_glow 55 = .ok (.iload 5, 2) := by decide +kernel
theorem dL_glow_57 : decode cL_glow 57 = .ok (.if_icmp .ne 7, 3) := by decide +kernel
theorem dL_glow_60 : decode cL_glow 60 = .ok (.iconst 4, 1) := by decide +kernel
theorem dL_glow_61 : decode cL_glow 61 = .ok (.goto 61, 3) := by decide +kernel
theorem dL_glow_64 : decode cL_glow 64 = .ok (.iload 10, 2) := by decide +kernel
theorem dL_glow_66 : decode cL_glow 66 = .ok (.ifCond .le 22, 3) := by decide +kernel
theorem dL_glow_69 : decode cL_glow 69 = .ok (.iload 11, 2) := by decide +kernel
theorem dL_glow_71 : decode cL_glow 71 = .ok (.iload 10, 2) := by decide +kernel
theorem dL_glow_73 : decode cL_glow 73 = .ok (.if_icmp .gt 15, 3) := by decide +kernel
theorem dL_glow_76 : decode cL_glow 76 = .ok (.iload 11, 2) := by decide +kernel
theorem dL_glow_78 : decode cL_glow 78 = .ok (.ineg, 1) := by decide +kernel
theorem dL_glow_79 : decode cL_glow 79 = .ok (.iload 10, 2) := by decide +kernel
theorem dL_glow_81 : decode cL_glow 81 = .ok (.if_icmp .gt 7, 3) := by decide +kernel
theorem dL_glow_84 : decode cL_glow 84 = .ok (.iconst 0, 1) := by decide +kernel
theorem dL_glow_85 : decode cL_glow 85 = .ok (.goto 37, 3) := by decide +kernel
theorem dL_glow_88 : decode cL_glow 88 = .ok (.iload 10, 2) := by decide +kernel
theorem dL_glow_90 : decode cL_glow 90 = .ok (.ifCond .ge 22, 3) := by decide +kernel
theorem dL_glow_93 : decode cL_glow 93 = .ok (.iload 11, 2) := by decide +kernel
theorem dL_glow_95 : decode cL_glow 95 = .ok (.iload 10, 2) := by decide +kernel
theorem dL_glow_97 : decode cL_glow 97 = .ok (.ineg, 1) := by decide +kernel
theorem dL_glow_98 : decode cL_glow 98 = .ok (.if_icmp .gt 14, 3) := by decide +kernel
theorem dL_glow_101 : decode cL_glow 101 = .ok (.iload 11, 2) := by decide +kernel
theorem dL_glow_103 : decode cL_glow 103 = .ok (.iload 10, 2) := by decide +kernel
theorem dL_glow_105 : decode cL_glow 105 = .ok (.if_icmp .lt 7, 3) := by decide +kernel
theorem dL_glow_108 : decode cL_glow 108 = .ok (.iconst 1, 1) := by decide +kernel
theorem dL_glow_109 : decode cL_glow 109 = .ok (.goto 13, 3) := by decide +kernel
theorem dL_glow_112 : decode cL_glow 112 = .ok (.iload 11, 2) := by decide +kernel
theorem dL_glow_114 : decode cL_glow 114 = .ok (.ifCond .le 7, 3) := by decide +kernel
theorem dL_glow_117 : decode cL_glow 117 = .ok (.iconst 2, 1) := by decide +kernel
theorem dL_glow_118 : decode cL_glow 118 = .ok (.goto 4, 3) := by decide +kernel
theorem dL_glow_121 : decode cL_glow 121 = .ok (.iconst 3, 1) := by decide +kernel
theorem dL_glow_122 : decode cL_glow 122 = .ok (.istore 12, 2) := by decide +kernel
theorem dL_glow_124 : decode cL_glow 124 = .ok (.iload 7, 2) := by decide +kernel
theorem dL_glow_126 : decode cL_glow 126 = .ok (.iload 6, 2) := by decide +kernel
theorem dL_glow_128 : decode cL_glow 128 = .ok (.iconst 5, 1) := by decide +kernel
theorem dL_glow_129 : decode cL_glow 129 = .ok (.if_icmp .eq 10, 3) := by decide +kernel
theorem dL_glow_132 : decode cL_glow 132 = .ok (.iload 12, 2) := by decide +kernel
theorem dL_glow_134 : decode cL_glow 134 = .ok (.iload 6, 2) := by decide +kernel
theorem dL_glow_136 : decode cL_glow 136 = .ok (.if_icmp .ne 19, 3) := by decide +kernel
theorem dL_glow_139 : decode cL_glow 139 = .ok (.aload_n 0, 1) := by decide +kernel
theorem dL_glow_140 : decode cL_glow 140 = .ok (.aload_n 1, 1) := by decide +kernel
theorem dL_glow_141 : decode cL_glow 141 = .ok (.aload_n 2, 1) := by decide +kernel
theorem dL_glow_142 : decode cL_glow 142 = .ok (.aload_n 3, 1) := by decide +kernel
theorem dL_glow_143 : decode cL_glow 143 = .ok (.aload 4, 2) := by decide +kernel
theorem dL_glow_145 : decode cL_glow 145 = .ok (.iload 8, 2) := by decide +kernel
theorem dL_glow_147 : decode cL_glow 147 = .ok (.iload 5, 2) := by decide +kernel
theorem dL_glow_149 : decode cL_glow 149 = .ok (.invokestatic 116, 3) := by decide +kernel
theorem dL_glow_152 : decode cL_glow 152 = .ok (.goto 4, 3) := by decide +kernel
theorem dL_glow_155 : decode cL_glow 155 = .ok (.iconst 0, 1) := by decide +kernel
theorem dL_glow_156 : decode cL_glow 156 = .ok (.iadd, 1) := by decide +kernel
theorem dL_glow_157 : decode cL_glow 157 = .ok (.istore 7, 2) := by decide +kernel
theorem dL_glow_159 : decode cL_glow 159 = .ok (.iinc 8 1, 3) := by decide +kernel
theorem dL_glow_162 : decode cL_glow 162 = .ok (.goto (-156), 3) := by decide +kernel
theorem dL_glow_165 : decode cL_glow 165 = .ok (.iload 7, 2) := by decide +kernel
theorem dL_glow_167 : decode cL_glow 167 = .ok (.ireturn, 1) := by decide +kernel
theorem dL_ground_0 : decode cL_ground 0 = .ok (.iconst 0, 1) := by decide +kernel
theorem dL_ground_1 : decode cL_ground 1 = .ok (.istore 6, 2) := by decide +kernel
theorem dL_ground_3 : decode cL_ground 3 = .ok (.iconst 0, 1) := by decide +kernel
theorem dL_ground_4 : decode cL_ground 4 = .ok (.istore 7, 2) := by decide +kernel
theorem dL_ground_6 : decode cL_ground 6 = .ok (.iload 7, 2) := by decide +kernel
theorem dL_ground_8 : decode cL_ground 8 = .ok (.aload 4, 2) := by decide +kernel
theorem dL_ground_10 : decode cL_ground 10 = .ok (.iconst 3, 1) := by decide +kernel
theorem dL_ground_11 : decode cL_ground 11 = .ok (.iaload, 1) := by decide +kernel
theorem dL_ground_12 : decode cL_ground 12 = .ok (.if_icmp .ge 54, 3) := by decide +kernel
theorem dL_ground_15 : decode cL_ground 15 = .ok (.iload 6, 2) := by decide +kernel
theorem dL_ground_17 : decode cL_ground 17 = .ok (.aload_n 0, 1) := by decide +kernel
theorem dL_ground_18 : decode cL_ground 18 = .ok (.aload_n 1, 1) := by decide +kernel
theorem dL_ground_19 : decode cL_ground 19 = .ok (.aload_n 2, 1) := by decide +kernel
theorem dL_ground_20 : decode cL_ground 20 = .ok (.aload_n 3, 1) := by decide +kernel
theorem dL_ground_21 : decode cL_ground 21 = .ok (.aload 4, 2) := by decide +kernel
theorem dL_ground_23 : decode cL_ground 23 = .ok (.iload 7, 2) := by decide +kernel
theorem dL_ground_25 : decode cL_ground 25 = .ok (.invokestatic 101, 3) := by decide +kernel
theorem dL_ground_28 : decode cL_ground 28 = .ok (.ifCond .eq 28, 3) := by decide +kernel
theorem dL_ground_31 : decode cL_ground 31 = .ok (.aload_n 3, 1) := by decide +kernel
theorem dL_ground_32 : decode cL_ground 32 = .ok (.iload 7, 2) := by decide +kernel
theorem dL_ground_34 : decode cL_ground 34 = .ok (.invokestatic 105, 3) := by decide +kernel
theorem dL_ground_37 : decode cL_ground 37 = .ok (.aload_n 3, 1) := by decide +kernel
theorem dL_ground_38 : decode cL_ground 38 = .ok (.bipush 6, 2) := by decide +kernel
theorem dL_ground_40 : decode cL_ground 40 = .ok (.iload 7, 2) := by decide +kernel
theorem dL_ground_42 : decode cL_ground 42 = .ok (.imul, 1) := by decide +kernel
theorem dL_ground_43 : decode cL_ground 43 = .ok (.iaload, 1) := by decide +kernel
theorem dL_ground_44 : decode cL_ground 44 = .ok (.bipush 64, 2) := by decide +kernel
theorem dL_ground_46 : decode cL_ground 46 = .ok (.irem, 1) := by decide +kernel
theorem dL_ground_47 : decode cL_ground 47 = .ok (.iload 5, 2) := by decide +kernel
theorem dL_ground_49 : decode cL_ground 49 = .ok (.invokestatic 109, 3) := by decide +kernel
theorem dL_ground_52 : decode cL_ground 52 = .ok (.idiv, 1) := by decide +kernel
theorem dL_ground_53 : decode cL_ground 53 = .ok (.goto 4, 3) := by decide +kernel
theorem dL_ground_56 : decode cL_ground 56 = .ok (.iconst 0, 1) := by decide +kernel
theorem dL_ground_57 : decode cL_ground 57 = .ok (.iadd, 1) := by decide +kernel
theorem dL_ground_58 : decode cL_ground 58 = .ok (.istore 6, 2) := by decide +kernel
theorem dL_ground_60 : decode cL_ground 60 = .ok (.iinc 7 1, 3) := by decide +kernel
theorem dL_ground_63 : decode cL_ground 63 = .ok (.goto (-57), 3) := by decide +kernel
theorem dL_ground_66 : decode cL_ground 66 = .ok (.iload 6, 2) := by decide +kernel
theorem dL_ground_68 : decode cL_ground 68 = .ok (.ireturn, 1) := by decide +kernel
theorem dL_isUnlawful_0 : decode cL_isUnlawful 0 = .ok (.aload_n 1, 1) := by decide +kernel
theorem dL_isUnlawful_1 : decode cL_isUnlawful 1 = .ok (.aload_n 0, 1) := by decide +kernel
theorem dL_isUnlawful_2 : decode cL_isUnlawful 2 = .ok (.aload_n 2, 1) := by decide +kernel
theorem dL_isUnlawful_3 : decode cL_isUnlawful 3 = .ok (.bipush 6, 2) := by decide +kernel
theorem dL_isUnlawful_5 : decode cL_isUnlawful 5 = .ok (.iload_n 3, 1) := by decide +kernel
theorem dL_isUnlawful_6 : decode cL_isUnlawful 6 = .ok (.imul, 1) := by decide +kernel
theorem dL_isUnlawful_7 : decode cL_isUnlawful 7 = .ok (.iaload, 1) := by decide +kernel
theorem dL_isUnlawful_8 : decode cL_isUnlawful 8 = .ok (.bipush 64, 2) := by decide +kernel
theorem dL_isUnlawful_10 : decode cL_isUnlawful 10 = .ok (.irem, 1) := by decide +kernel
theorem dL_isUnlawful_11 : decode cL_isUnlawful 11 = .ok (.iaload, 1) := by decide +kernel
theorem dL_isUnlawful_12 : decode cL_isUnlawful 12 = .ok (.iconst 4, 1) := by decide +kernel
theorem dL_isUnlawful_13 : decode cL_isUnlawful 13 = .ok (.irem, 1) := by decide +kernel
theorem dL_isUnlawful_14 : decode cL_isUnlawful 14 = .ok (.iaload, 1) := by decide +kernel
theorem dL_isUnlawful_15 : decode cL_isUnlawful 15 = .ok (.istore 4, 2) := by decide +kernel
theorem dL_isUnlawful_17 : decode cL_isUnlawful 17 = .ok (.aload_n 2, 1) := by decide +kernel
theorem dL_isUnlawful_18 : decode cL_isUnlawful 18 = .ok (.bipush 6, 2) := by decide +kernel
theorem dL_isUnlawful_20 : decode cL_isUnlawful 20 = .ok (.iload_n 3, 1) := by decide +kernel
theorem dL_isUnlawful_21 : decode cL_isUnlawful 21 = .ok (.imul, 1) := by decide +kernel
theorem dL_isUnlawful_22 : decode cL_isUnlawful 22 = .ok (.iaload, 1) := by decide +kernel
theorem dL_isUnlawful_23 : decode cL_isUnlawful 23 = .ok (.sipush 128, 3) := by decide +kernel
theorem dL_isUnlawful_26 : decode cL_isUnlawful 26 = .ok (.if_icmp .ge 49, 3) := by decide +kernel
theorem dL_isUnlawful_29 : decode cL_isUnlawful 29 = .ok (.aload_n 2, 1) := by decide +kernel
theorem dL_isUnlawful_30 : decode cL_isUnlawful 30 = .ok (.bipush 6, 2) := by decide +kernel
theorem dL_isUnlawful_32 : decode cL_isUnlawful 32 = .ok (.iload_n 3, 1) := by decide +kernel
theorem dL_isUnlawful_33 : decode cL_isUnlawful 33 = .ok (.imul, 1) := by decide +kernel
theorem dL_isUnlawful_34 : decode cL_isUnlawful 34 = .ok (.iconst 2, 1) := by decide +kernel
theorem dL_isUnlawful_35 : decode cL_isUnlawful 35 = .ok (.iadd, 1) := by decide +kernel
theorem dL_isUnlawful_36 : decode cL_isUnlawful 36 = .ok (.iaload, 1) := by decide +kernel
theorem dL_isUnlawful_37 : decode cL_isUnlawful 37 = .ok (.iconst 4, 1) := by decide +kernel
theorem dL_isUnlawful_38 : decode cL_isUnlawful 38 = .ok (.irem, 1) := by decide +kernel
theorem dL_isUnlawful_39 : decode cL_isUnlawful 39 = .ok (.iload 4, 2) := by decide +kernel
theorem dL_isUnlawful_41 : decode cL_isUnlawful 41 = .ok (.bipush 32, 2) := by decide +kernel
theorem dL_isUnlawful_43 : decode cL_isUnlawful 43 = .ok (.idiv, 1) := by decide +kernel
theorem dL_isUnlawful_44 : decode cL_isUnlawful 44 = .ok (.iconst 4, 1) := by decide +kernel
theorem dL_isUnlawful_45 : decode cL_isUnlawful 45 = .ok (.irem, 1) := by decide +kernel
theorem dL_isUnlawful_46 : decode cL_isUnlawful 46 = .ok (.if_icmp .gt 25, 3) := by decide +kernel
theorem dL_isUnlawful_49 : decode cL_isUnlawful 49 = .ok (.aload_n 2, 1) := by decide +kernel
theorem dL_isUnlawful_50 : decode cL_isUnlawful 50 = .ok (.bipush 6, 2) := by decide +kernel
theorem dL_isUnlawful_52 : decode cL_isUnlawful 52 = .ok (.iload_n 3, 1) := by decide +kernel
theorem dL_isUnlawful_53 : decode cL_isUnlawful 53 = .ok (.imul, 1) := by decide +kernel
theorem dL_isUnlawful_54 : decode cL_isUnlawful 54 = .ok (.iconst 2, 1) := by decide +kernel
theorem dL_isUnlawful_55 : decode cL_isUnlawful 55 = .ok (.iadd, 1) := by decide +kernel
theorem dL_isUnlawful_56 : decode cL_isUnlawful 56 = .ok (.iaload, 1) := by decide +kernel
theorem dL_isUnlawful_57 : decode cL_isUnlawful 57 = .ok (.iconst 4, 1) := by decide +kernel
theorem dL_isUnlawful_58 : decode cL_isUnlawful 58 = .ok (.idiv, 1) := by decide +kernel
theorem dL_isUnlawful_59 : decode cL_isUnlawful 59 = .ok (.bipush 16, 2) := by decide +kernel
theorem dL_isUnlawful_61 : decode cL_isUnlawful 61 = .ok (.irem, 1) := by decide +kernel
theorem dL_isUnlawful_62 : decode cL_isUnlawful 62 = .ok (.iload 4, 2) := by decide +kernel
theorem dL_isUnlawful_64 : decode cL_isUnlawful 64 = .ok (.sipush 128, 3) := by decide +kernel
theorem dL_isUnlawful_67 : decode cL_isUnlawful 67 = .ok (.idiv, 1) := by decide +kernel
theorem dL_isUnlawful_68 : decode cL_isUnlawful 68 = .ok (.if_icmp .ge 7, 3) := by decide +kernel
theorem dL_isUnlawful_71 : decode cL_isUnlawful 71 = .ok (.iconst 1, 1) := by decide +kernel
theorem dL_isUnlawful_72 : decode cL_isUnlawful 72 = .ok (.goto 4, 3) := by decide +kernel
theorem dL_isUnlawful_75 : decode cL_isUnlawful 75 = .ok (.iconst 0, 1) := by decide +kernel
theorem dL_isUnlawful_76 : decode cL_isUnlawful 76 = .ok (.ireturn, 1) := by decide +kernel
theorem dL_moon_0 : decode cL_moon 0 = .ok (.iload_n 0, 1) := by decide +kernel
theorem dL_moon_1 : decode cL_moon 1 = .ok (.bipush 24, 2) := by decide +kernel
theorem dL_moon_3 : decode cL_moon 3 = .ok (.idiv, 1) := by decide +kernel
theorem dL_moon_4 : decode cL_moon 4 = .ok (.bipush 30, 2) := by decide +kernel
theorem dL_moon_6 : decode cL_moon 6 = .ok (.irem, 1) := by decide +kernel
theorem dL_moon_7 : decode cL_moon 7 = .ok (.istore_n 1, 1) := by decide +kernel
theorem dL_moon_8 : decode cL_moon 8 = .ok (.iload_n 0, 1) := by decide +kernel
theorem dL_moon_9 : decode cL_moon 9 = .ok (.bipush 24, 2) := by decide +kernel
theorem dL_moon_11 : decode cL_moon 11 = .ok (.irem, 1) := by decide +kernel
theorem dL_moon_12 : decode cL_moon 12 = .ok (.iconst 5, 1) := by decide +kernel
theorem dL_moon_13 : decode cL_moon 13 = .ok (.if_icmp .le 16, 3) := by decide +kernel
theorem dL_moon_16 : decode cL_moon 16 = .ok (.iload_n 0, 1) := by decide +kernel
theorem dL_moon_17 : decode cL_moon 17 = .ok (.bipush 24, 2) := by decide +kernel
theorem dL_moon_19 : decode cL_moon 19 = .ok (.irem, 1) := by decide +kernel
theorem dL_moon_20 : decode cL_moon 20 = .ok (.bipush 18, 2) := by decide +kernel
theorem dL_moon_22 : decode cL_moon 22 = .ok (.if_icmp .ge 7, 3) := by decide +kernel
theorem dL_moon_25 : decode cL_moon 25 = .ok (.iconst 0, 1) := by decide +kernel
theorem dL_moon_26 : decode cL_moon 26 = .ok (.goto 19, 3) := by decide +kernel
theorem dL_moon_29 : decode cL_moon 29 = .ok (.iconst 4, 1) := by decide +kernel
theorem dL_moon_30 : decode cL_moon 30 = .ok (.iload_n 1, 1) := by decide +kernel
theorem dL_moon_31 : decode cL_moon 31 = .ok (.bipush 15, 2) := by decide +kernel
theorem dL_moon_33 : decode cL_moon 33 = .ok (.if_icmp .ge 7, 3) := by decide +kernel
theorem dL_moon_36 : decode cL_moon 36 = .ok (.iload_n 1, 1) := by decide +kernel
theorem dL_moon_37 : decode cL_moon 37 = .ok (.goto 7, 3) := by decide +kernel
theorem dL_moon_40 : decode cL_moon 40 = .ok (.bipush 30, 2) := by decide +kernel
theorem dL_moon_42 : decode cL_moon 42 = .ok (.iload_n 1, 1) := by decide +kernel
theorem dL_moon_43 : decode cL_moon 43 = .ok (.isub, 1) := by decide +kernel
theorem dL_moon_44 : decode cL_moon 44 = .ok (.imul, 1) := by decide +kernel
theorem dL_moon_45 : decode cL_moon 45 = .ok (.ireturn, 1) := by decide +kernel
theorem dL_isSo_0 : decode cL_isSo 0 = .ok (.iload 9, 2) := by decide +kernel
theorem dL_isSo_2 : decode cL_isSo 2 = .ok (.bipush 64, 2) := by decide +kernel
theorem dL_isSo_4 : decode cL_isSo 4 = .ok (.irem, 1) := by decide +kernel
theorem dL_isSo_5 : decode cL_isSo 5 = .ok (.istore 11, 2) := by decide +kernel
theorem dL_isSo_7 : decode cL_isSo 7 = .ok (.aload_n 0, 1) := by decide +kernel
theorem dL_isSo_8 : decode cL_isSo 8 = .ok (.invokevirtual 120, 3) := by decide +kernel
theorem dL_isSo_11 : decode cL_isSo 11 = .ok (.aload 8, 2) := by decide +kernel
theorem dL_isSo_13 : decode cL_isSo 13 = .ok (.iconst 0, 1) := by decide +kernel
theorem dL_isSo_14 : decode cL_isSo 14 = .ok (.iaload, 1) := by decide +kernel
theorem dL_isSo_15 : decode cL_isSo 15 = .ok (.if_icmp .ne 27, 3) := by decide +kernel
theorem dL_isSo_18 : decode cL_isSo 18 = .ok (.aload_n 0, 1) := by decide +kernel
theorem dL_isSo_19 : decode cL_isSo 19 = .ok (.invokevirtual 124, 3) := by decide +kernel
theorem dL_isSo_22 : decode cL_isSo 22 = .ok (.aload 8, 2) := by decide +kernel
theorem dL_isSo_24 : decode cL_isSo 24 = .ok (.bipush 7, 2) := by decide +kernel
theorem dL_isSo_26 : decode cL_isSo 26 = .ok (.iaload, 1) := by decide +kernel
theorem dL_isSo_27 : decode cL_isSo 27 = .ok (.ifCond .ne 7, 3) := by decide +kernel
theorem dL_isSo_30 : decode cL_isSo 30 = .ok (.iconst 1, 1) := by decide +kernel
theorem dL_isSo_31 : decode cL_isSo 31 = .ok (.goto 4, 3) := by decide +kernel
theorem dL_isSo_34 : decode cL_isSo 34 = .ok (.iconst 0, 1) := by decide +kernel
theorem dL_isSo_35 : decode cL_isSo 35 = .ok (.if_icmp .ne 7, 3) := by decide +kernel
theorem dL_isSo_38 : decode cL_isSo 38 = .ok (.iconst 1, 1) := by decide +kernel
theorem dL_isSo_39 : decode cL_isSo 39 = .ok (.goto 4, 3) := by decide +kernel
theorem dL_isSo_42 : decode cL_isSo 42 = .ok (.iconst 0, 1) := by decide +kernel
theorem dL_isSo_43 : decode cL_isSo 43 = .ok (.istore 12, 2) := by decide +kernel
theorem dL_isSo_45 : decode cL_isSo 45 = .ok (.iconst (-1), 1) := by decide +kernel
theorem dL_isSo_46 : decode cL_isSo 46 = .ok (.istore 13, 2) := by decide +kernel
theorem dL_isSo_48 : decode cL_isSo 48 = .ok (.iconst 0, 1) := by decide +kernel
theorem dL_isSo_49 : decode cL_isSo 49 = .ok (.istore 14, 2) := by decide +kernel
theorem dL_isSo_51 : decode cL_isSo 51 = .ok (.iconst 0, 1) := by decide +kernel
theorem dL_isSo_52 : decode cL_isSo 52 = .ok (.istore 15, 2) := by decide +kernel
theorem dL_isSo_54 : decode cL_isSo 54 = .ok (.iload 15, 2) := by decide +kernel
theorem dL_isSo_56 : decode cL_isSo 56 = .ok (.aload 8, 2) := by decide +kernel
theorem dL_isSo_58 : decode cL_isSo 58 = .ok (.iconst 3, 1) := by decide +kernel
theorem dL_isSo_59 : decode cL_isSo 59 = .ok (.iaload, 1) := by decide +kernel
theorem dL_isSo_60 : decode cL_isSo 60 = .ok (.if_icmp .ge 275, 3) := by decide +kernel
theorem dL_isSo_63 : decode cL_isSo 63 = .ok (.iload 12, 2) := by decide +kernel
theorem dL_isSo_65 : decode cL_isSo 65 = .ok (.ifCond .eq 270, 3) := by decide +kernel
theorem dL_isSo_68 : decode cL_isSo 68 = .ok (.aload_n 1, 1) := by decide +kernel
theorem dL_isSo_69 : decode cL_isSo 69 = .ok (.aload_n 2, 1) := by decide +kernel
theorem dL_isSo_70 : decode cL_isSo 70 = .ok (.aload_n 3, 1) := by decide +kernel
theorem dL_isSo_71 : decode cL_isSo 71 = .ok (.aload 4, 2) := by decide +kernel
theorem dL_isSo_73 : decode cL_isSo 73 = .ok (.aload 8, 2) := by decide +kernel
theorem dL_isSo_75 : decode cL_isSo 75 = .ok (.iload 15, 2) := by decide +kernel
theorem dL_isSo_77 : decode cL_isSo 77 = .ok (.invokestatic 101, 3) := by decide +kernel
theorem dL_isSo_80 : decode cL_isSo 80 = .ok (.istore 16, 2) := by decide +kernel
theorem dL_isSo_82 : decode cL_isSo 82 = .ok (.aload_n 1, 1) := by decide +kernel
theorem dL_isSo_83 : decode cL_isSo 83 = .ok (.aload_n 2, 1) := by decide +kernel
theorem dL_isSo_84 : decode cL_isSo 84 = .ok (.aload_n 3, 1) := by decide +kernel
theorem dL_isSo_85 : decode cL_isSo 85 = .ok (.aload 4, 2) := by decide +kernel
theorem dL_isSo_87 : decode cL_isSo 87 = .ok (.aload 8, 2) := by decide +kernel
theorem dL_isSo_89 : decode cL_isSo 89 = .ok (.iload 15, 2) := by decide +kernel
theorem dL_isSo_91 : decode cL_isSo 91 = .ok (.iload 11, 2) := by decide +kernel
theorem dL_isSo_93 : decode cL_isSo 93 = .ok (.invokestatic 116, 3) := by decide +kernel
theorem dL_isSo_96 : decode cL_isSo 96 = .ok (.istore 17, 2) := by decide +kernel
theorem dL_isSo_98 : decode cL_isSo 98 = .ok (.aload_n 0, 1) := by decide +kernel
theorem dL_isSo_99 : decode cL_isSo 99 = .ok (.iload 15, 2) := by decide +kernel
theorem dL_isSo_101 : decode cL_isSo 101 = .ok (.iconst 0, 1) := by decide +kernel
theorem dL_isSo_102 : decode cL_isSo 102 = .ok (.invokevirtual 60, 3) := by decide +kernel
theorem dL_isSo_105 : decode cL_isSo 105 = .ok (.iload 16, 2) := by decide +kernel
theorem dL_isSo_107 : decode cL_isSo 107 = .ok (.ifCond .eq 7, 3) := by decide +kernel
theorem dL_isSo_110 : decode cL_isSo 110 = .ok (.iconst 1, 1) := by decide +kernel
theorem dL_isSo_111 : decode cL_isSo 111 = .ok (.goto 4, 3) := by decide +kernel
theorem dL_isSo_114 : decode cL_isSo 114 = .ok (.iconst 0, 1) := by decide +kernel
theorem dL_isSo_115 : decode cL_isSo 115 = .ok (.if_icmp .ne 179, 3) := by decide +kernel
theorem dL_isSo_118 : decode cL_isSo 118 = .ok (.aload_n 0, 1) := by decide +kernel
theorem dL_isSo_119 : decode cL_isSo 119 = .ok (.iload 15, 2) := by decide +kernel
theorem dL_isSo_121 : decode cL_isSo 121 = .ok (.iconst 1, 1) := by decide +kernel
theorem dL_isSo_122 : decode cL_isSo 122 = .ok (.invokevirtual 60, 3) := by decide +kernel
theorem dL_isSo_125 : decode cL_isSo 125 = .ok (.aload 4, 2) := by decide +kernel
theorem dL_isSo_127 : decode cL_isSo 127 = .ok (.iload 15, 2) := by decide +kernel
theorem dL_isSo_129 : decode cL_isSo 129 = .ok (.invokestatic 105, 3) := by decide +kernel
theorem dL_isSo_132 : decode cL_isSo 132 = .ok (.if_icmp .ne 162, 3) := by decide +kernel
theorem dL_isSo_135 : decode cL_isSo 135 = .ok (.aload_n 0, 1) := by decide +kernel
theorem dL_isSo_136 : decode cL_isSo 136 = .ok (.iload 15, 2) := by decide +kernel
theorem dL_isSo_138 : decode cL_isSo 138 = .ok (.iconst 2, 1) := by decide +kernel
theorem dL_isSo_139 : decode cL_isSo 139 = .ok (.invokevirtual 60, 3) := by decide +kernel
theorem dL_isSo_142 : decode cL_isSo 142 = .ok (.aload 4, 2) := by decide +kernel
theorem dL_isSo_144 : decode cL_isSo 144 = .ok (.bipush 6, 2) := by decide +kernel
theorem dL_isSo_146 : decode cL_isSo 146 = .ok (.iload 15, 2) := by decide +kernel
theorem dL_isSo_148 : decode cL_isSo 148 = .ok (.imul, 1) := by decide +kernel
theorem dL_isSo_149 : decode cL_isSo 149 = .ok (.iconst 4, 1) := by decide +kernel
theorem dL_isSo_150 : decode cL_isSo 150 = .ok (.iadd, 1) := by decide +kernel
theorem dL_isSo_151 : decode cL_isSo 151 = .ok (.iaload, 1) := by decide +kernel
theorem dL_isSo_152 : decode cL_isSo 152 = .ok (.if_icmp .ne 142, 3) := by decide +kernel
theorem dL_isSo_155 : decode cL_isSo 155 = .ok (.aload_n 0, 1) := by decide +kernel
theorem dL_isSo_156 : decode cL_isSo 156 = .ok (.iload 15, 2) := by decide +kernel
theorem dL_isSo_158 : decode cL_isSo 158 = .ok (.iconst 3, 1) := by decide +kernel
theorem dL_isSo_159 : decode cL_isSo 159 = .ok (.invokevirtual 60, 3) := by decide +kernel
theorem dL_isSo_162 : decode cL_isSo 162 = .ok (.aload 4, 2) := by decide +kernel
theorem dL_isSo_164 : decode cL_isSo 164 = .ok (.bipush 6, 2) := by decide +kernel
theorem dL_isSo_166 : decode cL_isSo 166 = .ok (.iload 15, 2) := by decide +kernel
theorem dL_isSo_168 : decode cL_isSo 168 = .ok (.imul, 1) := by decide +kernel
theorem dL_isSo_169 : decode cL_isSo 169 = .ok (.iconst 2, 1) := by decide +kernel
theorem dL_isSo_170 : decode cL_isSo 170 = .ok (.iadd, 1) := by decide +kernel
theorem dL_isSo_171 : decode cL_isSo 171 = .ok (.iaload, 1) := by decide +kernel
theorem dL_isSo_172 : decode cL_isSo 172 = .ok (.iconst 4, 1) := by decide +kernel
theorem dL_isSo_173 : decode cL_isSo 173 = .ok (.idiv, 1) := by decide +kernel
theorem dL_isSo_174 : decode cL_isSo 174 = .ok (.bipush 16, 2) := by decide +kernel
theorem dL_isSo_176 : decode cL_isSo 176 = .ok (.irem, 1) := by decide +kernel
theorem dL_isSo_177 : decode cL_isSo 177 = .ok (.if_icmp .ne 117, 3) := by decide +kernel
theorem dL_isSo_180 : decode cL_isSo 180 = .ok (.aload_n 0, 1) := by decide +kernel
theorem dL_isSo_181 : decode cL_isSo 181 = .ok (.iload 15, 2) := by decide +kernel
theorem dL_isSo_183 : decode cL_isSo 183 = .ok (.iconst 4, 1) := by decide +kernel
theorem dL_isSo_184 : decode cL_isSo 184 = .ok (.invokevirtual 60, 3) := by decide +kernel
theorem dL_isSo_187 : decode cL_isSo 187 = .ok (.aload 4, 2) := by decide +kernel
theorem dL_isSo_189 : decode cL_isSo 189 = .ok (.bipush 6, 2) := by decide +kernel
theorem dL_isSo_191 : decode cL_isSo 191 = .ok (.iload 15, 2) := by decide +kernel
theorem dL_isSo_193 : decode cL_isSo 193 = .ok (.imul, 1) := by decide +kernel
theorem dL_isSo_194 : decode cL_isSo 194 = .ok (.iconst 2, 1) := by decide +kernel
theorem dL_isSo_195 : decode cL_isSo 195 = .ok (.iadd, 1) := by decide +kernel
theorem dL_isSo_196 : decode cL_isSo 196 = .ok (.iaload, 1) := by decide +kernel
theorem dL_isSo_197 : decode cL_isSo 197 = .ok (.bipush 64, 2) := by decide +kernel
theorem dL_isSo_199 : decode cL_isSo 199 = .ok (.idiv, 1) := by decide +kernel
theorem dL_isSo_200 : decode cL_isSo 200 = .ok (.if_icmp .ne 94, 3) := by decide +kernel
theorem dL_isSo_203 : decode cL_isSo 203 = .ok (.aload_n 0, 1) := by decide +kernel
theorem dL_isSo_204 : decode cL_isSo 204 = .ok (.iload 15, 2) := by decide +kernel
theorem dL_isSo_206 : decode cL_isSo 206 = .ok (.iconst 5, 1) := by decide +kernel
theorem dL_isSo_207 : decode cL_isSo 207 = .ok (.invokevirtual 60, 3) := by decide +kernel
theorem dL_isSo_210 : decode cL_isSo 210 = .ok (.aload 4, 2) := by decide +kernel
theorem dL_isSo_212 : decode cL_isSo 212 = .ok (.bipush 6, 2) := by decide +kernel
theorem dL_isSo_214 : decode cL_isSo 214 = .ok (.iload 15, 2) := by decide +kernel
theorem dL_isSo_216 : decode cL_isSo 216 = .ok (.imul, 1) := by decide +kernel
theorem dL_isSo_217 : decode cL_isSo 217 = .ok (.iconst 5, 1) := by decide +kernel
theorem dL_isSo_218 : decode cL_isSo 218 = .ok (.iadd, 1) := by decide +kernel
theorem dL_isSo_219 : decode cL_isSo 219 = .ok (.iaload, 1) := by decide +kernel
theorem dL_isSo_220 : decode cL_isSo 220 = .ok (.aload 8, 2) := by decide +kernel
theorem dL_isSo_222 : decode cL_isSo 222 = .ok (.iconst 0, 1) := by decide +kernel
theorem dL_isSo_223 : decode cL_isSo 223 = .ok (.iaload, 1) := by decide +kernel
theorem dL_isSo_224 : decode cL_isSo 224 = .ok (.if_icmp .le 21, 3) := by decide +kernel
theorem dL_isSo_227 : decode cL_isSo 227 = .ok (.aload 4, 2) := by decide +kernel
theorem dL_isSo_229 : decode cL_isSo 229 = .ok (.bipush 6, 2) := by decide +kernel
theorem dL_isSo_231 : decode cL_isSo 231 = .ok (.iload 15, 2) := by decide +kernel
theorem dL_isSo_233 : decode cL_isSo 233 = .ok (.imul, 1) := by decide +kernel
theorem dL_isSo_234 : decode cL_isSo 234 = .ok (.iconst 5, 1) := by decide +kernel
theorem dL_isSo_235 : decode cL_isSo 235 = .ok (.iadd, 1) := by decide +kernel
theorem dL_isSo_236 : decode cL_isSo 236 = .ok (.iaload, 1) := by decide +kernel
theorem dL_isSo_237 : decode cL_isSo 237 = .ok (.aload 8, 2) := by decide +kernel
theorem dL_isSo_239 : decode cL_isSo 239 = .ok (.iconst 0, 1) := by decide +kernel
theorem dL_isSo_240 : decode cL_isSo 240 = .ok (.iaload, 1) := by decide +kernel
theorem dL_isSo_241 : decode cL_isSo 241 = .ok (.isub, 1) := by decide +kernel
theorem dL_isSo_242 : decode cL_isSo 242 = .ok (.goto 4, 3) := by decide +kernel
theorem dL_isSo_245 : decode cL_isSo 245 = .ok (.iconst 0, 1) := by decide +kernel
theorem dL_isSo_246 : decode cL_isSo 246 = .ok (.if_icmp .ne 48, 3) := by decide +kernel
theorem dL_isSo_249 : decode cL_isSo 249 = .ok (.aload_n 0, 1) := by decide +kernel
theorem dL_isSo_250 : decode cL_isSo 250 = .ok (.iload 15, 2) := by decide +kernel
theorem dL_isSo_252 : decode cL_isSo 252 = .ok (.bipush 6, 2) := by decide +kernel
theorem dL_isSo_254 : decode cL_isSo 254 = .ok (.invokevirtual 60, 3) := by decide +kernel
theorem dL_isSo_257 : decode cL_isSo 257 = .ok (.aload_n 1, 1) := by decide +kernel
theorem dL_isSo_258 : decode cL_isSo 258 = .ok (.aload_n 2, 1) := by decide +kernel
theorem dL_isSo_259 : decode cL_isSo 259 = .ok (.aload 4, 2) := by decide +kernel
theorem dL_isSo_261 : decode cL_isSo 261 = .ok (.iload 15, 2) := by decide +kernel
theorem dL_isSo_263 : decode cL_isSo 263 = .ok (.invokestatic 128, 3) := by decide +kernel
theorem dL_isSo_266 : decode cL_isSo 266 = .ok (.ifCond .eq 7, 3) := by decide +kernel
theorem dL_isSo_269 : decode cL_isSo 269 = .ok (.iconst 1, 1) := by decide +kernel
theorem dL_isSo_270 : decode cL_isSo 270 = .ok (.goto 4, 3) := by decide +kernel
theorem dL_isSo_273 : decode cL_isSo 273 = .ok (.iconst 0, 1) := by decide +kernel
theorem dL_isSo_274 : decode cL_isSo 274 = .ok (.if_icmp .ne 20, 3) := by decide +kernel
theorem dL_isSo_277 : decode cL_isSo 277 = .ok (.aload_n 0, 1) := by decide +kernel
theorem dL_isSo_278 : decode cL_isSo 278 = .ok (.iload 15, 2) := by decide +kernel
theorem dL_isSo_280 : decode cL_isSo 280 = .ok (.iload 11, 2) := by decide +kernel
theorem dL_isSo_282 : decode cL_isSo 282 = .ok (.invokevirtual 132, 3) := by decide +kernel
theorem dL_isSo_285 : decode cL_isSo 285 = .ok (.iload 17, 2) := by decide +kernel
theorem dL_isSo_287 : decode cL_isSo 287 = .ok (.if_icmp .ne 7, 3) := by decide +kernel
theorem dL_isSo_290 : decode cL_isSo 290 = .ok (.iconst 1, 1) := by decide +kernel
theorem dL_isSo_291 : decode cL_isSo 291 = .ok (.goto 4, 3) := by decide +kernel
theorem dL_isSo_294 : decode cL_isSo 294 = .ok (.iconst 0, 1) := by decide +kernel
theorem dL_isSo_295 : decode cL_isSo 295 = .ok (.istore 12, 2) := by decide +kernel
theorem dL_isSo_297 : decode cL_isSo 297 = .ok (.iload 17, 2) := by decide +kernel
theorem dL_isSo_299 : decode cL_isSo 299 = .ok (.iload 14, 2) := by decide +kernel
theorem dL_isSo_301 : decode cL_isSo 301 = .ok (.if_icmp .le 8, 3) := by decide +kernel
theorem dL_isSo_304 : decode cL_isSo 304 = .ok (.iload 15, 2) := by decide +kernel
theorem dL_isSo_306 : decode cL_isSo 306 = .ok (.goto 5, 3) := by decide +kernel
theorem dL_isSo_309 : decode cL_isSo 309 = .ok (.iload 13, 2) := by decide +kernel
theorem dL_isSo_311 : decode cL_isSo 311 = .ok (.istore 13, 2) := by decide +kernel
theorem dL_isSo_313 : decode cL_isSo 313 = .ok (.iload 17, 2) := by decide +kernel
theorem dL_isSo_315 : decode cL_isSo 315 = .ok (.iload 14, 2) := by decide +kernel
theorem dL_isSo_317 : decode cL_isSo 317 = .ok (.if_icmp .le 8, 3) := by decide +kernel
theorem dL_isSo_320 : decode cL_isSo 320 = .ok (.iload 17, 2) := by decide +kernel
theorem dL_isSo_322 : decode cL_isSo 322 = .ok (.goto 5, 3) := by decide +kernel
theorem dL_isSo_325 : decode cL_isSo 325 = .ok (.iload 14, 2) := by decide +kernel
theorem dL_isSo_327 : decode cL_isSo 327 = .ok (.istore 14, 2) := by decide +kernel
theorem dL_isSo_329 : decode cL_isSo 329 = .ok (.iinc 15 1, 3) := by decide +kernel
theorem dL_isSo_332 : decode cL_isSo 332 = .ok (.goto (-278), 3) := by decide +kernel
theorem dL_isSo_335 : decode cL_isSo 335 = .ok (.iload 12, 2) := by decide +kernel
theorem dL_isSo_337 : decode cL_isSo 337 = .ok (.ifCond .eq 90, 3) := by decide +kernel
theorem dL_isSo_340 : decode cL_isSo 340 = .ok (.aload_n 0, 1) := by decide +kernel
theorem dL_isSo_341 : decode cL_isSo 341 = .ok (.iload 11, 2) := by decide +kernel
theorem dL_isSo_343 : decode cL_isSo 343 = .ok (.invokevirtual 134, 3) := by decide +kernel
theorem dL_isSo_346 : decode cL_isSo 346 = .ok (.iload 13, 2) := by decide +kernel
theorem dL_isSo_348 : decode cL_isSo 348 = .ok (.if_icmp .ne 79, 3) := by decide +kernel
theorem dL_isSo_351 : decode cL_isSo 351 = .ok (.aload_n 0, 1) := by decide +kernel
theorem dL_isSo_352 : decode cL_isSo 352 = .ok (.iload 11, 2) := by decide +kernel
theorem dL_isSo_354 : decode cL_isSo 354 = .ok (.invokevirtual 137, 3) := by decide +kernel
theorem dL_isSo_357 : decode cL_isSo 357 = .ok (.aload_n 1, 1) := by decide +kernel
theorem dL_isSo_358 : decode cL_isSo 358 = .ok (.aload_n 2, 1) := by decide +kernel
theorem dL_isSo_359 : decode cL_isSo 359 = .ok (.aload_n 3, 1) := by decide +kernel
theorem dL_isSo_360 : decode cL_isSo 360 = .ok (.aload 4, 2) := by decide +kernel
theorem dL_isSo_362 : decode cL_isSo 362 = .ok (.aload 8, 2) := by decide +kernel
theorem dL_isSo_364 : decode cL_isSo 364 = .ok (.iload 11, 2) := by decide +kernel
theorem dL_isSo_366 : decode cL_isSo 366 = .ok (.iconst 5, 1) := by decide +kernel
theorem dL_isSo_367 : decode cL_isSo 367 = .ok (.invokestatic 140, 3) := by decide +kernel
theorem dL_isSo_370 : decode cL_isSo 370 = .ok (.if_icmp .ne 57, 3) := by decide +kernel
theorem dL_isSo_373 : decode cL_isSo 373 = .ok (.aload_n 0, 1) := by decide +kernel
theorem dL_isSo_374 : decode cL_isSo 374 = .ok (.iload 11, 2) := by decide +kernel
theorem dL_isSo_376 : decode cL_isSo 376 = .ok (.iload 10, 2) := by decide +kernel
theorem dL_isSo_378 : decode cL_isSo 378 = .ok (.iconst 5, 1) := by decide +kernel
theorem dL_isSo_379 : decode cL_isSo 379 = .ok (.irem, 1) := by decide +kernel
theorem dL_isSo_380 : decode cL_isSo 380 = .ok (.invokevirtual 142, 3) := by decide +kernel
theorem dL_isSo_383 : decode cL_isSo 383 = .ok (.aload_n 1, 1) := by decide +kernel
theorem dL_isSo_384 : decode cL_isSo 384 = .ok (.aload_n 2, 1) := by decide +kernel
theorem dL_isSo_385 : decode cL_isSo 385 = .ok (.aload_n 3, 1) := by decide +kernel
theorem dL_isSo_386 : decode cL_isSo 386 = .ok (.aload 4, 2) := by decide +kernel
theorem dL_isSo_388 : decode cL_isSo 388 = .ok (.aload 8, 2) := by decide +kernel
theorem dL_isSo_390 : decode cL_isSo 390 = .ok (.iload 11, 2) := by decide +kernel
theorem dL_isSo_392 : decode cL_isSo 392 = .ok (.iload 10, 2) := by decide +kernel
theorem dL_isSo_394 : decode cL_isSo 394 = .ok (.iconst 5, 1) := by decide +kernel
theorem dL_isSo_395 : decode cL_isSo 395 = .ok (.irem, 1) := by decide +kernel
theorem dL_isSo_396 : decode cL_isSo 396 = .ok (.invokestatic 140, 3) := by decide +kernel
theorem dL_isSo_399 : decode cL_isSo 399 = .ok (.if_icmp .ne 28, 3) := by decide +kernel
theorem dL_isSo_402 : decode cL_isSo 402 = .ok (.aload_n 0, 1) := by decide +kernel
theorem dL_isSo_403 : decode cL_isSo 403 = .ok (.iload 11, 2) := by decide +kernel
theorem dL_isSo_405 : decode cL_isSo 405 = .ok (.invokevirtual 145, 3) := by decide +kernel
theorem dL_isSo_408 : decode cL_isSo 408 = .ok (.aload_n 1, 1) := by decide +kernel
theorem dL_isSo_409 : decode cL_isSo 409 = .ok (.aload_n 2, 1) := by decide +kernel
theorem dL_isSo_410 : decode cL_isSo 410 = .ok (.aload_n 3, 1) := by decide +kernel
theorem dL_isSo_411 : decode cL_isSo 411 = .ok (.aload 4, 2) := by decide +kernel
theorem dL_isSo_413 : decode cL_isSo 413 = .ok (.aload 8, 2) := by decide +kernel
theorem dL_isSo_415 : decode cL_isSo 415 = .ok (.iload 11, 2) := by decide +kernel
theorem dL_isSo_417 : decode cL_isSo 417 = .ok (.invokestatic 148, 3) := by decide +kernel
theorem dL_isSo_420 : decode cL_isSo 420 = .ok (.if_icmp .ne 7, 3) := by decide +kernel
theorem dL_isSo_423 : decode cL_isSo 423 = .ok (.iconst 1, 1) := by decide +kernel
theorem dL_isSo_424 : decode cL_isSo 424 = .ok (.goto 4, 3) := by decide +kernel
theorem dL_isSo_427 : decode cL_isSo 427 = .ok (.iconst 0, 1) := by decide +kernel
theorem dL_isSo_428 : decode cL_isSo 428 = .ok (.istore 12, 2) := by decide +kernel
theorem dL_isSo_430 : decode cL_isSo 430 = .ok (.iconst 0, 1) := by decide +kernel
theorem dL_isSo_431 : decode cL_isSo 431 = .ok (.istore 15, 2) := by decide +kernel
theorem dL_isSo_433 : decode cL_isSo 433 = .ok (.iload 15, 2) := by decide +kernel
theorem dL_isSo_435 : decode cL_isSo 435 = .ok (.aload 8, 2) := by decide +kernel
theorem dL_isSo_437 : decode cL_isSo 437 = .ok (.iconst 2, 1) := by decide +kernel
theorem dL_isSo_438 : decode cL_isSo 438 = .ok (.iaload, 1) := by decide +kernel
theorem dL_isSo_439 : decode cL_isSo 439 = .ok (.if_icmp .ge 498, 3) := by decide +kernel
theorem dL_isSo_442 : decode cL_isSo 442 = .ok (.iload 12, 2) := by decide +kernel
