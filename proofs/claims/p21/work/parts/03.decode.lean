/-! PRINTED by wip/gen21/names.py out of the claim: decode rows -/
theorem dX0_init_0 : decode cX0_init 0 = .ok (.aload_n 0, 1) := by decide +kernel
theorem dX0_init_1 : decode cX0_init 1 = .ok (.invokespecial 3, 3) := by decide +kernel
theorem dX0_init_4 : decode cX0_init 4 = .ok (.aload_n 0, 1) := by decide +kernel
theorem dX0_init_5 : decode cX0_init 5 = .ok (.bipush 8, 2) := by decide +kernel
theorem dX0_init_7 : decode cX0_init 7 = .ok (.newarray .int, 2) := by decide +kernel
theorem dX0_init_9 : decode cX0_init 9 = .ok (.putfield 9, 3) := by decide +kernel
theorem dX0_init_12 : decode cX0_init 12 = .ok (.aload_n 0, 1) := by decide +kernel
theorem dX0_init_13 : decode cX0_init 13 = .ok (.iconst 0, 1) := by decide +kernel
theorem dX0_init_14 : decode cX0_init 14 = .ok (.putfield 15, 3) := by decide +kernel
theorem dX0_init_17 : decode cX0_init 17 = .ok (.return_, 1) := by decide +kernel
theorem dX0_heapAt_0 : decode cX0_heapAt 0 = .ok (.iload_n 1, 1) := by decide +kernel
theorem dX0_heapAt_1 : decode cX0_heapAt 1 = .ok (.ifCond .lt 11, 3) := by decide +kernel
theorem dX0_heapAt_4 : decode cX0_heapAt 4 = .ok (.iload_n 1, 1) := by decide +kernel
theorem dX0_heapAt_5 : decode cX0_heapAt 5 = .ok (.aload_n 0, 1) := by decide +kernel
theorem dX0_heapAt_6 : decode cX0_heapAt 6 = .ok (.getfield 15, 3) := by decide +kernel
theorem dX0_heapAt_9 : decode cX0_heapAt 9 = .ok (.if_icmp .lt 7, 3) := by decide +kernel
theorem dX0_heapAt_12 : decode cX0_heapAt 12 = .ok (.iconst (-1), 1) := by decide +kernel
theorem dX0_heapAt_13 : decode cX0_heapAt 13 = .ok (.goto 16, 3) := by decide +kernel
theorem dX0_heapAt_16 : decode cX0_heapAt 16 = .ok (.aload_n 0, 1) := by decide +kernel
theorem dX0_heapAt_17 : decode cX0_heapAt 17 = .ok (.getfield 9, 3) := by decide +kernel
theorem dX0_heapAt_20 : decode cX0_heapAt 20 = .ok (.aload_n 0, 1) := by decide +kernel
theorem dX0_heapAt_21 : decode cX0_heapAt 21 = .ok (.getfield 15, 3) := by decide +kernel
theorem dX0_heapAt_24 : decode cX0_heapAt 24 = .ok (.iconst 1, 1) := by decide +kernel
theorem dX0_heapAt_25 : decode cX0_heapAt 25 = .ok (.isub, 1) := by decide +kernel
theorem dX0_heapAt_26 : decode cX0_heapAt 26 = .ok (.iload_n 1, 1) := by decide +kernel
theorem dX0_heapAt_27 : decode cX0_heapAt 27 = .ok (.isub, 1) := by decide +kernel
theorem dX0_heapAt_28 : decode cX0_heapAt 28 = .ok (.iaload, 1) := by decide +kernel
theorem dX0_heapAt_29 : decode cX0_heapAt 29 = .ok (.ireturn, 1) := by decide +kernel
theorem dX0_farHeap_0 : decode cX0_farHeap 0 = .ok (.aload_n 0, 1) := by decide +kernel
theorem dX0_farHeap_1 : decode cX0_farHeap 1 = .ok (.getfield 15, 3) := by decide +kernel
theorem dX0_farHeap_4 : decode cX0_farHeap 4 = .ok (.ifCond .le 12, 3) := by decide +kernel
theorem dX0_farHeap_7 : decode cX0_farHeap 7 = .ok (.aload_n 0, 1) := by decide +kernel
theorem dX0_farHeap_8 : decode cX0_farHeap 8 = .ok (.getfield 9, 3) := by decide +kernel
theorem dX0_farHeap_11 : decode cX0_farHeap 11 = .ok (.iconst 0, 1) := by decide +kernel
theorem dX0_farHeap_12 : decode cX0_farHeap 12 = .ok (.iaload, 1) := by decide +kernel
theorem dX0_farHeap_13 : decode cX0_farHeap 13 = .ok (.goto 4, 3) := by decide +kernel
theorem dX0_farHeap_16 : decode cX0_farHeap 16 = .ok (.iconst (-1), 1) := by decide +kernel
theorem dX0_farHeap_17 : decode cX0_farHeap 17 = .ok (.ireturn, 1) := by decide +kernel
theorem dX0_hasRoom_0 : decode cX0_hasRoom 0 = .ok (.aload_n 0, 1) := by decide +kernel
theorem dX0_hasRoom_1 : decode cX0_hasRoom 1 = .ok (.getfield 15, 3) := by decide +kernel
theorem dX0_hasRoom_4 : decode cX0_hasRoom 4 = .ok (.aload_n 0, 1) := by decide +kernel
theorem dX0_hasRoom_5 : decode cX0_hasRoom 5 = .ok (.getfield 9, 3) := by decide +kernel
theorem dX0_hasRoom_8 : decode cX0_hasRoom 8 = .ok (.arraylength, 1) := by decide +kernel
theorem dX0_hasRoom_9 : decode cX0_hasRoom 9 = .ok (.if_icmp .ge 7, 3) := by decide +kernel
theorem dX0_hasRoom_12 : decode cX0_hasRoom 12 = .ok (.iconst 1, 1) := by decide +kernel
theorem dX0_hasRoom_13 : decode cX0_hasRoom 13 = .ok (.goto 4, 3) := by decide +kernel
theorem dX0_hasRoom_16 : decode cX0_hasRoom 16 = .ok (.iconst 0, 1) := by decide +kernel
theorem dX0_hasRoom_17 : decode cX0_hasRoom 17 = .ok (.ireturn, 1) := by decide +kernel
theorem dX0_putNear_0 : decode cX0_putNear 0 = .ok (.aload_n 0, 1) := by decide +kernel
theorem dX0_putNear_1 : decode cX0_putNear 1 = .ok (.invokevirtual 19, 3) := by decide +kernel
theorem dX0_putNear_4 : decode cX0_putNear 4 = .ok (.ifCond .eq 23, 3) := by decide +kernel
theorem dX0_putNear_7 : decode cX0_putNear 7 = .ok (.aload_n 0, 1) := by decide +kernel
theorem dX0_putNear_8 : decode cX0_putNear 8 = .ok (.getfield 9, 3) := by decide +kernel
theorem dX0_putNear_11 : decode cX0_putNear 11 = .ok (.aload_n 0, 1) := by decide +kernel
theorem dX0_putNear_12 : decode cX0_putNear 12 = .ok (.getfield 15, 3) := by decide +kernel
theorem dX0_putNear_15 : decode cX0_putNear 15 = .ok (.iload_n 1, 1) := by decide +kernel
theorem dX0_putNear_16 : decode cX0_putNear 16 = .ok (.iastore, 1) := by decide +kernel
theorem dX0_putNear_17 : decode cX0_putNear 17 = .ok (.aload_n 0, 1) := by decide +kernel
theorem dX0_putNear_18 : decode cX0_putNear 18 = .ok (.dup, 1) := by decide +kernel
theorem dX0_putNear_19 : decode cX0_putNear 19 = .ok (.getfield 15, 3) := by decide +kernel
theorem dX0_putNear_22 : decode cX0_putNear 22 = .ok (.iconst 1, 1) := by decide +kernel
theorem dX0_putNear_23 : decode cX0_putNear 23 = .ok (.iadd, 1) := by decide +kernel
theorem dX0_putNear_24 : decode cX0_putNear 24 = .ok (.putfield 15, 3) := by decide +kernel
theorem dX0_putNear_27 : decode cX0_putNear 27 = .ok (.return_, 1) := by decide +kernel
theorem dX0_takeNear_0 : decode cX0_takeNear 0 = .ok (.aload_n 0, 1) := by decide +kernel
theorem dX0_takeNear_1 : decode cX0_takeNear 1 = .ok (.iconst 0, 1) := by decide +kernel
theorem dX0_takeNear_2 : decode cX0_takeNear 2 = .ok (.invokevirtual 23, 3) := by decide +kernel
theorem dX0_takeNear_5 : decode cX0_takeNear 5 = .ok (.istore_n 1, 1) := by decide +kernel
theorem dX0_takeNear_6 : decode cX0_takeNear 6 = .ok (.aload_n 0, 1) := by decide +kernel
theorem dX0_takeNear_7 : decode cX0_takeNear 7 = .ok (.getfield 15, 3) := by decide +kernel
theorem dX0_takeNear_10 : decode cX0_takeNear 10 = .ok (.ifCond .le 13, 3) := by decide +kernel
theorem dX0_takeNear_13 : decode cX0_takeNear 13 = .ok (.aload_n 0, 1) := by decide +kernel
theorem dX0_takeNear_14 : decode cX0_takeNear 14 = .ok (.dup, 1) := by decide +kernel
theorem dX0_takeNear_15 : decode cX0_takeNear 15 = .ok (.getfield 15, 3) := by decide +kernel
theorem dX0_takeNear_18 : decode cX0_takeNear 18 = .ok (.iconst 1, 1) := by decide +kernel
theorem dX0_takeNear_19 : decode cX0_takeNear 19 = .ok (.isub, 1) := by decide +kernel
theorem dX0_takeNear_20 : decode cX0_takeNear 20 = .ok (.putfield 15, 3) := by decide +kernel
theorem dX0_takeNear_23 : decode cX0_takeNear 23 = .ok (.iload_n 1, 1) := by decide +kernel
theorem dX0_takeNear_24 : decode cX0_takeNear 24 = .ok (.ireturn, 1) := by decide +kernel
theorem dX0_takeFar_0 : decode cX0_takeFar 0 = .ok (.aload_n 0, 1) := by decide +kernel
theorem dX0_takeFar_1 : decode cX0_takeFar 1 = .ok (.invokevirtual 27, 3) := by decide +kernel
theorem dX0_takeFar_4 : decode cX0_takeFar 4 = .ok (.istore_n 1, 1) := by decide +kernel
theorem dX0_takeFar_5 : decode cX0_takeFar 5 = .ok (.aload_n 0, 1) := by decide +kernel
theorem dX0_takeFar_6 : decode cX0_takeFar 6 = .ok (.getfield 15, 3) := by decide +kernel
theorem dX0_takeFar_9 : decode cX0_takeFar 9 = .ok (.ifCond .le 30, 3) := by decide +kernel
theorem dX0_takeFar_12 : decode cX0_takeFar 12 = .ok (.aload_n 0, 1) := by decide +kernel
theorem dX0_takeFar_13 : decode cX0_takeFar 13 = .ok (.dup, 1) := by decide +kernel
theorem dX0_takeFar_14 : decode cX0_takeFar 14 = .ok (.getfield 15, 3) := by decide +kernel
theorem dX0_takeFar_17 : decode cX0_takeFar 17 = .ok (.iconst 1, 1) := by decide +kernel
theorem dX0_takeFar_18 : decode cX0_takeFar 18 = .ok (.isub, 1) := by decide +kernel
theorem dX0_takeFar_19 : decode cX0_takeFar 19 = .ok (.putfield 15, 3) := by decide +kernel
theorem dX0_takeFar_22 : decode cX0_takeFar 22 = .ok (.aload_n 0, 1) := by decide +kernel
theorem dX0_takeFar_23 : decode cX0_takeFar 23 = .ok (.getfield 9, 3) := by decide +kernel
theorem dX0_takeFar_26 : decode cX0_takeFar 26 = .ok (.iconst 1, 1) := by decide +kernel
theorem dX0_takeFar_27 : decode cX0_takeFar 27 = .ok (.aload_n 0, 1) := by decide +kernel
theorem dX0_takeFar_28 : decode cX0_takeFar 28 = .ok (.getfield 9, 3) := by decide +kernel
theorem dX0_takeFar_31 : decode cX0_takeFar 31 = .ok (.iconst 0, 1) := by decide +kernel
theorem dX0_takeFar_32 : decode cX0_takeFar 32 = .ok (.aload_n 0, 1) := by decide +kernel
theorem dX0_takeFar_33 : decode cX0_takeFar 33 = .ok (.getfield 15, 3) := by decide +kernel
theorem dX0_takeFar_36 : decode cX0_takeFar 36 = .ok (.invokestatic 31, 3) := by decide +kernel
theorem dX0_takeFar_39 : decode cX0_takeFar 39 = .ok (.iload_n 1, 1) := by decide +kernel
theorem dX0_takeFar_40 : decode cX0_takeFar 40 = .ok (.ireturn, 1) := by decide +kernel
theorem dX0_copyFrom_0 : decode cX0_copyFrom 0 = .ok (.aload_n 1, 1) := by decide +kernel
theorem dX0_copyFrom_1 : decode cX0_copyFrom 1 = .ok (.getfield 9, 3) := by decide +kernel
theorem dX0_copyFrom_4 : decode cX0_copyFrom 4 = .ok (.iconst 0, 1) := by decide +kernel
theorem dX0_copyFrom_5 : decode cX0_copyFrom 5 = .ok (.aload_n 0, 1) := by decide +kernel
theorem dX0_copyFrom_6 : decode cX0_copyFrom 6 = .ok (.getfield 9, 3) := by decide +kernel
theorem dX0_copyFrom_9 : decode cX0_copyFrom 9 = .ok (.iconst 0, 1) := by decide +kernel
theorem dX0_copyFrom_10 : decode cX0_copyFrom 10 = .ok (.aload_n 0, 1) := by decide +kernel
theorem dX0_copyFrom_11 : decode cX0_copyFrom 11 = .ok (.getfield 9, 3) := by decide +kernel
theorem dX0_copyFrom_14 : decode cX0_copyFrom 14 = .ok (.arraylength, 1) := by decide +kernel
theorem dX0_copyFrom_15 : decode cX0_copyFrom 15 = .ok (.invokestatic 31, 3) := by decide +kernel
theorem dX0_copyFrom_18 : decode cX0_copyFrom 18 = .ok (.aload_n 0, 1) := by decide +kernel
theorem dX0_copyFrom_19 : decode cX0_copyFrom 19 = .ok (.aload_n 1, 1) := by decide +kernel
theorem dX0_copyFrom_20 : decode cX0_copyFrom 20 = .ok (.getfield 15, 3) := by decide +kernel
theorem dX0_copyFrom_23 : decode cX0_copyFrom 23 = .ok (.putfield 15, 3) := by decide +kernel
theorem dX0_copyFrom_26 : decode cX0_copyFrom 26 = .ok (.return_, 1) := by decide +kernel
theorem dX1_init_0 : decode cX1_init 0 = .ok (.aload_n 0, 1) := by decide +kernel
theorem dX1_init_1 : decode cX1_init 1 = .ok (.invokespecial 3, 3) := by decide +kernel
theorem dX1_init_4 : decode cX1_init 4 = .ok (.aload_n 0, 1) := by decide +kernel
theorem dX1_init_5 : decode cX1_init 5 = .ok (.iconst 0, 1) := by decide +kernel
theorem dX1_init_6 : decode cX1_init 6 = .ok (.putfield 9, 3) := by decide +kernel
theorem dX1_init_9 : decode cX1_init 9 = .ok (.aload_n 0, 1) := by decide +kernel
theorem dX1_init_10 : decode cX1_init 10 = .ok (.iconst 0, 1) := by decide +kernel
theorem dX1_init_11 : decode cX1_init 11 = .ok (.putfield 15, 3) := by decide +kernel
theorem dX1_init_14 : decode cX1_init 14 = .ok (.aload_n 0, 1) := by decide +kernel
theorem dX1_init_15 : decode cX1_init 15 = .ok (.new 18, 3) := by decide +kernel
theorem dX1_init_18 : decode cX1_init 18 = .ok (.dup, 1) := by decide +kernel
theorem dX1_init_19 : decode cX1_init 19 = .ok (.invokespecial 20, 3) := by decide +kernel
theorem dX1_init_22 : decode cX1_init 22 = .ok (.putfield 21, 3) := by decide +kernel
theorem dX1_init_25 : decode cX1_init 25 = .ok (.aload_n 0, 1) := by decide +kernel
theorem dX1_init_26 : decode cX1_init 26 = .ok (.iconst (-1), 1) := by decide +kernel
theorem dX1_init_27 : decode cX1_init 27 = .ok (.putfield 25, 3) := by decide +kernel
theorem dX1_init_30 : decode cX1_init 30 = .ok (.aload_n 0, 1) := by decide +kernel
theorem dX1_init_31 : decode cX1_init 31 = .ok (.iconst 0, 1) := by decide +kernel
theorem dX1_init_32 : decode cX1_init 32 = .ok (.putfield 28, 3) := by decide +kernel
theorem dX1_init_35 : decode cX1_init 35 = .ok (.aload_n 0, 1) := by decide +kernel
theorem dX1_init_36 : decode cX1_init 36 = .ok (.iconst (-1), 1) := by decide +kernel
theorem dX1_init_37 : decode cX1_init 37 = .ok (.putfield 31, 3) := by decide +kernel
theorem dX1_init_40 : decode cX1_init 40 = .ok (.aload_n 0, 1) := by decide +kernel
theorem dX1_init_41 : decode cX1_init 41 = .ok (.iconst 0, 1) := by decide +kernel
theorem dX1_init_42 : decode cX1_init 42 = .ok (.putfield 34, 3) := by decide +kernel
theorem dX1_init_45 : decode cX1_init 45 = .ok (.aload_n 0, 1) := by decide +kernel
theorem dX1_init_46 : decode cX1_init 46 = .ok (.iconst 0, 1) := by decide +kernel
theorem dX1_init_47 : decode cX1_init 47 = .ok (.putfield 38, 3) := by decide +kernel
theorem dX1_init_50 : decode cX1_init 50 = .ok (.aload_n 0, 1) := by decide +kernel
theorem dX1_init_51 : decode cX1_init 51 = .ok (.iconst 0, 1) := by decide +kernel
theorem dX1_init_52 : decode cX1_init 52 = .ok (.putfield 41, 3) := by decide +kernel
theorem dX1_init_55 : decode cX1_init 55 = .ok (.aload_n 0, 1) := by decide +kernel
theorem dX1_init_56 : decode cX1_init 56 = .ok (.iconst 0, 1) := by decide +kernel
theorem dX1_init_57 : decode cX1_init 57 = .ok (.putfield 44, 3) := by decide +kernel
theorem dX1_init_60 : decode cX1_init 60 = .ok (.aload_n 0, 1) := by decide +kernel
theorem dX1_init_61 : decode cX1_init 61 = .ok (.iconst 0, 1) := by decide +kernel
theorem dX1_init_62 : decode cX1_init 62 = .ok (.putfield 47, 3) := by decide +kernel
theorem dX1_init_65 : decode cX1_init 65 = .ok (.aload_n 0, 1) := by decide +kernel
theorem dX1_init_66 : decode cX1_init 66 = .ok (.iload_n 1, 1) := by decide +kernel
theorem dX1_init_67 : decode cX1_init 67 = .ok (.putfield 50, 3) := by decide +kernel
theorem dX1_init_70 : decode cX1_init 70 = .ok (.return_, 1) := by decide +kernel
theorem dX1_tell_0 : decode cX1_tell 0 = .ok (.iload_n 1, 1) := by decide +kernel
theorem dX1_tell_1 : decode cX1_tell 1 = .ok (.tableswitch 90 0 7 #[47, 52, 57, 65, 70, 75, 80, 85], 47) := by decide +kernel
theorem dX1_tell_48 : decode cX1_tell 48 = .ok (.aload_n 0, 1) := by decide +kernel
theorem dX1_tell_49 : decode cX1_tell 49 = .ok (.getfield 9, 3) := by decide +kernel
theorem dX1_tell_52 : decode cX1_tell 52 = .ok (.ireturn, 1) := by decide +kernel
theorem dX1_tell_53 : decode cX1_tell 53 = .ok (.aload_n 0, 1) := by decide +kernel
theorem dX1_tell_54 : decode cX1_tell 54 = .ok (.getfield 15, 3) := by decide +kernel
theorem dX1_tell_57 : decode cX1_tell 57 = .ok (.ireturn, 1) := by decide +kernel
theorem dX1_tell_58 : decode cX1_tell 58 = .ok (.aload_n 0, 1) := by decide +kernel
theorem dX1_tell_59 : decode cX1_tell 59 = .ok (.getfield 21, 3) := by decide +kernel
theorem dX1_tell_62 : decode cX1_tell 62 = .ok (.getfield 53, 3) := by decide +kernel
theorem dX1_tell_65 : decode cX1_tell 65 = .ok (.ireturn, 1) := by decide +kernel
theorem dX1_tell_66 : decode cX1_tell 66 = .ok (.aload_n 0, 1) := by decide +kernel
theorem dX1_tell_67 : decode cX1_tell 67 = .ok (.invokevirtual 56, 3) := by decide +kernel
theorem dX1_tell_70 : decode cX1_tell 70 = .ok (.ireturn, 1) := by decide +kernel
theorem dX1_tell_71 : decode cX1_tell 71 = .ok (.aload_n 0, 1) := by decide +kernel
theorem dX1_tell_72 : decode cX1_tell 72 = .ok (.getfield 28, 3) := by decide +kernel
theorem dX1_tell_75 : decode cX1_tell 75 = .ok (.ireturn, 1) := by decide +kernel
theorem dX1_tell_76 : decode cX1_tell 76 = .ok (.aload_n 0, 1) := by decide +kernel
theorem dX1_tell_77 : decode cX1_tell 77 = .ok (.getfield 44, 3) := by decide +kernel
theorem dX1_tell_80 : decode cX1_tell 80 = .ok (.ireturn, 1) := by decide +kernel
theorem dX1_tell_81 : decode cX1_tell 81 = .ok (.aload_n 0, 1) := by decide +kernel
theorem dX1_tell_82 : decode cX1_tell 82 = .ok (.getfield 47, 3) := by decide +kernel
theorem dX1_tell_85 : decode cX1_tell 85 = .ok (.ireturn, 1) := by decide +kernel
theorem dX1_tell_86 : decode cX1_tell 86 = .ok (.aload_n 0, 1) := by decide +kernel
theorem dX1_tell_87 : decode cX1_tell 87 = .ok (.getfield 41, 3) := by decide +kernel
theorem dX1_tell_90 : decode cX1_tell 90 = .ok (.ireturn, 1) := by decide +kernel
theorem dX1_tell_91 : decode cX1_tell 91 = .ok (.aload_n 0, 1) := by decide +kernel
theorem dX1_tell_92 : decode cX1_tell 92 = .ok (.invokevirtual 60, 3) := by decide +kernel
theorem dX1_tell_95 : decode cX1_tell 95 = .ok (.ireturn, 1) := by decide +kernel
theorem dX1_doing_0 : decode cX1_doing 0 = .ok (.aload_n 0, 1) := by decide +kernel
theorem dX1_doing_1 : decode cX1_doing 1 = .ok (.getfield 34, 3) := by decide +kernel
theorem dX1_doing_4 : decode cX1_doing 4 = .ok (.ifCond .eq 5, 3) := by decide +kernel
theorem dX1_doing_7 : decode cX1_doing 7 = .ok (.iconst 3, 1) := by decide +kernel
theorem dX1_doing_8 : decode cX1_doing 8 = .ok (.ireturn, 1) := by decide +kernel
theorem dX1_doing_9 : decode cX1_doing 9 = .ok (.aload_n 0, 1) := by decide +kernel
theorem dX1_doing_10 : decode cX1_doing 10 = .ok (.getfield 31, 3) := by decide +kernel
theorem dX1_doing_13 : decode cX1_doing 13 = .ok (.iconst (-1), 1) := by decide +kernel
theorem dX1_doing_14 : decode cX1_doing 14 = .ok (.if_icmp .eq 5, 3) := by decide +kernel
theorem dX1_doing_17 : decode cX1_doing 17 = .ok (.iconst 2, 1) := by decide +kernel
theorem dX1_doing_18 : decode cX1_doing 18 = .ok (.ireturn, 1) := by decide +kernel
theorem dX1_doing_19 : decode cX1_doing 19 = .ok (.aload_n 0, 1) := by decide +kernel
theorem dX1_doing_20 : decode cX1_doing 20 = .ok (.getfield 25, 3) := by decide +kernel
theorem dX1_doing_23 : decode cX1_doing 23 = .ok (.iconst (-1), 1) := by decide +kernel
theorem dX1_doing_24 : decode cX1_doing 24 = .ok (.if_icmp .eq 7, 3) := by decide +kernel
theorem dX1_doing_27 : decode cX1_doing 27 = .ok (.iconst 1, 1) := by decide +kernel
theorem dX1_doing_28 : decode cX1_doing 28 = .ok (.goto 4, 3) := by decide +kernel
theorem dX1_doing_31 : decode cX1_doing 31 = .ok (.iconst 0, 1) := by decide +kernel
theorem dX1_doing_32 : decode cX1_doing 32 = .ok (.ireturn, 1) := by decide +kernel
theorem dX1_loadAtWork_0 : decode cX1_loadAtWork 0 = .ok (.aload_n 0, 1) := by decide +kernel
theorem dX1_loadAtWork_1 : decode cX1_loadAtWork 1 = .ok (.getfield 25, 3) := by decide +kernel
theorem dX1_loadAtWork_4 : decode cX1_loadAtWork 4 = .ok (.iconst (-1), 1) := by decide +kernel
theorem dX1_loadAtWork_5 : decode cX1_loadAtWork 5 = .ok (.if_icmp .eq 10, 3) := by decide +kernel
theorem dX1_loadAtWork_8 : decode cX1_loadAtWork 8 = .ok (.aload_n 0, 1) := by decide +kernel
theorem dX1_loadAtWork_9 : decode cX1_loadAtWork 9 = .ok (.getfield 25, 3) := by decide +kernel
theorem dX1_loadAtWork_12 : decode cX1_loadAtWork 12 = .ok (.goto 7, 3) := by decide +kernel
theorem dX1_loadAtWork_15 : decode cX1_loadAtWork 15 = .ok (.aload_n 0, 1) := by decide +kernel
theorem dX1_loadAtWork_16 : decode cX1_loadAtWork 16 = .ok (.getfield 31, 3) := by decide +kernel
theorem dX1_loadAtWork_19 : decode cX1_loadAtWork 19 = .ok (.istore_n 1, 1) := by decide +kernel
theorem dX1_loadAtWork_20 : decode cX1_loadAtWork 20 = .ok (.iload_n 1, 1) := by decide +kernel
theorem dX1_loadAtWork_21 : decode cX1_loadAtWork 21 = .ok (.iconst (-1), 1) := by decide +kernel
theorem dX1_loadAtWork_22 : decode cX1_loadAtWork 22 = .ok (.if_icmp .ne 7, 3) := by decide +kernel
theorem dX1_loadAtWork_25 : decode cX1_loadAtWork 25 = .ok (.iconst (-1), 1) := by decide +kernel
theorem dX1_loadAtWork_26 : decode cX1_loadAtWork 26 = .ok (.goto 7, 3) := by decide +kernel
theorem dX1_loadAtWork_29 : decode cX1_loadAtWork 29 = .ok (.iload_n 1, 1) := by decide +kernel
theorem dX1_loadAtWork_30 : decode cX1_loadAtWork 30 = .ok (.bipush 32, 2) := by decide +kernel
theorem dX1_loadAtWork_32 : decode cX1_loadAtWork 32 = .ok (.idiv, 1) := by decide +kernel
theorem dX1_loadAtWork_33 : decode cX1_loadAtWork 33 = .ok (.ireturn, 1) := by decide +kernel
theorem dX1_take_0 : decode cX1_take 0 = .ok (.aload_n 0, 1) := by decide +kernel
theorem dX1_take_1 : decode cX1_take 1 = .ok (.iload_n 1, 1) := by decide +kernel
theorem dX1_take_2 : decode cX1_take 2 = .ok (.putfield 25, 3) := by decide +kernel
theorem dX1_take_5 : decode cX1_take 5 = .ok (.aload_n 0, 1) := by decide +kernel
theorem dX1_take_6 : decode cX1_take 6 = .ok (.iload_n 2, 1) := by decide +kernel
theorem dX1_take_7 : decode cX1_take 7 = .ok (.putfield 28, 3) := by decide +kernel
theorem dX1_take_10 : decode cX1_take 10 = .ok (.return_, 1) := by decide +kernel
theorem dX1_beIdle_0 : decode cX1_beIdle 0 = .ok (.aload_n 0, 1) := by decide +kernel
theorem dX1_beIdle_1 : decode cX1_beIdle 1 = .ok (.dup, 1) := by decide +kernel
theorem dX1_beIdle_2 : decode cX1_beIdle 2 = .ok (.getfield 41, 3) := by decide +kernel
theorem dX1_beIdle_5 : decode cX1_beIdle 5 = .ok (.iconst 1, 1) := by decide +kernel
theorem dX1_beIdle_6 : decode cX1_beIdle 6 = .ok (.iadd, 1) := by decide +kernel
theorem dX1_beIdle_7 : decode cX1_beIdle 7 = .ok (.putfield 41, 3) := by decide +kernel
theorem dX1_beIdle_10 : decode cX1_beIdle 10 = .ok (.aload_n 0, 1) := by decide +kernel
theorem dX1_beIdle_11 : decode cX1_beIdle 11 = .ok (.dup, 1) := by decide +kernel
theorem dX1_beIdle_12 : decode cX1_beIdle 12 = .ok (.getfield 38, 3) := by decide +kernel
theorem dX1_beIdle_15 : decode cX1_beIdle 15 = .ok (.iconst 1, 1) := by decide +kernel
theorem dX1_beIdle_16 : decode cX1_beIdle 16 = .ok (.iadd, 1) := by decide +kernel
theorem dX1_beIdle_17 : decode cX1_beIdle 17 = .ok (.putfield 38, 3) := by decide +kernel
theorem dX1_beIdle_20 : decode cX1_beIdle 20 = .ok (.aload_n 0, 1) := by decide +kernel
theorem dX1_beIdle_21 : decode cX1_beIdle 21 = .ok (.getfield 38, 3) := by decide +kernel
theorem dX1_beIdle_24 : decode cX1_beIdle 24 = .ok (.iconst 3, 1) := by decide +kernel
theorem dX1_beIdle_25 : decode cX1_beIdle 25 = .ok (.if_icmp .lt 13, 3) := by decide +kernel
theorem dX1_beIdle_28 : decode cX1_beIdle 28 = .ok (.aload_n 0, 1) := by decide +kernel
theorem dX1_beIdle_29 : decode cX1_beIdle 29 = .ok (.iconst 1, 1) := by decide +kernel
theorem dX1_beIdle_30 : decode cX1_beIdle 30 = .ok (.putfield 34, 3) := by decide +kernel
theorem dX1_beIdle_33 : decode cX1_beIdle 33 = .ok (.aload_n 0, 1) := by decide +kernel
theorem dX1_beIdle_34 : decode cX1_beIdle 34 = .ok (.iconst 0, 1) := by decide +kernel
theorem dX1_beIdle_35 : decode cX1_beIdle 35 = .ok (.putfield 38, 3) := by decide +kernel
theorem dX1_beIdle_38 : decode cX1_beIdle 38 = .ok (.return_, 1) := by decide +kernel
theorem dX1_copyFrom_0 : decode cX1_copyFrom 0 = .ok (.aload_n 0, 1) := by decide +kernel
theorem dX1_copyFrom_1 : decode cX1_copyFrom 1 = .ok (.aload_n 1, 1) := by decide +kernel
theorem dX1_copyFrom_2 : decode cX1_copyFrom 2 = .ok (.getfield 9, 3) := by decide +kernel
theorem dX1_copyFrom_5 : decode cX1_copyFrom 5 = .ok (.putfield 9, 3) := by decide +kernel
theorem dX1_copyFrom_8 : decode cX1_copyFrom 8 = .ok (.aload_n 0, 1) := by decide +kernel
theorem dX1_copyFrom_9 : decode cX1_copyFrom 9 = .ok (.aload_n 1, 1) := by decide +kernel
theorem dX1_copyFrom_10 : decode cX1_copyFrom 10 = .ok (.getfield 15, 3) := by decide +kernel
theorem dX1_copyFrom_13 : decode cX1_copyFrom 13 = .ok (.putfield 15, 3) := by decide +kernel
theorem dX1_copyFrom_16 : decode cX1_copyFrom 16 = .ok (.aload_n 0, 1) := by decide +kernel
theorem dX1_copyFrom_17 : decode cX1_copyFrom 17 = .ok (.getfield 21, 3) := by decide +kernel
theorem dX1_copyFrom_20 : decode cX1_copyFrom 20 = .ok (.aload_n 1, 1) := by decide +kernel
theorem dX1_copyFrom_21 : decode cX1_copyFrom 21 = .ok (.getfield 21, 3) := by decide +kernel
theorem dX1_copyFrom_24 : decode cX1_copyFrom 24 = .ok (.invokevirtual 63, 3) := by decide +kernel
theorem dX1_copyFrom_27 : decode cX1_copyFrom 27 = .ok (.aload_n 0, 1) := by decide +kernel
theorem dX1_copyFrom_28 : decode cX1_copyFrom 28 = .ok (.aload_n 1, 1) := by decide +kernel
theorem dX1_copyFrom_29 : decode cX1_copyFrom 29 = .ok (.getfield 25, 3) := by decide +kernel
theorem dX1_copyFrom_32 : decode cX1_copyFrom 32 = .ok (.putfield 25, 3) := by decide +kernel
theorem dX1_copyFrom_35 : decode cX1_copyFrom 35 = .ok (.aload_n 0, 1) := by decide +kernel
theorem dX1_copyFrom_36 : decode cX1_copyFrom 36 = .ok (.aload_n 1, 1) := by decide +kernel
theorem dX1_copyFrom_37 : decode cX1_copyFrom 37 = .ok (.getfield 28, 3) := by decide +kernel
theorem dX1_copyFrom_40 : decode cX1_copyFrom 40 = .ok (.putfield 28, 3) := by decide +kernel
theorem dX1_copyFrom_43 : decode cX1_copyFrom 43 = .ok (.aload_n 0, 1) := by decide +kernel
theorem dX1_copyFrom_44 : decode cX1_copyFrom 44 = .ok (.aload_n 1, 1) := by decide +kernel
theorem dX1_copyFrom_45 : decode cX1_copyFrom 45 = .ok (.getfield 31, 3) := by decide +kernel
theorem dX1_copyFrom_48 : decode cX1_copyFrom 48 = .ok (.putfield 31, 3) := by decide +kernel
theorem dX1_copyFrom_51 : decode cX1_copyFrom 51 = .ok (.aload_n 0, 1) := by decide +kernel
theorem dX1_copyFrom_52 : decode cX1_copyFrom 52 = .ok (.aload_n 1, 1) := by decide +kernel
theorem dX1_copyFrom_53 : decode cX1_copyFrom 53 = .ok (.getfield 34, 3) := by decide +kernel
theorem dX1_copyFrom_56 : decode cX1_copyFrom 56 = .ok (.putfield 34, 3) := by decide +kernel
theorem dX1_copyFrom_59 : decode cX1_copyFrom 59 = .ok (.aload_n 0, 1) := by decide +kernel
theorem dX1_copyFrom_60 : decode cX1_copyFrom 60 = .ok (.aload_n 1, 1) := by decide +kernel
theorem dX1_copyFrom_61 : decode cX1_copyFrom 61 = .ok (.getfield 38, 3) := by decide +kernel
theorem dX1_copyFrom_64 : decode cX1_copyFrom 64 = .ok (.putfield 38, 3) := by decide +kernel
theorem dX1_copyFrom_67 : decode cX1_copyFrom 67 = .ok (.aload_n 0, 1) := by decide +kernel
theorem dX1_copyFrom_68 : decode cX1_copyFrom 68 = .ok (.aload_n 1, 1) := by decide +kernel
theorem dX1_copyFrom_69 : decode cX1_copyFrom 69 = .ok (.getfield 41, 3) := by decide +kernel
theorem dX1_copyFrom_72 : decode cX1_copyFrom 72 = .ok (.putfield 41, 3) := by decide +kernel
theorem dX1_copyFrom_75 : decode cX1_copyFrom 75 = .ok (.aload_n 0, 1) := by decide +kernel
theorem dX1_copyFrom_76 : decode cX1_copyFrom 76 = .ok (.aload_n 1, 1) := by decide +kernel
theorem dX1_copyFrom_77 : decode cX1_copyFrom 77 = .ok (.getfield 44, 3) := by decide +kernel
theorem dX1_copyFrom_80 : decode cX1_copyFrom 80 = .ok (.putfield 44, 3) := by decide +kernel
theorem dX1_copyFrom_83 : decode cX1_copyFrom 83 = .ok (.aload_n 0, 1) := by decide +kernel
theorem dX1_copyFrom_84 : decode cX1_copyFrom 84 = .ok (.aload_n 1, 1) := by decide +kernel
theorem dX1_copyFrom_85 : decode cX1_copyFrom 85 = .ok (.getfield 47, 3) := by decide +kernel
theorem dX1_copyFrom_88 : decode cX1_copyFrom 88 = .ok (.putfield 47, 3) := by decide +kernel
theorem dX1_copyFrom_91 : decode cX1_copyFrom 91 = .ok (.return_, 1) := by decide +kernel
theorem dX2_init_0 : decode cX2_init 0 = .ok (.aload_n 0, 1) := by decide +kernel
theorem dX2_init_1 : decode cX2_init 1 = .ok (.invokespecial 3, 3) := by decide +kernel
theorem dX2_init_4 : decode cX2_init 4 = .ok (.aload_n 0, 1) := by decide +kernel
theorem dX2_init_5 : decode cX2_init 5 = .ok (.iconst 0, 1) := by decide +kernel
theorem dX2_init_6 : decode cX2_init 6 = .ok (.putfield 9, 3) := by decide +kernel
theorem dX2_init_9 : decode cX2_init 9 = .ok (.aload_n 0, 1) := by decide +kernel
theorem dX2_init_10 : decode cX2_init 10 = .ok (.iconst 0, 1) := by decide +kernel
theorem dX2_init_11 : decode cX2_init 11 = .ok (.putfield 15, 3) := by decide +kernel
theorem dX2_init_14 : decode cX2_init 14 = .ok (.aload_n 0, 1) := by decide +kernel
theorem dX2_init_15 : decode cX2_init 15 = .ok (.iconst 0, 1) := by decide +kernel
theorem dX2_init_16 : decode cX2_init 16 = .ok (.putfield 18, 3) := by decide +kernel
theorem dX2_init_19 : decode cX2_init 19 = .ok (.aload_n 0, 1) := by decide +kernel
theorem dX2_init_20 : decode cX2_init 20 = .ok (.iconst (-1), 1) := by decide +kernel
theorem dX2_init_21 : decode cX2_init 21 = .ok (.putfield 21, 3) := by decide +kernel
theorem dX2_init_24 : decode cX2_init 24 = .ok (.aload_n 0, 1) := by decide +kernel
theorem dX2_init_25 : decode cX2_init 25 = .ok (.iconst 1, 1) := by decide +kernel
theorem dX2_init_26 : decode cX2_init 26 = .ok (.putfield 24, 3) := by decide +kernel
theorem dX2_init_29 : decode cX2_init 29 = .ok (.aload_n 0, 1) := by decide +kernel
theorem dX2_init_30 : decode cX2_init 30 = .ok (.iconst 0, 1) := by decide +kernel
theorem dX2_init_31 : decode cX2_init 31 = .ok (.putfield 27, 3) := by decide +kernel
theorem dX2_init_34 : decode cX2_init 34 = .ok (.aload_n 0, 1) := by decide +kernel
theorem dX2_init_35 : decode cX2_init 35 = .ok (.iconst 0, 1) := by decide +kernel
theorem dX2_init_36 : decode cX2_init 36 = .ok (.putfield 30, 3) := by decide +kernel
theorem dX2_init_39 : decode cX2_init 39 = .ok (.return_, 1) := by decide +kernel
theorem dX2_tell_0 : decode cX2_tell 0 = .ok (.iload_n 1, 1) := by decide +kernel
theorem dX2_tell_1 : decode cX2_tell 1 = .ok (.tableswitch 69 0 5 #[39, 44, 49, 54, 59, 64], 39) := by decide +kernel
theorem dX2_tell_40 : decode cX2_tell 40 = .ok (.aload_n 0, 1) := by decide +kernel
theorem dX2_tell_41 : decode cX2_tell 41 = .ok (.getfield 9, 3) := by decide +kernel
theorem dX2_tell_44 : decode cX2_tell 44 = .ok (.ireturn, 1) := by decide +kernel
theorem dX2_tell_45 : decode cX2_tell 45 = .ok (.aload_n 0, 1) := by decide +kernel
theorem dX2_tell_46 : decode cX2_tell 46 = .ok (.getfield 15, 3) := by decide +kernel
theorem dX2_tell_49 : decode cX2_tell 49 = .ok (.ireturn, 1) := by decide +kernel
theorem dX2_tell_50 : decode cX2_tell 50 = .ok (.aload_n 0, 1) := by decide +kernel
theorem dX2_tell_51 : decode cX2_tell 51 = .ok (.getfield 24, 3) := by decide +kernel
theorem dX2_tell_54 : decode cX2_tell 54 = .ok (.ireturn, 1) := by decide +kernel
theorem dX2_tell_55 : decode cX2_tell 55 = .ok (.aload_n 0, 1) := by decide +kernel
theorem dX2_tell_56 : decode cX2_tell 56 = .ok (.getfield 27, 3) := by decide +kernel
theorem dX2_tell_59 : decode cX2_tell 59 = .ok (.ireturn, 1) := by decide +kernel
theorem dX2_tell_60 : decode cX2_tell 60 = .ok (.aload_n 0, 1) := by decide +kernel
theorem dX2_tell_61 : decode cX2_tell 61 = .ok (.getfield 18, 3) := by decide +kernel
theorem dX2_tell_64 : decode cX2_tell 64 = .ok (.ireturn, 1) := by decide +kernel
theorem dX2_tell_65 : decode cX2_tell 65 = .ok (.aload_n 0, 1) := by decide +kernel
theorem dX2_tell_66 : decode cX2_tell 66 = .ok (.getfield 21, 3) := by decide +kernel
theorem dX2_tell_69 : decode cX2_tell 69 = .ok (.ireturn, 1) := by decide +kernel
theorem dX2_tell_70 : decode cX2_tell 70 = .ok (.aload_n 0, 1) := by decide +kernel
theorem dX2_tell_71 : decode cX2_tell 71 = .ok (.getfield 30, 3) := by decide +kernel
theorem dX2_tell_74 : decode cX2_tell 74 = .ok (.ireturn, 1) := by decide +kernel
theorem dX2_copyFrom_0 : decode cX2_copyFrom 0 = .ok (.aload_n 0, 1) := by decide +kernel
theorem dX2_copyFrom_1 : decode cX2_copyFrom 1 = .ok (.aload_n 1, 1) := by decide +kernel
theorem dX2_copyFrom_2 : decode cX2_copyFrom 2 = .ok (.getfield 9, 3) := by decide +kernel
theorem dX2_copyFrom_5 : decode cX2_copyFrom 5 = .ok (.putfield 9, 3) := by decide +kernel
theorem dX2_copyFrom_8 : decode cX2_copyFrom 8 = .ok (.aload_n 0, 1) := by decide +kernel
theorem dX2_copyFrom_9 : decode cX2_copyFrom 9 = .ok (.aload_n 1, 1) := by decide +kernel
theorem dX2_copyFrom_10 : decode cX2_copyFrom 10 = .ok (.getfield 15, 3) := by decide +kernel
theorem dX2_copyFrom_13 : decode cX2_copyFrom 13 = .ok (.putfield 15, 3) := by decide +kernel
theorem dX2_copyFrom_16 : decode cX2_copyFrom 16 = .ok (.aload_n 0, 1) := by decide +kernel
theorem dX2_copyFrom_17 : decode cX2_copyFrom 17 = .ok (.aload_n 1, 1) := by decide +kernel
theorem dX2_copyFrom_18 : decode cX2_copyFrom 18 = .ok (.getfield 18, 3) := by decide +kernel
theorem dX2_copyFrom_21 : decode cX2_copyFrom 21 = .ok (.putfield 18, 3) := by decide +kernel
theorem dX2_copyFrom_24 : decode cX2_copyFrom 24 = .ok (.aload_n 0, 1) := by decide +kernel
theorem dX2_copyFrom_25 : decode cX2_copyFrom 25 = .ok (.aload_n 1, 1) := by decide +kernel
theorem dX2_copyFrom_26 : decode cX2_copyFrom 26 = .ok (.getfield 21, 3) := by decide +kernel
theorem dX2_copyFrom_29 : decode cX2_copyFrom 29 = .ok (.putfield 21, 3) := by decide +kernel
theorem dX2_copyFrom_32 : decode cX2_copyFrom 32 = .ok (.aload_n 0, 1) := by decide +kernel
theorem dX2_copyFrom_33 : decode cX2_copyFrom 33 = .ok (.aload_n 1, 1) := by decide +kernel
theorem dX2_copyFrom_34 : decode cX2_copyFrom 34 = .ok (.getfield 24, 3) := by decide +kernel
theorem dX2_copyFrom_37 : decode cX2_copyFrom 37 = .ok (.putfield 24, 3) := by decide +kernel
theorem dX2_copyFrom_40 : decode cX2_copyFrom 40 = .ok (.aload_n 0, 1) := by decide +kernel
theorem dX2_copyFrom_41 : decode cX2_copyFrom 41 = .ok (.aload_n 1, 1) := by decide +kernel
theorem dX2_copyFrom_42 : decode cX2_copyFrom 42 = .ok (.getfield 27, 3) := by decide +kernel
theorem dX2_copyFrom_45 : decode cX2_copyFrom 45 = .ok (.putfield 27, 3) := by decide +kernel
theorem dX2_copyFrom_48 : decode cX2_copyFrom 48 = .ok (.aload_n 0, 1) := by decide +kernel
theorem dX2_copyFrom_49 : decode cX2_copyFrom 49 = .ok (.aload_n 1, 1) := by decide +kernel
theorem dX2_copyFrom_50 : decode cX2_copyFrom 50 = .ok (.getfield 30, 3) := by decide +kernel
theorem dX2_copyFrom_53 : decode cX2_copyFrom 53 = .ok (.putfield 30, 3) := by decide +kernel
theorem dX2_copyFrom_56 : decode cX2_copyFrom 56 = .ok (.return_, 1) := by decide +kernel
theorem dX3_init_0 : decode cX3_init 0 = .ok (.aload_n 0, 1) := by decide +kernel
theorem dX3_init_1 : decode cX3_init 1 = .ok (.invokespecial 3, 3) := by decide +kernel
theorem dX3_init_4 : decode cX3_init 4 = .ok (.aload_n 0, 1) := by decide +kernel
theorem dX3_init_5 : decode cX3_init 5 = .ok (.bipush 6, 2) := by decide +kernel
theorem dX3_init_7 : decode cX3_init 7 = .ok (.anewarray 9, 3) := by decide +kernel
theorem dX3_init_10 : decode cX3_init 10 = .ok (.putfield 11, 3) := by decide +kernel
theorem dX3_init_13 : decode cX3_init 13 = .ok (.aload_n 0, 1) := by decide +kernel
theorem dX3_init_14 : decode cX3_init 14 = .ok (.bipush 10, 2) := by decide +kernel
theorem dX3_init_16 : decode cX3_init 16 = .ok (.anewarray 17, 3) := by decide +kernel
theorem dX3_init_19 : decode cX3_init 19 = .ok (.putfield 19, 3) := by decide +kernel
theorem dX3_init_22 : decode cX3_init 22 = .ok (.aload_n 0, 1) := by decide +kernel
theorem dX3_init_23 : decode cX3_init 23 = .ok (.sipush 320, 3) := by decide +kernel
theorem dX3_init_26 : decode cX3_init 26 = .ok (.newarray .int, 2) := by decide +kernel
theorem dX3_init_28 : decode cX3_init 28 = .ok (.putfield 23, 3) := by decide +kernel
theorem dX3_init_31 : decode cX3_init 31 = .ok (.aload_n 0, 1) := by decide +kernel
theorem dX3_init_32 : decode cX3_init 32 = .ok (.sipush 320, 3) := by decide +kernel
theorem dX3_init_35 : decode cX3_init 35 = .ok (.newarray .boolean, 2) := by decide +kernel
theorem dX3_init_37 : decode cX3_init 37 = .ok (.putfield 27, 3) := by decide +kernel
theorem dX3_init_40 : decode cX3_init 40 = .ok (.aload_n 0, 1) := by decide +kernel
theorem dX3_init_41 : decode cX3_init 41 = .ok (.iconst 0, 1) := by decide +kernel
theorem dX3_init_42 : decode cX3_init 42 = .ok (.putfield 31, 3) := by decide +kernel
theorem dX3_init_45 : decode cX3_init 45 = .ok (.aload_n 0, 1) := by decide +kernel
theorem dX3_init_46 : decode cX3_init 46 = .ok (.iconst 0, 1) := by decide +kernel
theorem dX3_init_47 : decode cX3_init 47 = .ok (.putfield 35, 3) := by decide +kernel
theorem dX3_init_50 : decode cX3_init 50 = .ok (.aload_n 0, 1) := by decide +kernel
theorem dX3_init_51 : decode cX3_init 51 = .ok (.iconst 0, 1) := by decide +kernel
theorem dX3_init_52 : decode cX3_init 52 = .ok (.putfield 38, 3) := by decide +kernel
theorem dX3_init_55 : decode cX3_init 55 = .ok (.aload_n 0, 1) := by decide +kernel
theorem dX3_init_56 : decode cX3_init 56 = .ok (.bipush 10, 2) := by decide +kernel
theorem dX3_init_58 : decode cX3_init 58 = .ok (.putfield 41, 3) := by decide +kernel
theorem dX3_init_61 : decode cX3_init 61 = .ok (.aload_n 0, 1) := by decide +kernel
theorem dX3_init_62 : decode cX3_init 62 = .ok (.iconst 0, 1) := by decide +kernel
theorem dX3_init_63 : decode cX3_init 63 = .ok (.putfield 44, 3) := by decide +kernel
theorem dX3_init_66 : decode cX3_init 66 = .ok (.aload_n 0, 1) := by decide +kernel
theorem dX3_init_67 : decode cX3_init 67 = .ok (.iconst 0, 1) := by decide +kernel
theorem dX3_init_68 : decode cX3_init 68 = .ok (.putfield 47, 3) := by decide +kernel
theorem dX3_init_71 : decode cX3_init 71 = .ok (.iconst 0, 1) := by decide +kernel
theorem dX3_init_72 : decode cX3_init 72 = .ok (.istore_n 1, 1) := by decide +kernel
theorem dX3_init_73 : decode cX3_init 73 = .ok (.iload_n 1, 1) := by decide +kernel
theorem dX3_init_74 : decode cX3_init 74 = .ok (.bipush 6, 2) := by decide +kernel
theorem dX3_init_76 : decode cX3_init 76 = .ok (.if_icmp .ge 23, 3) := by decide +kernel
theorem dX3_init_79 : decode cX3_init 79 = .ok (.aload_n 0, 1) := by decide +kernel
theorem dX3_init_80 : decode cX3_init 80 = .ok (.getfield 11, 3) := by decide +kernel
theorem dX3_init_83 : decode cX3_init 83 = .ok (.iload_n 1, 1) := by decide +kernel
theorem dX3_init_84 : decode cX3_init 84 = .ok (.new 9, 3) := by decide +kernel
theorem dX3_init_87 : decode cX3_init 87 = .ok (.dup, 1) := by decide +kernel
theorem dX3_init_88 : decode cX3_init 88 = .ok (.iload_n 1, 1) := by decide +kernel
theorem dX3_init_89 : decode cX3_init 89 = .ok (.invokespecial 50, 3) := by decide +kernel
theorem dX3_init_92 : decode cX3_init 92 = .ok (.aastore, 1) := by decide +kernel
theorem dX3_init_93 : decode cX3_init 93 = .ok (.iinc 1 1, 3) := by decide +kernel
theorem dX3_init_96 : decode cX3_init 96 = .ok (.goto (-23), 3) := by decide +kernel
theorem dX3_init_99 : decode cX3_init 99 = .ok (.iconst 0, 1) := by decide +kernel
theorem dX3_init_100 : decode cX3_init 100 = .ok (.istore_n 1, 1) := by decide +kernel
theorem dX3_init_101 : decode cX3_init 101 = .ok (.iload_n 1, 1) := by decide +kernel
theorem dX3_init_102 : decode cX3_init 102 = .ok (.bipush 10, 2) := by decide +kernel
theorem dX3_init_104 : decode cX3_init 104 = .ok (.if_icmp .ge 22, 3) := by decide +kernel
theorem dX3_init_107 : decode cX3_init 107 = .ok (.aload_n 0, 1) := by decide +kernel
theorem dX3_init_108 : decode cX3_init 108 = .ok (.getfield 19, 3) := by decide +kernel
theorem dX3_init_111 : decode cX3_init 111 = .ok (.iload_n 1, 1) := by decide +kernel
theorem dX3_init_112 : decode cX3_init 112 = .ok (.new 17, 3) := by decide +kernel
theorem dX3_init_115 : decode cX3_init 115 = .ok (.dup, 1) := by decide +kernel
theorem dX3_init_116 : decode cX3_init 116 = .ok (.invokespecial 53, 3) := by decide +kernel
theorem dX3_init_119 : decode cX3_init 119 = .ok (.aastore, 1) := by decide +kernel
theorem dX3_init_120 : decode cX3_init 120 = .ok (.iinc 1 1, 3) := by decide +kernel
theorem dX3_init_123 : decode cX3_init 123 = .ok (.goto (-22), 3) := by decide +kernel
theorem dX3_init_126 : decode cX3_init 126 = .ok (.return_, 1) := by decide +kernel
theorem dX3_addLad_0 : decode cX3_addLad 0 = .ok (.aload_n 0, 1) := by decide +kernel
theorem dX3_addLad_1 : decode cX3_addLad 1 = .ok (.getfield 31, 3) := by decide +kernel
theorem dX3_addLad_4 : decode cX3_addLad 4 = .ok (.bipush 6, 2) := by decide +kernel
theorem dX3_addLad_6 : decode cX3_addLad 6 = .ok (.if_icmp .lt 5, 3) := by decide +kernel
theorem dX3_addLad_9 : decode cX3_addLad 9 = .ok (.iconst (-1), 1) := by decide +kernel
theorem dX3_addLad_10 : decode cX3_addLad 10 = .ok (.ireturn, 1) := by decide +kernel
theorem dX3_addLad_11 : decode cX3_addLad 11 = .ok (.aload_n 0, 1) := by decide +kernel
theorem dX3_addLad_12 : decode cX3_addLad 12 = .ok (.getfield 11, 3) := by decide +kernel
theorem dX3_addLad_15 : decode cX3_addLad 15 = .ok (.aload_n 0, 1) := by decide +kernel
theorem dX3_addLad_16 : decode cX3_addLad 16 = .ok (.getfield 31, 3) := by decide +kernel
theorem dX3_addLad_19 : decode cX3_addLad 19 = .ok (.aaload, 1) := by decide +kernel
theorem dX3_addLad_20 : decode cX3_addLad 20 = .ok (.iload_n 1, 1) := by decide +kernel
theorem dX3_addLad_21 : decode cX3_addLad 21 = .ok (.putfield 54, 3) := by decide +kernel
theorem dX3_addLad_24 : decode cX3_addLad 24 = .ok (.aload_n 0, 1) := by decide +kernel
theorem dX3_addLad_25 : decode cX3_addLad 25 = .ok (.dup, 1) := by decide +kernel
theorem dX3_addLad_26 : decode cX3_addLad 26 = .ok (.getfield 31, 3) := by decide +kernel
theorem dX3_addLad_29 : decode cX3_addLad 29 = .ok (.iconst 1, 1) := by decide +kernel
theorem dX3_addLad_30 : decode cX3_addLad 30 = .ok (.iadd, 1) := by decide +kernel
theorem dX3_addLad_31 : decode cX3_addLad 31 = .ok (.putfield 31, 3) := by decide +kernel
theorem dX3_addLad_34 : decode cX3_addLad 34 = .ok (.aload_n 0, 1) := by decide +kernel
theorem dX3_addLad_35 : decode cX3_addLad 35 = .ok (.getfield 31, 3) := by decide +kernel
theorem dX3_addLad_38 : decode cX3_addLad 38 = .ok (.iconst 1, 1) := by decide +kernel
theorem dX3_addLad_39 : decode cX3_addLad 39 = .ok (.isub, 1) := by decide +kernel
theorem dX3_addLad_40 : decode cX3_addLad 40 = .ok (.ireturn, 1) := by decide +kernel
theorem dX3_addLoad_0 : decode cX3_addLoad 0 = .ok (.aload_n 0, 1) := by decide +kernel
theorem dX3_addLoad_1 : decode cX3_addLoad 1 = .ok (.getfield 35, 3) := by decide +kernel
theorem dX3_addLoad_4 : decode cX3_addLoad 4 = .ok (.bipush 10, 2) := by decide +kernel
theorem dX3_addLoad_6 : decode cX3_addLoad 6 = .ok (.if_icmp .lt 5, 3) := by decide +kernel
theorem dX3_addLoad_9 : decode cX3_addLoad 9 = .ok (.iconst (-1), 1) := by decide +kernel
theorem dX3_addLoad_10 : decode cX3_addLoad 10 = .ok (.ireturn, 1) := by decide +kernel
theorem dX3_addLoad_11 : decode cX3_addLoad 11 = .ok (.aload_n 0, 1) := by decide +kernel
theorem dX3_addLoad_12 : decode cX3_addLoad 12 = .ok (.getfield 19, 3) := by decide +kernel
theorem dX3_addLoad_15 : decode cX3_addLoad 15 = .ok (.aload_n 0, 1) := by decide +kernel
theorem dX3_addLoad_16 : decode cX3_addLoad 16 = .ok (.getfield 35, 3) := by decide +kernel
theorem dX3_addLoad_19 : decode cX3_addLoad 19 = .ok (.aaload, 1) := by decide +kernel
theorem dX3_addLoad_20 : decode cX3_addLoad 20 = .ok (.iload_n 1, 1) := by decide +kernel
theorem dX3_addLoad_21 : decode cX3_addLoad 21 = .ok (.putfield 57, 3) := by decide +kernel
theorem dX3_addLoad_24 : decode cX3_addLoad 24 = .ok (.aload_n 0, 1) := by decide +kernel
theorem dX3_addLoad_25 : decode cX3_addLoad 25 = .ok (.getfield 19, 3) := by decide +kernel
theorem dX3_addLoad_28 : decode cX3_addLoad 28 = .ok (.aload_n 0, 1) := by decide +kernel
theorem dX3_addLoad_29 : decode cX3_addLoad 29 = .ok (.getfield 35, 3) := by decide +kernel
theorem dX3_addLoad_32 : decode cX3_addLoad 32 = .ok (.aaload, 1) := by decide +kernel
theorem dX3_addLoad_33 : decode cX3_addLoad 33 = .ok (.aload_n 0, 1) := by decide +kernel
theorem dX3_addLoad_34 : decode cX3_addLoad 34 = .ok (.getfield 38, 3) := by decide +kernel
theorem dX3_addLoad_37 : decode cX3_addLoad 37 = .ok (.putfield 60, 3) := by decide +kernel
theorem dX3_addLoad_40 : decode cX3_addLoad 40 = .ok (.aload_n 0, 1) := by decide +kernel
theorem dX3_addLoad_41 : decode cX3_addLoad 41 = .ok (.aload_n 0, 1) := by decide +kernel
theorem dX3_addLoad_42 : decode cX3_addLoad 42 = .ok (.getfield 35, 3) := by decide +kernel
theorem dX3_addLoad_45 : decode cX3_addLoad 45 = .ok (.bipush 32, 2) := by decide +kernel
theorem dX3_addLoad_47 : decode cX3_addLoad 47 = .ok (.imul, 1) := by decide +kernel
theorem dX3_addLoad_48 : decode cX3_addLoad 48 = .ok (.iconst 1, 1) := by decide +kernel
theorem dX3_addLoad_49 : decode cX3_addLoad 49 = .ok (.iadd, 1) := by decide +kernel
theorem dX3_addLoad_50 : decode cX3_addLoad 50 = .ok (.iload_n 1, 1) := by decide +kernel
theorem dX3_addLoad_51 : decode cX3_addLoad 51 = .ok (.invokevirtual 63, 3) := by decide +kernel
theorem dX3_addLoad_54 : decode cX3_addLoad 54 = .ok (.aload_n 0, 1) := by decide +kernel
theorem dX3_addLoad_55 : decode cX3_addLoad 55 = .ok (.dup, 1) := by decide +kernel
theorem dX3_addLoad_56 : decode cX3_addLoad 56 = .ok (.getfield 35, 3) := by decide +kernel
theorem dX3_addLoad_59 : decode cX3_addLoad 59 = .ok (.iconst 1, 1) := by decide +kernel
theorem dX3_addLoad_60 : decode cX3_addLoad 60 = .ok (.iadd, 1) := by decide +kernel
theorem dX3_addLoad_61 : decode cX3_addLoad 61 = .ok (.putfield 35, 3) := by decide +kernel
theorem dX3_addLoad_64 : decode cX3_addLoad 64 = .ok (.aload_n 0, 1) := by decide +kernel
theorem dX3_addLoad_65 : decode cX3_addLoad 65 = .ok (.invokevirtual 67, 3) := by decide +kernel
theorem dX3_addLoad_68 : decode cX3_addLoad 68 = .ok (.aload_n 0, 1) := by decide +kernel
theorem dX3_addLoad_69 : decode cX3_addLoad 69 = .ok (.getfield 35, 3) := by decide +kernel
theorem dX3_addLoad_72 : decode cX3_addLoad 72 = .ok (.iconst 1, 1) := by decide +kernel
theorem dX3_addLoad_73 : decode cX3_addLoad 73 = .ok (.isub, 1) := by decide +kernel
theorem dX3_addLoad_74 : decode cX3_addLoad 74 = .ok (.ireturn, 1) := by decide +kernel
theorem dX3_wakeAll_0 : decode cX3_wakeAll 0 = .ok (.iconst 0, 1) := by decide +kernel
theorem dX3_wakeAll_1 : decode cX3_wakeAll 1 = .ok (.istore_n 1, 1) := by decide +kernel
theorem dX3_wakeAll_2 : decode cX3_wakeAll 2 = .ok (.iload_n 1, 1) := by decide +kernel
theorem dX3_wakeAll_3 : decode cX3_wakeAll 3 = .ok (.aload_n 0, 1) := by decide +kernel
theorem dX3_wakeAll_4 : decode cX3_wakeAll 4 = .ok (.getfield 31, 3) := by decide +kernel
theorem dX3_wakeAll_7 : decode cX3_wakeAll 7 = .ok (.if_icmp .ge 19, 3) := by decide +kernel
theorem dX3_wakeAll_10 : decode cX3_wakeAll 10 = .ok (.aload_n 0, 1) := by decide +kernel
theorem dX3_wakeAll_11 : decode cX3_wakeAll 11 = .ok (.getfield 11, 3) := by decide +kernel
theorem dX3_wakeAll_14 : decode cX3_wakeAll 14 = .ok (.iload_n 1, 1) := by decide +kernel
theorem dX3_wakeAll_15 : decode cX3_wakeAll 15 = .ok (.aaload, 1) := by decide +kernel
theorem dX3_wakeAll_16 : decode cX3_wakeAll 16 = .ok (.iconst 0, 1) := by decide +kernel
theorem dX3_wakeAll_17 : decode cX3_wakeAll 17 = .ok (.putfield 70, 3) := by decide +kernel
theorem dX3_wakeAll_20 : decode cX3_wakeAll 20 = .ok (.iinc 1 1, 3) := by decide +kernel
theorem dX3_wakeAll_23 : decode cX3_wakeAll 23 = .ok (.goto (-21), 3) := by decide +kernel
theorem dX3_wakeAll_26 : decode cX3_wakeAll 26 = .ok (.return_, 1) := by decide +kernel
theorem dX3_tell_0 : decode cX3_tell 0 = .ok (.iload_n 1, 1) := by decide +kernel
theorem dX3_tell_1 : decode cX3_tell 1 = .ok (.tableswitch 131 0 11 #[63, 68, 73, 78, 84, 90, 96, 101, 107, 112, 117, 124], 63) := by decide +kernel
theorem dX3_tell_64 : decode cX3_tell 64 = .ok (.aload_n 0, 1) := by decide +kernel
theorem dX3_tell_65 : decode cX3_tell 65 = .ok (.getfield 38, 3) := by decide +kernel
theorem dX3_tell_68 : decode cX3_tell 68 = .ok (.ireturn, 1) := by decide +kernel
theorem dX3_tell_69 : decode cX3_tell 69 = .ok (.aload_n 0, 1) := by decide +kernel
theorem dX3_tell_70 : decode cX3_tell 70 = .ok (.getfield 31, 3) := by decide +kernel
theorem dX3_tell_73 : decode cX3_tell 73 = .ok (.ireturn, 1) := by decide +kernel
theorem dX3_tell_74 : decode cX3_tell 74 = .ok (.aload_n 0, 1) := by decide +kernel
theorem dX3_tell_75 : decode cX3_tell 75 = .ok (.getfield 35, 3) := by decide +kernel
theorem dX3_tell_78 : decode cX3_tell 78 = .ok (.ireturn, 1) := by decide +kernel
theorem dX3_tell_79 : decode cX3_tell 79 = .ok (.aload_n 0, 1) := by decide +kernel
theorem dX3_tell_80 : decode cX3_tell 80 = .ok (.iconst 2, 1) := by decide +kernel
theorem dX3_tell_81 : decode cX3_tell 81 = .ok (.invokevirtual 74, 3) := by decide +kernel
theorem dX3_tell_84 : decode cX3_tell 84 = .ok (.ireturn, 1) := by decide +kernel
theorem dX3_tell_85 : decode cX3_tell 85 = .ok (.aload_n 0, 1) := by decide +kernel
theorem dX3_tell_86 : decode cX3_tell 86 = .ok (.iconst 0, 1) := by decide +kernel
theorem dX3_tell_87 : decode cX3_tell 87 = .ok (.invokevirtual 74, 3) := by decide +kernel
theorem dX3_tell_90 : decode cX3_tell 90 = .ok (.ireturn, 1) := by decide +kernel
theorem dX3_tell_91 : decode cX3_tell 91 = .ok (.aload_n 0, 1) := by decide +kernel
theorem dX3_tell_92 : decode cX3_tell 92 = .ok (.iconst 2, 1) := by decide +kernel
theorem dX3_tell_93 : decode cX3_tell 93 = .ok (.invokevirtual 78, 3) := by decide +kernel
theorem dX3_tell_96 : decode cX3_tell 96 = .ok (.ireturn, 1) := by decide +kernel
theorem dX3_tell_97 : decode cX3_tell 97 = .ok (.aload_n 0, 1) := by decide +kernel
theorem dX3_tell_98 : decode cX3_tell 98 = .ok (.invokevirtual 81, 3) := by decide +kernel
theorem dX3_tell_101 : decode cX3_tell 101 = .ok (.ireturn, 1) := by decide +kernel
theorem dX3_tell_102 : decode cX3_tell 102 = .ok (.aload_n 0, 1) := by decide +kernel
theorem dX3_tell_103 : decode cX3_tell 103 = .ok (.iconst 5, 1) := by decide +kernel
theorem dX3_tell_104 : decode cX3_tell 104 = .ok (.invokevirtual 78, 3) := by decide +kernel
theorem dX3_tell_107 : decode cX3_tell 107 = .ok (.ireturn, 1) := by decide +kernel
theorem dX3_tell_108 : decode cX3_tell 108 = .ok (.aload_n 0, 1) := by decide +kernel
theorem dX3_tell_109 : decode cX3_tell 109 = .ok (.getfield 44, 3) := by decide +kernel
theorem dX3_tell_112 : decode cX3_tell 112 = .ok (.ireturn, 1) := by decide +kernel
theorem dX3_tell_113 : decode cX3_tell 113 = .ok (.aload_n 0, 1) := by decide +kernel
theorem dX3_tell_114 : decode cX3_tell 114 = .ok (.getfield 47, 3) := by decide +kernel
theorem dX3_tell_117 : decode cX3_tell 117 = .ok (.ireturn, 1) := by decide +kernel
theorem dX3_tell_118 : decode cX3_tell 118 = .ok (.aload_n 0, 1) := by decide +kernel
theorem dX3_tell_119 : decode cX3_tell 119 = .ok (.bipush 7, 2) := by decide +kernel
theorem dX3_tell_121 : decode cX3_tell 121 = .ok (.invokevirtual 78, 3) := by decide +kernel
theorem dX3_tell_124 : decode cX3_tell 124 = .ok (.ireturn, 1) := by decide +kernel
theorem dX3_tell_125 : decode cX3_tell 125 = .ok (.aload_n 0, 1) := by decide +kernel
theorem dX3_tell_126 : decode cX3_tell 126 = .ok (.bipush 6, 2) := by decide +kernel
theorem dX3_tell_128 : decode cX3_tell 128 = .ok (.invokevirtual 85, 3) := by decide +kernel
theorem dX3_tell_131 : decode cX3_tell 131 = .ok (.ireturn, 1) := by decide +kernel
theorem dX3_tell_132 : decode cX3_tell 132 = .ok (.aload_n 0, 1) := by decide +kernel
theorem dX3_tell_133 : decode cX3_tell 133 = .ok (.getfield 41, 3) := by decide +kernel
theorem dX3_tell_136 : decode cX3_tell 136 = .ok (.ireturn, 1) := by decide +kernel
theorem dX3_loadsThatAre_0 : decode cX3_loadsThatAre 0 = .ok (.iconst 0, 1) := by decide +kernel
theorem dX3_loadsThatAre_1 : decode cX3_loadsThatAre 1 = .ok (.istore_n 2, 1) := by decide +kernel
theorem dX3_loadsThatAre_2 : decode cX3_loadsThatAre 2 = .ok (.iconst 0, 1) := by decide +kernel
theorem dX3_loadsThatAre_3 : decode cX3_loadsThatAre 3 = .ok (.istore_n 3, 1) := by decide +kernel
theorem dX3_loadsThatAre_4 : decode cX3_loadsThatAre 4 = .ok (.iload_n 3, 1) := by decide +kernel
theorem dX3_loadsThatAre_5 : decode cX3_loadsThatAre 5 = .ok (.aload_n 0, 1) := by decide +kernel
theorem dX3_loadsThatAre_6 : decode cX3_loadsThatAre 6 = .ok (.getfield 35, 3) := by decide +kernel
theorem dX3_loadsThatAre_9 : decode cX3_loadsThatAre 9 = .ok (.if_icmp .ge 25, 3) := by decide +kernel
theorem dX3_loadsThatAre_12 : decode cX3_loadsThatAre 12 = .ok (.aload_n 0, 1) := by decide +kernel
theorem dX3_loadsThatAre_13 : decode cX3_loadsThatAre 13 = .ok (.getfield 19, 3) := by decide +kernel
theorem dX3_loadsThatAre_16 : decode cX3_loadsThatAre 16 = .ok (.iload_n 3, 1) := by decide +kernel
theorem dX3_loadsThatAre_17 : decode cX3_loadsThatAre 17 = .ok (.aaload, 1) := by decide +kernel
theorem dX3_loadsThatAre_18 : decode cX3_loadsThatAre 18 = .ok (.getfield 88, 3) := by decide +kernel
theorem dX3_loadsThatAre_21 : decode cX3_loadsThatAre 21 = .ok (.iload_n 1, 1) := by decide +kernel
theorem dX3_loadsThatAre_22 : decode cX3_loadsThatAre 22 = .ok (.if_icmp .ne 6, 3) := by decide +kernel
theorem dX3_loadsThatAre_25 : decode cX3_loadsThatAre 25 = .ok (.iinc 2 1, 3) := by decide +kernel
theorem dX3_loadsThatAre_28 : decode cX3_loadsThatAre 28 = .ok (.iinc 3 1, 3) := by decide +kernel
theorem dX3_loadsThatAre_31 : decode cX3_loadsThatAre 31 = .ok (.goto (-27), 3) := by decide +kernel
theorem dX3_loadsThatAre_34 : decode cX3_loadsThatAre 34 = .ok (.iload_n 2, 1) := by decide +kernel
theorem dX3_loadsThatAre_35 : decode cX3_loadsThatAre 35 = .ok (.ireturn, 1) := by decide +kernel
theorem dX3_sumOverLads_0 : decode cX3_sumOverLads 0 = .ok (.iconst 0, 1) := by decide +kernel
theorem dX3_sumOverLads_1 : decode cX3_sumOverLads 1 = .ok (.istore_n 2, 1) := by decide +kernel
theorem dX3_sumOverLads_2 : decode cX3_sumOverLads 2 = .ok (.iconst 0, 1) := by decide +kernel
theorem dX3_sumOverLads_3 : decode cX3_sumOverLads 3 = .ok (.istore_n 3, 1) := by decide +kernel
theorem dX3_sumOverLads_4 : decode cX3_sumOverLads 4 = .ok (.iload_n 3, 1) := by decide +kernel
theorem dX3_sumOverLads_5 : decode cX3_sumOverLads 5 = .ok (.aload_n 0, 1) := by decide +kernel
theorem dX3_sumOverLads_6 : decode cX3_sumOverLads 6 = .ok (.getfield 31, 3) := by decide +kernel
theorem dX3_sumOverLads_9 : decode cX3_sumOverLads 9 = .ok (.if_icmp .ge 22, 3) := by decide +kernel
theorem dX3_sumOverLads_12 : decode cX3_sumOverLads 12 = .ok (.iload_n 2, 1) := by decide +kernel
theorem dX3_sumOverLads_13 : decode cX3_sumOverLads 13 = .ok (.aload_n 0, 1) := by decide +kernel
theorem dX3_sumOverLads_14 : decode cX3_sumOverLads 14 = .ok (.getfield 11, 3) := by decide +kernel
theorem dX3_sumOverLads_17 : decode cX3_sumOverLads 17 = .ok (.iload_n 3, 1) := by decide +kernel
theorem dX3_sumOverLads_18 : decode cX3_sumOverLads 18 = .ok (.aaload, 1) := by decide +kernel
theorem dX3_sumOverLads_19 : decode cX3_sumOverLads 19 = .ok (.iload_n 1, 1) := by decide +kernel
theorem dX3_sumOverLads_20 : decode cX3_sumOverLads 20 = .ok (.invokevirtual 91, 3) := by decide +kernel
theorem dX3_sumOverLads_23 : decode cX3_sumOverLads 23 = .ok (.iadd, 1) := by decide +kernel
theorem dX3_sumOverLads_24 : decode cX3_sumOverLads 24 = .ok (.istore_n 2, 1) := by decide +kernel
theorem dX3_sumOverLads_25 : decode cX3_sumOverLads 25 = .ok (.iinc 3 1, 3) := by decide +kernel
theorem dX3_sumOverLads_28 : decode cX3_sumOverLads 28 = .ok (.goto (-24), 3) := by decide +kernel
theorem dX3_sumOverLads_31 : decode cX3_sumOverLads 31 = .ok (.iload_n 2, 1) := by decide +kernel
theorem dX3_sumOverLads_32 : decode cX3_sumOverLads 32 = .ok (.ireturn, 1) := by decide +kernel
theorem dX3_sumOverLoads_0 : decode cX3_sumOverLoads 0 = .ok (.iconst 0, 1) := by decide +kernel
theorem dX3_sumOverLoads_1 : decode cX3_sumOverLoads 1 = .ok (.istore_n 2, 1) := by decide +kernel
theorem dX3_sumOverLoads_2 : decode cX3_sumOverLoads 2 = .ok (.iconst 0, 1) := by decide +kernel
theorem dX3_sumOverLoads_3 : decode cX3_sumOverLoads 3 = .ok (.istore_n 3, 1) := by decide +kernel
theorem dX3_sumOverLoads_4 : decode cX3_sumOverLoads 4 = .ok (.iload_n 3, 1) := by decide +kernel
theorem dX3_sumOverLoads_5 : decode cX3_sumOverLoads 5 = .ok (.aload_n 0, 1) := by decide +kernel
theorem dX3_sumOverLoads_6 : decode cX3_sumOverLoads 6 = .ok (.getfield 35, 3) := by decide +kernel
theorem dX3_sumOverLoads_9 : decode cX3_sumOverLoads 9 = .ok (.if_icmp .ge 22, 3) := by decide +kernel
theorem dX3_sumOverLoads_12 : decode cX3_sumOverLoads 12 = .ok (.iload_n 2, 1) := by decide +kernel
theorem dX3_sumOverLoads_13 : decode cX3_sumOverLoads 13 = .ok (.aload_n 0, 1) := by decide +kernel
theorem dX3_sumOverLoads_14 : decode cX3_sumOverLoads 14 = .ok (.getfield 19, 3) := by decide +kernel
theorem dX3_sumOverLoads_17 : decode cX3_sumOverLoads 17 = .ok (.iload_n 3, 1) := by decide +kernel
theorem dX3_sumOverLoads_18 : decode cX3_sumOverLoads 18 = .ok (.aaload, 1) := by decide +kernel
theorem dX3_sumOverLoads_19 : decode cX3_sumOverLoads 19 = .ok (.iload_n 1, 1) := by decide +kernel
theorem dX3_sumOverLoads_20 : decode cX3_sumOverLoads 20 = .ok (.invokevirtual 94, 3) := by decide +kernel
theorem dX3_sumOverLoads_23 : decode cX3_sumOverLoads 23 = .ok (.iadd, 1) := by decide +kernel
theorem dX3_sumOverLoads_24 : decode cX3_sumOverLoads 24 = .ok (.istore_n 2, 1) := by decide +kernel
theorem dX3_sumOverLoads_25 : decode cX3_sumOverLoads 25 = .ok (.iinc 3 1, 3) := by decide +kernel
theorem dX3_sumOverLoads_28 : decode cX3_sumOverLoads 28 = .ok (.goto (-24), 3) := by decide +kernel
theorem dX3_sumOverLoads_31 : decode cX3_sumOverLoads 31 = .ok (.iload_n 2, 1) := by decide +kernel
theorem dX3_sumOverLoads_32 : decode cX3_sumOverLoads 32 = .ok (.ireturn, 1) := by decide +kernel
theorem dX3_sleepers_0 : decode cX3_sleepers 0 = .ok (.iconst 0, 1) := by decide +kernel
theorem dX3_sleepers_1 : decode cX3_sleepers 1 = .ok (.istore_n 1, 1) := by decide +kernel
theorem dX3_sleepers_2 : decode cX3_sleepers 2 = .ok (.iconst 0, 1) := by decide +kernel
theorem dX3_sleepers_3 : decode cX3_sleepers 3 = .ok (.istore_n 2, 1) := by decide +kernel
theorem dX3_sleepers_4 : decode cX3_sleepers 4 = .ok (.iload_n 2, 1) := by decide +kernel
theorem dX3_sleepers_5 : decode cX3_sleepers 5 = .ok (.aload_n 0, 1) := by decide +kernel
theorem dX3_sleepers_6 : decode cX3_sleepers 6 = .ok (.getfield 31, 3) := by decide +kernel
theorem dX3_sleepers_9 : decode cX3_sleepers 9 = .ok (.if_icmp .ge 24, 3) := by decide +kernel
theorem dX3_sleepers_12 : decode cX3_sleepers 12 = .ok (.aload_n 0, 1) := by decide +kernel
theorem dX3_sleepers_13 : decode cX3_sleepers 13 = .ok (.getfield 11, 3) := by decide +kernel
theorem dX3_sleepers_16 : decode cX3_sleepers 16 = .ok (.iload_n 2, 1) := by decide +kernel
theorem dX3_sleepers_17 : decode cX3_sleepers 17 = .ok (.aaload, 1) := by decide +kernel
theorem dX3_sleepers_18 : decode cX3_sleepers 18 = .ok (.getfield 70, 3) := by decide +kernel
theorem dX3_sleepers_21 : decode cX3_sleepers 21 = .ok (.ifCond .eq 6, 3) := by decide +kernel
theorem dX3_sleepers_24 : decode cX3_sleepers 24 = .ok (.iinc 1 1, 3) := by decide +kernel
theorem dX3_sleepers_27 : decode cX3_sleepers 27 = .ok (.iinc 2 1, 3) := by decide +kernel
theorem dX3_sleepers_30 : decode cX3_sleepers 30 = .ok (.goto (-26), 3) := by decide +kernel
theorem dX3_sleepers_33 : decode cX3_sleepers 33 = .ok (.iload_n 1, 1) := by decide +kernel
theorem dX3_sleepers_34 : decode cX3_sleepers 34 = .ok (.ireturn, 1) := by decide +kernel
theorem dX3_balesOf_0 : decode cX3_balesOf 0 = .ok (.iload_n 1, 1) := by decide +kernel
theorem dX3_balesOf_1 : decode cX3_balesOf 1 = .ok (.ifCond .lt 19, 3) := by decide +kernel
theorem dX3_balesOf_4 : decode cX3_balesOf 4 = .ok (.iload_n 1, 1) := by decide +kernel
theorem dX3_balesOf_5 : decode cX3_balesOf 5 = .ok (.sipush 320, 3) := by decide +kernel
theorem dX3_balesOf_8 : decode cX3_balesOf 8 = .ok (.if_icmp .ge 12, 3) := by decide +kernel
theorem dX3_balesOf_11 : decode cX3_balesOf 11 = .ok (.aload_n 0, 1) := by decide +kernel
theorem dX3_balesOf_12 : decode cX3_balesOf 12 = .ok (.getfield 23, 3) := by decide +kernel
theorem dX3_balesOf_15 : decode cX3_balesOf 15 = .ok (.iload_n 1, 1) := by decide +kernel
theorem dX3_balesOf_16 : decode cX3_balesOf 16 = .ok (.iaload, 1) := by decide +kernel
theorem dX3_balesOf_17 : decode cX3_balesOf 17 = .ok (.goto 4, 3) := by decide +kernel
theorem dX3_balesOf_20 : decode cX3_balesOf 20 = .ok (.iconst 0, 1) := by decide +kernel
theorem dX3_balesOf_21 : decode cX3_balesOf 21 = .ok (.ireturn, 1) := by decide +kernel
theorem dX3_setBales_0 : decode cX3_setBales 0 = .ok (.iload_n 1, 1) := by decide +kernel
theorem dX3_setBales_1 : decode cX3_setBales 1 = .ok (.ifCond .lt 17, 3) := by decide +kernel
theorem dX3_setBales_4 : decode cX3_setBales 4 = .ok (.iload_n 1, 1) := by decide +kernel
theorem dX3_setBales_5 : decode cX3_setBales 5 = .ok (.sipush 320, 3) := by decide +kernel
theorem dX3_setBales_8 : decode cX3_setBales 8 = .ok (.if_icmp .ge 10, 3) := by decide +kernel
theorem dX3_setBales_11 : decode cX3_setBales 11 = .ok (.aload_n 0, 1) := by decide +kernel
theorem dX3_setBales_12 : decode cX3_setBales 12 = .ok (.getfield 23, 3) := by decide +kernel
theorem dX3_setBales_15 : decode cX3_setBales 15 = .ok (.iload_n 1, 1) := by decide +kernel
theorem dX3_setBales_16 : decode cX3_setBales 16 = .ok (.iload_n 2, 1) := by decide +kernel
theorem dX3_setBales_17 : decode cX3_setBales 17 = .ok (.iastore, 1) := by decide +kernel
theorem dX3_setBales_18 : decode cX3_setBales 18 = .ok (.return_, 1) := by decide +kernel
theorem dX3_loadOf_0 : decode cX3_loadOf 0 = .ok (.aload_n 0, 1) := by decide +kernel
theorem dX3_loadOf_1 : decode cX3_loadOf 1 = .ok (.getfield 19, 3) := by decide +kernel
theorem dX3_loadOf_4 : decode cX3_loadOf 4 = .ok (.iload_n 1, 1) := by decide +kernel
theorem dX3_loadOf_5 : decode cX3_loadOf 5 = .ok (.ifCond .lt 17, 3) := by decide +kernel
theorem dX3_loadOf_8 : decode cX3_loadOf 8 = .ok (.iload_n 1, 1) := by decide +kernel
theorem dX3_loadOf_9 : decode cX3_loadOf 9 = .ok (.sipush 320, 3) := by decide +kernel
theorem dX3_loadOf_12 : decode cX3_loadOf 12 = .ok (.if_icmp .ge 10, 3) := by decide +kernel
theorem dX3_loadOf_15 : decode cX3_loadOf 15 = .ok (.iload_n 1, 1) := by decide +kernel
theorem dX3_loadOf_16 : decode cX3_loadOf 16 = .ok (.bipush 32, 2) := by decide +kernel
theorem dX3_loadOf_18 : decode cX3_loadOf 18 = .ok (.idiv, 1) := by decide +kernel
theorem dX3_loadOf_19 : decode cX3_loadOf 19 = .ok (.goto 4, 3) := by decide +kernel
theorem dX3_loadOf_22 : decode cX3_loadOf 22 = .ok (.iconst 0, 1) := by decide +kernel
theorem dX3_loadOf_23 : decode cX3_loadOf 23 = .ok (.aaload, 1) := by decide +kernel
theorem dX3_loadOf_24 : decode cX3_loadOf 24 = .ok (.areturn, 1) := by decide +kernel
theorem dX3_victimOf_0 : decode cX3_victimOf 0 = .ok (.aload_n 1, 1) := by decide +kernel
theorem dX3_victimOf_1 : decode cX3_victimOf 1 = .ok (.getfield 95, 3) := by decide +kernel
theorem dX3_victimOf_4 : decode cX3_victimOf 4 = .ok (.lookupswitch 40 #[(1, 28), (2, 34)], 28) := by decide +kernel
theorem dX3_victimOf_32 : decode cX3_victimOf 32 = .ok (.aload_n 0, 1) := by decide +kernel
theorem dX3_victimOf_33 : decode cX3_victimOf 33 = .ok (.aload_n 1, 1) := by decide +kernel
theorem dX3_victimOf_34 : decode cX3_victimOf 34 = .ok (.invokevirtual 98, 3) := by decide +kernel
theorem dX3_victimOf_37 : decode cX3_victimOf 37 = .ok (.ireturn, 1) := by decide +kernel
theorem dX3_victimOf_38 : decode cX3_victimOf 38 = .ok (.aload_n 0, 1) := by decide +kernel
theorem dX3_victimOf_39 : decode cX3_victimOf 39 = .ok (.aload_n 1, 1) := by decide +kernel
theorem dX3_victimOf_40 : decode cX3_victimOf 40 = .ok (.invokevirtual 102, 3) := by decide +kernel
theorem dX3_victimOf_43 : decode cX3_victimOf 43 = .ok (.ireturn, 1) := by decide +kernel
theorem dX3_victimOf_44 : decode cX3_victimOf 44 = .ok (.aload_n 0, 1) := by decide +kernel
theorem dX3_victimOf_45 : decode cX3_victimOf 45 = .ok (.aload_n 1, 1) := by decide +kernel
theorem dX3_victimOf_46 : decode cX3_victimOf 46 = .ok (.invokevirtual 105, 3) := by decide +kernel
theorem dX3_victimOf_49 : decode cX3_victimOf 49 = .ok (.ireturn, 1) := by decide +kernel
theorem dX3_canBeRobbed_0 : decode cX3_canBeRobbed 0 = .ok (.aload_n 1, 1) := by decide +kernel
theorem dX3_canBeRobbed_1 : decode cX3_canBeRobbed 1 = .ok (.aload_n 2, 1) := by decide +kernel
theorem dX3_canBeRobbed_2 : decode cX3_canBeRobbed 2 = .ok (.if_acmp .eq 17, 3) := by decide +kernel
theorem dX3_canBeRobbed_5 : decode cX3_canBeRobbed 5 = .ok (.aload_n 1, 1) := by decide +kernel
theorem dX3_canBeRobbed_6 : decode cX3_canBeRobbed 6 = .ok (.getfield 108, 3) := by decide +kernel
theorem dX3_canBeRobbed_9 : decode cX3_canBeRobbed 9 = .ok (.getfield 112, 3) := by decide +kernel
theorem dX3_canBeRobbed_12 : decode cX3_canBeRobbed 12 = .ok (.ifCond .le 7, 3) := by decide +kernel
theorem dX3_canBeRobbed_15 : decode cX3_canBeRobbed 15 = .ok (.iconst 1, 1) := by decide +kernel
theorem dX3_canBeRobbed_16 : decode cX3_canBeRobbed 16 = .ok (.goto 4, 3) := by decide +kernel
theorem dX3_canBeRobbed_19 : decode cX3_canBeRobbed 19 = .ok (.iconst 0, 1) := by decide +kernel
theorem dX3_canBeRobbed_20 : decode cX3_canBeRobbed 20 = .ok (.ireturn, 1) := by decide +kernel
theorem dX3_nextWithHay_0 : decode cX3_nextWithHay 0 = .ok (.iconst 1, 1) := by decide +kernel
theorem dX3_nextWithHay_1 : decode cX3_nextWithHay 1 = .ok (.istore_n 2, 1) := by decide +kernel
theorem dX3_nextWithHay_2 : decode cX3_nextWithHay 2 = .ok (.iload_n 2, 1) := by decide +kernel
theorem dX3_nextWithHay_3 : decode cX3_nextWithHay 3 = .ok (.aload_n 0, 1) := by decide +kernel
theorem dX3_nextWithHay_4 : decode cX3_nextWithHay 4 = .ok (.getfield 31, 3) := by decide +kernel
theorem dX3_nextWithHay_7 : decode cX3_nextWithHay 7 = .ok (.if_icmp .ge 47, 3) := by decide +kernel
theorem dX3_nextWithHay_10 : decode cX3_nextWithHay 10 = .ok (.aload_n 1, 1) := by decide +kernel
theorem dX3_nextWithHay_11 : decode cX3_nextWithHay 11 = .ok (.getfield 117, 3) := by decide +kernel
theorem dX3_nextWithHay_14 : decode cX3_nextWithHay 14 = .ok (.iload_n 2, 1) := by decide +kernel
theorem dX3_nextWithHay_15 : decode cX3_nextWithHay 15 = .ok (.iadd, 1) := by decide +kernel
theorem dX3_nextWithHay_16 : decode cX3_nextWithHay 16 = .ok (.istore_n 3, 1) := by decide +kernel
theorem dX3_nextWithHay_17 : decode cX3_nextWithHay 17 = .ok (.iload_n 3, 1) := by decide +kernel
theorem dX3_nextWithHay_18 : decode cX3_nextWithHay 18 = .ok (.aload_n 0, 1) := by decide +kernel
theorem dX3_nextWithHay_19 : decode cX3_nextWithHay 19 = .ok (.getfield 31, 3) := by decide +kernel
theorem dX3_nextWithHay_22 : decode cX3_nextWithHay 22 = .ok (.if_icmp .lt 10, 3) := by decide +kernel
theorem dX3_nextWithHay_25 : decode cX3_nextWithHay 25 = .ok (.iload_n 3, 1) := by decide +kernel
theorem dX3_nextWithHay_26 : decode cX3_nextWithHay 26 = .ok (.aload_n 0, 1) := by decide +kernel
theorem dX3_nextWithHay_27 : decode cX3_nextWithHay 27 = .ok (.getfield 31, 3) := by decide +kernel
theorem dX3_nextWithHay_30 : decode cX3_nextWithHay 30 = .ok (.isub, 1) := by decide +kernel
theorem dX3_nextWithHay_31 : decode cX3_nextWithHay 31 = .ok (.istore_n 3, 1) := by decide +kernel
theorem dX3_nextWithHay_32 : decode cX3_nextWithHay 32 = .ok (.aload_n 0, 1) := by decide +kernel
theorem dX3_nextWithHay_33 : decode cX3_nextWithHay 33 = .ok (.aload_n 0, 1) := by decide +kernel
theorem dX3_nextWithHay_34 : decode cX3_nextWithHay 34 = .ok (.getfield 11, 3) := by decide +kernel
theorem dX3_nextWithHay_37 : decode cX3_nextWithHay 37 = .ok (.iload_n 3, 1) := by decide +kernel
theorem dX3_nextWithHay_38 : decode cX3_nextWithHay 38 = .ok (.aaload, 1) := by decide +kernel
theorem dX3_nextWithHay_39 : decode cX3_nextWithHay 39 = .ok (.aload_n 1, 1) := by decide +kernel
theorem dX3_nextWithHay_40 : decode cX3_nextWithHay 40 = .ok (.invokevirtual 120, 3) := by decide +kernel
theorem dX3_nextWithHay_43 : decode cX3_nextWithHay 43 = .ok (.ifCond .eq 5, 3) := by decide +kernel
theorem dX3_nextWithHay_46 : decode cX3_nextWithHay 46 = .ok (.iload_n 3, 1) := by decide +kernel
theorem dX3_nextWithHay_47 : decode cX3_nextWithHay 47 = .ok (.ireturn, 1) := by decide +kernel
theorem dX3_nextWithHay_48 : decode cX3_nextWithHay 48 = .ok (.iinc 2 1, 3) := by decide +kernel
theorem dX3_nextWithHay_51 : decode cX3_nextWithHay 51 = .ok (.goto (-49), 3) := by decide +kernel
theorem dX3_nextWithHay_54 : decode cX3_nextWithHay 54 = .ok (.iconst (-1), 1) := by decide +kernel
theorem dX3_nextWithHay_55 : decode cX3_nextWithHay 55 = .ok (.ireturn, 1) := by decide +kernel
theorem dX3_fullestCart_0 : decode cX3_fullestCart 0 = .ok (.iconst (-1), 1) := by decide +kernel
theorem dX3_fullestCart_1 : decode cX3_fullestCart 1 = .ok (.istore_n 2, 1) := by decide +kernel
theorem dX3_fullestCart_2 : decode cX3_fullestCart 2 = .ok (.iconst 0, 1) := by decide +kernel
theorem dX3_fullestCart_3 : decode cX3_fullestCart 3 = .ok (.istore_n 3, 1) := by decide +kernel
theorem dX3_fullestCart_4 : decode cX3_fullestCart 4 = .ok (.iconst 0, 1) := by decide +kernel
theorem dX3_fullestCart_5 : decode cX3_fullestCart 5 = .ok (.istore 4, 2) := by decide +kernel
theorem dX3_fullestCart_7 : decode cX3_fullestCart 7 = .ok (.iload 4, 2) := by decide +kernel
theorem dX3_fullestCart_9 : decode cX3_fullestCart 9 = .ok (.aload_n 0, 1) := by decide +kernel
theorem dX3_fullestCart_10 : decode cX3_fullestCart 10 = .ok (.getfield 31, 3) := by decide +kernel
theorem dX3_fullestCart_13 : decode cX3_fullestCart 13 = .ok (.if_icmp .ge 58, 3) := by decide +kernel
theorem dX3_fullestCart_16 : decode cX3_fullestCart 16 = .ok (.aload_n 0, 1) := by decide +kernel
theorem dX3_fullestCart_17 : decode cX3_fullestCart 17 = .ok (.aload_n 0, 1) := by decide +kernel
theorem dX3_fullestCart_18 : decode cX3_fullestCart 18 = .ok (.getfield 11, 3) := by decide +kernel
theorem dX3_fullestCart_21 : decode cX3_fullestCart 21 = .ok (.iload 4, 2) := by decide +kernel
theorem dX3_fullestCart_23 : decode cX3_fullestCart 23 = .ok (.aaload, 1) := by decide +kernel
theorem dX3_fullestCart_24 : decode cX3_fullestCart 24 = .ok (.aload_n 1, 1) := by decide +kernel
theorem dX3_fullestCart_25 : decode cX3_fullestCart 25 = .ok (.invokevirtual 120, 3) := by decide +kernel
theorem dX3_fullestCart_28 : decode cX3_fullestCart 28 = .ok (.ifCond .eq 37, 3) := by decide +kernel
theorem dX3_fullestCart_31 : decode cX3_fullestCart 31 = .ok (.aload_n 0, 1) := by decide +kernel
theorem dX3_fullestCart_32 : decode cX3_fullestCart 32 = .ok (.getfield 11, 3) := by decide +kernel
theorem dX3_fullestCart_35 : decode cX3_fullestCart 35 = .ok (.iload 4, 2) := by decide +kernel
theorem dX3_fullestCart_37 : decode cX3_fullestCart 37 = .ok (.aaload, 1) := by decide +kernel
theorem dX3_fullestCart_38 : decode cX3_fullestCart 38 = .ok (.getfield 108, 3) := by decide +kernel
theorem dX3_fullestCart_41 : decode cX3_fullestCart 41 = .ok (.getfield 112, 3) := by decide +kernel
theorem dX3_fullestCart_44 : decode cX3_fullestCart 44 = .ok (.iload_n 3, 1) := by decide +kernel
theorem dX3_fullestCart_45 : decode cX3_fullestCart 45 = .ok (.if_icmp .le 20, 3) := by decide +kernel
theorem dX3_fullestCart_48 : decode cX3_fullestCart 48 = .ok (.aload_n 0, 1) := by decide +kernel
theorem dX3_fullestCart_49 : decode cX3_fullestCart 49 = .ok (.getfield 11, 3) := by decide +kernel
theorem dX3_fullestCart_52 : decode cX3_fullestCart 52 = .ok (.iload 4, 2) := by decide +kernel
theorem dX3_fullestCart_54 : decode cX3_fullestCart 54 = .ok (.aaload, 1) := by decide +kernel
theorem dX3_fullestCart_55 : decode cX3_fullestCart 55 = .ok (.getfield 108, 3) := by decide +kernel
theorem dX3_fullestCart_58 : decode cX3_fullestCart 58 = .ok (.getfield 112, 3) := by decide +kernel
theorem dX3_fullestCart_61 : decode cX3_fullestCart 61 = .ok (.istore_n 3, 1) := by decide +kernel
theorem dX3_fullestCart_62 : decode cX3_fullestCart 62 = .ok (.iload 4, 2) := by decide +kernel
theorem dX3_fullestCart_64 : decode cX3_fullestCart 64 = .ok (.istore_n 2, 1) := by decide +kernel
theorem dX3_fullestCart_65 : decode cX3_fullestCart 65 = .ok (.iinc 4 1, 3) := by decide +kernel
theorem dX3_fullestCart_68 : decode cX3_fullestCart 68 = .ok (.goto (-61), 3) := by decide +kernel
theorem dX3_fullestCart_71 : decode cX3_fullestCart 71 = .ok (.iload_n 2, 1) := by decide +kernel
theorem dX3_fullestCart_72 : decode cX3_fullestCart 72 = .ok (.ireturn, 1) := by decide +kernel
theorem dX3_greatestFarHeap_0 : decode cX3_greatestFarHeap 0 = .ok (.iconst (-1), 1) := by decide +kernel
theorem dX3_greatestFarHeap_1 : decode cX3_greatestFarHeap 1 = .ok (.istore_n 2, 1) := by decide +kernel
theorem dX3_greatestFarHeap_2 : decode cX3_greatestFarHeap 2 = .ok (.iconst 0, 1) := by decide +kernel
theorem dX3_greatestFarHeap_3 : decode cX3_greatestFarHeap 3 = .ok (.istore_n 3, 1) := by decide +kernel
theorem dX3_greatestFarHeap_4 : decode cX3_greatestFarHeap 4 = .ok (.iconst 0, 1) := by decide +kernel
theorem dX3_greatestFarHeap_5 : decode cX3_greatestFarHeap 5 = .ok (.istore 4, 2) := by decide +kernel
theorem dX3_greatestFarHeap_7 : decode cX3_greatestFarHeap 7 = .ok (.iload 4, 2) := by decide +kernel
theorem dX3_greatestFarHeap_9 : decode cX3_greatestFarHeap 9 = .ok (.aload_n 0, 1) := by decide +kernel
theorem dX3_greatestFarHeap_10 : decode cX3_greatestFarHeap 10 = .ok (.getfield 31, 3) := by decide +kernel
theorem dX3_greatestFarHeap_13 : decode cX3_greatestFarHeap 13 = .ok (.if_icmp .ge 55, 3) := by decide +kernel
theorem dX3_greatestFarHeap_16 : decode cX3_greatestFarHeap 16 = .ok (.aload_n 0, 1) := by decide +kernel
theorem dX3_greatestFarHeap_17 : decode cX3_greatestFarHeap 17 = .ok (.aload_n 0, 1) := by decide +kernel
theorem dX3_greatestFarHeap_18 : decode cX3_greatestFarHeap 18 = .ok (.getfield 11, 3) := by decide +kernel
theorem dX3_greatestFarHeap_21 : decode cX3_greatestFarHeap 21 = .ok (.iload 4, 2) := by decide +kernel
theorem dX3_greatestFarHeap_23 : decode cX3_greatestFarHeap 23 = .ok (.aaload, 1) := by decide +kernel
theorem dX3_greatestFarHeap_24 : decode cX3_greatestFarHeap 24 = .ok (.getfield 108, 3) := by decide +kernel
theorem dX3_greatestFarHeap_27 : decode cX3_greatestFarHeap 27 = .ok (.invokevirtual 124, 3) := by decide +kernel
theorem dX3_greatestFarHeap_30 : decode cX3_greatestFarHeap 30 = .ok (.invokevirtual 127, 3) := by decide +kernel
theorem dX3_greatestFarHeap_33 : decode cX3_greatestFarHeap 33 = .ok (.istore 5, 2) := by decide +kernel
theorem dX3_greatestFarHeap_35 : decode cX3_greatestFarHeap 35 = .ok (.aload_n 0, 1) := by decide +kernel
theorem dX3_greatestFarHeap_36 : decode cX3_greatestFarHeap 36 = .ok (.aload_n 0, 1) := by decide +kernel
theorem dX3_greatestFarHeap_37 : decode cX3_greatestFarHeap 37 = .ok (.getfield 11, 3) := by decide +kernel
theorem dX3_greatestFarHeap_40 : decode cX3_greatestFarHeap 40 = .ok (.iload 4, 2) := by decide +kernel
theorem dX3_greatestFarHeap_42 : decode cX3_greatestFarHeap 42 = .ok (.aaload, 1) := by decide +kernel
theorem dX3_greatestFarHeap_43 : decode cX3_greatestFarHeap 43 = .ok (.aload_n 1, 1) := by decide +kernel
theorem dX3_greatestFarHeap_44 : decode cX3_greatestFarHeap 44 = .ok (.invokevirtual 120, 3) := by decide +kernel
theorem dX3_greatestFarHeap_47 : decode cX3_greatestFarHeap 47 = .ok (.ifCond .eq 15, 3) := by decide +kernel
theorem dX3_greatestFarHeap_50 : decode cX3_greatestFarHeap 50 = .ok (.iload 5, 2) := by decide +kernel
theorem dX3_greatestFarHeap_52 : decode cX3_greatestFarHeap 52 = .ok (.iload_n 3, 1) := by decide +kernel
theorem dX3_greatestFarHeap_53 : decode cX3_greatestFarHeap 53 = .ok (.if_icmp .le 9, 3) := by decide +kernel
theorem dX3_greatestFarHeap_56 : decode cX3_greatestFarHeap 56 = .ok (.iload 5, 2) := by decide +kernel
theorem dX3_greatestFarHeap_58 : decode cX3_greatestFarHeap 58 = .ok (.istore_n 3, 1) := by decide +kernel
theorem dX3_greatestFarHeap_59 : decode cX3_greatestFarHeap 59 = .ok (.iload 4, 2) := by decide +kernel
theorem dX3_greatestFarHeap_61 : decode cX3_greatestFarHeap 61 = .ok (.istore_n 2, 1) := by decide +kernel
theorem dX3_greatestFarHeap_62 : decode cX3_greatestFarHeap 62 = .ok (.iinc 4 1, 3) := by decide +kernel
theorem dX3_greatestFarHeap_65 : decode cX3_greatestFarHeap 65 = .ok (.goto (-58), 3) := by decide +kernel
theorem dX3_greatestFarHeap_68 : decode cX3_greatestFarHeap 68 = .ok (.iload_n 2, 1) := by decide +kernel
theorem dX3_greatestFarHeap_69 : decode cX3_greatestFarHeap 69 = .ok (.ireturn, 1) := by decide +kernel
theorem dX3_runMinutes_0 : decode cX3_runMinutes 0 = .ok (.iconst 0, 1) := by decide +kernel
theorem dX3_runMinutes_1 : decode cX3_runMinutes 1 = .ok (.istore_n 2, 1) := by decide +kernel
theorem dX3_runMinutes_2 : decode cX3_runMinutes 2 = .ok (.iload_n 2, 1) := by decide +kernel
theorem dX3_runMinutes_3 : decode cX3_runMinutes 3 = .ok (.iload_n 1, 1) := by decide +kernel
theorem dX3_runMinutes_4 : decode cX3_runMinutes 4 = .ok (.if_icmp .ge 57, 3) := by decide +kernel
theorem dX3_runMinutes_7 : decode cX3_runMinutes 7 = .ok (.iconst 0, 1) := by decide +kernel
theorem dX3_runMinutes_8 : decode cX3_runMinutes 8 = .ok (.istore_n 3, 1) := by decide +kernel
theorem dX3_runMinutes_9 : decode cX3_runMinutes 9 = .ok (.iload_n 3, 1) := by decide +kernel
theorem dX3_runMinutes_10 : decode cX3_runMinutes 10 = .ok (.aload_n 0, 1) := by decide +kernel
theorem dX3_runMinutes_11 : decode cX3_runMinutes 11 = .ok (.getfield 31, 3) := by decide +kernel
theorem dX3_runMinutes_14 : decode cX3_runMinutes 14 = .ok (.if_icmp .ge 31, 3) := by decide +kernel
theorem dX3_runMinutes_17 : decode cX3_runMinutes 17 = .ok (.aload_n 0, 1) := by decide +kernel
theorem dX3_runMinutes_18 : decode cX3_runMinutes 18 = .ok (.getfield 11, 3) := by decide +kernel
theorem dX3_runMinutes_21 : decode cX3_runMinutes 21 = .ok (.iload_n 3, 1) := by decide +kernel
theorem dX3_runMinutes_22 : decode cX3_runMinutes 22 = .ok (.aaload, 1) := by decide +kernel
theorem dX3_runMinutes_23 : decode cX3_runMinutes 23 = .ok (.getfield 70, 3) := by decide +kernel
theorem dX3_runMinutes_26 : decode cX3_runMinutes 26 = .ok (.ifCond .ne 13, 3) := by decide +kernel
theorem dX3_runMinutes_29 : decode cX3_runMinutes 29 = .ok (.aload_n 0, 1) := by decide +kernel
theorem dX3_runMinutes_30 : decode cX3_runMinutes 30 = .ok (.aload_n 0, 1) := by decide +kernel
theorem dX3_runMinutes_31 : decode cX3_runMinutes 31 = .ok (.getfield 11, 3) := by decide +kernel
theorem dX3_runMinutes_34 : decode cX3_runMinutes 34 = .ok (.iload_n 3, 1) := by decide +kernel
theorem dX3_runMinutes_35 : decode cX3_runMinutes 35 = .ok (.aaload, 1) := by decide +kernel
theorem dX3_runMinutes_36 : decode cX3_runMinutes 36 = .ok (.invokevirtual 130, 3) := by decide +kernel
theorem dX3_runMinutes_39 : decode cX3_runMinutes 39 = .ok (.iinc 3 1, 3) := by decide +kernel
theorem dX3_runMinutes_42 : decode cX3_runMinutes 42 = .ok (.goto (-33), 3) := by decide +kernel
theorem dX3_runMinutes_45 : decode cX3_runMinutes 45 = .ok (.aload_n 0, 1) := by decide +kernel
theorem dX3_runMinutes_46 : decode cX3_runMinutes 46 = .ok (.dup, 1) := by decide +kernel
theorem dX3_runMinutes_47 : decode cX3_runMinutes 47 = .ok (.getfield 38, 3) := by decide +kernel
theorem dX3_runMinutes_50 : decode cX3_runMinutes 50 = .ok (.iconst 1, 1) := by decide +kernel
theorem dX3_runMinutes_51 : decode cX3_runMinutes 51 = .ok (.iadd, 1) := by decide +kernel
theorem dX3_runMinutes_52 : decode cX3_runMinutes 52 = .ok (.putfield 38, 3) := by decide +kernel
theorem dX3_runMinutes_55 : decode cX3_runMinutes 55 = .ok (.iinc 2 1, 3) := by decide +kernel
theorem dX3_runMinutes_58 : decode cX3_runMinutes 58 = .ok (.goto (-56), 3) := by decide +kernel
theorem dX3_runMinutes_61 : decode cX3_runMinutes 61 = .ok (.return_, 1) := by decide +kernel
theorem dX3_takeTurn_0 : decode cX3_takeTurn 0 = .ok (.aload_n 1, 1) := by decide +kernel
theorem dX3_takeTurn_1 : decode cX3_takeTurn 1 = .ok (.getfield 134, 3) := by decide +kernel
theorem dX3_takeTurn_4 : decode cX3_takeTurn 4 = .ok (.iconst (-1), 1) := by decide +kernel
theorem dX3_takeTurn_5 : decode cX3_takeTurn 5 = .ok (.if_icmp .ne 16, 3) := by decide +kernel
theorem dX3_takeTurn_8 : decode cX3_takeTurn 8 = .ok (.aload_n 1, 1) := by decide +kernel
theorem dX3_takeTurn_9 : decode cX3_takeTurn 9 = .ok (.getfield 137, 3) := by decide +kernel
theorem dX3_takeTurn_12 : decode cX3_takeTurn 12 = .ok (.iconst (-1), 1) := by decide +kernel
theorem dX3_takeTurn_13 : decode cX3_takeTurn 13 = .ok (.if_icmp .ne 8, 3) := by decide +kernel
theorem dX3_takeTurn_16 : decode cX3_takeTurn 16 = .ok (.aload_n 0, 1) := by decide +kernel
theorem dX3_takeTurn_17 : decode cX3_takeTurn 17 = .ok (.aload_n 1, 1) := by decide +kernel
theorem dX3_takeTurn_18 : decode cX3_takeTurn 18 = .ok (.invokevirtual 140, 3) := by decide +kernel
theorem dX3_takeTurn_21 : decode cX3_takeTurn 21 = .ok (.iconst 1, 1) := by decide +kernel
theorem dX3_takeTurn_22 : decode cX3_takeTurn 22 = .ok (.istore_n 2, 1) := by decide +kernel
theorem dX3_takeTurn_23 : decode cX3_takeTurn 23 = .ok (.aload_n 1, 1) := by decide +kernel
theorem dX3_takeTurn_24 : decode cX3_takeTurn 24 = .ok (.getfield 134, 3) := by decide +kernel
theorem dX3_takeTurn_27 : decode cX3_takeTurn 27 = .ok (.iconst (-1), 1) := by decide +kernel
theorem dX3_takeTurn_28 : decode cX3_takeTurn 28 = .ok (.if_icmp .eq 11, 3) := by decide +kernel
theorem dX3_takeTurn_31 : decode cX3_takeTurn 31 = .ok (.aload_n 0, 1) := by decide +kernel
theorem dX3_takeTurn_32 : decode cX3_takeTurn 32 = .ok (.aload_n 1, 1) := by decide +kernel
theorem dX3_takeTurn_33 : decode cX3_takeTurn 33 = .ok (.invokevirtual 143, 3) := by decide +kernel
theorem dX3_takeTurn_36 : decode cX3_takeTurn 36 = .ok (.goto 41, 3) := by decide +kernel
theorem dX3_takeTurn_39 : decode cX3_takeTurn 39 = .ok (.aload_n 1, 1) := by decide +kernel
theorem dX3_takeTurn_40 : decode cX3_takeTurn 40 = .ok (.getfield 137, 3) := by decide +kernel
theorem dX3_takeTurn_43 : decode cX3_takeTurn 43 = .ok (.iconst (-1), 1) := by decide +kernel
theorem dX3_takeTurn_44 : decode cX3_takeTurn 44 = .ok (.if_icmp .eq 11, 3) := by decide +kernel
theorem dX3_takeTurn_47 : decode cX3_takeTurn 47 = .ok (.aload_n 0, 1) := by decide +kernel
theorem dX3_takeTurn_48 : decode cX3_takeTurn 48 = .ok (.aload_n 1, 1) := by decide +kernel
theorem dX3_takeTurn_49 : decode cX3_takeTurn 49 = .ok (.invokevirtual 146, 3) := by decide +kernel
theorem dX3_takeTurn_52 : decode cX3_takeTurn 52 = .ok (.goto 25, 3) := by decide +kernel
theorem dX3_takeTurn_55 : decode cX3_takeTurn 55 = .ok (.aload_n 0, 1) := by decide +kernel
theorem dX3_takeTurn_56 : decode cX3_takeTurn 56 = .ok (.aload_n 1, 1) := by decide +kernel
theorem dX3_takeTurn_57 : decode cX3_takeTurn 57 = .ok (.invokevirtual 149, 3) := by decide +kernel
theorem dX3_takeTurn_60 : decode cX3_takeTurn 60 = .ok (.ifCond .ne 11, 3) := by decide +kernel
theorem dX3_takeTurn_63 : decode cX3_takeTurn 63 = .ok (.aload_n 0, 1) := by decide +kernel
theorem dX3_takeTurn_64 : decode cX3_takeTurn 64 = .ok (.aload_n 1, 1) := by decide +kernel
theorem dX3_takeTurn_65 : decode cX3_takeTurn 65 = .ok (.invokevirtual 153, 3) := by decide +kernel
theorem dX3_takeTurn_68 : decode cX3_takeTurn 68 = .ok (.ifCond .eq 7, 3) := by decide +kernel
theorem dX3_takeTurn_71 : decode cX3_takeTurn 71 = .ok (.iconst 1, 1) := by decide +kernel
theorem dX3_takeTurn_72 : decode cX3_takeTurn 72 = .ok (.goto 4, 3) := by decide +kernel
theorem dX3_takeTurn_75 : decode cX3_takeTurn 75 = .ok (.iconst 0, 1) := by decide +kernel
theorem dX3_takeTurn_76 : decode cX3_takeTurn 76 = .ok (.istore_n 2, 1) := by decide +kernel
theorem dX3_takeTurn_77 : decode cX3_takeTurn 77 = .ok (.iload_n 2, 1) := by decide +kernel
theorem dX3_takeTurn_78 : decode cX3_takeTurn 78 = .ok (.ifCond .eq 11, 3) := by decide +kernel
theorem dX3_takeTurn_81 : decode cX3_takeTurn 81 = .ok (.aload_n 1, 1) := by decide +kernel
theorem dX3_takeTurn_82 : decode cX3_takeTurn 82 = .ok (.iconst 0, 1) := by decide +kernel
theorem dX3_takeTurn_83 : decode cX3_takeTurn 83 = .ok (.putfield 156, 3) := by decide +kernel
theorem dX3_takeTurn_86 : decode cX3_takeTurn 86 = .ok (.goto 7, 3) := by decide +kernel
theorem dX3_takeTurn_89 : decode cX3_takeTurn 89 = .ok (.aload_n 1, 1) := by decide +kernel
theorem dX3_takeTurn_90 : decode cX3_takeTurn 90 = .ok (.invokevirtual 159, 3) := by decide +kernel
theorem dX3_takeTurn_93 : decode cX3_takeTurn 93 = .ok (.return_, 1) := by decide +kernel
theorem dX3_takeFromOwnCart_0 : decode cX3_takeFromOwnCart 0 = .ok (.aload_n 1, 1) := by decide +kernel
theorem dX3_takeFromOwnCart_1 : decode cX3_takeFromOwnCart 1 = .ok (.getfield 108, 3) := by decide +kernel
theorem dX3_takeFromOwnCart_4 : decode cX3_takeFromOwnCart 4 = .ok (.invokevirtual 162, 3) := by decide +kernel
theorem dX3_takeFromOwnCart_7 : decode cX3_takeFromOwnCart 7 = .ok (.istore_n 2, 1) := by decide +kernel
theorem dX3_takeFromOwnCart_8 : decode cX3_takeFromOwnCart 8 = .ok (.iload_n 2, 1) := by decide +kernel
theorem dX3_takeFromOwnCart_9 : decode cX3_takeFromOwnCart 9 = .ok (.iconst (-1), 1) := by decide +kernel
theorem dX3_takeFromOwnCart_10 : decode cX3_takeFromOwnCart 10 = .ok (.if_icmp .eq 13, 3) := by decide +kernel
theorem dX3_takeFromOwnCart_13 : decode cX3_takeFromOwnCart 13 = .ok (.aload_n 1, 1) := by decide +kernel
theorem dX3_takeFromOwnCart_14 : decode cX3_takeFromOwnCart 14 = .ok (.iload_n 2, 1) := by decide +kernel
theorem dX3_takeFromOwnCart_15 : decode cX3_takeFromOwnCart 15 = .ok (.aload_n 0, 1) := by decide +kernel
theorem dX3_takeFromOwnCart_16 : decode cX3_takeFromOwnCart 16 = .ok (.iload_n 2, 1) := by decide +kernel
theorem dX3_takeFromOwnCart_17 : decode cX3_takeFromOwnCart 17 = .ok (.invokevirtual 127, 3) := by decide +kernel
theorem dX3_takeFromOwnCart_20 : decode cX3_takeFromOwnCart 20 = .ok (.invokevirtual 165, 3) := by decide +kernel
theorem dX3_takeFromOwnCart_23 : decode cX3_takeFromOwnCart 23 = .ok (.return_, 1) := by decide +kernel
theorem dX3_joinHalves_0 : decode cX3_joinHalves 0 = .ok (.aload_n 1, 1) := by decide +kernel
theorem dX3_joinHalves_1 : decode cX3_joinHalves 1 = .ok (.getfield 134, 3) := by decide +kernel
theorem dX3_joinHalves_4 : decode cX3_joinHalves 4 = .ok (.istore_n 2, 1) := by decide +kernel
theorem dX3_joinHalves_5 : decode cX3_joinHalves 5 = .ok (.aload_n 1, 1) := by decide +kernel
theorem dX3_joinHalves_6 : decode cX3_joinHalves 6 = .ok (.iconst (-1), 1) := by decide +kernel
theorem dX3_joinHalves_7 : decode cX3_joinHalves 7 = .ok (.putfield 134, 3) := by decide +kernel
theorem dX3_joinHalves_10 : decode cX3_joinHalves 10 = .ok (.aload_n 0, 1) := by decide +kernel
theorem dX3_joinHalves_11 : decode cX3_joinHalves 11 = .ok (.dup, 1) := by decide +kernel
theorem dX3_joinHalves_12 : decode cX3_joinHalves 12 = .ok (.getfield 47, 3) := by decide +kernel
theorem dX3_joinHalves_15 : decode cX3_joinHalves 15 = .ok (.iconst 1, 1) := by decide +kernel
theorem dX3_joinHalves_16 : decode cX3_joinHalves 16 = .ok (.iadd, 1) := by decide +kernel
theorem dX3_joinHalves_17 : decode cX3_joinHalves 17 = .ok (.putfield 47, 3) := by decide +kernel
theorem dX3_joinHalves_20 : decode cX3_joinHalves 20 = .ok (.aload_n 0, 1) := by decide +kernel
theorem dX3_joinHalves_21 : decode cX3_joinHalves 21 = .ok (.aload_n 1, 1) := by decide +kernel
theorem dX3_joinHalves_22 : decode cX3_joinHalves 22 = .ok (.iload_n 2, 1) := by decide +kernel
theorem dX3_joinHalves_23 : decode cX3_joinHalves 23 = .ok (.invokevirtual 168, 3) := by decide +kernel
theorem dX3_joinHalves_26 : decode cX3_joinHalves 26 = .ok (.return_, 1) := by decide +kernel
theorem dX3_workOnHeap_0 : decode cX3_workOnHeap 0 = .ok (.aload_n 1, 1) := by decide +kernel
theorem dX3_workOnHeap_1 : decode cX3_workOnHeap 1 = .ok (.getfield 172, 3) := by decide +kernel
theorem dX3_workOnHeap_4 : decode cX3_workOnHeap 4 = .ok (.aload_n 0, 1) := by decide +kernel
theorem dX3_workOnHeap_5 : decode cX3_workOnHeap 5 = .ok (.aload_n 1, 1) := by decide +kernel
theorem dX3_workOnHeap_6 : decode cX3_workOnHeap 6 = .ok (.getfield 137, 3) := by decide +kernel
theorem dX3_workOnHeap_9 : decode cX3_workOnHeap 9 = .ok (.invokevirtual 127, 3) := by decide +kernel
theorem dX3_workOnHeap_12 : decode cX3_workOnHeap 12 = .ok (.if_icmp .ne 7, 3) := by decide +kernel
theorem dX3_workOnHeap_15 : decode cX3_workOnHeap 15 = .ok (.iconst 1, 1) := by decide +kernel
theorem dX3_workOnHeap_16 : decode cX3_workOnHeap 16 = .ok (.goto 4, 3) := by decide +kernel
theorem dX3_workOnHeap_19 : decode cX3_workOnHeap 19 = .ok (.iconst 0, 1) := by decide +kernel
theorem dX3_workOnHeap_20 : decode cX3_workOnHeap 20 = .ok (.istore_n 2, 1) := by decide +kernel
theorem dX3_workOnHeap_21 : decode cX3_workOnHeap 21 = .ok (.iload_n 2, 1) := by decide +kernel
theorem dX3_workOnHeap_22 : decode cX3_workOnHeap 22 = .ok (.ifCond .eq 32, 3) := by decide +kernel
theorem dX3_workOnHeap_25 : decode cX3_workOnHeap 25 = .ok (.aload_n 1, 1) := by decide +kernel
theorem dX3_workOnHeap_26 : decode cX3_workOnHeap 26 = .ok (.getfield 172, 3) := by decide +kernel
theorem dX3_workOnHeap_29 : decode cX3_workOnHeap 29 = .ok (.aload_n 0, 1) := by decide +kernel
theorem dX3_workOnHeap_30 : decode cX3_workOnHeap 30 = .ok (.getfield 41, 3) := by decide +kernel
theorem dX3_workOnHeap_33 : decode cX3_workOnHeap 33 = .ok (.if_icmp .le 21, 3) := by decide +kernel
theorem dX3_workOnHeap_36 : decode cX3_workOnHeap 36 = .ok (.aload_n 1, 1) := by decide +kernel
theorem dX3_workOnHeap_37 : decode cX3_workOnHeap 37 = .ok (.getfield 108, 3) := by decide +kernel
theorem dX3_workOnHeap_40 : decode cX3_workOnHeap 40 = .ok (.invokevirtual 175, 3) := by decide +kernel
theorem dX3_workOnHeap_43 : decode cX3_workOnHeap 43 = .ok (.ifCond .eq 11, 3) := by decide +kernel
theorem dX3_workOnHeap_46 : decode cX3_workOnHeap 46 = .ok (.aload_n 0, 1) := by decide +kernel
theorem dX3_workOnHeap_47 : decode cX3_workOnHeap 47 = .ok (.aload_n 1, 1) := by decide +kernel
theorem dX3_workOnHeap_48 : decode cX3_workOnHeap 48 = .ok (.invokevirtual 179, 3) := by decide +kernel
theorem dX3_workOnHeap_51 : decode cX3_workOnHeap 51 = .ok (.goto 8, 3) := by decide +kernel
theorem dX3_workOnHeap_54 : decode cX3_workOnHeap 54 = .ok (.aload_n 0, 1) := by decide +kernel
theorem dX3_workOnHeap_55 : decode cX3_workOnHeap 55 = .ok (.aload_n 1, 1) := by decide +kernel
theorem dX3_workOnHeap_56 : decode cX3_workOnHeap 56 = .ok (.invokevirtual 182, 3) := by decide +kernel
theorem dX3_workOnHeap_59 : decode cX3_workOnHeap 59 = .ok (.return_, 1) := by decide +kernel
theorem dX3_forkHeap_0 : decode cX3_forkHeap 0 = .ok (.aload_n 1, 1) := by decide +kernel
theorem dX3_forkHeap_1 : decode cX3_forkHeap 1 = .ok (.getfield 137, 3) := by decide +kernel
theorem dX3_forkHeap_4 : decode cX3_forkHeap 4 = .ok (.istore_n 2, 1) := by decide +kernel
theorem dX3_forkHeap_5 : decode cX3_forkHeap 5 = .ok (.aload_n 1, 1) := by decide +kernel
theorem dX3_forkHeap_6 : decode cX3_forkHeap 6 = .ok (.getfield 172, 3) := by decide +kernel
theorem dX3_forkHeap_9 : decode cX3_forkHeap 9 = .ok (.istore_n 3, 1) := by decide +kernel
theorem dX3_forkHeap_10 : decode cX3_forkHeap 10 = .ok (.iload_n 2, 1) := by decide +kernel
theorem dX3_forkHeap_11 : decode cX3_forkHeap 11 = .ok (.iload_n 2, 1) := by decide +kernel
theorem dX3_forkHeap_12 : decode cX3_forkHeap 12 = .ok (.bipush 32, 2) := by decide +kernel
theorem dX3_forkHeap_14 : decode cX3_forkHeap 14 = .ok (.irem, 1) := by decide +kernel
theorem dX3_forkHeap_15 : decode cX3_forkHeap 15 = .ok (.iadd, 1) := by decide +kernel
theorem dX3_forkHeap_16 : decode cX3_forkHeap 16 = .ok (.istore 4, 2) := by decide +kernel
theorem dX3_forkHeap_18 : decode cX3_forkHeap 18 = .ok (.aload_n 0, 1) := by decide +kernel
theorem dX3_forkHeap_19 : decode cX3_forkHeap 19 = .ok (.iload 4, 2) := by decide +kernel
theorem dX3_forkHeap_21 : decode cX3_forkHeap 21 = .ok (.iload_n 3, 1) := by decide +kernel
theorem dX3_forkHeap_22 : decode cX3_forkHeap 22 = .ok (.iconst 2, 1) := by decide +kernel
theorem dX3_forkHeap_23 : decode cX3_forkHeap 23 = .ok (.idiv, 1) := by decide +kernel
theorem dX3_forkHeap_24 : decode cX3_forkHeap 24 = .ok (.invokevirtual 63, 3) := by decide +kernel
theorem dX3_forkHeap_27 : decode cX3_forkHeap 27 = .ok (.aload_n 0, 1) := by decide +kernel
theorem dX3_forkHeap_28 : decode cX3_forkHeap 28 = .ok (.iload 4, 2) := by decide +kernel
theorem dX3_forkHeap_30 : decode cX3_forkHeap 30 = .ok (.iconst 1, 1) := by decide +kernel
theorem dX3_forkHeap_31 : decode cX3_forkHeap 31 = .ok (.iadd, 1) := by decide +kernel
theorem dX3_forkHeap_32 : decode cX3_forkHeap 32 = .ok (.iload_n 3, 1) := by decide +kernel
theorem dX3_forkHeap_33 : decode cX3_forkHeap 33 = .ok (.iload_n 3, 1) := by decide +kernel
theorem dX3_forkHeap_34 : decode cX3_forkHeap 34 = .ok (.iconst 2, 1) := by decide +kernel
theorem dX3_forkHeap_35 : decode cX3_forkHeap 35 = .ok (.idiv, 1) := by decide +kernel
theorem dX3_forkHeap_36 : decode cX3_forkHeap 36 = .ok (.isub, 1) := by decide +kernel
theorem dX3_forkHeap_37 : decode cX3_forkHeap 37 = .ok (.invokevirtual 63, 3) := by decide +kernel
theorem dX3_forkHeap_40 : decode cX3_forkHeap 40 = .ok (.aload_n 0, 1) := by decide +kernel
theorem dX3_forkHeap_41 : decode cX3_forkHeap 41 = .ok (.iload_n 2, 1) := by decide +kernel
theorem dX3_forkHeap_42 : decode cX3_forkHeap 42 = .ok (.invokevirtual 185, 3) := by decide +kernel
theorem dX3_forkHeap_45 : decode cX3_forkHeap 45 = .ok (.dup, 1) := by decide +kernel
theorem dX3_forkHeap_46 : decode cX3_forkHeap 46 = .ok (.getfield 189, 3) := by decide +kernel
theorem dX3_forkHeap_49 : decode cX3_forkHeap 49 = .ok (.iconst 2, 1) := by decide +kernel
theorem dX3_forkHeap_50 : decode cX3_forkHeap 50 = .ok (.iadd, 1) := by decide +kernel
theorem dX3_forkHeap_51 : decode cX3_forkHeap 51 = .ok (.putfield 189, 3) := by decide +kernel
theorem dX3_forkHeap_54 : decode cX3_forkHeap 54 = .ok (.aload_n 0, 1) := by decide +kernel
theorem dX3_forkHeap_55 : decode cX3_forkHeap 55 = .ok (.dup, 1) := by decide +kernel
theorem dX3_forkHeap_56 : decode cX3_forkHeap 56 = .ok (.getfield 44, 3) := by decide +kernel
theorem dX3_forkHeap_59 : decode cX3_forkHeap 59 = .ok (.iconst 1, 1) := by decide +kernel
theorem dX3_forkHeap_60 : decode cX3_forkHeap 60 = .ok (.iadd, 1) := by decide +kernel
theorem dX3_forkHeap_61 : decode cX3_forkHeap 61 = .ok (.putfield 44, 3) := by decide +kernel
theorem dX3_forkHeap_64 : decode cX3_forkHeap 64 = .ok (.aload_n 1, 1) := by decide +kernel
theorem dX3_forkHeap_65 : decode cX3_forkHeap 65 = .ok (.iload 4, 2) := by decide +kernel
theorem dX3_forkHeap_67 : decode cX3_forkHeap 67 = .ok (.iload_n 3, 1) := by decide +kernel
theorem dX3_forkHeap_68 : decode cX3_forkHeap 68 = .ok (.iconst 2, 1) := by decide +kernel
theorem dX3_forkHeap_69 : decode cX3_forkHeap 69 = .ok (.idiv, 1) := by decide +kernel
theorem dX3_forkHeap_70 : decode cX3_forkHeap 70 = .ok (.invokevirtual 165, 3) := by decide +kernel
theorem dX3_forkHeap_73 : decode cX3_forkHeap 73 = .ok (.aload_n 1, 1) := by decide +kernel
theorem dX3_forkHeap_74 : decode cX3_forkHeap 74 = .ok (.getfield 108, 3) := by decide +kernel
theorem dX3_forkHeap_77 : decode cX3_forkHeap 77 = .ok (.iload 4, 2) := by decide +kernel
theorem dX3_forkHeap_79 : decode cX3_forkHeap 79 = .ok (.iconst 1, 1) := by decide +kernel
theorem dX3_forkHeap_80 : decode cX3_forkHeap 80 = .ok (.iadd, 1) := by decide +kernel
theorem dX3_forkHeap_81 : decode cX3_forkHeap 81 = .ok (.invokevirtual 192, 3) := by decide +kernel
theorem dX3_forkHeap_84 : decode cX3_forkHeap 84 = .ok (.aload_n 0, 1) := by decide +kernel
theorem dX3_forkHeap_85 : decode cX3_forkHeap 85 = .ok (.invokevirtual 195, 3) := by decide +kernel
theorem dX3_forkHeap_88 : decode cX3_forkHeap 88 = .ok (.return_, 1) := by decide +kernel
theorem dX3_wakeFirstSleeper_0 : decode cX3_wakeFirstSleeper 0 = .ok (.iconst 0, 1) := by decide +kernel
theorem dX3_wakeFirstSleeper_1 : decode cX3_wakeFirstSleeper 1 = .ok (.istore_n 1, 1) := by decide +kernel
theorem dX3_wakeFirstSleeper_2 : decode cX3_wakeFirstSleeper 2 = .ok (.iload_n 1, 1) := by decide +kernel
theorem dX3_wakeFirstSleeper_3 : decode cX3_wakeFirstSleeper 3 = .ok (.aload_n 0, 1) := by decide +kernel
theorem dX3_wakeFirstSleeper_4 : decode cX3_wakeFirstSleeper 4 = .ok (.getfield 31, 3) := by decide +kernel
theorem dX3_wakeFirstSleeper_7 : decode cX3_wakeFirstSleeper 7 = .ok (.if_icmp .ge 32, 3) := by decide +kernel
theorem dX3_wakeFirstSleeper_10 : decode cX3_wakeFirstSleeper 10 = .ok (.aload_n 0, 1) := by decide +kernel
theorem dX3_wakeFirstSleeper_11 : decode cX3_wakeFirstSleeper 11 = .ok (.getfield 11, 3) := by decide +kernel
theorem dX3_wakeFirstSleeper_14 : decode cX3_wakeFirstSleeper 14 = .ok (.iload_n 1, 1) := by decide +kernel
theorem dX3_wakeFirstSleeper_15 : decode cX3_wakeFirstSleeper 15 = .ok (.aaload, 1) := by decide +kernel
theorem dX3_wakeFirstSleeper_16 : decode cX3_wakeFirstSleeper 16 = .ok (.getfield 70, 3) := by decide +kernel
theorem dX3_wakeFirstSleeper_19 : decode cX3_wakeFirstSleeper 19 = .ok (.ifCond .eq 14, 3) := by decide +kernel
theorem dX3_wakeFirstSleeper_22 : decode cX3_wakeFirstSleeper 22 = .ok (.aload_n 0, 1) := by decide +kernel
theorem dX3_wakeFirstSleeper_23 : decode cX3_wakeFirstSleeper 23 = .ok (.getfield 11, 3) := by decide +kernel
theorem dX3_wakeFirstSleeper_26 : decode cX3_wakeFirstSleeper 26 = .ok (.iload_n 1, 1) := by decide +kernel
theorem dX3_wakeFirstSleeper_27 : decode cX3_wakeFirstSleeper 27 = .ok (.aaload, 1) := by decide +kernel
theorem dX3_wakeFirstSleeper_28 : decode cX3_wakeFirstSleeper 28 = .ok (.iconst 0, 1) := by decide +kernel
theorem dX3_wakeFirstSleeper_29 : decode cX3_wakeFirstSleeper 29 = .ok (.putfield 70, 3) := by decide +kernel
theorem dX3_wakeFirstSleeper_32 : decode cX3_wakeFirstSleeper 32 = .ok (.return_, 1) := by decide +kernel
theorem dX3_wakeFirstSleeper_33 : decode cX3_wakeFirstSleeper 33 = .ok (.iinc 1 1, 3) := by decide +kernel
theorem dX3_wakeFirstSleeper_36 : decode cX3_wakeFirstSleeper 36 = .ok (.goto (-34), 3) := by decide +kernel
theorem dX3_wakeFirstSleeper_39 : decode cX3_wakeFirstSleeper 39 = .ok (.return_, 1) := by decide +kernel
theorem dX3_pitch_0 : decode cX3_pitch 0 = .ok (.aload_n 1, 1) := by decide +kernel
theorem dX3_pitch_1 : decode cX3_pitch 1 = .ok (.getfield 172, 3) := by decide +kernel
theorem dX3_pitch_4 : decode cX3_pitch 4 = .ok (.aload_n 1, 1) := by decide +kernel
theorem dX3_pitch_5 : decode cX3_pitch 5 = .ok (.getfield 54, 3) := by decide +kernel
theorem dX3_pitch_8 : decode cX3_pitch 8 = .ok (.if_icmp .ge 10, 3) := by decide +kernel
theorem dX3_pitch_11 : decode cX3_pitch 11 = .ok (.aload_n 1, 1) := by decide +kernel
theorem dX3_pitch_12 : decode cX3_pitch 12 = .ok (.getfield 172, 3) := by decide +kernel
theorem dX3_pitch_15 : decode cX3_pitch 15 = .ok (.goto 7, 3) := by decide +kernel
theorem dX3_pitch_18 : decode cX3_pitch 18 = .ok (.aload_n 1, 1) := by decide +kernel
theorem dX3_pitch_19 : decode cX3_pitch 19 = .ok (.getfield 54, 3) := by decide +kernel
theorem dX3_pitch_22 : decode cX3_pitch 22 = .ok (.istore_n 2, 1) := by decide +kernel
theorem dX3_pitch_23 : decode cX3_pitch 23 = .ok (.aload_n 1, 1) := by decide +kernel
theorem dX3_pitch_24 : decode cX3_pitch 24 = .ok (.dup, 1) := by decide +kernel
theorem dX3_pitch_25 : decode cX3_pitch 25 = .ok (.getfield 172, 3) := by decide +kernel
theorem dX3_pitch_28 : decode cX3_pitch 28 = .ok (.iload_n 2, 1) := by decide +kernel
theorem dX3_pitch_29 : decode cX3_pitch 29 = .ok (.isub, 1) := by decide +kernel
theorem dX3_pitch_30 : decode cX3_pitch 30 = .ok (.putfield 172, 3) := by decide +kernel
theorem dX3_pitch_33 : decode cX3_pitch 33 = .ok (.aload_n 0, 1) := by decide +kernel
theorem dX3_pitch_34 : decode cX3_pitch 34 = .ok (.aload_n 1, 1) := by decide +kernel
theorem dX3_pitch_35 : decode cX3_pitch 35 = .ok (.getfield 137, 3) := by decide +kernel
theorem dX3_pitch_38 : decode cX3_pitch 38 = .ok (.invokevirtual 185, 3) := by decide +kernel
theorem dX3_pitch_41 : decode cX3_pitch 41 = .ok (.dup, 1) := by decide +kernel
theorem dX3_pitch_42 : decode cX3_pitch 42 = .ok (.getfield 198, 3) := by decide +kernel
theorem dX3_pitch_45 : decode cX3_pitch 45 = .ok (.iload_n 2, 1) := by decide +kernel
theorem dX3_pitch_46 : decode cX3_pitch 46 = .ok (.iadd, 1) := by decide +kernel
theorem dX3_pitch_47 : decode cX3_pitch 47 = .ok (.putfield 198, 3) := by decide +kernel
theorem dX3_pitch_50 : decode cX3_pitch 50 = .ok (.aload_n 1, 1) := by decide +kernel
theorem dX3_pitch_51 : decode cX3_pitch 51 = .ok (.getfield 172, 3) := by decide +kernel
theorem dX3_pitch_54 : decode cX3_pitch 54 = .ok (.ifCond .ne 12, 3) := by decide +kernel
theorem dX3_pitch_57 : decode cX3_pitch 57 = .ok (.aload_n 0, 1) := by decide +kernel
theorem dX3_pitch_58 : decode cX3_pitch 58 = .ok (.aload_n 1, 1) := by decide +kernel
theorem dX3_pitch_59 : decode cX3_pitch 59 = .ok (.aload_n 1, 1) := by decide +kernel
theorem dX3_pitch_60 : decode cX3_pitch 60 = .ok (.getfield 137, 3) := by decide +kernel
theorem dX3_pitch_63 : decode cX3_pitch 63 = .ok (.invokevirtual 168, 3) := by decide +kernel
theorem dX3_pitch_66 : decode cX3_pitch 66 = .ok (.return_, 1) := by decide +kernel
theorem dX3_finishHeap_0 : decode cX3_finishHeap 0 = .ok (.aload_n 1, 1) := by decide +kernel
theorem dX3_finishHeap_1 : decode cX3_finishHeap 1 = .ok (.iconst (-1), 1) := by decide +kernel
theorem dX3_finishHeap_2 : decode cX3_finishHeap 2 = .ok (.putfield 137, 3) := by decide +kernel
theorem dX3_finishHeap_5 : decode cX3_finishHeap 5 = .ok (.iload_n 2, 1) := by decide +kernel
theorem dX3_finishHeap_6 : decode cX3_finishHeap 6 = .ok (.ifCond .lt 10, 3) := by decide +kernel
theorem dX3_finishHeap_9 : decode cX3_finishHeap 9 = .ok (.iload_n 2, 1) := by decide +kernel
theorem dX3_finishHeap_10 : decode cX3_finishHeap 10 = .ok (.sipush 320, 3) := by decide +kernel
theorem dX3_finishHeap_13 : decode cX3_finishHeap 13 = .ok (.if_icmp .lt 4, 3) := by decide +kernel
theorem dX3_finishHeap_16 : decode cX3_finishHeap 16 = .ok (.return_, 1) := by decide +kernel
theorem dX3_finishHeap_17 : decode cX3_finishHeap 17 = .ok (.aload_n 0, 1) := by decide +kernel
theorem dX3_finishHeap_18 : decode cX3_finishHeap 18 = .ok (.getfield 27, 3) := by decide +kernel
theorem dX3_finishHeap_21 : decode cX3_finishHeap 21 = .ok (.iload_n 2, 1) := by decide +kernel
theorem dX3_finishHeap_22 : decode cX3_finishHeap 22 = .ok (.iconst 1, 1) := by decide +kernel
theorem dX3_finishHeap_23 : decode cX3_finishHeap 23 = .ok (.bastore, 1) := by decide +kernel
theorem dX3_finishHeap_24 : decode cX3_finishHeap 24 = .ok (.iload_n 2, 1) := by decide +kernel
theorem dX3_finishHeap_25 : decode cX3_finishHeap 25 = .ok (.bipush 32, 2) := by decide +kernel
theorem dX3_finishHeap_27 : decode cX3_finishHeap 27 = .ok (.irem, 1) := by decide +kernel
theorem dX3_finishHeap_28 : decode cX3_finishHeap 28 = .ok (.istore_n 3, 1) := by decide +kernel
theorem dX3_finishHeap_29 : decode cX3_finishHeap 29 = .ok (.iload_n 3, 1) := by decide +kernel
theorem dX3_finishHeap_30 : decode cX3_finishHeap 30 = .ok (.iconst 1, 1) := by decide +kernel
theorem dX3_finishHeap_31 : decode cX3_finishHeap 31 = .ok (.if_icmp .ne 27, 3) := by decide +kernel
theorem dX3_finishHeap_34 : decode cX3_finishHeap 34 = .ok (.aload_n 0, 1) := by decide +kernel
theorem dX3_finishHeap_35 : decode cX3_finishHeap 35 = .ok (.iload_n 2, 1) := by decide +kernel
theorem dX3_finishHeap_36 : decode cX3_finishHeap 36 = .ok (.invokevirtual 185, 3) := by decide +kernel
theorem dX3_finishHeap_39 : decode cX3_finishHeap 39 = .ok (.iconst 2, 1) := by decide +kernel
theorem dX3_finishHeap_40 : decode cX3_finishHeap 40 = .ok (.putfield 88, 3) := by decide +kernel
theorem dX3_finishHeap_43 : decode cX3_finishHeap 43 = .ok (.aload_n 0, 1) := by decide +kernel
theorem dX3_finishHeap_44 : decode cX3_finishHeap 44 = .ok (.iload_n 2, 1) := by decide +kernel
theorem dX3_finishHeap_45 : decode cX3_finishHeap 45 = .ok (.invokevirtual 185, 3) := by decide +kernel
theorem dX3_finishHeap_48 : decode cX3_finishHeap 48 = .ok (.aload_n 0, 1) := by decide +kernel
theorem dX3_finishHeap_49 : decode cX3_finishHeap 49 = .ok (.getfield 38, 3) := by decide +kernel
theorem dX3_finishHeap_52 : decode cX3_finishHeap 52 = .ok (.putfield 201, 3) := by decide +kernel
theorem dX3_finishHeap_55 : decode cX3_finishHeap 55 = .ok (.goto 27, 3) := by decide +kernel
theorem dX3_finishHeap_58 : decode cX3_finishHeap 58 = .ok (.aload_n 0, 1) := by decide +kernel
theorem dX3_finishHeap_59 : decode cX3_finishHeap 59 = .ok (.getfield 27, 3) := by decide +kernel
theorem dX3_finishHeap_62 : decode cX3_finishHeap 62 = .ok (.aload_n 0, 1) := by decide +kernel
theorem dX3_finishHeap_63 : decode cX3_finishHeap 63 = .ok (.iload_n 2, 1) := by decide +kernel
theorem dX3_finishHeap_64 : decode cX3_finishHeap 64 = .ok (.invokevirtual 204, 3) := by decide +kernel
theorem dX3_finishHeap_67 : decode cX3_finishHeap 67 = .ok (.baload, 1) := by decide +kernel
theorem dX3_finishHeap_68 : decode cX3_finishHeap 68 = .ok (.ifCond .eq 14, 3) := by decide +kernel
theorem dX3_finishHeap_71 : decode cX3_finishHeap 71 = .ok (.aload_n 1, 1) := by decide +kernel
theorem dX3_finishHeap_72 : decode cX3_finishHeap 72 = .ok (.iload_n 2, 1) := by decide +kernel
theorem dX3_finishHeap_73 : decode cX3_finishHeap 73 = .ok (.iload_n 3, 1) := by decide +kernel
theorem dX3_finishHeap_74 : decode cX3_finishHeap 74 = .ok (.isub, 1) := by decide +kernel
theorem dX3_finishHeap_75 : decode cX3_finishHeap 75 = .ok (.iload_n 3, 1) := by decide +kernel
theorem dX3_finishHeap_76 : decode cX3_finishHeap 76 = .ok (.iconst 2, 1) := by decide +kernel
theorem dX3_finishHeap_77 : decode cX3_finishHeap 77 = .ok (.idiv, 1) := by decide +kernel
theorem dX3_finishHeap_78 : decode cX3_finishHeap 78 = .ok (.iadd, 1) := by decide +kernel
theorem dX3_finishHeap_79 : decode cX3_finishHeap 79 = .ok (.putfield 134, 3) := by decide +kernel
theorem dX3_finishHeap_82 : decode cX3_finishHeap 82 = .ok (.return_, 1) := by decide +kernel
theorem dX3_otherHalf_0 : decode cX3_otherHalf 0 = .ok (.iload_n 1, 1) := by decide +kernel
theorem dX3_otherHalf_1 : decode cX3_otherHalf 1 = .ok (.iconst 1, 1) := by decide +kernel
theorem dX3_otherHalf_2 : decode cX3_otherHalf 2 = .ok (.ixor, 1) := by decide +kernel
theorem dX3_otherHalf_3 : decode cX3_otherHalf 3 = .ok (.ireturn, 1) := by decide +kernel
theorem dX3_takeFromYard_0 : decode cX3_takeFromYard 0 = .ok (.iconst 0, 1) := by decide +kernel
theorem dX3_takeFromYard_1 : decode cX3_takeFromYard 1 = .ok (.istore_n 2, 1) := by decide +kernel
theorem dX3_takeFromYard_2 : decode cX3_takeFromYard 2 = .ok (.iload_n 2, 1) := by decide +kernel
theorem dX3_takeFromYard_3 : decode cX3_takeFromYard 3 = .ok (.aload_n 0, 1) := by decide +kernel
theorem dX3_takeFromYard_4 : decode cX3_takeFromYard 4 = .ok (.getfield 35, 3) := by decide +kernel
theorem dX3_takeFromYard_7 : decode cX3_takeFromYard 7 = .ok (.if_icmp .ge 52, 3) := by decide +kernel
theorem dX3_takeFromYard_10 : decode cX3_takeFromYard 10 = .ok (.aload_n 0, 1) := by decide +kernel
theorem dX3_takeFromYard_11 : decode cX3_takeFromYard 11 = .ok (.getfield 19, 3) := by decide +kernel
theorem dX3_takeFromYard_14 : decode cX3_takeFromYard 14 = .ok (.iload_n 2, 1) := by decide +kernel
theorem dX3_takeFromYard_15 : decode cX3_takeFromYard 15 = .ok (.aaload, 1) := by decide +kernel
theorem dX3_takeFromYard_16 : decode cX3_takeFromYard 16 = .ok (.getfield 88, 3) := by decide +kernel
theorem dX3_takeFromYard_19 : decode cX3_takeFromYard 19 = .ok (.ifCond .ne 34, 3) := by decide +kernel
theorem dX3_takeFromYard_22 : decode cX3_takeFromYard 22 = .ok (.aload_n 0, 1) := by decide +kernel
theorem dX3_takeFromYard_23 : decode cX3_takeFromYard 23 = .ok (.getfield 19, 3) := by decide +kernel
theorem dX3_takeFromYard_26 : decode cX3_takeFromYard 26 = .ok (.iload_n 2, 1) := by decide +kernel
theorem dX3_takeFromYard_27 : decode cX3_takeFromYard 27 = .ok (.aaload, 1) := by decide +kernel
theorem dX3_takeFromYard_28 : decode cX3_takeFromYard 28 = .ok (.iconst 1, 1) := by decide +kernel
theorem dX3_takeFromYard_29 : decode cX3_takeFromYard 29 = .ok (.putfield 88, 3) := by decide +kernel
theorem dX3_takeFromYard_32 : decode cX3_takeFromYard 32 = .ok (.aload_n 1, 1) := by decide +kernel
theorem dX3_takeFromYard_33 : decode cX3_takeFromYard 33 = .ok (.iload_n 2, 1) := by decide +kernel
theorem dX3_takeFromYard_34 : decode cX3_takeFromYard 34 = .ok (.bipush 32, 2) := by decide +kernel
theorem dX3_takeFromYard_36 : decode cX3_takeFromYard 36 = .ok (.imul, 1) := by decide +kernel
theorem dX3_takeFromYard_37 : decode cX3_takeFromYard 37 = .ok (.iconst 1, 1) := by decide +kernel
theorem dX3_takeFromYard_38 : decode cX3_takeFromYard 38 = .ok (.iadd, 1) := by decide +kernel
theorem dX3_takeFromYard_39 : decode cX3_takeFromYard 39 = .ok (.aload_n 0, 1) := by decide +kernel
theorem dX3_takeFromYard_40 : decode cX3_takeFromYard 40 = .ok (.getfield 19, 3) := by decide +kernel
theorem dX3_takeFromYard_43 : decode cX3_takeFromYard 43 = .ok (.iload_n 2, 1) := by decide +kernel
theorem dX3_takeFromYard_44 : decode cX3_takeFromYard 44 = .ok (.aaload, 1) := by decide +kernel
theorem dX3_takeFromYard_45 : decode cX3_takeFromYard 45 = .ok (.getfield 57, 3) := by decide +kernel
theorem dX3_takeFromYard_48 : decode cX3_takeFromYard 48 = .ok (.invokevirtual 165, 3) := by decide +kernel
theorem dX3_takeFromYard_51 : decode cX3_takeFromYard 51 = .ok (.iconst 1, 1) := by decide +kernel
theorem dX3_takeFromYard_52 : decode cX3_takeFromYard 52 = .ok (.ireturn, 1) := by decide +kernel
theorem dX3_takeFromYard_53 : decode cX3_takeFromYard 53 = .ok (.iinc 2 1, 3) := by decide +kernel
theorem dX3_takeFromYard_56 : decode cX3_takeFromYard 56 = .ok (.goto (-54), 3) := by decide +kernel
theorem dX3_takeFromYard_59 : decode cX3_takeFromYard 59 = .ok (.iconst 0, 1) := by decide +kernel
theorem dX3_takeFromYard_60 : decode cX3_takeFromYard 60 = .ok (.ireturn, 1) := by decide +kernel
theorem dX3_steal_0 : decode cX3_steal 0 = .ok (.aload_n 0, 1) := by decide +kernel
theorem dX3_steal_1 : decode cX3_steal 1 = .ok (.aload_n 1, 1) := by decide +kernel
theorem dX3_steal_2 : decode cX3_steal 2 = .ok (.invokevirtual 207, 3) := by decide +kernel
theorem dX3_steal_5 : decode cX3_steal 5 = .ok (.istore_n 2, 1) := by decide +kernel
theorem dX3_steal_6 : decode cX3_steal 6 = .ok (.iload_n 2, 1) := by decide +kernel
theorem dX3_steal_7 : decode cX3_steal 7 = .ok (.ifCond .lt 11, 3) := by decide +kernel
theorem dX3_steal_10 : decode cX3_steal 10 = .ok (.iload_n 2, 1) := by decide +kernel
theorem dX3_steal_11 : decode cX3_steal 11 = .ok (.aload_n 0, 1) := by decide +kernel
theorem dX3_steal_12 : decode cX3_steal 12 = .ok (.getfield 31, 3) := by decide +kernel
theorem dX3_steal_15 : decode cX3_steal 15 = .ok (.if_icmp .lt 5, 3) := by decide +kernel
theorem dX3_steal_18 : decode cX3_steal 18 = .ok (.iconst 0, 1) := by decide +kernel
theorem dX3_steal_19 : decode cX3_steal 19 = .ok (.ireturn, 1) := by decide +kernel
theorem dX3_steal_20 : decode cX3_steal 20 = .ok (.aload_n 0, 1) := by decide +kernel
theorem dX3_steal_21 : decode cX3_steal 21 = .ok (.getfield 11, 3) := by decide +kernel
theorem dX3_steal_24 : decode cX3_steal 24 = .ok (.iload_n 2, 1) := by decide +kernel
theorem dX3_steal_25 : decode cX3_steal 25 = .ok (.aaload, 1) := by decide +kernel
theorem dX3_steal_26 : decode cX3_steal 26 = .ok (.getfield 108, 3) := by decide +kernel
theorem dX3_steal_29 : decode cX3_steal 29 = .ok (.invokevirtual 210, 3) := by decide +kernel
theorem dX3_steal_32 : decode cX3_steal 32 = .ok (.istore_n 3, 1) := by decide +kernel
theorem dX3_steal_33 : decode cX3_steal 33 = .ok (.aload_n 1, 1) := by decide +kernel
theorem dX3_steal_34 : decode cX3_steal 34 = .ok (.iload_n 3, 1) := by decide +kernel
theorem dX3_steal_35 : decode cX3_steal 35 = .ok (.aload_n 0, 1) := by decide +kernel
theorem dX3_steal_36 : decode cX3_steal 36 = .ok (.iload_n 3, 1) := by decide +kernel
theorem dX3_steal_37 : decode cX3_steal 37 = .ok (.invokevirtual 127, 3) := by decide +kernel
theorem dX3_steal_40 : decode cX3_steal 40 = .ok (.invokevirtual 165, 3) := by decide +kernel
theorem dX3_steal_43 : decode cX3_steal 43 = .ok (.aload_n 1, 1) := by decide +kernel
theorem dX3_steal_44 : decode cX3_steal 44 = .ok (.dup, 1) := by decide +kernel
theorem dX3_steal_45 : decode cX3_steal 45 = .ok (.getfield 213, 3) := by decide +kernel
theorem dX3_steal_48 : decode cX3_steal 48 = .ok (.iconst 1, 1) := by decide +kernel
theorem dX3_steal_49 : decode cX3_steal 49 = .ok (.iadd, 1) := by decide +kernel
theorem dX3_steal_50 : decode cX3_steal 50 = .ok (.putfield 213, 3) := by decide +kernel
theorem dX3_steal_53 : decode cX3_steal 53 = .ok (.aload_n 0, 1) := by decide +kernel
theorem dX3_steal_54 : decode cX3_steal 54 = .ok (.getfield 11, 3) := by decide +kernel
theorem dX3_steal_57 : decode cX3_steal 57 = .ok (.iload_n 2, 1) := by decide +kernel
theorem dX3_steal_58 : decode cX3_steal 58 = .ok (.aaload, 1) := by decide +kernel
theorem dX3_steal_59 : decode cX3_steal 59 = .ok (.dup, 1) := by decide +kernel
theorem dX3_steal_60 : decode cX3_steal 60 = .ok (.getfield 216, 3) := by decide +kernel
theorem dX3_steal_63 : decode cX3_steal 63 = .ok (.iconst 1, 1) := by decide +kernel
theorem dX3_steal_64 : decode cX3_steal 64 = .ok (.iadd, 1) := by decide +kernel
theorem dX3_steal_65 : decode cX3_steal 65 = .ok (.putfield 216, 3) := by decide +kernel
theorem dX3_steal_68 : decode cX3_steal 68 = .ok (.aload_n 0, 1) := by decide +kernel
theorem dX3_steal_69 : decode cX3_steal 69 = .ok (.iload_n 3, 1) := by decide +kernel
theorem dX3_steal_70 : decode cX3_steal 70 = .ok (.invokevirtual 185, 3) := by decide +kernel
theorem dX3_steal_73 : decode cX3_steal 73 = .ok (.dup, 1) := by decide +kernel
theorem dX3_steal_74 : decode cX3_steal 74 = .ok (.getfield 219, 3) := by decide +kernel
theorem dX3_steal_77 : decode cX3_steal 77 = .ok (.iconst 1, 1) := by decide +kernel
theorem dX3_steal_78 : decode cX3_steal 78 = .ok (.iadd, 1) := by decide +kernel
theorem dX3_steal_79 : decode cX3_steal 79 = .ok (.putfield 219, 3) := by decide +kernel
theorem dX3_steal_82 : decode cX3_steal 82 = .ok (.iconst 1, 1) := by decide +kernel
theorem dX3_steal_83 : decode cX3_steal 83 = .ok (.ireturn, 1) := by decide +kernel
theorem dX3_copyFrom_0 : decode cX3_copyFrom 0 = .ok (.iconst 0, 1) := by decide +kernel
theorem dX3_copyFrom_1 : decode cX3_copyFrom 1 = .ok (.istore_n 2, 1) := by decide +kernel
theorem dX3_copyFrom_2 : decode cX3_copyFrom 2 = .ok (.iload_n 2, 1) := by decide +kernel
theorem dX3_copyFrom_3 : decode cX3_copyFrom 3 = .ok (.aload_n 1, 1) := by decide +kernel
theorem dX3_copyFrom_4 : decode cX3_copyFrom 4 = .ok (.getfield 31, 3) := by decide +kernel
theorem dX3_copyFrom_7 : decode cX3_copyFrom 7 = .ok (.if_icmp .ge 24, 3) := by decide +kernel
theorem dX3_copyFrom_10 : decode cX3_copyFrom 10 = .ok (.aload_n 0, 1) := by decide +kernel
theorem dX3_copyFrom_11 : decode cX3_copyFrom 11 = .ok (.getfield 11, 3) := by decide +kernel
theorem dX3_copyFrom_14 : decode cX3_copyFrom 14 = .ok (.iload_n 2, 1) := by decide +kernel
theorem dX3_copyFrom_15 : decode cX3_copyFrom 15 = .ok (.aaload, 1) := by decide +kernel
theorem dX3_copyFrom_16 : decode cX3_copyFrom 16 = .ok (.aload_n 1, 1) := by decide +kernel
theorem dX3_copyFrom_17 : decode cX3_copyFrom 17 = .ok (.getfield 11, 3) := by decide +kernel
theorem dX3_copyFrom_20 : decode cX3_copyFrom 20 = .ok (.iload_n 2, 1) := by decide +kernel
theorem dX3_copyFrom_21 : decode cX3_copyFrom 21 = .ok (.aaload, 1) := by decide +kernel
theorem dX3_copyFrom_22 : decode cX3_copyFrom 22 = .ok (.invokevirtual 220, 3) := by decide +kernel
theorem dX3_copyFrom_25 : decode cX3_copyFrom 25 = .ok (.iinc 2 1, 3) := by decide +kernel
theorem dX3_copyFrom_28 : decode cX3_copyFrom 28 = .ok (.goto (-26), 3) := by decide +kernel
theorem dX3_copyFrom_31 : decode cX3_copyFrom 31 = .ok (.iconst 0, 1) := by decide +kernel
theorem dX3_copyFrom_32 : decode cX3_copyFrom 32 = .ok (.istore_n 2, 1) := by decide +kernel
theorem dX3_copyFrom_33 : decode cX3_copyFrom 33 = .ok (.iload_n 2, 1) := by decide +kernel
theorem dX3_copyFrom_34 : decode cX3_copyFrom 34 = .ok (.aload_n 1, 1) := by decide +kernel
theorem dX3_copyFrom_35 : decode cX3_copyFrom 35 = .ok (.getfield 35, 3) := by decide +kernel
theorem dX3_copyFrom_38 : decode cX3_copyFrom 38 = .ok (.if_icmp .ge 24, 3) := by decide +kernel
theorem dX3_copyFrom_41 : decode cX3_copyFrom 41 = .ok (.aload_n 0, 1) := by decide +kernel
theorem dX3_copyFrom_42 : decode cX3_copyFrom 42 = .ok (.getfield 19, 3) := by decide +kernel
theorem dX3_copyFrom_45 : decode cX3_copyFrom 45 = .ok (.iload_n 2, 1) := by decide +kernel
theorem dX3_copyFrom_46 : decode cX3_copyFrom 46 = .ok (.aaload, 1) := by decide +kernel
theorem dX3_copyFrom_47 : decode cX3_copyFrom 47 = .ok (.aload_n 1, 1) := by decide +kernel
theorem dX3_copyFrom_48 : decode cX3_copyFrom 48 = .ok (.getfield 19, 3) := by decide +kernel
theorem dX3_copyFrom_51 : decode cX3_copyFrom 51 = .ok (.iload_n 2, 1) := by decide +kernel
theorem dX3_copyFrom_52 : decode cX3_copyFrom 52 = .ok (.aaload, 1) := by decide +kernel
theorem dX3_copyFrom_53 : decode cX3_copyFrom 53 = .ok (.invokevirtual 223, 3) := by decide +kernel
theorem dX3_copyFrom_56 : decode cX3_copyFrom 56 = .ok (.iinc 2 1, 3) := by decide +kernel
theorem dX3_copyFrom_59 : decode cX3_copyFrom 59 = .ok (.goto (-26), 3) := by decide +kernel
theorem dX3_copyFrom_62 : decode cX3_copyFrom 62 = .ok (.aload_n 1, 1) := by decide +kernel
theorem dX3_copyFrom_63 : decode cX3_copyFrom 63 = .ok (.getfield 23, 3) := by decide +kernel
theorem dX3_copyFrom_66 : decode cX3_copyFrom 66 = .ok (.iconst 0, 1) := by decide +kernel
theorem dX3_copyFrom_67 : decode cX3_copyFrom 67 = .ok (.aload_n 0, 1) := by decide +kernel
theorem dX3_copyFrom_68 : decode cX3_copyFrom 68 = .ok (.getfield 23, 3) := by decide +kernel
theorem dX3_copyFrom_71 : decode cX3_copyFrom 71 = .ok (.iconst 0, 1) := by decide +kernel
theorem dX3_copyFrom_72 : decode cX3_copyFrom 72 = .ok (.sipush 320, 3) := by decide +kernel
theorem dX3_copyFrom_75 : decode cX3_copyFrom 75 = .ok (.invokestatic 226, 3) := by decide +kernel
theorem dX3_copyFrom_78 : decode cX3_copyFrom 78 = .ok (.aload_n 1, 1) := by decide +kernel
theorem dX3_copyFrom_79 : decode cX3_copyFrom 79 = .ok (.getfield 27, 3) := by decide +kernel
theorem dX3_copyFrom_82 : decode cX3_copyFrom 82 = .ok (.iconst 0, 1) := by decide +kernel
theorem dX3_copyFrom_83 : decode cX3_copyFrom 83 = .ok (.aload_n 0, 1) := by decide +kernel
theorem dX3_copyFrom_84 : decode cX3_copyFrom 84 = .ok (.getfield 27, 3) := by decide +kernel
theorem dX3_copyFrom_87 : decode cX3_copyFrom 87 = .ok (.iconst 0, 1) := by decide +kernel
theorem dX3_copyFrom_88 : decode cX3_copyFrom 88 = .ok (.sipush 320, 3) := by decide +kernel
theorem dX3_copyFrom_91 : decode cX3_copyFrom 91 = .ok (.invokestatic 226, 3) := by decide +kernel
theorem dX3_copyFrom_94 : decode cX3_copyFrom 94 = .ok (.aload_n 0, 1) := by decide +kernel
theorem dX3_copyFrom_95 : decode cX3_copyFrom 95 = .ok (.aload_n 1, 1) := by decide +kernel
theorem dX3_copyFrom_96 : decode cX3_copyFrom 96 = .ok (.getfield 31, 3) := by decide +kernel
theorem dX3_copyFrom_99 : decode cX3_copyFrom 99 = .ok (.putfield 31, 3) := by decide +kernel
theorem dX3_copyFrom_102 : decode cX3_copyFrom 102 = .ok (.aload_n 0, 1) := by decide +kernel
theorem dX3_copyFrom_103 : decode cX3_copyFrom 103 = .ok (.aload_n 1, 1) := by decide +kernel
theorem dX3_copyFrom_104 : decode cX3_copyFrom 104 = .ok (.getfield 35, 3) := by decide +kernel
theorem dX3_copyFrom_107 : decode cX3_copyFrom 107 = .ok (.putfield 35, 3) := by decide +kernel
theorem dX3_copyFrom_110 : decode cX3_copyFrom 110 = .ok (.aload_n 0, 1) := by decide +kernel
theorem dX3_copyFrom_111 : decode cX3_copyFrom 111 = .ok (.aload_n 1, 1) := by decide +kernel
theorem dX3_copyFrom_112 : decode cX3_copyFrom 112 = .ok (.getfield 38, 3) := by decide +kernel
theorem dX3_copyFrom_115 : decode cX3_copyFrom 115 = .ok (.putfield 38, 3) := by decide +kernel
theorem dX3_copyFrom_118 : decode cX3_copyFrom 118 = .ok (.aload_n 0, 1) := by decide +kernel
theorem dX3_copyFrom_119 : decode cX3_copyFrom 119 = .ok (.aload_n 1, 1) := by decide +kernel
theorem dX3_copyFrom_120 : decode cX3_copyFrom 120 = .ok (.getfield 41, 3) := by decide +kernel
theorem dX3_copyFrom_123 : decode cX3_copyFrom 123 = .ok (.putfield 41, 3) := by decide +kernel
theorem dX3_copyFrom_126 : decode cX3_copyFrom 126 = .ok (.aload_n 0, 1) := by decide +kernel
theorem dX3_copyFrom_127 : decode cX3_copyFrom 127 = .ok (.aload_n 1, 1) := by decide +kernel
theorem dX3_copyFrom_128 : decode cX3_copyFrom 128 = .ok (.getfield 44, 3) := by decide +kernel
theorem dX3_copyFrom_131 : decode cX3_copyFrom 131 = .ok (.putfield 44, 3) := by decide +kernel
theorem dX3_copyFrom_134 : decode cX3_copyFrom 134 = .ok (.aload_n 0, 1) := by decide +kernel
theorem dX3_copyFrom_135 : decode cX3_copyFrom 135 = .ok (.aload_n 1, 1) := by decide +kernel
theorem dX3_copyFrom_136 : decode cX3_copyFrom 136 = .ok (.getfield 47, 3) := by decide +kernel
theorem dX3_copyFrom_139 : decode cX3_copyFrom 139 = .ok (.putfield 47, 3) := by decide +kernel
theorem dX3_copyFrom_142 : decode cX3_copyFrom 142 = .ok (.return_, 1) := by decide +kernel
theorem dX4_init_0 : decode cX4_init 0 = .ok (.aload_n 0, 1) := by decide +kernel
theorem dX4_init_1 : decode cX4_init 1 = .ok (.invokespecial 3, 3) := by decide +kernel
theorem dX4_init_4 : decode cX4_init 4 = .ok (.aload_n 0, 1) := by decide +kernel
theorem dX4_init_5 : decode cX4_init 5 = .ok (.new 9, 3) := by decide +kernel
theorem dX4_init_8 : decode cX4_init 8 = .ok (.dup, 1) := by decide +kernel
theorem dX4_init_9 : decode cX4_init 9 = .ok (.invokespecial 11, 3) := by decide +kernel
theorem dX4_init_12 : decode cX4_init 12 = .ok (.putfield 12, 3) := by decide +kernel
theorem dX4_init_15 : decode cX4_init 15 = .ok (.aload_n 0, 1) := by decide +kernel
theorem dX4_init_16 : decode cX4_init 16 = .ok (.new 9, 3) := by decide +kernel
theorem dX4_init_19 : decode cX4_init 19 = .ok (.dup, 1) := by decide +kernel
theorem dX4_init_20 : decode cX4_init 20 = .ok (.invokespecial 11, 3) := by decide +kernel
theorem dX4_init_23 : decode cX4_init 23 = .ok (.putfield 16, 3) := by decide +kernel
theorem dX4_init_26 : decode cX4_init 26 = .ok (.return_, 1) := by decide +kernel
theorem dX4_come_0 : decode cX4_come 0 = .ok (.iload_n 1, 1) := by decide +kernel
theorem dX4_come_1 : decode cX4_come 1 = .ok (.iconst 1, 1) := by decide +kernel
theorem dX4_come_2 : decode cX4_come 2 = .ok (.if_icmp .lt 9, 3) := by decide +kernel
theorem dX4_come_5 : decode cX4_come 5 = .ok (.iload_n 1, 1) := by decide +kernel
theorem dX4_come_6 : decode cX4_come 6 = .ok (.bipush 9, 2) := by decide +kernel
theorem dX4_come_8 : decode cX4_come 8 = .ok (.if_icmp .le 13, 3) := by decide +kernel
theorem dX4_come_11 : decode cX4_come 11 = .ok (.new 19, 3) := by decide +kernel
theorem dX4_come_14 : decode cX4_come 14 = .ok (.dup, 1) := by decide +kernel
theorem dX4_come_15 : decode cX4_come 15 = .ok (.ldc 21, 2) := by decide +kernel
theorem dX4_come_17 : decode cX4_come 17 = .ok (.invokespecial 23, 3) := by decide +kernel
theorem dX4_come_20 : decode cX4_come 20 = .ok (.athrow, 1) := by decide +kernel
theorem dX4_come_21 : decode cX4_come 21 = .ok (.aload_n 0, 1) := by decide +kernel
theorem dX4_come_22 : decode cX4_come 22 = .ok (.getfield 12, 3) := by decide +kernel
theorem dX4_come_25 : decode cX4_come 25 = .ok (.getfield 26, 3) := by decide +kernel
theorem dX4_come_28 : decode cX4_come 28 = .ok (.bipush 6, 2) := by decide +kernel
theorem dX4_come_30 : decode cX4_come 30 = .ok (.if_icmp .lt 13, 3) := by decide +kernel
theorem dX4_come_33 : decode cX4_come 33 = .ok (.new 30, 3) := by decide +kernel
theorem dX4_come_36 : decode cX4_come 36 = .ok (.dup, 1) := by decide +kernel
theorem dX4_come_37 : decode cX4_come 37 = .ok (.ldc 32, 2) := by decide +kernel
theorem dX4_come_39 : decode cX4_come 39 = .ok (.invokespecial 34, 3) := by decide +kernel
theorem dX4_come_42 : decode cX4_come 42 = .ok (.athrow, 1) := by decide +kernel
theorem dX4_come_43 : decode cX4_come 43 = .ok (.aload_n 0, 1) := by decide +kernel
theorem dX4_come_44 : decode cX4_come 44 = .ok (.getfield 12, 3) := by decide +kernel
theorem dX4_come_47 : decode cX4_come 47 = .ok (.iload_n 1, 1) := by decide +kernel
theorem dX4_come_48 : decode cX4_come 48 = .ok (.invokevirtual 35, 3) := by decide +kernel
theorem dX4_come_51 : decode cX4_come 51 = .ok (.ireturn, 1) := by decide +kernel
theorem dX4_setWay_0 : decode cX4_setWay 0 = .ok (.aload_n 0, 1) := by decide +kernel
theorem dX4_setWay_1 : decode cX4_setWay 1 = .ok (.iload_n 1, 1) := by decide +kernel
theorem dX4_setWay_2 : decode cX4_setWay 2 = .ok (.invokevirtual 39, 3) := by decide +kernel
theorem dX4_setWay_5 : decode cX4_setWay 5 = .ok (.iload_n 2, 1) := by decide +kernel
theorem dX4_setWay_6 : decode cX4_setWay 6 = .ok (.ifCond .lt 8, 3) := by decide +kernel
theorem dX4_setWay_9 : decode cX4_setWay 9 = .ok (.iload_n 2, 1) := by decide +kernel
theorem dX4_setWay_10 : decode cX4_setWay 10 = .ok (.iconst 3, 1) := by decide +kernel
theorem dX4_setWay_11 : decode cX4_setWay 11 = .ok (.if_icmp .lt 13, 3) := by decide +kernel
theorem dX4_setWay_14 : decode cX4_setWay 14 = .ok (.new 43, 3) := by decide +kernel
theorem dX4_setWay_17 : decode cX4_setWay 17 = .ok (.dup, 1) := by decide +kernel
theorem dX4_setWay_18 : decode cX4_setWay 18 = .ok (.ldc 45, 2) := by decide +kernel
theorem dX4_setWay_20 : decode cX4_setWay 20 = .ok (.invokespecial 47, 3) := by decide +kernel
theorem dX4_setWay_23 : decode cX4_setWay 23 = .ok (.athrow, 1) := by decide +kernel
theorem dX4_setWay_24 : decode cX4_setWay 24 = .ok (.aload_n 0, 1) := by decide +kernel
theorem dX4_setWay_25 : decode cX4_setWay 25 = .ok (.getfield 12, 3) := by decide +kernel
theorem dX4_setWay_28 : decode cX4_setWay 28 = .ok (.getfield 48, 3) := by decide +kernel
theorem dX4_setWay_31 : decode cX4_setWay 31 = .ok (.iload_n 1, 1) := by decide +kernel
theorem dX4_setWay_32 : decode cX4_setWay 32 = .ok (.aaload, 1) := by decide +kernel
theorem dX4_setWay_33 : decode cX4_setWay 33 = .ok (.getfield 52, 3) := by decide +kernel
theorem dX4_setWay_36 : decode cX4_setWay 36 = .ok (.istore_n 3, 1) := by decide +kernel
theorem dX4_setWay_37 : decode cX4_setWay 37 = .ok (.aload_n 0, 1) := by decide +kernel
theorem dX4_setWay_38 : decode cX4_setWay 38 = .ok (.getfield 12, 3) := by decide +kernel
theorem dX4_setWay_41 : decode cX4_setWay 41 = .ok (.getfield 48, 3) := by decide +kernel
theorem dX4_setWay_44 : decode cX4_setWay 44 = .ok (.iload_n 1, 1) := by decide +kernel
theorem dX4_setWay_45 : decode cX4_setWay 45 = .ok (.aaload, 1) := by decide +kernel
theorem dX4_setWay_46 : decode cX4_setWay 46 = .ok (.iload_n 2, 1) := by decide +kernel
theorem dX4_setWay_47 : decode cX4_setWay 47 = .ok (.putfield 52, 3) := by decide +kernel
theorem dX4_setWay_50 : decode cX4_setWay 50 = .ok (.iload_n 3, 1) := by decide +kernel
theorem dX4_setWay_51 : decode cX4_setWay 51 = .ok (.ireturn, 1) := by decide +kernel
theorem dX4_setFork_0 : decode cX4_setFork 0 = .ok (.iload_n 1, 1) := by decide +kernel
theorem dX4_setFork_1 : decode cX4_setFork 1 = .ok (.iconst 4, 1) := by decide +kernel
theorem dX4_setFork_2 : decode cX4_setFork 2 = .ok (.if_icmp .lt 9, 3) := by decide +kernel
theorem dX4_setFork_5 : decode cX4_setFork 5 = .ok (.iload_n 1, 1) := by decide +kernel
theorem dX4_setFork_6 : decode cX4_setFork 6 = .ok (.bipush 60, 2) := by decide +kernel
theorem dX4_setFork_8 : decode cX4_setFork 8 = .ok (.if_icmp .le 13, 3) := by decide +kernel
theorem dX4_setFork_11 : decode cX4_setFork 11 = .ok (.new 19, 3) := by decide +kernel
theorem dX4_setFork_14 : decode cX4_setFork 14 = .ok (.dup, 1) := by decide +kernel
theorem dX4_setFork_15 : decode cX4_setFork 15 = .ok (.ldc 57, 2) := by decide +kernel
theorem dX4_setFork_17 : decode cX4_setFork 17 = .ok (.invokespecial 23, 3) := by decide +kernel
theorem dX4_setFork_20 : decode cX4_setFork 20 = .ok (.athrow, 1) := by decide +kernel
theorem dX4_setFork_21 : decode cX4_setFork 21 = .ok (.aload_n 0, 1) := by decide +kernel
theorem dX4_setFork_22 : decode cX4_setFork 22 = .ok (.getfield 12, 3) := by decide +kernel
theorem dX4_setFork_25 : decode cX4_setFork 25 = .ok (.getfield 59, 3) := by decide +kernel
theorem dX4_setFork_28 : decode cX4_setFork 28 = .ok (.istore_n 2, 1) := by decide +kernel
theorem dX4_setFork_29 : decode cX4_setFork 29 = .ok (.aload_n 0, 1) := by decide +kernel
theorem dX4_setFork_30 : decode cX4_setFork 30 = .ok (.getfield 12, 3) := by decide +kernel
theorem dX4_setFork_33 : decode cX4_setFork 33 = .ok (.iload_n 1, 1) := by decide +kernel
theorem dX4_setFork_34 : decode cX4_setFork 34 = .ok (.putfield 59, 3) := by decide +kernel
theorem dX4_setFork_37 : decode cX4_setFork 37 = .ok (.iload_n 2, 1) := by decide +kernel
theorem dX4_setFork_38 : decode cX4_setFork 38 = .ok (.ireturn, 1) := by decide +kernel
theorem dX4_bring_0 : decode cX4_bring 0 = .ok (.iload_n 1, 1) := by decide +kernel
theorem dX4_bring_1 : decode cX4_bring 1 = .ok (.iconst 1, 1) := by decide +kernel
theorem dX4_bring_2 : decode cX4_bring 2 = .ok (.if_icmp .lt 9, 3) := by decide +kernel
theorem dX4_bring_5 : decode cX4_bring 5 = .ok (.iload_n 1, 1) := by decide +kernel
theorem dX4_bring_6 : decode cX4_bring 6 = .ok (.bipush 60, 2) := by decide +kernel
theorem dX4_bring_8 : decode cX4_bring 8 = .ok (.if_icmp .le 13, 3) := by decide +kernel
theorem dX4_bring_11 : decode cX4_bring 11 = .ok (.new 19, 3) := by decide +kernel
theorem dX4_bring_14 : decode cX4_bring 14 = .ok (.dup, 1) := by decide +kernel
theorem dX4_bring_15 : decode cX4_bring 15 = .ok (.ldc 62, 2) := by decide +kernel
theorem dX4_bring_17 : decode cX4_bring 17 = .ok (.invokespecial 23, 3) := by decide +kernel
theorem dX4_bring_20 : decode cX4_bring 20 = .ok (.athrow, 1) := by decide +kernel
theorem dX4_bring_21 : decode cX4_bring 21 = .ok (.aload_n 0, 1) := by decide +kernel
theorem dX4_bring_22 : decode cX4_bring 22 = .ok (.getfield 12, 3) := by decide +kernel
theorem dX4_bring_25 : decode cX4_bring 25 = .ok (.getfield 64, 3) := by decide +kernel
theorem dX4_bring_28 : decode cX4_bring 28 = .ok (.bipush 10, 2) := by decide +kernel
theorem dX4_bring_30 : decode cX4_bring 30 = .ok (.if_icmp .lt 13, 3) := by decide +kernel
theorem dX4_bring_33 : decode cX4_bring 33 = .ok (.new 30, 3) := by decide +kernel
theorem dX4_bring_36 : decode cX4_bring 36 = .ok (.dup, 1) := by decide +kernel
theorem dX4_bring_37 : decode cX4_bring 37 = .ok (.ldc 67, 2) := by decide +kernel
theorem dX4_bring_39 : decode cX4_bring 39 = .ok (.invokespecial 34, 3) := by decide +kernel
theorem dX4_bring_42 : decode cX4_bring 42 = .ok (.athrow, 1) := by decide +kernel
theorem dX4_bring_43 : decode cX4_bring 43 = .ok (.aload_n 0, 1) := by decide +kernel
theorem dX4_bring_44 : decode cX4_bring 44 = .ok (.getfield 12, 3) := by decide +kernel
theorem dX4_bring_47 : decode cX4_bring 47 = .ok (.iload_n 1, 1) := by decide +kernel
theorem dX4_bring_48 : decode cX4_bring 48 = .ok (.invokevirtual 69, 3) := by decide +kernel
theorem dX4_bring_51 : decode cX4_bring 51 = .ok (.ireturn, 1) := by decide +kernel
theorem dX4_swap_0 : decode cX4_swap 0 = .ok (.aload_n 0, 1) := by decide +kernel
theorem dX4_swap_1 : decode cX4_swap 1 = .ok (.iload_n 1, 1) := by decide +kernel
theorem dX4_swap_2 : decode cX4_swap 2 = .ok (.invokevirtual 39, 3) := by decide +kernel
theorem dX4_swap_5 : decode cX4_swap 5 = .ok (.aload_n 0, 1) := by decide +kernel
theorem dX4_swap_6 : decode cX4_swap 6 = .ok (.iload_n 2, 1) := by decide +kernel
theorem dX4_swap_7 : decode cX4_swap 7 = .ok (.invokevirtual 39, 3) := by decide +kernel
theorem dX4_swap_10 : decode cX4_swap 10 = .ok (.iload_n 1, 1) := by decide +kernel
theorem dX4_swap_11 : decode cX4_swap 11 = .ok (.iload_n 2, 1) := by decide +kernel
theorem dX4_swap_12 : decode cX4_swap 12 = .ok (.if_icmp .ne 13, 3) := by decide +kernel
theorem dX4_swap_15 : decode cX4_swap 15 = .ok (.new 19, 3) := by decide +kernel
theorem dX4_swap_18 : decode cX4_swap 18 = .ok (.dup, 1) := by decide +kernel
theorem dX4_swap_19 : decode cX4_swap 19 = .ok (.ldc 72, 2) := by decide +kernel
theorem dX4_swap_21 : decode cX4_swap 21 = .ok (.invokespecial 23, 3) := by decide +kernel
theorem dX4_swap_24 : decode cX4_swap 24 = .ok (.athrow, 1) := by decide +kernel
theorem dX4_swap_25 : decode cX4_swap 25 = .ok (.aload_n 0, 1) := by decide +kernel
theorem dX4_swap_26 : decode cX4_swap 26 = .ok (.getfield 12, 3) := by decide +kernel
theorem dX4_swap_29 : decode cX4_swap 29 = .ok (.getfield 48, 3) := by decide +kernel
theorem dX4_swap_32 : decode cX4_swap 32 = .ok (.iload_n 1, 1) := by decide +kernel
theorem dX4_swap_33 : decode cX4_swap 33 = .ok (.aaload, 1) := by decide +kernel
theorem dX4_swap_34 : decode cX4_swap 34 = .ok (.getfield 74, 3) := by decide +kernel
theorem dX4_swap_37 : decode cX4_swap 37 = .ok (.astore_n 3, 1) := by decide +kernel
theorem dX4_swap_38 : decode cX4_swap 38 = .ok (.aload_n 0, 1) := by decide +kernel
theorem dX4_swap_39 : decode cX4_swap 39 = .ok (.getfield 12, 3) := by decide +kernel
theorem dX4_swap_42 : decode cX4_swap 42 = .ok (.getfield 48, 3) := by decide +kernel
theorem dX4_swap_45 : decode cX4_swap 45 = .ok (.iload_n 1, 1) := by decide +kernel
theorem dX4_swap_46 : decode cX4_swap 46 = .ok (.aaload, 1) := by decide +kernel
theorem dX4_swap_47 : decode cX4_swap 47 = .ok (.aload_n 0, 1) := by decide +kernel
theorem dX4_swap_48 : decode cX4_swap 48 = .ok (.getfield 12, 3) := by decide +kernel
theorem dX4_swap_51 : decode cX4_swap 51 = .ok (.getfield 48, 3) := by decide +kernel
theorem dX4_swap_54 : decode cX4_swap 54 = .ok (.iload_n 2, 1) := by decide +kernel
theorem dX4_swap_55 : decode cX4_swap 55 = .ok (.aaload, 1) := by decide +kernel
theorem dX4_swap_56 : decode cX4_swap 56 = .ok (.getfield 74, 3) := by decide +kernel
theorem dX4_swap_59 : decode cX4_swap 59 = .ok (.putfield 74, 3) := by decide +kernel
theorem dX4_swap_62 : decode cX4_swap 62 = .ok (.aload_n 0, 1) := by decide +kernel
theorem dX4_swap_63 : decode cX4_swap 63 = .ok (.getfield 12, 3) := by decide +kernel
theorem dX4_swap_66 : decode cX4_swap 66 = .ok (.getfield 48, 3) := by decide +kernel
theorem dX4_swap_69 : decode cX4_swap 69 = .ok (.iload_n 2, 1) := by decide +kernel
theorem dX4_swap_70 : decode cX4_swap 70 = .ok (.aaload, 1) := by decide +kernel
theorem dX4_swap_71 : decode cX4_swap 71 = .ok (.aload_n 3, 1) := by decide +kernel
theorem dX4_swap_72 : decode cX4_swap 72 = .ok (.putfield 74, 3) := by decide +kernel
theorem dX4_swap_75 : decode cX4_swap 75 = .ok (.aload_n 0, 1) := by decide +kernel
theorem dX4_swap_76 : decode cX4_swap 76 = .ok (.getfield 12, 3) := by decide +kernel
theorem dX4_swap_79 : decode cX4_swap 79 = .ok (.getfield 48, 3) := by decide +kernel
theorem dX4_swap_82 : decode cX4_swap 82 = .ok (.iload_n 1, 1) := by decide +kernel
theorem dX4_swap_83 : decode cX4_swap 83 = .ok (.aaload, 1) := by decide +kernel
theorem dX4_swap_84 : decode cX4_swap 84 = .ok (.getfield 74, 3) := by decide +kernel
theorem dX4_swap_87 : decode cX4_swap 87 = .ok (.getfield 78, 3) := by decide +kernel
theorem dX4_swap_90 : decode cX4_swap 90 = .ok (.ireturn, 1) := by decide +kernel
theorem dX4_wake_0 : decode cX4_wake 0 = .ok (.aload_n 0, 1) := by decide +kernel
theorem dX4_wake_1 : decode cX4_wake 1 = .ok (.iload_n 1, 1) := by decide +kernel
theorem dX4_wake_2 : decode cX4_wake 2 = .ok (.invokevirtual 39, 3) := by decide +kernel
theorem dX4_wake_5 : decode cX4_wake 5 = .ok (.aload_n 0, 1) := by decide +kernel
theorem dX4_wake_6 : decode cX4_wake 6 = .ok (.getfield 12, 3) := by decide +kernel
theorem dX4_wake_9 : decode cX4_wake 9 = .ok (.getfield 48, 3) := by decide +kernel
theorem dX4_wake_12 : decode cX4_wake 12 = .ok (.iload_n 1, 1) := by decide +kernel
theorem dX4_wake_13 : decode cX4_wake 13 = .ok (.aaload, 1) := by decide +kernel
theorem dX4_wake_14 : decode cX4_wake 14 = .ok (.getfield 83, 3) := by decide +kernel
theorem dX4_wake_17 : decode cX4_wake 17 = .ok (.ifCond .ne 13, 3) := by decide +kernel
theorem dX4_wake_20 : decode cX4_wake 20 = .ok (.new 30, 3) := by decide +kernel
theorem dX4_wake_23 : decode cX4_wake 23 = .ok (.dup, 1) := by decide +kernel
theorem dX4_wake_24 : decode cX4_wake 24 = .ok (.ldc 87, 2) := by decide +kernel
theorem dX4_wake_26 : decode cX4_wake 26 = .ok (.invokespecial 34, 3) := by decide +kernel
theorem dX4_wake_29 : decode cX4_wake 29 = .ok (.athrow, 1) := by decide +kernel
theorem dX4_wake_30 : decode cX4_wake 30 = .ok (.aload_n 0, 1) := by decide +kernel
theorem dX4_wake_31 : decode cX4_wake 31 = .ok (.getfield 12, 3) := by decide +kernel
theorem dX4_wake_34 : decode cX4_wake 34 = .ok (.getfield 48, 3) := by decide +kernel
theorem dX4_wake_37 : decode cX4_wake 37 = .ok (.iload_n 1, 1) := by decide +kernel
theorem dX4_wake_38 : decode cX4_wake 38 = .ok (.aaload, 1) := by decide +kernel
theorem dX4_wake_39 : decode cX4_wake 39 = .ok (.iconst 0, 1) := by decide +kernel
theorem dX4_wake_40 : decode cX4_wake 40 = .ok (.putfield 83, 3) := by decide +kernel
theorem dX4_wake_43 : decode cX4_wake 43 = .ok (.aload_n 0, 1) := by decide +kernel
theorem dX4_wake_44 : decode cX4_wake 44 = .ok (.getfield 12, 3) := by decide +kernel
theorem dX4_wake_47 : decode cX4_wake 47 = .ok (.invokevirtual 89, 3) := by decide +kernel
theorem dX4_wake_50 : decode cX4_wake 50 = .ok (.ireturn, 1) := by decide +kernel
theorem dX4_lad_0 : decode cX4_lad 0 = .ok (.aload_n 0, 1) := by decide +kernel
theorem dX4_lad_1 : decode cX4_lad 1 = .ok (.iload_n 1, 1) := by decide +kernel
theorem dX4_lad_2 : decode cX4_lad 2 = .ok (.invokevirtual 39, 3) := by decide +kernel
theorem dX4_lad_5 : decode cX4_lad 5 = .ok (.iload_n 2, 1) := by decide +kernel
theorem dX4_lad_6 : decode cX4_lad 6 = .ok (.ifCond .lt 9, 3) := by decide +kernel
theorem dX4_lad_9 : decode cX4_lad 9 = .ok (.iload_n 2, 1) := by decide +kernel
theorem dX4_lad_10 : decode cX4_lad 10 = .ok (.bipush 9, 2) := by decide +kernel
theorem dX4_lad_12 : decode cX4_lad 12 = .ok (.if_icmp .lt 13, 3) := by decide +kernel
theorem dX4_lad_15 : decode cX4_lad 15 = .ok (.new 43, 3) := by decide +kernel
theorem dX4_lad_18 : decode cX4_lad 18 = .ok (.dup, 1) := by decide +kernel
theorem dX4_lad_19 : decode cX4_lad 19 = .ok (.ldc 93, 2) := by decide +kernel
theorem dX4_lad_21 : decode cX4_lad 21 = .ok (.invokespecial 47, 3) := by decide +kernel
theorem dX4_lad_24 : decode cX4_lad 24 = .ok (.athrow, 1) := by decide +kernel
theorem dX4_lad_25 : decode cX4_lad 25 = .ok (.aload_n 0, 1) := by decide +kernel
theorem dX4_lad_26 : decode cX4_lad 26 = .ok (.getfield 12, 3) := by decide +kernel
theorem dX4_lad_29 : decode cX4_lad 29 = .ok (.getfield 48, 3) := by decide +kernel
theorem dX4_lad_32 : decode cX4_lad 32 = .ok (.iload_n 1, 1) := by decide +kernel
theorem dX4_lad_33 : decode cX4_lad 33 = .ok (.aaload, 1) := by decide +kernel
theorem dX4_lad_34 : decode cX4_lad 34 = .ok (.iload_n 2, 1) := by decide +kernel
theorem dX4_lad_35 : decode cX4_lad 35 = .ok (.invokevirtual 95, 3) := by decide +kernel
theorem dX4_lad_38 : decode cX4_lad 38 = .ok (.ireturn, 1) := by decide +kernel
theorem dX4_cart_0 : decode cX4_cart 0 = .ok (.aload_n 0, 1) := by decide +kernel
theorem dX4_cart_1 : decode cX4_cart 1 = .ok (.iload_n 1, 1) := by decide +kernel
theorem dX4_cart_2 : decode cX4_cart 2 = .ok (.invokevirtual 39, 3) := by decide +kernel
theorem dX4_cart_5 : decode cX4_cart 5 = .ok (.iload_n 2, 1) := by decide +kernel
theorem dX4_cart_6 : decode cX4_cart 6 = .ok (.ifCond .lt 22, 3) := by decide +kernel
theorem dX4_cart_9 : decode cX4_cart 9 = .ok (.iload_n 2, 1) := by decide +kernel
theorem dX4_cart_10 : decode cX4_cart 10 = .ok (.aload_n 0, 1) := by decide +kernel
theorem dX4_cart_11 : decode cX4_cart 11 = .ok (.getfield 12, 3) := by decide +kernel
theorem dX4_cart_14 : decode cX4_cart 14 = .ok (.getfield 48, 3) := by decide +kernel
theorem dX4_cart_17 : decode cX4_cart 17 = .ok (.iload_n 1, 1) := by decide +kernel
theorem dX4_cart_18 : decode cX4_cart 18 = .ok (.aaload, 1) := by decide +kernel
theorem dX4_cart_19 : decode cX4_cart 19 = .ok (.getfield 74, 3) := by decide +kernel
theorem dX4_cart_22 : decode cX4_cart 22 = .ok (.getfield 78, 3) := by decide +kernel
theorem dX4_cart_25 : decode cX4_cart 25 = .ok (.if_icmp .lt 13, 3) := by decide +kernel
theorem dX4_cart_28 : decode cX4_cart 28 = .ok (.new 43, 3) := by decide +kernel
theorem dX4_cart_31 : decode cX4_cart 31 = .ok (.dup, 1) := by decide +kernel
theorem dX4_cart_32 : decode cX4_cart 32 = .ok (.ldc 98, 2) := by decide +kernel
theorem dX4_cart_34 : decode cX4_cart 34 = .ok (.invokespecial 47, 3) := by decide +kernel
theorem dX4_cart_37 : decode cX4_cart 37 = .ok (.athrow, 1) := by decide +kernel
theorem dX4_cart_38 : decode cX4_cart 38 = .ok (.aload_n 0, 1) := by decide +kernel
theorem dX4_cart_39 : decode cX4_cart 39 = .ok (.getfield 12, 3) := by decide +kernel
theorem dX4_cart_42 : decode cX4_cart 42 = .ok (.aload_n 0, 1) := by decide +kernel
theorem dX4_cart_43 : decode cX4_cart 43 = .ok (.getfield 12, 3) := by decide +kernel
theorem dX4_cart_46 : decode cX4_cart 46 = .ok (.getfield 48, 3) := by decide +kernel
theorem dX4_cart_49 : decode cX4_cart 49 = .ok (.iload_n 1, 1) := by decide +kernel
theorem dX4_cart_50 : decode cX4_cart 50 = .ok (.aaload, 1) := by decide +kernel
theorem dX4_cart_51 : decode cX4_cart 51 = .ok (.getfield 74, 3) := by decide +kernel
theorem dX4_cart_54 : decode cX4_cart 54 = .ok (.iload_n 2, 1) := by decide +kernel
theorem dX4_cart_55 : decode cX4_cart 55 = .ok (.invokevirtual 100, 3) := by decide +kernel
theorem dX4_cart_58 : decode cX4_cart 58 = .ok (.invokevirtual 103, 3) := by decide +kernel
theorem dX4_cart_61 : decode cX4_cart 61 = .ok (.ireturn, 1) := by decide +kernel
theorem dX4_load_0 : decode cX4_load 0 = .ok (.aload_n 0, 1) := by decide +kernel
theorem dX4_load_1 : decode cX4_load 1 = .ok (.iload_n 1, 1) := by decide +kernel
theorem dX4_load_2 : decode cX4_load 2 = .ok (.invokevirtual 106, 3) := by decide +kernel
theorem dX4_load_5 : decode cX4_load 5 = .ok (.iload_n 2, 1) := by decide +kernel
theorem dX4_load_6 : decode cX4_load 6 = .ok (.ifCond .lt 9, 3) := by decide +kernel
theorem dX4_load_9 : decode cX4_load 9 = .ok (.iload_n 2, 1) := by decide +kernel
theorem dX4_load_10 : decode cX4_load 10 = .ok (.bipush 7, 2) := by decide +kernel
theorem dX4_load_12 : decode cX4_load 12 = .ok (.if_icmp .lt 13, 3) := by decide +kernel
theorem dX4_load_15 : decode cX4_load 15 = .ok (.new 43, 3) := by decide +kernel
theorem dX4_load_18 : decode cX4_load 18 = .ok (.dup, 1) := by decide +kernel
theorem dX4_load_19 : decode cX4_load 19 = .ok (.ldc 109, 2) := by decide +kernel
theorem dX4_load_21 : decode cX4_load 21 = .ok (.invokespecial 47, 3) := by decide +kernel
theorem dX4_load_24 : decode cX4_load 24 = .ok (.athrow, 1) := by decide +kernel
theorem dX4_load_25 : decode cX4_load 25 = .ok (.aload_n 0, 1) := by decide +kernel
theorem dX4_load_26 : decode cX4_load 26 = .ok (.getfield 12, 3) := by decide +kernel
theorem dX4_load_29 : decode cX4_load 29 = .ok (.getfield 111, 3) := by decide +kernel
theorem dX4_load_32 : decode cX4_load 32 = .ok (.iload_n 1, 1) := by decide +kernel
theorem dX4_load_33 : decode cX4_load 33 = .ok (.aaload, 1) := by decide +kernel
theorem dX4_load_34 : decode cX4_load 34 = .ok (.iload_n 2, 1) := by decide +kernel
theorem dX4_load_35 : decode cX4_load 35 = .ok (.invokevirtual 115, 3) := by decide +kernel
theorem dX4_load_38 : decode cX4_load 38 = .ok (.ireturn, 1) := by decide +kernel
theorem dX4_count_0 : decode cX4_count 0 = .ok (.iload_n 1, 1) := by decide +kernel
theorem dX4_count_1 : decode cX4_count 1 = .ok (.ifCond .lt 9, 3) := by decide +kernel
theorem dX4_count_4 : decode cX4_count 4 = .ok (.iload_n 1, 1) := by decide +kernel
theorem dX4_count_5 : decode cX4_count 5 = .ok (.bipush 13, 2) := by decide +kernel
theorem dX4_count_7 : decode cX4_count 7 = .ok (.if_icmp .lt 13, 3) := by decide +kernel
theorem dX4_count_10 : decode cX4_count 10 = .ok (.new 43, 3) := by decide +kernel
theorem dX4_count_13 : decode cX4_count 13 = .ok (.dup, 1) := by decide +kernel
theorem dX4_count_14 : decode cX4_count 14 = .ok (.ldc 118, 2) := by decide +kernel
theorem dX4_count_16 : decode cX4_count 16 = .ok (.invokespecial 47, 3) := by decide +kernel
theorem dX4_count_19 : decode cX4_count 19 = .ok (.athrow, 1) := by decide +kernel
theorem dX4_count_20 : decode cX4_count 20 = .ok (.aload_n 0, 1) := by decide +kernel
theorem dX4_count_21 : decode cX4_count 21 = .ok (.getfield 12, 3) := by decide +kernel
theorem dX4_count_24 : decode cX4_count 24 = .ok (.iload_n 1, 1) := by decide +kernel
theorem dX4_count_25 : decode cX4_count 25 = .ok (.invokevirtual 120, 3) := by decide +kernel
theorem dX4_count_28 : decode cX4_count 28 = .ok (.ireturn, 1) := by decide +kernel
theorem dX4_victim_0 : decode cX4_victim 0 = .ok (.aload_n 0, 1) := by decide +kernel
theorem dX4_victim_1 : decode cX4_victim 1 = .ok (.iload_n 1, 1) := by decide +kernel
theorem dX4_victim_2 : decode cX4_victim 2 = .ok (.invokevirtual 39, 3) := by decide +kernel
theorem dX4_victim_5 : decode cX4_victim 5 = .ok (.aload_n 0, 1) := by decide +kernel
theorem dX4_victim_6 : decode cX4_victim 6 = .ok (.getfield 12, 3) := by decide +kernel
theorem dX4_victim_9 : decode cX4_victim 9 = .ok (.aload_n 0, 1) := by decide +kernel
theorem dX4_victim_10 : decode cX4_victim 10 = .ok (.getfield 12, 3) := by decide +kernel
theorem dX4_victim_13 : decode cX4_victim 13 = .ok (.getfield 48, 3) := by decide +kernel
theorem dX4_victim_16 : decode cX4_victim 16 = .ok (.iload_n 1, 1) := by decide +kernel
theorem dX4_victim_17 : decode cX4_victim 17 = .ok (.aaload, 1) := by decide +kernel
theorem dX4_victim_18 : decode cX4_victim 18 = .ok (.invokevirtual 121, 3) := by decide +kernel
theorem dX4_victim_21 : decode cX4_victim 21 = .ok (.ireturn, 1) := by decide +kernel
theorem dX4_thief_0 : decode cX4_thief 0 = .ok (.iconst (-1), 1) := by decide +kernel
theorem dX4_thief_1 : decode cX4_thief 1 = .ok (.istore_n 1, 1) := by decide +kernel
theorem dX4_thief_2 : decode cX4_thief 2 = .ok (.iconst (-1), 1) := by decide +kernel
theorem dX4_thief_3 : decode cX4_thief 3 = .ok (.istore_n 2, 1) := by decide +kernel
theorem dX4_thief_4 : decode cX4_thief 4 = .ok (.iconst 0, 1) := by decide +kernel
theorem dX4_thief_5 : decode cX4_thief 5 = .ok (.istore_n 3, 1) := by decide +kernel
theorem dX4_thief_6 : decode cX4_thief 6 = .ok (.iload_n 3, 1) := by decide +kernel
theorem dX4_thief_7 : decode cX4_thief 7 = .ok (.aload_n 0, 1) := by decide +kernel
theorem dX4_thief_8 : decode cX4_thief 8 = .ok (.getfield 12, 3) := by decide +kernel
theorem dX4_thief_11 : decode cX4_thief 11 = .ok (.getfield 26, 3) := by decide +kernel
theorem dX4_thief_14 : decode cX4_thief 14 = .ok (.if_icmp .ge 40, 3) := by decide +kernel
theorem dX4_thief_17 : decode cX4_thief 17 = .ok (.aload_n 0, 1) := by decide +kernel
theorem dX4_thief_18 : decode cX4_thief 18 = .ok (.getfield 12, 3) := by decide +kernel
theorem dX4_thief_21 : decode cX4_thief 21 = .ok (.getfield 48, 3) := by decide +kernel
theorem dX4_thief_24 : decode cX4_thief 24 = .ok (.iload_n 3, 1) := by decide +kernel
theorem dX4_thief_25 : decode cX4_thief 25 = .ok (.aaload, 1) := by decide +kernel
theorem dX4_thief_26 : decode cX4_thief 26 = .ok (.getfield 125, 3) := by decide +kernel
theorem dX4_thief_29 : decode cX4_thief 29 = .ok (.iload_n 2, 1) := by decide +kernel
theorem dX4_thief_30 : decode cX4_thief 30 = .ok (.if_icmp .le 18, 3) := by decide +kernel
theorem dX4_thief_33 : decode cX4_thief 33 = .ok (.aload_n 0, 1) := by decide +kernel
theorem dX4_thief_34 : decode cX4_thief 34 = .ok (.getfield 12, 3) := by decide +kernel
theorem dX4_thief_37 : decode cX4_thief 37 = .ok (.getfield 48, 3) := by decide +kernel
theorem dX4_thief_40 : decode cX4_thief 40 = .ok (.iload_n 3, 1) := by decide +kernel
theorem dX4_thief_41 : decode cX4_thief 41 = .ok (.aaload, 1) := by decide +kernel
theorem dX4_thief_42 : decode cX4_thief 42 = .ok (.getfield 125, 3) := by decide +kernel
theorem dX4_thief_45 : decode cX4_thief 45 = .ok (.istore_n 2, 1) := by decide +kernel
theorem dX4_thief_46 : decode cX4_thief 46 = .ok (.iload_n 3, 1) := by decide +kernel
theorem dX4_thief_47 : decode cX4_thief 47 = .ok (.istore_n 1, 1) := by decide +kernel
theorem dX4_thief_48 : decode cX4_thief 48 = .ok (.iinc 3 1, 3) := by decide +kernel
theorem dX4_thief_51 : decode cX4_thief 51 = .ok (.goto (-45), 3) := by decide +kernel
theorem dX4_thief_54 : decode cX4_thief 54 = .ok (.iload_n 1, 1) := by decide +kernel
theorem dX4_thief_55 : decode cX4_thief 55 = .ok (.ireturn, 1) := by decide +kernel
theorem dX4_pass_0 : decode cX4_pass 0 = .ok (.iload_n 1, 1) := by decide +kernel
theorem dX4_pass_1 : decode cX4_pass 1 = .ok (.bipush 60, 2) := by decide +kernel
theorem dX4_pass_3 : decode cX4_pass 3 = .ok (.invokestatic 128, 3) := by decide +kernel
theorem dX4_pass_6 : decode cX4_pass 6 = .ok (.aload_n 0, 1) := by decide +kernel
theorem dX4_pass_7 : decode cX4_pass 7 = .ok (.getfield 12, 3) := by decide +kernel
theorem dX4_pass_10 : decode cX4_pass 10 = .ok (.iconst 3, 1) := by decide +kernel
theorem dX4_pass_11 : decode cX4_pass 11 = .ok (.invokevirtual 120, 3) := by decide +kernel
theorem dX4_pass_14 : decode cX4_pass 14 = .ok (.istore_n 2, 1) := by decide +kernel
theorem dX4_pass_15 : decode cX4_pass 15 = .ok (.aload_n 0, 1) := by decide +kernel
theorem dX4_pass_16 : decode cX4_pass 16 = .ok (.getfield 12, 3) := by decide +kernel
theorem dX4_pass_19 : decode cX4_pass 19 = .ok (.iload_n 1, 1) := by decide +kernel
theorem dX4_pass_20 : decode cX4_pass 20 = .ok (.invokevirtual 132, 3) := by decide +kernel
theorem dX4_pass_23 : decode cX4_pass 23 = .ok (.aload_n 0, 1) := by decide +kernel
theorem dX4_pass_24 : decode cX4_pass 24 = .ok (.getfield 12, 3) := by decide +kernel
theorem dX4_pass_27 : decode cX4_pass 27 = .ok (.iconst 3, 1) := by decide +kernel
theorem dX4_pass_28 : decode cX4_pass 28 = .ok (.invokevirtual 120, 3) := by decide +kernel
theorem dX4_pass_31 : decode cX4_pass 31 = .ok (.iload_n 2, 1) := by decide +kernel
theorem dX4_pass_32 : decode cX4_pass 32 = .ok (.isub, 1) := by decide +kernel
theorem dX4_pass_33 : decode cX4_pass 33 = .ok (.ireturn, 1) := by decide +kernel
theorem dX4_until_0 : decode cX4_until 0 = .ok (.aload_n 0, 1) := by decide +kernel
theorem dX4_until_1 : decode cX4_until 1 = .ok (.iload_n 1, 1) := by decide +kernel
theorem dX4_until_2 : decode cX4_until 2 = .ok (.invokevirtual 106, 3) := by decide +kernel
theorem dX4_until_5 : decode cX4_until 5 = .ok (.aload_n 0, 1) := by decide +kernel
theorem dX4_until_6 : decode cX4_until 6 = .ok (.getfield 16, 3) := by decide +kernel
theorem dX4_until_9 : decode cX4_until 9 = .ok (.aload_n 0, 1) := by decide +kernel
theorem dX4_until_10 : decode cX4_until 10 = .ok (.getfield 12, 3) := by decide +kernel
theorem dX4_until_13 : decode cX4_until 13 = .ok (.invokevirtual 135, 3) := by decide +kernel
theorem dX4_until_16 : decode cX4_until 16 = .ok (.aload_n 0, 1) := by decide +kernel
theorem dX4_until_17 : decode cX4_until 17 = .ok (.getfield 16, 3) := by decide +kernel
theorem dX4_until_20 : decode cX4_until 20 = .ok (.getfield 111, 3) := by decide +kernel
theorem dX4_until_23 : decode cX4_until 23 = .ok (.iload_n 1, 1) := by decide +kernel
theorem dX4_until_24 : decode cX4_until 24 = .ok (.aaload, 1) := by decide +kernel
theorem dX4_until_25 : decode cX4_until 25 = .ok (.astore_n 2, 1) := by decide +kernel
theorem dX4_until_26 : decode cX4_until 26 = .ok (.iconst 0, 1) := by decide +kernel
theorem dX4_until_27 : decode cX4_until 27 = .ok (.istore_n 3, 1) := by decide +kernel
theorem dX4_until_28 : decode cX4_until 28 = .ok (.aload_n 2, 1) := by decide +kernel
theorem dX4_until_29 : decode cX4_until 29 = .ok (.getfield 139, 3) := by decide +kernel
theorem dX4_until_32 : decode cX4_until 32 = .ok (.iconst 2, 1) := by decide +kernel
theorem dX4_until_33 : decode cX4_until 33 = .ok (.if_icmp .eq 24, 3) := by decide +kernel
theorem dX4_until_36 : decode cX4_until 36 = .ok (.iload_n 3, 1) := by decide +kernel
theorem dX4_until_37 : decode cX4_until 37 = .ok (.sipush 300, 3) := by decide +kernel
theorem dX4_until_40 : decode cX4_until 40 = .ok (.if_icmp .ge 17, 3) := by decide +kernel
theorem dX4_until_43 : decode cX4_until 43 = .ok (.aload_n 0, 1) := by decide +kernel
theorem dX4_until_44 : decode cX4_until 44 = .ok (.getfield 16, 3) := by decide +kernel
theorem dX4_until_47 : decode cX4_until 47 = .ok (.iconst 1, 1) := by decide +kernel
theorem dX4_until_48 : decode cX4_until 48 = .ok (.invokevirtual 132, 3) := by decide +kernel
theorem dX4_until_51 : decode cX4_until 51 = .ok (.iinc 3 1, 3) := by decide +kernel
theorem dX4_until_54 : decode cX4_until 54 = .ok (.goto (-26), 3) := by decide +kernel
theorem dX4_until_57 : decode cX4_until 57 = .ok (.aload_n 2, 1) := by decide +kernel
theorem dX4_until_58 : decode cX4_until 58 = .ok (.getfield 139, 3) := by decide +kernel
theorem dX4_until_61 : decode cX4_until 61 = .ok (.iconst 2, 1) := by decide +kernel
theorem dX4_until_62 : decode cX4_until 62 = .ok (.if_icmp .ne 7, 3) := by decide +kernel
theorem dX4_until_65 : decode cX4_until 65 = .ok (.iload_n 3, 1) := by decide +kernel
theorem dX4_until_66 : decode cX4_until 66 = .ok (.goto 4, 3) := by decide +kernel
theorem dX4_until_69 : decode cX4_until 69 = .ok (.iconst (-1), 1) := by decide +kernel
theorem dX4_until_70 : decode cX4_until 70 = .ok (.ireturn, 1) := by decide +kernel
theorem dX4_foresee_0 : decode cX4_foresee 0 = .ok (.iload_n 1, 1) := by decide +kernel
theorem dX4_foresee_1 : decode cX4_foresee 1 = .ok (.bipush 60, 2) := by decide +kernel
theorem dX4_foresee_3 : decode cX4_foresee 3 = .ok (.invokestatic 128, 3) := by decide +kernel
theorem dX4_foresee_6 : decode cX4_foresee 6 = .ok (.iload_n 2, 1) := by decide +kernel
theorem dX4_foresee_7 : decode cX4_foresee 7 = .ok (.iconst 3, 1) := by decide +kernel
theorem dX4_foresee_8 : decode cX4_foresee 8 = .ok (.if_icmp .lt 9, 3) := by decide +kernel
theorem dX4_foresee_11 : decode cX4_foresee 11 = .ok (.iload_n 2, 1) := by decide +kernel
theorem dX4_foresee_12 : decode cX4_foresee 12 = .ok (.bipush 11, 2) := by decide +kernel
theorem dX4_foresee_14 : decode cX4_foresee 14 = .ok (.if_icmp .le 13, 3) := by decide +kernel
theorem dX4_foresee_17 : decode cX4_foresee 17 = .ok (.new 43, 3) := by decide +kernel
theorem dX4_foresee_20 : decode cX4_foresee 20 = .ok (.dup, 1) := by decide +kernel
theorem dX4_foresee_21 : decode cX4_foresee 21 = .ok (.ldc 142, 2) := by decide +kernel
theorem dX4_foresee_23 : decode cX4_foresee 23 = .ok (.invokespecial 47, 3) := by decide +kernel
theorem dX4_foresee_26 : decode cX4_foresee 26 = .ok (.athrow, 1) := by decide +kernel
theorem dX4_foresee_27 : decode cX4_foresee 27 = .ok (.aload_n 0, 1) := by decide +kernel
theorem dX4_foresee_28 : decode cX4_foresee 28 = .ok (.getfield 16, 3) := by decide +kernel
theorem dX4_foresee_31 : decode cX4_foresee 31 = .ok (.aload_n 0, 1) := by decide +kernel
theorem dX4_foresee_32 : decode cX4_foresee 32 = .ok (.getfield 12, 3) := by decide +kernel
theorem dX4_foresee_35 : decode cX4_foresee 35 = .ok (.invokevirtual 135, 3) := by decide +kernel
theorem dX4_foresee_38 : decode cX4_foresee 38 = .ok (.aload_n 0, 1) := by decide +kernel
theorem dX4_foresee_39 : decode cX4_foresee 39 = .ok (.getfield 16, 3) := by decide +kernel
theorem dX4_foresee_42 : decode cX4_foresee 42 = .ok (.iload_n 1, 1) := by decide +kernel
theorem dX4_foresee_43 : decode cX4_foresee 43 = .ok (.invokevirtual 132, 3) := by decide +kernel
theorem dX4_foresee_46 : decode cX4_foresee 46 = .ok (.aload_n 0, 1) := by decide +kernel
theorem dX4_foresee_47 : decode cX4_foresee 47 = .ok (.getfield 16, 3) := by decide +kernel
theorem dX4_foresee_50 : decode cX4_foresee 50 = .ok (.iload_n 2, 1) := by decide +kernel
theorem dX4_foresee_51 : decode cX4_foresee 51 = .ok (.invokevirtual 120, 3) := by decide +kernel
theorem dX4_foresee_54 : decode cX4_foresee 54 = .ok (.ireturn, 1) := by decide +kernel
theorem dX4_advise_0 : decode cX4_advise 0 = .ok (.iload_n 1, 1) := by decide +kernel
theorem dX4_advise_1 : decode cX4_advise 1 = .ok (.bipush 40, 2) := by decide +kernel
theorem dX4_advise_3 : decode cX4_advise 3 = .ok (.invokestatic 128, 3) := by decide +kernel
theorem dX4_advise_6 : decode cX4_advise 6 = .ok (.iconst 4, 1) := by decide +kernel
theorem dX4_advise_7 : decode cX4_advise 7 = .ok (.istore_n 2, 1) := by decide +kernel
theorem dX4_advise_8 : decode cX4_advise 8 = .ok (.iconst (-1), 1) := by decide +kernel
theorem dX4_advise_9 : decode cX4_advise 9 = .ok (.istore_n 3, 1) := by decide +kernel
theorem dX4_advise_10 : decode cX4_advise 10 = .ok (.getstatic 144, 3) := by decide +kernel
theorem dX4_advise_13 : decode cX4_advise 13 = .ok (.astore 4, 2) := by decide +kernel
theorem dX4_advise_15 : decode cX4_advise 15 = .ok (.aload 4, 2) := by decide +kernel
theorem dX4_advise_17 : decode cX4_advise 17 = .ok (.arraylength, 1) := by decide +kernel
theorem dX4_advise_18 : decode cX4_advise 18 = .ok (.istore 5, 2) := by decide +kernel
theorem dX4_advise_20 : decode cX4_advise 20 = .ok (.iconst 0, 1) := by decide +kernel
theorem dX4_advise_21 : decode cX4_advise 21 = .ok (.istore 6, 2) := by decide +kernel
theorem dX4_advise_23 : decode cX4_advise 23 = .ok (.iload 6, 2) := by decide +kernel
theorem dX4_advise_25 : decode cX4_advise 25 = .ok (.iload 5, 2) := by decide +kernel
theorem dX4_advise_27 : decode cX4_advise 27 = .ok (.if_icmp .ge 67, 3) := by decide +kernel
theorem dX4_advise_30 : decode cX4_advise 30 = .ok (.aload 4, 2) := by decide +kernel
theorem dX4_advise_32 : decode cX4_advise 32 = .ok (.iload 6, 2) := by decide +kernel
theorem dX4_advise_34 : decode cX4_advise 34 = .ok (.iaload, 1) := by decide +kernel
theorem dX4_advise_35 : decode cX4_advise 35 = .ok (.istore 7, 2) := by decide +kernel
theorem dX4_advise_37 : decode cX4_advise 37 = .ok (.aload_n 0, 1) := by decide +kernel
theorem dX4_advise_38 : decode cX4_advise 38 = .ok (.getfield 16, 3) := by decide +kernel
theorem dX4_advise_41 : decode cX4_advise 41 = .ok (.aload_n 0, 1) := by decide +kernel
theorem dX4_advise_42 : decode cX4_advise 42 = .ok (.getfield 12, 3) := by decide +kernel
theorem dX4_advise_45 : decode cX4_advise 45 = .ok (.invokevirtual 135, 3) := by decide +kernel
theorem dX4_advise_48 : decode cX4_advise 48 = .ok (.aload_n 0, 1) := by decide +kernel
theorem dX4_advise_49 : decode cX4_advise 49 = .ok (.getfield 16, 3) := by decide +kernel
theorem dX4_advise_52 : decode cX4_advise 52 = .ok (.iload 7, 2) := by decide +kernel
theorem dX4_advise_54 : decode cX4_advise 54 = .ok (.putfield 59, 3) := by decide +kernel
theorem dX4_advise_57 : decode cX4_advise 57 = .ok (.aload_n 0, 1) := by decide +kernel
theorem dX4_advise_58 : decode cX4_advise 58 = .ok (.getfield 16, 3) := by decide +kernel
theorem dX4_advise_61 : decode cX4_advise 61 = .ok (.iload_n 1, 1) := by decide +kernel
theorem dX4_advise_62 : decode cX4_advise 62 = .ok (.invokevirtual 132, 3) := by decide +kernel
theorem dX4_advise_65 : decode cX4_advise 65 = .ok (.aload_n 0, 1) := by decide +kernel
theorem dX4_advise_66 : decode cX4_advise 66 = .ok (.getfield 16, 3) := by decide +kernel
theorem dX4_advise_69 : decode cX4_advise 69 = .ok (.bipush 11, 2) := by decide +kernel
theorem dX4_advise_71 : decode cX4_advise 71 = .ok (.invokevirtual 120, 3) := by decide +kernel
theorem dX4_advise_74 : decode cX4_advise 74 = .ok (.istore 8, 2) := by decide +kernel
theorem dX4_advise_76 : decode cX4_advise 76 = .ok (.iload 8, 2) := by decide +kernel
theorem dX4_advise_78 : decode cX4_advise 78 = .ok (.iload_n 3, 1) := by decide +kernel
theorem dX4_advise_79 : decode cX4_advise 79 = .ok (.if_icmp .le 9, 3) := by decide +kernel
theorem dX4_advise_82 : decode cX4_advise 82 = .ok (.iload 8, 2) := by decide +kernel
theorem dX4_advise_84 : decode cX4_advise 84 = .ok (.istore_n 3, 1) := by decide +kernel
theorem dX4_advise_85 : decode cX4_advise 85 = .ok (.iload 7, 2) := by decide +kernel
theorem dX4_advise_87 : decode cX4_advise 87 = .ok (.istore_n 2, 1) := by decide +kernel
theorem dX4_advise_88 : decode cX4_advise 88 = .ok (.iinc 6 1, 3) := by decide +kernel
theorem dX4_advise_91 : decode cX4_advise 91 = .ok (.goto (-68), 3) := by decide +kernel
theorem dX4_advise_94 : decode cX4_advise 94 = .ok (.iload_n 2, 1) := by decide +kernel
theorem dX4_advise_95 : decode cX4_advise 95 = .ok (.ireturn, 1) := by decide +kernel
theorem dX4_mean_0 : decode cX4_mean 0 = .ok (.aload_n 0, 1) := by decide +kernel
theorem dX4_mean_1 : decode cX4_mean 1 = .ok (.getfield 12, 3) := by decide +kernel
theorem dX4_mean_4 : decode cX4_mean 4 = .ok (.getfield 26, 3) := by decide +kernel
theorem dX4_mean_7 : decode cX4_mean 7 = .ok (.ifCond .ne 5, 3) := by decide +kernel
theorem dX4_mean_10 : decode cX4_mean 10 = .ok (.dconst 0, 1) := by decide +kernel
theorem dX4_mean_11 : decode cX4_mean 11 = .ok (.dreturn, 1) := by decide +kernel
theorem dX4_mean_12 : decode cX4_mean 12 = .ok (.aload_n 0, 1) := by decide +kernel
theorem dX4_mean_13 : decode cX4_mean 13 = .ok (.getfield 12, 3) := by decide +kernel
theorem dX4_mean_16 : decode cX4_mean 16 = .ok (.bipush 10, 2) := by decide +kernel
theorem dX4_mean_18 : decode cX4_mean 18 = .ok (.invokevirtual 120, 3) := by decide +kernel
theorem dX4_mean_21 : decode cX4_mean 21 = .ok (.i2d, 1) := by decide +kernel
theorem dX4_mean_22 : decode cX4_mean 22 = .ok (.aload_n 0, 1) := by decide +kernel
theorem dX4_mean_23 : decode cX4_mean 23 = .ok (.getfield 12, 3) := by decide +kernel
theorem dX4_mean_26 : decode cX4_mean 26 = .ok (.getfield 26, 3) := by decide +kernel
theorem dX4_mean_29 : decode cX4_mean 29 = .ok (.i2d, 1) := by decide +kernel
theorem dX4_mean_30 : decode cX4_mean 30 = .ok (.ddiv, 1) := by decide +kernel
theorem dX4_mean_31 : decode cX4_mean 31 = .ok (.dreturn, 1) := by decide +kernel
theorem dX4_digest_0 : decode cX4_digest 0 = .ok (.ldc2_w 148, 3) := by decide +kernel
theorem dX4_digest_3 : decode cX4_digest 3 = .ok (.lstore_n 1, 1) := by decide +kernel
theorem dX4_digest_4 : decode cX4_digest 4 = .ok (.iconst 0, 1) := by decide +kernel
theorem dX4_digest_5 : decode cX4_digest 5 = .ok (.istore_n 3, 1) := by decide +kernel
theorem dX4_digest_6 : decode cX4_digest 6 = .ok (.iload_n 3, 1) := by decide +kernel
theorem dX4_digest_7 : decode cX4_digest 7 = .ok (.bipush 13, 2) := by decide +kernel
theorem dX4_digest_9 : decode cX4_digest 9 = .ok (.if_icmp .ge 22, 3) := by decide +kernel
theorem dX4_digest_12 : decode cX4_digest 12 = .ok (.lload_n 1, 1) := by decide +kernel
theorem dX4_digest_13 : decode cX4_digest 13 = .ok (.aload_n 0, 1) := by decide +kernel
theorem dX4_digest_14 : decode cX4_digest 14 = .ok (.getfield 12, 3) := by decide +kernel
theorem dX4_digest_17 : decode cX4_digest 17 = .ok (.iload_n 3, 1) := by decide +kernel
theorem dX4_digest_18 : decode cX4_digest 18 = .ok (.invokevirtual 120, 3) := by decide +kernel
theorem dX4_digest_21 : decode cX4_digest 21 = .ok (.invokestatic 150, 3) := by decide +kernel
theorem dX4_digest_24 : decode cX4_digest 24 = .ok (.lstore_n 1, 1) := by decide +kernel
theorem dX4_digest_25 : decode cX4_digest 25 = .ok (.iinc 3 1, 3) := by decide +kernel
theorem dX4_digest_28 : decode cX4_digest 28 = .ok (.goto (-22), 3) := by decide +kernel
theorem dX4_digest_31 : decode cX4_digest 31 = .ok (.iconst 0, 1) := by decide +kernel
theorem dX4_digest_32 : decode cX4_digest 32 = .ok (.istore_n 3, 1) := by decide +kernel
theorem dX4_digest_33 : decode cX4_digest 33 = .ok (.iload_n 3, 1) := by decide +kernel
theorem dX4_digest_34 : decode cX4_digest 34 = .ok (.aload_n 0, 1) := by decide +kernel
theorem dX4_digest_35 : decode cX4_digest 35 = .ok (.getfield 12, 3) := by decide +kernel
theorem dX4_digest_38 : decode cX4_digest 38 = .ok (.getfield 26, 3) := by decide +kernel
theorem dX4_digest_41 : decode cX4_digest 41 = .ok (.if_icmp .ge 24, 3) := by decide +kernel
theorem dX4_digest_44 : decode cX4_digest 44 = .ok (.aload_n 0, 1) := by decide +kernel
theorem dX4_digest_45 : decode cX4_digest 45 = .ok (.lload_n 1, 1) := by decide +kernel
theorem dX4_digest_46 : decode cX4_digest 46 = .ok (.aload_n 0, 1) := by decide +kernel
theorem dX4_digest_47 : decode cX4_digest 47 = .ok (.getfield 12, 3) := by decide +kernel
theorem dX4_digest_50 : decode cX4_digest 50 = .ok (.getfield 48, 3) := by decide +kernel
theorem dX4_digest_53 : decode cX4_digest 53 = .ok (.iload_n 3, 1) := by decide +kernel
theorem dX4_digest_54 : decode cX4_digest 54 = .ok (.aaload, 1) := by decide +kernel
theorem dX4_digest_55 : decode cX4_digest 55 = .ok (.invokevirtual 154, 3) := by decide +kernel
theorem dX4_digest_58 : decode cX4_digest 58 = .ok (.lstore_n 1, 1) := by decide +kernel
theorem dX4_digest_59 : decode cX4_digest 59 = .ok (.iinc 3 1, 3) := by decide +kernel
theorem dX4_digest_62 : decode cX4_digest 62 = .ok (.goto (-29), 3) := by decide +kernel
theorem dX4_digest_65 : decode cX4_digest 65 = .ok (.iconst 0, 1) := by decide +kernel
theorem dX4_digest_66 : decode cX4_digest 66 = .ok (.istore_n 3, 1) := by decide +kernel
theorem dX4_digest_67 : decode cX4_digest 67 = .ok (.iload_n 3, 1) := by decide +kernel
theorem dX4_digest_68 : decode cX4_digest 68 = .ok (.aload_n 0, 1) := by decide +kernel
theorem dX4_digest_69 : decode cX4_digest 69 = .ok (.getfield 12, 3) := by decide +kernel
theorem dX4_digest_72 : decode cX4_digest 72 = .ok (.getfield 64, 3) := by decide +kernel
theorem dX4_digest_75 : decode cX4_digest 75 = .ok (.if_icmp .ge 44, 3) := by decide +kernel
theorem dX4_digest_78 : decode cX4_digest 78 = .ok (.iconst 0, 1) := by decide +kernel
theorem dX4_digest_79 : decode cX4_digest 79 = .ok (.istore 4, 2) := by decide +kernel
theorem dX4_digest_81 : decode cX4_digest 81 = .ok (.iload 4, 2) := by decide +kernel
theorem dX4_digest_83 : decode cX4_digest 83 = .ok (.bipush 7, 2) := by decide +kernel
theorem dX4_digest_85 : decode cX4_digest 85 = .ok (.if_icmp .ge 28, 3) := by decide +kernel
theorem dX4_digest_88 : decode cX4_digest 88 = .ok (.lload_n 1, 1) := by decide +kernel
theorem dX4_digest_89 : decode cX4_digest 89 = .ok (.aload_n 0, 1) := by decide +kernel
theorem dX4_digest_90 : decode cX4_digest 90 = .ok (.getfield 12, 3) := by decide +kernel
theorem dX4_digest_93 : decode cX4_digest 93 = .ok (.getfield 111, 3) := by decide +kernel
theorem dX4_digest_96 : decode cX4_digest 96 = .ok (.iload_n 3, 1) := by decide +kernel
theorem dX4_digest_97 : decode cX4_digest 97 = .ok (.aaload, 1) := by decide +kernel
theorem dX4_digest_98 : decode cX4_digest 98 = .ok (.iload 4, 2) := by decide +kernel
theorem dX4_digest_100 : decode cX4_digest 100 = .ok (.invokevirtual 115, 3) := by decide +kernel
theorem dX4_digest_103 : decode cX4_digest 103 = .ok (.invokestatic 150, 3) := by decide +kernel
theorem dX4_digest_106 : decode cX4_digest 106 = .ok (.lstore_n 1, 1) := by decide +kernel
theorem dX4_digest_107 : decode cX4_digest 107 = .ok (.iinc 4 1, 3) := by decide +kernel
theorem dX4_digest_110 : decode cX4_digest 110 = .ok (.goto (-29), 3) := by decide +kernel
theorem dX4_digest_113 : decode cX4_digest 113 = .ok (.iinc 3 1, 3) := by decide +kernel
theorem dX4_digest_116 : decode cX4_digest 116 = .ok (.goto (-49), 3) := by decide +kernel
theorem dX4_digest_119 : decode cX4_digest 119 = .ok (.lload_n 1, 1) := by decide +kernel
theorem dX4_digest_120 : decode cX4_digest 120 = .ok (.lreturn, 1) := by decide +kernel
theorem dX4_mixedWithLad_0 : decode cX4_mixedWithLad 0 = .ok (.lload_n 1, 1) := by decide +kernel
theorem dX4_mixedWithLad_1 : decode cX4_mixedWithLad 1 = .ok (.lstore 4, 2) := by decide +kernel
theorem dX4_mixedWithLad_3 : decode cX4_mixedWithLad 3 = .ok (.iconst 0, 1) := by decide +kernel
theorem dX4_mixedWithLad_4 : decode cX4_mixedWithLad 4 = .ok (.istore 6, 2) := by decide +kernel
theorem dX4_mixedWithLad_6 : decode cX4_mixedWithLad 6 = .ok (.iload 6, 2) := by decide +kernel
theorem dX4_mixedWithLad_8 : decode cX4_mixedWithLad 8 = .ok (.bipush 9, 2) := by decide +kernel
theorem dX4_mixedWithLad_10 : decode cX4_mixedWithLad 10 = .ok (.if_icmp .ge 22, 3) := by decide +kernel
theorem dX4_mixedWithLad_13 : decode cX4_mixedWithLad 13 = .ok (.lload 4, 2) := by decide +kernel
theorem dX4_mixedWithLad_15 : decode cX4_mixedWithLad 15 = .ok (.aload_n 3, 1) := by decide +kernel
theorem dX4_mixedWithLad_16 : decode cX4_mixedWithLad 16 = .ok (.iload 6, 2) := by decide +kernel
theorem dX4_mixedWithLad_18 : decode cX4_mixedWithLad 18 = .ok (.invokevirtual 95, 3) := by decide +kernel
theorem dX4_mixedWithLad_21 : decode cX4_mixedWithLad 21 = .ok (.invokestatic 150, 3) := by decide +kernel
theorem dX4_mixedWithLad_24 : decode cX4_mixedWithLad 24 = .ok (.lstore 4, 2) := by decide +kernel
theorem dX4_mixedWithLad_26 : decode cX4_mixedWithLad 26 = .ok (.iinc 6 1, 3) := by decide +kernel
theorem dX4_mixedWithLad_29 : decode cX4_mixedWithLad 29 = .ok (.goto (-23), 3) := by decide +kernel
theorem dX4_mixedWithLad_32 : decode cX4_mixedWithLad 32 = .ok (.iconst 0, 1) := by decide +kernel
theorem dX4_mixedWithLad_33 : decode cX4_mixedWithLad 33 = .ok (.istore 6, 2) := by decide +kernel
theorem dX4_mixedWithLad_35 : decode cX4_mixedWithLad 35 = .ok (.iload 6, 2) := by decide +kernel
theorem dX4_mixedWithLad_37 : decode cX4_mixedWithLad 37 = .ok (.aload_n 3, 1) := by decide +kernel
theorem dX4_mixedWithLad_38 : decode cX4_mixedWithLad 38 = .ok (.getfield 74, 3) := by decide +kernel
theorem dX4_mixedWithLad_41 : decode cX4_mixedWithLad 41 = .ok (.getfield 78, 3) := by decide +kernel
theorem dX4_mixedWithLad_44 : decode cX4_mixedWithLad 44 = .ok (.if_icmp .ge 32, 3) := by decide +kernel
theorem dX4_mixedWithLad_47 : decode cX4_mixedWithLad 47 = .ok (.lload 4, 2) := by decide +kernel
theorem dX4_mixedWithLad_49 : decode cX4_mixedWithLad 49 = .ok (.aload_n 0, 1) := by decide +kernel
theorem dX4_mixedWithLad_50 : decode cX4_mixedWithLad 50 = .ok (.getfield 12, 3) := by decide +kernel
theorem dX4_mixedWithLad_53 : decode cX4_mixedWithLad 53 = .ok (.aload_n 3, 1) := by decide +kernel
theorem dX4_mixedWithLad_54 : decode cX4_mixedWithLad 54 = .ok (.getfield 74, 3) := by decide +kernel
theorem dX4_mixedWithLad_57 : decode cX4_mixedWithLad 57 = .ok (.iload 6, 2) := by decide +kernel
theorem dX4_mixedWithLad_59 : decode cX4_mixedWithLad 59 = .ok (.invokevirtual 100, 3) := by decide +kernel
theorem dX4_mixedWithLad_62 : decode cX4_mixedWithLad 62 = .ok (.invokevirtual 103, 3) := by decide +kernel
theorem dX4_mixedWithLad_65 : decode cX4_mixedWithLad 65 = .ok (.invokestatic 150, 3) := by decide +kernel
theorem dX4_mixedWithLad_68 : decode cX4_mixedWithLad 68 = .ok (.lstore 4, 2) := by decide +kernel
theorem dX4_mixedWithLad_70 : decode cX4_mixedWithLad 70 = .ok (.iinc 6 1, 3) := by decide +kernel
theorem dX4_mixedWithLad_73 : decode cX4_mixedWithLad 73 = .ok (.goto (-38), 3) := by decide +kernel
theorem dX4_mixedWithLad_76 : decode cX4_mixedWithLad 76 = .ok (.lload 4, 2) := by decide +kernel
theorem dX4_mixedWithLad_78 : decode cX4_mixedWithLad 78 = .ok (.lreturn, 1) := by decide +kernel
theorem dX4_mixed_0 : decode cX4_mixed 0 = .ok (.lload_n 0, 1) := by decide +kernel
theorem dX4_mixed_1 : decode cX4_mixed 1 = .ok (.ldc2_w 158, 3) := by decide +kernel
theorem dX4_mixed_4 : decode cX4_mixed 4 = .ok (.lmul, 1) := by decide +kernel
theorem dX4_mixed_5 : decode cX4_mixed 5 = .ok (.iload_n 2, 1) := by decide +kernel
theorem dX4_mixed_6 : decode cX4_mixed 6 = .ok (.i2l, 1) := by decide +kernel
theorem dX4_mixed_7 : decode cX4_mixed 7 = .ok (.ladd, 1) := by decide +kernel
theorem dX4_mixed_8 : decode cX4_mixed 8 = .ok (.lreturn, 1) := by decide +kernel
theorem dX4_needLad_0 : decode cX4_needLad 0 = .ok (.iload_n 1, 1) := by decide +kernel
theorem dX4_needLad_1 : decode cX4_needLad 1 = .ok (.ifCond .lt 14, 3) := by decide +kernel
theorem dX4_needLad_4 : decode cX4_needLad 4 = .ok (.iload_n 1, 1) := by decide +kernel
theorem dX4_needLad_5 : decode cX4_needLad 5 = .ok (.aload_n 0, 1) := by decide +kernel
theorem dX4_needLad_6 : decode cX4_needLad 6 = .ok (.getfield 12, 3) := by decide +kernel
theorem dX4_needLad_9 : decode cX4_needLad 9 = .ok (.getfield 26, 3) := by decide +kernel
theorem dX4_needLad_12 : decode cX4_needLad 12 = .ok (.if_icmp .lt 13, 3) := by decide +kernel
theorem dX4_needLad_15 : decode cX4_needLad 15 = .ok (.new 43, 3) := by decide +kernel
theorem dX4_needLad_18 : decode cX4_needLad 18 = .ok (.dup, 1) := by decide +kernel
theorem dX4_needLad_19 : decode cX4_needLad 19 = .ok (.ldc 160, 2) := by decide +kernel
theorem dX4_needLad_21 : decode cX4_needLad 21 = .ok (.invokespecial 47, 3) := by decide +kernel
theorem dX4_needLad_24 : decode cX4_needLad 24 = .ok (.athrow, 1) := by decide +kernel
theorem dX4_needLad_25 : decode cX4_needLad 25 = .ok (.return_, 1) := by decide +kernel
theorem dX4_needLoad_0 : decode cX4_needLoad 0 = .ok (.iload_n 1, 1) := by decide +kernel
theorem dX4_needLoad_1 : decode cX4_needLoad 1 = .ok (.ifCond .lt 14, 3) := by decide +kernel
theorem dX4_needLoad_4 : decode cX4_needLoad 4 = .ok (.iload_n 1, 1) := by decide +kernel
theorem dX4_needLoad_5 : decode cX4_needLoad 5 = .ok (.aload_n 0, 1) := by decide +kernel
theorem dX4_needLoad_6 : decode cX4_needLoad 6 = .ok (.getfield 12, 3) := by decide +kernel
theorem dX4_needLoad_9 : decode cX4_needLoad 9 = .ok (.getfield 64, 3) := by decide +kernel
theorem dX4_needLoad_12 : decode cX4_needLoad 12 = .ok (.if_icmp .lt 13, 3) := by decide +kernel
theorem dX4_needLoad_15 : decode cX4_needLoad 15 = .ok (.new 43, 3) := by decide +kernel
theorem dX4_needLoad_18 : decode cX4_needLoad 18 = .ok (.dup, 1) := by decide +kernel
theorem dX4_needLoad_19 : decode cX4_needLoad 19 = .ok (.ldc 162, 2) := by decide +kernel
theorem dX4_needLoad_21 : decode cX4_needLoad 21 = .ok (.invokespecial 47, 3) := by decide +kernel
theorem dX4_needLoad_24 : decode cX4_needLoad 24 = .ok (.athrow, 1) := by decide +kernel
theorem dX4_needLoad_25 : decode cX4_needLoad 25 = .ok (.return_, 1) := by decide +kernel
theorem dX4_needMinutes_0 : decode cX4_needMinutes 0 = .ok (.iload_n 0, 1) := by decide +kernel
theorem dX4_needMinutes_1 : decode cX4_needMinutes 1 = .ok (.iconst 1, 1) := by decide +kernel
theorem dX4_needMinutes_2 : decode cX4_needMinutes 2 = .ok (.if_icmp .lt 8, 3) := by decide +kernel
theorem dX4_needMinutes_5 : decode cX4_needMinutes 5 = .ok (.iload_n 0, 1) := by decide +kernel
theorem dX4_needMinutes_6 : decode cX4_needMinutes 6 = .ok (.iload_n 1, 1) := by decide +kernel
theorem dX4_needMinutes_7 : decode cX4_needMinutes 7 = .ok (.if_icmp .le 13, 3) := by decide +kernel
theorem dX4_needMinutes_10 : decode cX4_needMinutes 10 = .ok (.new 19, 3) := by decide +kernel
theorem dX4_needMinutes_13 : decode cX4_needMinutes 13 = .ok (.dup, 1) := by decide +kernel
theorem dX4_needMinutes_14 : decode cX4_needMinutes 14 = .ok (.ldc 164, 2) := by decide +kernel
theorem dX4_needMinutes_16 : decode cX4_needMinutes 16 = .ok (.invokespecial 23, 3) := by decide +kernel
theorem dX4_needMinutes_19 : decode cX4_needMinutes 19 = .ok (.athrow, 1) := by decide +kernel
theorem dX4_needMinutes_20 : decode cX4_needMinutes 20 = .ok (.return_, 1) := by decide +kernel
theorem dX5_init_0 : decode cX5_init 0 = .ok (.aload_n 0, 1) := by decide +kernel
theorem dX5_init_1 : decode cX5_init 1 = .ok (.invokespecial 1, 3) := by decide +kernel
theorem dX5_init_4 : decode cX5_init 4 = .ok (.aload_n 0, 1) := by decide +kernel
theorem dX5_init_5 : decode cX5_init 5 = .ok (.bipush 10, 2) := by decide +kernel
theorem dX5_init_7 : decode cX5_init 7 = .ok (.putfield 7, 3) := by decide +kernel
theorem dX5_init_10 : decode cX5_init 10 = .ok (.aload_n 0, 1) := by decide +kernel
theorem dX5_init_11 : decode cX5_init 11 = .ok (.iconst 0, 1) := by decide +kernel
theorem dX5_init_12 : decode cX5_init 12 = .ok (.anewarray 13, 3) := by decide +kernel
theorem dX5_init_15 : decode cX5_init 15 = .ok (.putfield 15, 3) := by decide +kernel
theorem dX5_init_18 : decode cX5_init 18 = .ok (.aload_n 0, 1) := by decide +kernel
theorem dX5_init_19 : decode cX5_init 19 = .ok (.iconst 0, 1) := by decide +kernel
theorem dX5_init_20 : decode cX5_init 20 = .ok (.anewarray 13, 3) := by decide +kernel
theorem dX5_init_23 : decode cX5_init 23 = .ok (.putfield 19, 3) := by decide +kernel
theorem dX5_init_26 : decode cX5_init 26 = .ok (.aload_n 0, 1) := by decide +kernel
theorem dX5_init_27 : decode cX5_init 27 = .ok (.iconst 0, 1) := by decide +kernel
theorem dX5_init_28 : decode cX5_init 28 = .ok (.anewarray 13, 3) := by decide +kernel
theorem dX5_init_31 : decode cX5_init 31 = .ok (.putfield 22, 3) := by decide +kernel
theorem dX5_init_34 : decode cX5_init 34 = .ok (.aload_n 0, 1) := by decide +kernel
theorem dX5_init_35 : decode cX5_init 35 = .ok (.iconst 0, 1) := by decide +kernel
theorem dX5_init_36 : decode cX5_init 36 = .ok (.anewarray 13, 3) := by decide +kernel
theorem dX5_init_39 : decode cX5_init 39 = .ok (.putfield 25, 3) := by decide +kernel
theorem dX5_init_42 : decode cX5_init 42 = .ok (.return_, 1) := by decide +kernel
theorem dX5_more_0 : decode cX5_more 0 = .ok (.aload_n 0, 1) := by decide +kernel
theorem dX5_more_1 : decode cX5_more 1 = .ok (.arraylength, 1) := by decide +kernel
theorem dX5_more_2 : decode cX5_more 2 = .ok (.iconst 1, 1) := by decide +kernel
theorem dX5_more_3 : decode cX5_more 3 = .ok (.iadd, 1) := by decide +kernel
theorem dX5_more_4 : decode cX5_more 4 = .ok (.anewarray 13, 3) := by decide +kernel
theorem dX5_more_7 : decode cX5_more 7 = .ok (.astore_n 2, 1) := by decide +kernel
theorem dX5_more_8 : decode cX5_more 8 = .ok (.iconst 0, 1) := by decide +kernel
theorem dX5_more_9 : decode cX5_more 9 = .ok (.istore_n 3, 1) := by decide +kernel
theorem dX5_more_10 : decode cX5_more 10 = .ok (.iload_n 3, 1) := by decide +kernel
theorem dX5_more_11 : decode cX5_more 11 = .ok (.aload_n 0, 1) := by decide +kernel
theorem dX5_more_12 : decode cX5_more 12 = .ok (.arraylength, 1) := by decide +kernel
theorem dX5_more_13 : decode cX5_more 13 = .ok (.if_icmp .ge 15, 3) := by decide +kernel
theorem dX5_more_16 : decode cX5_more 16 = .ok (.aload_n 2, 1) := by decide +kernel
theorem dX5_more_17 : decode cX5_more 17 = .ok (.iload_n 3, 1) := by decide +kernel
theorem dX5_more_18 : decode cX5_more 18 = .ok (.aload_n 0, 1) := by decide +kernel
theorem dX5_more_19 : decode cX5_more 19 = .ok (.iload_n 3, 1) := by decide +kernel
theorem dX5_more_20 : decode cX5_more 20 = .ok (.aaload, 1) := by decide +kernel
theorem dX5_more_21 : decode cX5_more 21 = .ok (.aastore, 1) := by decide +kernel
theorem dX5_more_22 : decode cX5_more 22 = .ok (.iinc 3 1, 3) := by decide +kernel
theorem dX5_more_25 : decode cX5_more 25 = .ok (.goto (-15), 3) := by decide +kernel
theorem dX5_more_28 : decode cX5_more 28 = .ok (.aload_n 2, 1) := by decide +kernel
theorem dX5_more_29 : decode cX5_more 29 = .ok (.aload_n 0, 1) := by decide +kernel
theorem dX5_more_30 : decode cX5_more 30 = .ok (.arraylength, 1) := by decide +kernel
theorem dX5_more_31 : decode cX5_more 31 = .ok (.aload_n 1, 1) := by decide +kernel
theorem dX5_more_32 : decode cX5_more 32 = .ok (.aastore, 1) := by decide +kernel
theorem dX5_more_33 : decode cX5_more 33 = .ok (.aload_n 2, 1) := by decide +kernel
theorem dX5_more_34 : decode cX5_more 34 = .ok (.areturn, 1) := by decide +kernel
theorem dX5_come_0 : decode cX5_come 0 = .ok (.aload_n 0, 1) := by decide +kernel
theorem dX5_come_1 : decode cX5_come 1 = .ok (.aload_n 0, 1) := by decide +kernel
theorem dX5_come_2 : decode cX5_come 2 = .ok (.getfield 15, 3) := by decide +kernel
theorem dX5_come_5 : decode cX5_come 5 = .ok (.bipush 8, 2) := by decide +kernel
theorem dX5_come_7 : decode cX5_come 7 = .ok (.newarray .int, 2) := by decide +kernel
theorem dX5_come_9 : decode cX5_come 9 = .ok (.dup, 1) := by decide +kernel
theorem dX5_come_10 : decode cX5_come 10 = .ok (.iconst 0, 1) := by decide +kernel
theorem dX5_come_11 : decode cX5_come 11 = .ok (.iload_n 1, 1) := by decide +kernel
theorem dX5_come_12 : decode cX5_come 12 = .ok (.iastore, 1) := by decide +kernel
theorem dX5_come_13 : decode cX5_come 13 = .ok (.dup, 1) := by decide +kernel
theorem dX5_come_14 : decode cX5_come 14 = .ok (.iconst 1, 1) := by decide +kernel
theorem dX5_come_15 : decode cX5_come 15 = .ok (.iconst 0, 1) := by decide +kernel
theorem dX5_come_16 : decode cX5_come 16 = .ok (.iastore, 1) := by decide +kernel
theorem dX5_come_17 : decode cX5_come 17 = .ok (.dup, 1) := by decide +kernel
theorem dX5_come_18 : decode cX5_come 18 = .ok (.iconst 2, 1) := by decide +kernel
theorem dX5_come_19 : decode cX5_come 19 = .ok (.iconst 0, 1) := by decide +kernel
theorem dX5_come_20 : decode cX5_come 20 = .ok (.iastore, 1) := by decide +kernel
theorem dX5_come_21 : decode cX5_come 21 = .ok (.dup, 1) := by decide +kernel
theorem dX5_come_22 : decode cX5_come 22 = .ok (.iconst 3, 1) := by decide +kernel
theorem dX5_come_23 : decode cX5_come 23 = .ok (.iconst (-1), 1) := by decide +kernel
theorem dX5_come_24 : decode cX5_come 24 = .ok (.iastore, 1) := by decide +kernel
theorem dX5_come_25 : decode cX5_come 25 = .ok (.dup, 1) := by decide +kernel
theorem dX5_come_26 : decode cX5_come 26 = .ok (.iconst 4, 1) := by decide +kernel
theorem dX5_come_27 : decode cX5_come 27 = .ok (.iconst 0, 1) := by decide +kernel
theorem dX5_come_28 : decode cX5_come 28 = .ok (.iastore, 1) := by decide +kernel
theorem dX5_come_29 : decode cX5_come 29 = .ok (.dup, 1) := by decide +kernel
theorem dX5_come_30 : decode cX5_come 30 = .ok (.iconst 5, 1) := by decide +kernel
theorem dX5_come_31 : decode cX5_come 31 = .ok (.iconst 0, 1) := by decide +kernel
theorem dX5_come_32 : decode cX5_come 32 = .ok (.iastore, 1) := by decide +kernel
theorem dX5_come_33 : decode cX5_come 33 = .ok (.dup, 1) := by decide +kernel
theorem dX5_come_34 : decode cX5_come 34 = .ok (.bipush 6, 2) := by decide +kernel
theorem dX5_come_36 : decode cX5_come 36 = .ok (.iconst 0, 1) := by decide +kernel
theorem dX5_come_37 : decode cX5_come 37 = .ok (.iastore, 1) := by decide +kernel
theorem dX5_come_38 : decode cX5_come 38 = .ok (.dup, 1) := by decide +kernel
theorem dX5_come_39 : decode cX5_come 39 = .ok (.bipush 7, 2) := by decide +kernel
theorem dX5_come_41 : decode cX5_come 41 = .ok (.iconst 0, 1) := by decide +kernel
theorem dX5_come_42 : decode cX5_come 42 = .ok (.iastore, 1) := by decide +kernel
theorem dX5_come_43 : decode cX5_come 43 = .ok (.invokestatic 49, 3) := by decide +kernel
theorem dX5_come_46 : decode cX5_come 46 = .ok (.putfield 15, 3) := by decide +kernel
theorem dX5_come_49 : decode cX5_come 49 = .ok (.aload_n 0, 1) := by decide +kernel
theorem dX5_come_50 : decode cX5_come 50 = .ok (.aload_n 0, 1) := by decide +kernel
theorem dX5_come_51 : decode cX5_come 51 = .ok (.getfield 19, 3) := by decide +kernel
theorem dX5_come_54 : decode cX5_come 54 = .ok (.iconst 0, 1) := by decide +kernel
theorem dX5_come_55 : decode cX5_come 55 = .ok (.newarray .int, 2) := by decide +kernel
theorem dX5_come_57 : decode cX5_come 57 = .ok (.invokestatic 49, 3) := by decide +kernel
theorem dX5_come_60 : decode cX5_come 60 = .ok (.putfield 19, 3) := by decide +kernel
theorem dX5_come_63 : decode cX5_come 63 = .ok (.return_, 1) := by decide +kernel
theorem dX5_bring_0 : decode cX5_bring 0 = .ok (.aload_n 0, 1) := by decide +kernel
theorem dX5_bring_1 : decode cX5_bring 1 = .ok (.aload_n 0, 1) := by decide +kernel
theorem dX5_bring_2 : decode cX5_bring 2 = .ok (.getfield 25, 3) := by decide +kernel
theorem dX5_bring_5 : decode cX5_bring 5 = .ok (.bipush 6, 2) := by decide +kernel
theorem dX5_bring_7 : decode cX5_bring 7 = .ok (.newarray .int, 2) := by decide +kernel
theorem dX5_bring_9 : decode cX5_bring 9 = .ok (.dup, 1) := by decide +kernel
theorem dX5_bring_10 : decode cX5_bring 10 = .ok (.iconst 0, 1) := by decide +kernel
theorem dX5_bring_11 : decode cX5_bring 11 = .ok (.iload_n 1, 1) := by decide +kernel
theorem dX5_bring_12 : decode cX5_bring 12 = .ok (.iastore, 1) := by decide +kernel
theorem dX5_bring_13 : decode cX5_bring 13 = .ok (.dup, 1) := by decide +kernel
theorem dX5_bring_14 : decode cX5_bring 14 = .ok (.iconst 1, 1) := by decide +kernel
theorem dX5_bring_15 : decode cX5_bring 15 = .ok (.iload_n 1, 1) := by decide +kernel
theorem dX5_bring_16 : decode cX5_bring 16 = .ok (.iastore, 1) := by decide +kernel
theorem dX5_bring_17 : decode cX5_bring 17 = .ok (.dup, 1) := by decide +kernel
theorem dX5_bring_18 : decode cX5_bring 18 = .ok (.iconst 2, 1) := by decide +kernel
theorem dX5_bring_19 : decode cX5_bring 19 = .ok (.aload_n 0, 1) := by decide +kernel
theorem dX5_bring_20 : decode cX5_bring 20 = .ok (.getfield 22, 3) := by decide +kernel
theorem dX5_bring_23 : decode cX5_bring 23 = .ok (.arraylength, 1) := by decide +kernel
theorem dX5_bring_24 : decode cX5_bring 24 = .ok (.iastore, 1) := by decide +kernel
theorem dX5_bring_25 : decode cX5_bring 25 = .ok (.dup, 1) := by decide +kernel
theorem dX5_bring_26 : decode cX5_bring 26 = .ok (.iconst 3, 1) := by decide +kernel
theorem dX5_bring_27 : decode cX5_bring 27 = .ok (.iconst (-1), 1) := by decide +kernel
theorem dX5_bring_28 : decode cX5_bring 28 = .ok (.iastore, 1) := by decide +kernel
theorem dX5_bring_29 : decode cX5_bring 29 = .ok (.dup, 1) := by decide +kernel
theorem dX5_bring_30 : decode cX5_bring 30 = .ok (.iconst 4, 1) := by decide +kernel
theorem dX5_bring_31 : decode cX5_bring 31 = .ok (.iconst (-1), 1) := by decide +kernel
theorem dX5_bring_32 : decode cX5_bring 32 = .ok (.iastore, 1) := by decide +kernel
theorem dX5_bring_33 : decode cX5_bring 33 = .ok (.dup, 1) := by decide +kernel
theorem dX5_bring_34 : decode cX5_bring 34 = .ok (.iconst 5, 1) := by decide +kernel
theorem dX5_bring_35 : decode cX5_bring 35 = .ok (.iconst 0, 1) := by decide +kernel
theorem dX5_bring_36 : decode cX5_bring 36 = .ok (.iastore, 1) := by decide +kernel
theorem dX5_bring_37 : decode cX5_bring 37 = .ok (.invokestatic 49, 3) := by decide +kernel
theorem dX5_bring_40 : decode cX5_bring 40 = .ok (.putfield 25, 3) := by decide +kernel
theorem dX5_bring_43 : decode cX5_bring 43 = .ok (.aload_n 0, 1) := by decide +kernel
theorem dX5_bring_44 : decode cX5_bring 44 = .ok (.aload_n 0, 1) := by decide +kernel
theorem dX5_bring_45 : decode cX5_bring 45 = .ok (.getfield 22, 3) := by decide +kernel
theorem dX5_bring_48 : decode cX5_bring 48 = .ok (.bipush 6, 2) := by decide +kernel
theorem dX5_bring_50 : decode cX5_bring 50 = .ok (.newarray .int, 2) := by decide +kernel
theorem dX5_bring_52 : decode cX5_bring 52 = .ok (.dup, 1) := by decide +kernel
theorem dX5_bring_53 : decode cX5_bring 53 = .ok (.iconst 0, 1) := by decide +kernel
theorem dX5_bring_54 : decode cX5_bring 54 = .ok (.iload_n 1, 1) := by decide +kernel
theorem dX5_bring_55 : decode cX5_bring 55 = .ok (.iastore, 1) := by decide +kernel
theorem dX5_bring_56 : decode cX5_bring 56 = .ok (.dup, 1) := by decide +kernel
theorem dX5_bring_57 : decode cX5_bring 57 = .ok (.iconst 1, 1) := by decide +kernel
theorem dX5_bring_58 : decode cX5_bring 58 = .ok (.aload_n 0, 1) := by decide +kernel
theorem dX5_bring_59 : decode cX5_bring 59 = .ok (.getfield 25, 3) := by decide +kernel
theorem dX5_bring_62 : decode cX5_bring 62 = .ok (.arraylength, 1) := by decide +kernel
theorem dX5_bring_63 : decode cX5_bring 63 = .ok (.iconst 1, 1) := by decide +kernel
theorem dX5_bring_64 : decode cX5_bring 64 = .ok (.isub, 1) := by decide +kernel
theorem dX5_bring_65 : decode cX5_bring 65 = .ok (.iastore, 1) := by decide +kernel
theorem dX5_bring_66 : decode cX5_bring 66 = .ok (.dup, 1) := by decide +kernel
theorem dX5_bring_67 : decode cX5_bring 67 = .ok (.iconst 2, 1) := by decide +kernel
theorem dX5_bring_68 : decode cX5_bring 68 = .ok (.aload_n 0, 1) := by decide +kernel
theorem dX5_bring_69 : decode cX5_bring 69 = .ok (.getfield 33, 3) := by decide +kernel
theorem dX5_bring_72 : decode cX5_bring 72 = .ok (.iastore, 1) := by decide +kernel
theorem dX5_bring_73 : decode cX5_bring 73 = .ok (.dup, 1) := by decide +kernel
theorem dX5_bring_74 : decode cX5_bring 74 = .ok (.iconst 3, 1) := by decide +kernel
theorem dX5_bring_75 : decode cX5_bring 75 = .ok (.iconst (-1), 1) := by decide +kernel
theorem dX5_bring_76 : decode cX5_bring 76 = .ok (.iastore, 1) := by decide +kernel
theorem dX5_bring_77 : decode cX5_bring 77 = .ok (.dup, 1) := by decide +kernel
theorem dX5_bring_78 : decode cX5_bring 78 = .ok (.iconst 4, 1) := by decide +kernel
theorem dX5_bring_79 : decode cX5_bring 79 = .ok (.iconst 0, 1) := by decide +kernel
theorem dX5_bring_80 : decode cX5_bring 80 = .ok (.iastore, 1) := by decide +kernel
theorem dX5_bring_81 : decode cX5_bring 81 = .ok (.dup, 1) := by decide +kernel
theorem dX5_bring_82 : decode cX5_bring 82 = .ok (.iconst 5, 1) := by decide +kernel
theorem dX5_bring_83 : decode cX5_bring 83 = .ok (.iconst 0, 1) := by decide +kernel
theorem dX5_bring_84 : decode cX5_bring 84 = .ok (.iastore, 1) := by decide +kernel
theorem dX5_bring_85 : decode cX5_bring 85 = .ok (.invokestatic 49, 3) := by decide +kernel
theorem dX5_bring_88 : decode cX5_bring 88 = .ok (.putfield 22, 3) := by decide +kernel
theorem dX5_bring_91 : decode cX5_bring 91 = .ok (.aload_n 0, 1) := by decide +kernel
theorem dX5_bring_92 : decode cX5_bring 92 = .ok (.getfield 15, 3) := by decide +kernel
theorem dX5_bring_95 : decode cX5_bring 95 = .ok (.astore_n 2, 1) := by decide +kernel
theorem dX5_bring_96 : decode cX5_bring 96 = .ok (.aload_n 2, 1) := by decide +kernel
theorem dX5_bring_97 : decode cX5_bring 97 = .ok (.arraylength, 1) := by decide +kernel
theorem dX5_bring_98 : decode cX5_bring 98 = .ok (.istore_n 3, 1) := by decide +kernel
theorem dX5_bring_99 : decode cX5_bring 99 = .ok (.iconst 0, 1) := by decide +kernel
theorem dX5_bring_100 : decode cX5_bring 100 = .ok (.istore 4, 2) := by decide +kernel
theorem dX5_bring_102 : decode cX5_bring 102 = .ok (.iload 4, 2) := by decide +kernel
theorem dX5_bring_104 : decode cX5_bring 104 = .ok (.iload_n 3, 1) := by decide +kernel
theorem dX5_bring_105 : decode cX5_bring 105 = .ok (.if_icmp .ge 28, 3) := by decide +kernel
theorem dX5_bring_108 : decode cX5_bring 108 = .ok (.aload_n 2, 1) := by decide +kernel
theorem dX5_bring_109 : decode cX5_bring 109 = .ok (.iload 4, 2) := by decide +kernel
theorem dX5_bring_111 : decode cX5_bring 111 = .ok (.aaload, 1) := by decide +kernel
theorem dX5_bring_112 : decode cX5_bring 112 = .ok (.astore 5, 2) := by decide +kernel
theorem dX5_bring_114 : decode cX5_bring 114 = .ok (.aload 5, 2) := by decide +kernel
theorem dX5_bring_116 : decode cX5_bring 116 = .ok (.iconst 2, 1) := by decide +kernel
theorem dX5_bring_117 : decode cX5_bring 117 = .ok (.iaload, 1) := by decide +kernel
theorem dX5_bring_118 : decode cX5_bring 118 = .ok (.iconst 3, 1) := by decide +kernel
theorem dX5_bring_119 : decode cX5_bring 119 = .ok (.if_icmp .ne 8, 3) := by decide +kernel
theorem dX5_bring_122 : decode cX5_bring 122 = .ok (.aload 5, 2) := by decide +kernel
theorem dX5_bring_124 : decode cX5_bring 124 = .ok (.iconst 2, 1) := by decide +kernel
theorem dX5_bring_125 : decode cX5_bring 125 = .ok (.iconst 0, 1) := by decide +kernel
theorem dX5_bring_126 : decode cX5_bring 126 = .ok (.iastore, 1) := by decide +kernel
theorem dX5_bring_127 : decode cX5_bring 127 = .ok (.iinc 4 1, 3) := by decide +kernel
theorem dX5_bring_130 : decode cX5_bring 130 = .ok (.goto (-28), 3) := by decide +kernel
theorem dX5_bring_133 : decode cX5_bring 133 = .ok (.return_, 1) := by decide +kernel
theorem dX5_less_0 : decode cX5_less 0 = .ok (.aload_n 0, 1) := by decide +kernel
theorem dX5_less_1 : decode cX5_less 1 = .ok (.arraylength, 1) := by decide +kernel
theorem dX5_less_2 : decode cX5_less 2 = .ok (.iconst 1, 1) := by decide +kernel
theorem dX5_less_3 : decode cX5_less 3 = .ok (.isub, 1) := by decide +kernel
theorem dX5_less_4 : decode cX5_less 4 = .ok (.newarray .int, 2) := by decide +kernel
theorem dX5_less_6 : decode cX5_less 6 = .ok (.astore_n 2, 1) := by decide +kernel
theorem dX5_less_7 : decode cX5_less 7 = .ok (.iconst 0, 1) := by decide +kernel
theorem dX5_less_8 : decode cX5_less 8 = .ok (.istore_n 3, 1) := by decide +kernel
theorem dX5_less_9 : decode cX5_less 9 = .ok (.iload_n 3, 1) := by decide +kernel
theorem dX5_less_10 : decode cX5_less 10 = .ok (.aload_n 2, 1) := by decide +kernel
theorem dX5_less_11 : decode cX5_less 11 = .ok (.arraylength, 1) := by decide +kernel
theorem dX5_less_12 : decode cX5_less 12 = .ok (.if_icmp .ge 25, 3) := by decide +kernel
theorem dX5_less_15 : decode cX5_less 15 = .ok (.aload_n 2, 1) := by decide +kernel
theorem dX5_less_16 : decode cX5_less 16 = .ok (.iload_n 3, 1) := by decide +kernel
theorem dX5_less_17 : decode cX5_less 17 = .ok (.aload_n 0, 1) := by decide +kernel
theorem dX5_less_18 : decode cX5_less 18 = .ok (.iload_n 1, 1) := by decide +kernel
theorem dX5_less_19 : decode cX5_less 19 = .ok (.ifCond .eq 9, 3) := by decide +kernel
theorem dX5_less_22 : decode cX5_less 22 = .ok (.iload_n 3, 1) := by decide +kernel
theorem dX5_less_23 : decode cX5_less 23 = .ok (.iconst 1, 1) := by decide +kernel
theorem dX5_less_24 : decode cX5_less 24 = .ok (.iadd, 1) := by decide +kernel
theorem dX5_less_25 : decode cX5_less 25 = .ok (.goto 4, 3) := by decide +kernel
theorem dX5_less_28 : decode cX5_less 28 = .ok (.iload_n 3, 1) := by decide +kernel
theorem dX5_less_29 : decode cX5_less 29 = .ok (.iaload, 1) := by decide +kernel
theorem dX5_less_30 : decode cX5_less 30 = .ok (.iastore, 1) := by decide +kernel
theorem dX5_less_31 : decode cX5_less 31 = .ok (.iinc 3 1, 3) := by decide +kernel
theorem dX5_less_34 : decode cX5_less 34 = .ok (.goto (-25), 3) := by decide +kernel
theorem dX5_less_37 : decode cX5_less 37 = .ok (.aload_n 2, 1) := by decide +kernel
theorem dX5_less_38 : decode cX5_less 38 = .ok (.areturn, 1) := by decide +kernel
theorem dX5_victim_0 : decode cX5_victim 0 = .ok (.iconst (-1), 1) := by decide +kernel
theorem dX5_victim_1 : decode cX5_victim 1 = .ok (.istore_n 2, 1) := by decide +kernel
theorem dX5_victim_2 : decode cX5_victim 2 = .ok (.iconst (-1), 1) := by decide +kernel
theorem dX5_victim_3 : decode cX5_victim 3 = .ok (.istore_n 3, 1) := by decide +kernel
theorem dX5_victim_4 : decode cX5_victim 4 = .ok (.aload_n 0, 1) := by decide +kernel
theorem dX5_victim_5 : decode cX5_victim 5 = .ok (.getfield 15, 3) := by decide +kernel
theorem dX5_victim_8 : decode cX5_victim 8 = .ok (.arraylength, 1) := by decide +kernel
theorem dX5_victim_9 : decode cX5_victim 9 = .ok (.iconst 1, 1) := by decide +kernel
theorem dX5_victim_10 : decode cX5_victim 10 = .ok (.isub, 1) := by decide +kernel
theorem dX5_victim_11 : decode cX5_victim 11 = .ok (.istore 4, 2) := by decide +kernel
theorem dX5_victim_13 : decode cX5_victim 13 = .ok (.iload 4, 2) := by decide +kernel
theorem dX5_victim_15 : decode cX5_victim 15 = .ok (.ifCond .lt 128, 3) := by decide +kernel
theorem dX5_victim_18 : decode cX5_victim 18 = .ok (.iload 4, 2) := by decide +kernel
theorem dX5_victim_20 : decode cX5_victim 20 = .ok (.iload_n 1, 1) := by decide +kernel
theorem dX5_victim_21 : decode cX5_victim 21 = .ok (.if_icmp .eq 116, 3) := by decide +kernel
theorem dX5_victim_24 : decode cX5_victim 24 = .ok (.aload_n 0, 1) := by decide +kernel
theorem dX5_victim_25 : decode cX5_victim 25 = .ok (.getfield 19, 3) := by decide +kernel
theorem dX5_victim_28 : decode cX5_victim 28 = .ok (.iload 4, 2) := by decide +kernel
theorem dX5_victim_30 : decode cX5_victim 30 = .ok (.aaload, 1) := by decide +kernel
theorem dX5_victim_31 : decode cX5_victim 31 = .ok (.arraylength, 1) := by decide +kernel
theorem dX5_victim_32 : decode cX5_victim 32 = .ok (.ifCond .ne 6, 3) := by decide +kernel
theorem dX5_victim_35 : decode cX5_victim 35 = .ok (.goto 102, 3) := by decide +kernel
theorem dX5_victim_38 : decode cX5_victim 38 = .ok (.aload_n 0, 1) := by decide +kernel
theorem dX5_victim_39 : decode cX5_victim 39 = .ok (.getfield 19, 3) := by decide +kernel
theorem dX5_victim_42 : decode cX5_victim 42 = .ok (.iload 4, 2) := by decide +kernel
theorem dX5_victim_44 : decode cX5_victim 44 = .ok (.aaload, 1) := by decide +kernel
theorem dX5_victim_45 : decode cX5_victim 45 = .ok (.astore 5, 2) := by decide +kernel
theorem dX5_victim_47 : decode cX5_victim 47 = .ok (.aload_n 0, 1) := by decide +kernel
theorem dX5_victim_48 : decode cX5_victim 48 = .ok (.getfield 15, 3) := by decide +kernel
theorem dX5_victim_51 : decode cX5_victim 51 = .ok (.arraylength, 1) := by decide +kernel
theorem dX5_victim_52 : decode cX5_victim 52 = .ok (.iload 4, 2) := by decide +kernel
theorem dX5_victim_54 : decode cX5_victim 54 = .ok (.iload_n 1, 1) := by decide +kernel
theorem dX5_victim_55 : decode cX5_victim 55 = .ok (.isub, 1) := by decide +kernel
theorem dX5_victim_56 : decode cX5_victim 56 = .ok (.aload_n 0, 1) := by decide +kernel
theorem dX5_victim_57 : decode cX5_victim 57 = .ok (.getfield 15, 3) := by decide +kernel
theorem dX5_victim_60 : decode cX5_victim 60 = .ok (.arraylength, 1) := by decide +kernel
theorem dX5_victim_61 : decode cX5_victim 61 = .ok (.iadd, 1) := by decide +kernel
theorem dX5_victim_62 : decode cX5_victim 62 = .ok (.aload_n 0, 1) := by decide +kernel
theorem dX5_victim_63 : decode cX5_victim 63 = .ok (.getfield 15, 3) := by decide +kernel
theorem dX5_victim_66 : decode cX5_victim 66 = .ok (.arraylength, 1) := by decide +kernel
theorem dX5_victim_67 : decode cX5_victim 67 = .ok (.irem, 1) := by decide +kernel
theorem dX5_victim_68 : decode cX5_victim 68 = .ok (.isub, 1) := by decide +kernel
theorem dX5_victim_69 : decode cX5_victim 69 = .ok (.istore 6, 2) := by decide +kernel
theorem dX5_victim_71 : decode cX5_victim 71 = .ok (.aload_n 0, 1) := by decide +kernel
theorem dX5_victim_72 : decode cX5_victim 72 = .ok (.getfield 15, 3) := by decide +kernel
theorem dX5_victim_75 : decode cX5_victim 75 = .ok (.iload_n 1, 1) := by decide +kernel
theorem dX5_victim_76 : decode cX5_victim 76 = .ok (.aaload, 1) := by decide +kernel
theorem dX5_victim_77 : decode cX5_victim 77 = .ok (.iconst 1, 1) := by decide +kernel
theorem dX5_victim_78 : decode cX5_victim 78 = .ok (.iaload, 1) := by decide +kernel
theorem dX5_victim_79 : decode cX5_victim 79 = .ok (.ifCond .ne 8, 3) := by decide +kernel
theorem dX5_victim_82 : decode cX5_victim 82 = .ok (.iload 6, 2) := by decide +kernel
theorem dX5_victim_84 : decode cX5_victim 84 = .ok (.goto 36, 3) := by decide +kernel
theorem dX5_victim_87 : decode cX5_victim 87 = .ok (.aload_n 0, 1) := by decide +kernel
theorem dX5_victim_88 : decode cX5_victim 88 = .ok (.getfield 15, 3) := by decide +kernel
theorem dX5_victim_91 : decode cX5_victim 91 = .ok (.iload_n 1, 1) := by decide +kernel
theorem dX5_victim_92 : decode cX5_victim 92 = .ok (.aaload, 1) := by decide +kernel
theorem dX5_victim_93 : decode cX5_victim 93 = .ok (.iconst 1, 1) := by decide +kernel
theorem dX5_victim_94 : decode cX5_victim 94 = .ok (.iaload, 1) := by decide +kernel
theorem dX5_victim_95 : decode cX5_victim 95 = .ok (.iconst 1, 1) := by decide +kernel
theorem dX5_victim_96 : decode cX5_victim 96 = .ok (.if_icmp .ne 9, 3) := by decide +kernel
theorem dX5_victim_99 : decode cX5_victim 99 = .ok (.aload 5, 2) := by decide +kernel
theorem dX5_victim_101 : decode cX5_victim 101 = .ok (.arraylength, 1) := by decide +kernel
theorem dX5_victim_102 : decode cX5_victim 102 = .ok (.goto 18, 3) := by decide +kernel
theorem dX5_victim_105 : decode cX5_victim 105 = .ok (.aload_n 0, 1) := by decide +kernel
theorem dX5_victim_106 : decode cX5_victim 106 = .ok (.getfield 25, 3) := by decide +kernel
theorem dX5_victim_109 : decode cX5_victim 109 = .ok (.aload 5, 2) := by decide +kernel
theorem dX5_victim_111 : decode cX5_victim 111 = .ok (.aload 5, 2) := by decide +kernel
theorem dX5_victim_113 : decode cX5_victim 113 = .ok (.arraylength, 1) := by decide +kernel
theorem dX5_victim_114 : decode cX5_victim 114 = .ok (.iconst 1, 1) := by decide +kernel
theorem dX5_victim_115 : decode cX5_victim 115 = .ok (.isub, 1) := by decide +kernel
theorem dX5_victim_116 : decode cX5_victim 116 = .ok (.iaload, 1) := by decide +kernel
theorem dX5_victim_117 : decode cX5_victim 117 = .ok (.aaload, 1) := by decide +kernel
theorem dX5_victim_118 : decode cX5_victim 118 = .ok (.iconst 0, 1) := by decide +kernel
theorem dX5_victim_119 : decode cX5_victim 119 = .ok (.iaload, 1) := by decide +kernel
theorem dX5_victim_120 : decode cX5_victim 120 = .ok (.istore 7, 2) := by decide +kernel
theorem dX5_victim_122 : decode cX5_victim 122 = .ok (.iload 7, 2) := by decide +kernel
theorem dX5_victim_124 : decode cX5_victim 124 = .ok (.iload_n 3, 1) := by decide +kernel
theorem dX5_victim_125 : decode cX5_victim 125 = .ok (.if_icmp .ge 6, 3) := by decide +kernel
theorem dX5_victim_128 : decode cX5_victim 128 = .ok (.goto 9, 3) := by decide +kernel
theorem dX5_victim_131 : decode cX5_victim 131 = .ok (.iload 7, 2) := by decide +kernel
theorem dX5_victim_133 : decode cX5_victim 133 = .ok (.istore_n 3, 1) := by decide +kernel
theorem dX5_victim_134 : decode cX5_victim 134 = .ok (.iload 4, 2) := by decide +kernel
theorem dX5_victim_136 : decode cX5_victim 136 = .ok (.istore_n 2, 1) := by decide +kernel
theorem dX5_victim_137 : decode cX5_victim 137 = .ok (.iinc 4 (-1), 3) := by decide +kernel
theorem dX5_victim_140 : decode cX5_victim 140 = .ok (.goto (-127), 3) := by decide +kernel
theorem dX5_victim_143 : decode cX5_victim 143 = .ok (.iload_n 2, 1) := by decide +kernel
theorem dX5_victim_144 : decode cX5_victim 144 = .ok (.ireturn, 1) := by decide +kernel
theorem dX5_end_0 : decode cX5_end 0 = .ok (.aload_n 0, 1) := by decide +kernel
theorem dX5_end_1 : decode cX5_end 1 = .ok (.getfield 25, 3) := by decide +kernel
theorem dX5_end_4 : decode cX5_end 4 = .ok (.iload_n 2, 1) := by decide +kernel
theorem dX5_end_5 : decode cX5_end 5 = .ok (.aaload, 1) := by decide +kernel
theorem dX5_end_6 : decode cX5_end 6 = .ok (.astore_n 3, 1) := by decide +kernel
theorem dX5_end_7 : decode cX5_end 7 = .ok (.aload_n 3, 1) := by decide +kernel
theorem dX5_end_8 : decode cX5_end 8 = .ok (.iconst 5, 1) := by decide +kernel
theorem dX5_end_9 : decode cX5_end 9 = .ok (.iconst 1, 1) := by decide +kernel
theorem dX5_end_10 : decode cX5_end 10 = .ok (.iastore, 1) := by decide +kernel
theorem dX5_end_11 : decode cX5_end 11 = .ok (.aload_n 1, 1) := by decide +kernel
theorem dX5_end_12 : decode cX5_end 12 = .ok (.iconst 2, 1) := by decide +kernel
theorem dX5_end_13 : decode cX5_end 13 = .ok (.iconst 0, 1) := by decide +kernel
theorem dX5_end_14 : decode cX5_end 14 = .ok (.iastore, 1) := by decide +kernel
theorem dX5_end_15 : decode cX5_end 15 = .ok (.aload_n 3, 1) := by decide +kernel
theorem dX5_end_16 : decode cX5_end 16 = .ok (.iconst 3, 1) := by decide +kernel
theorem dX5_end_17 : decode cX5_end 17 = .ok (.iaload, 1) := by decide +kernel
theorem dX5_end_18 : decode cX5_end 18 = .ok (.ifCond .ge 20, 3) := by decide +kernel
theorem dX5_end_21 : decode cX5_end 21 = .ok (.aload_n 0, 1) := by decide +kernel
theorem dX5_end_22 : decode cX5_end 22 = .ok (.getfield 22, 3) := by decide +kernel
theorem dX5_end_25 : decode cX5_end 25 = .ok (.aload_n 3, 1) := by decide +kernel
theorem dX5_end_26 : decode cX5_end 26 = .ok (.iconst 2, 1) := by decide +kernel
theorem dX5_end_27 : decode cX5_end 27 = .ok (.iaload, 1) := by decide +kernel
theorem dX5_end_28 : decode cX5_end 28 = .ok (.aaload, 1) := by decide +kernel
theorem dX5_end_29 : decode cX5_end 29 = .ok (.iconst 3, 1) := by decide +kernel
theorem dX5_end_30 : decode cX5_end 30 = .ok (.aload_n 0, 1) := by decide +kernel
theorem dX5_end_31 : decode cX5_end 31 = .ok (.getfield 33, 3) := by decide +kernel
theorem dX5_end_34 : decode cX5_end 34 = .ok (.iastore, 1) := by decide +kernel
theorem dX5_end_35 : decode cX5_end 35 = .ok (.goto 27, 3) := by decide +kernel
theorem dX5_end_38 : decode cX5_end 38 = .ok (.aload_n 0, 1) := by decide +kernel
theorem dX5_end_39 : decode cX5_end 39 = .ok (.getfield 25, 3) := by decide +kernel
theorem dX5_end_42 : decode cX5_end 42 = .ok (.aload_n 3, 1) := by decide +kernel
theorem dX5_end_43 : decode cX5_end 43 = .ok (.iconst 4, 1) := by decide +kernel
theorem dX5_end_44 : decode cX5_end 44 = .ok (.iaload, 1) := by decide +kernel
theorem dX5_end_45 : decode cX5_end 45 = .ok (.aaload, 1) := by decide +kernel
theorem dX5_end_46 : decode cX5_end 46 = .ok (.iconst 5, 1) := by decide +kernel
theorem dX5_end_47 : decode cX5_end 47 = .ok (.iaload, 1) := by decide +kernel
theorem dX5_end_48 : decode cX5_end 48 = .ok (.iconst 1, 1) := by decide +kernel
theorem dX5_end_49 : decode cX5_end 49 = .ok (.if_icmp .ne 13, 3) := by decide +kernel
theorem dX5_end_52 : decode cX5_end 52 = .ok (.aload_n 1, 1) := by decide +kernel
theorem dX5_end_53 : decode cX5_end 53 = .ok (.iconst 2, 1) := by decide +kernel
theorem dX5_end_54 : decode cX5_end 54 = .ok (.iconst 2, 1) := by decide +kernel
theorem dX5_end_55 : decode cX5_end 55 = .ok (.iastore, 1) := by decide +kernel
theorem dX5_end_56 : decode cX5_end 56 = .ok (.aload_n 1, 1) := by decide +kernel
theorem dX5_end_57 : decode cX5_end 57 = .ok (.iconst 3, 1) := by decide +kernel
theorem dX5_end_58 : decode cX5_end 58 = .ok (.aload_n 3, 1) := by decide +kernel
theorem dX5_end_59 : decode cX5_end 59 = .ok (.iconst 3, 1) := by decide +kernel
theorem dX5_end_60 : decode cX5_end 60 = .ok (.iaload, 1) := by decide +kernel
theorem dX5_end_61 : decode cX5_end 61 = .ok (.iastore, 1) := by decide +kernel
theorem dX5_end_62 : decode cX5_end 62 = .ok (.return_, 1) := by decide +kernel
theorem dX5_work_0 : decode cX5_work 0 = .ok (.aload_n 0, 1) := by decide +kernel
theorem dX5_work_1 : decode cX5_work 1 = .ok (.getfield 15, 3) := by decide +kernel
theorem dX5_work_4 : decode cX5_work 4 = .ok (.iload_n 1, 1) := by decide +kernel
theorem dX5_work_5 : decode cX5_work 5 = .ok (.aaload, 1) := by decide +kernel
theorem dX5_work_6 : decode cX5_work 6 = .ok (.astore_n 2, 1) := by decide +kernel
theorem dX5_work_7 : decode cX5_work 7 = .ok (.aload_n 0, 1) := by decide +kernel
theorem dX5_work_8 : decode cX5_work 8 = .ok (.getfield 25, 3) := by decide +kernel
theorem dX5_work_11 : decode cX5_work 11 = .ok (.aload_n 2, 1) := by decide +kernel
theorem dX5_work_12 : decode cX5_work 12 = .ok (.iconst 3, 1) := by decide +kernel
theorem dX5_work_13 : decode cX5_work 13 = .ok (.iaload, 1) := by decide +kernel
theorem dX5_work_14 : decode cX5_work 14 = .ok (.aaload, 1) := by decide +kernel
theorem dX5_work_15 : decode cX5_work 15 = .ok (.astore_n 3, 1) := by decide +kernel
theorem dX5_work_16 : decode cX5_work 16 = .ok (.aload_n 3, 1) := by decide +kernel
theorem dX5_work_17 : decode cX5_work 17 = .ok (.iconst 0, 1) := by decide +kernel
theorem dX5_work_18 : decode cX5_work 18 = .ok (.iaload, 1) := by decide +kernel
theorem dX5_work_19 : decode cX5_work 19 = .ok (.aload_n 3, 1) := by decide +kernel
theorem dX5_work_20 : decode cX5_work 20 = .ok (.iconst 1, 1) := by decide +kernel
theorem dX5_work_21 : decode cX5_work 21 = .ok (.iaload, 1) := by decide +kernel
theorem dX5_work_22 : decode cX5_work 22 = .ok (.if_icmp .ne 276, 3) := by decide +kernel
theorem dX5_work_25 : decode cX5_work 25 = .ok (.aload_n 3, 1) := by decide +kernel
theorem dX5_work_26 : decode cX5_work 26 = .ok (.iconst 0, 1) := by decide +kernel
theorem dX5_work_27 : decode cX5_work 27 = .ok (.iaload, 1) := by decide +kernel
theorem dX5_work_28 : decode cX5_work 28 = .ok (.aload_n 0, 1) := by decide +kernel
theorem dX5_work_29 : decode cX5_work 29 = .ok (.getfield 7, 3) := by decide +kernel
theorem dX5_work_32 : decode cX5_work 32 = .ok (.if_icmp .le 266, 3) := by decide +kernel
theorem dX5_work_35 : decode cX5_work 35 = .ok (.aload_n 0, 1) := by decide +kernel
theorem dX5_work_36 : decode cX5_work 36 = .ok (.getfield 19, 3) := by decide +kernel
theorem dX5_work_39 : decode cX5_work 39 = .ok (.iload_n 1, 1) := by decide +kernel
theorem dX5_work_40 : decode cX5_work 40 = .ok (.aaload, 1) := by decide +kernel
theorem dX5_work_41 : decode cX5_work 41 = .ok (.arraylength, 1) := by decide +kernel
theorem dX5_work_42 : decode cX5_work 42 = .ok (.bipush 8, 2) := by decide +kernel
theorem dX5_work_44 : decode cX5_work 44 = .ok (.if_icmp .ge 254, 3) := by decide +kernel
theorem dX5_work_47 : decode cX5_work 47 = .ok (.aload_n 0, 1) := by decide +kernel
theorem dX5_work_48 : decode cX5_work 48 = .ok (.getfield 25, 3) := by decide +kernel
theorem dX5_work_51 : decode cX5_work 51 = .ok (.arraylength, 1) := by decide +kernel
theorem dX5_work_52 : decode cX5_work 52 = .ok (.istore 4, 2) := by decide +kernel
theorem dX5_work_54 : decode cX5_work 54 = .ok (.aload_n 0, 1) := by decide +kernel
theorem dX5_work_55 : decode cX5_work 55 = .ok (.aload_n 0, 1) := by decide +kernel
theorem dX5_work_56 : decode cX5_work 56 = .ok (.getfield 25, 3) := by decide +kernel
theorem dX5_work_59 : decode cX5_work 59 = .ok (.bipush 6, 2) := by decide +kernel
theorem dX5_work_61 : decode cX5_work 61 = .ok (.newarray .int, 2) := by decide +kernel
theorem dX5_work_63 : decode cX5_work 63 = .ok (.dup, 1) := by decide +kernel
theorem dX5_work_64 : decode cX5_work 64 = .ok (.iconst 0, 1) := by decide +kernel
theorem dX5_work_65 : decode cX5_work 65 = .ok (.aload_n 3, 1) := by decide +kernel
theorem dX5_work_66 : decode cX5_work 66 = .ok (.iconst 0, 1) := by decide +kernel
theorem dX5_work_67 : decode cX5_work 67 = .ok (.iaload, 1) := by decide +kernel
theorem dX5_work_68 : decode cX5_work 68 = .ok (.iconst 2, 1) := by decide +kernel
theorem dX5_work_69 : decode cX5_work 69 = .ok (.idiv, 1) := by decide +kernel
theorem dX5_work_70 : decode cX5_work 70 = .ok (.iastore, 1) := by decide +kernel
theorem dX5_work_71 : decode cX5_work 71 = .ok (.dup, 1) := by decide +kernel
theorem dX5_work_72 : decode cX5_work 72 = .ok (.iconst 1, 1) := by decide +kernel
theorem dX5_work_73 : decode cX5_work 73 = .ok (.aload_n 3, 1) := by decide +kernel
theorem dX5_work_74 : decode cX5_work 74 = .ok (.iconst 0, 1) := by decide +kernel
theorem dX5_work_75 : decode cX5_work 75 = .ok (.iaload, 1) := by decide +kernel
theorem dX5_work_76 : decode cX5_work 76 = .ok (.iconst 2, 1) := by decide +kernel
theorem dX5_work_77 : decode cX5_work 77 = .ok (.idiv, 1) := by decide +kernel
theorem dX5_work_78 : decode cX5_work 78 = .ok (.iastore, 1) := by decide +kernel
theorem dX5_work_79 : decode cX5_work 79 = .ok (.dup, 1) := by decide +kernel
theorem dX5_work_80 : decode cX5_work 80 = .ok (.iconst 2, 1) := by decide +kernel
theorem dX5_work_81 : decode cX5_work 81 = .ok (.aload_n 3, 1) := by decide +kernel
theorem dX5_work_82 : decode cX5_work 82 = .ok (.iconst 2, 1) := by decide +kernel
theorem dX5_work_83 : decode cX5_work 83 = .ok (.iaload, 1) := by decide +kernel
theorem dX5_work_84 : decode cX5_work 84 = .ok (.iastore, 1) := by decide +kernel
theorem dX5_work_85 : decode cX5_work 85 = .ok (.dup, 1) := by decide +kernel
theorem dX5_work_86 : decode cX5_work 86 = .ok (.iconst 3, 1) := by decide +kernel
theorem dX5_work_87 : decode cX5_work 87 = .ok (.aload_n 2, 1) := by decide +kernel
theorem dX5_work_88 : decode cX5_work 88 = .ok (.iconst 3, 1) := by decide +kernel
theorem dX5_work_89 : decode cX5_work 89 = .ok (.iaload, 1) := by decide +kernel
theorem dX5_work_90 : decode cX5_work 90 = .ok (.iastore, 1) := by decide +kernel
theorem dX5_work_91 : decode cX5_work 91 = .ok (.dup, 1) := by decide +kernel
theorem dX5_work_92 : decode cX5_work 92 = .ok (.iconst 4, 1) := by decide +kernel
theorem dX5_work_93 : decode cX5_work 93 = .ok (.iload 4, 2) := by decide +kernel
theorem dX5_work_95 : decode cX5_work 95 = .ok (.iconst 1, 1) := by decide +kernel
theorem dX5_work_96 : decode cX5_work 96 = .ok (.iadd, 1) := by decide +kernel
theorem dX5_work_97 : decode cX5_work 97 = .ok (.iastore, 1) := by decide +kernel
theorem dX5_work_98 : decode cX5_work 98 = .ok (.dup, 1) := by decide +kernel
theorem dX5_work_99 : decode cX5_work 99 = .ok (.iconst 5, 1) := by decide +kernel
theorem dX5_work_100 : decode cX5_work 100 = .ok (.iconst 0, 1) := by decide +kernel
theorem dX5_work_101 : decode cX5_work 101 = .ok (.iastore, 1) := by decide +kernel
theorem dX5_work_102 : decode cX5_work 102 = .ok (.invokestatic 49, 3) := by decide +kernel
theorem dX5_work_105 : decode cX5_work 105 = .ok (.putfield 25, 3) := by decide +kernel
theorem dX5_work_108 : decode cX5_work 108 = .ok (.aload_n 0, 1) := by decide +kernel
theorem dX5_work_109 : decode cX5_work 109 = .ok (.aload_n 0, 1) := by decide +kernel
theorem dX5_work_110 : decode cX5_work 110 = .ok (.getfield 25, 3) := by decide +kernel
theorem dX5_work_113 : decode cX5_work 113 = .ok (.bipush 6, 2) := by decide +kernel
theorem dX5_work_115 : decode cX5_work 115 = .ok (.newarray .int, 2) := by decide +kernel
theorem dX5_work_117 : decode cX5_work 117 = .ok (.dup, 1) := by decide +kernel
theorem dX5_work_118 : decode cX5_work 118 = .ok (.iconst 0, 1) := by decide +kernel
theorem dX5_work_119 : decode cX5_work 119 = .ok (.aload_n 3, 1) := by decide +kernel
theorem dX5_work_120 : decode cX5_work 120 = .ok (.iconst 0, 1) := by decide +kernel
theorem dX5_work_121 : decode cX5_work 121 = .ok (.iaload, 1) := by decide +kernel
theorem dX5_work_122 : decode cX5_work 122 = .ok (.aload_n 3, 1) := by decide +kernel
theorem dX5_work_123 : decode cX5_work 123 = .ok (.iconst 0, 1) := by decide +kernel
theorem dX5_work_124 : decode cX5_work 124 = .ok (.iaload, 1) := by decide +kernel
theorem dX5_work_125 : decode cX5_work 125 = .ok (.iconst 2, 1) := by decide +kernel
theorem dX5_work_126 : decode cX5_work 126 = .ok (.idiv, 1) := by decide +kernel
theorem dX5_work_127 : decode cX5_work 127 = .ok (.isub, 1) := by decide +kernel
theorem dX5_work_128 : decode cX5_work 128 = .ok (.iastore, 1) := by decide +kernel
theorem dX5_work_129 : decode cX5_work 129 = .ok (.dup, 1) := by decide +kernel
theorem dX5_work_130 : decode cX5_work 130 = .ok (.iconst 1, 1) := by decide +kernel
theorem dX5_work_131 : decode cX5_work 131 = .ok (.aload_n 3, 1) := by decide +kernel
theorem dX5_work_132 : decode cX5_work 132 = .ok (.iconst 0, 1) := by decide +kernel
theorem dX5_work_133 : decode cX5_work 133 = .ok (.iaload, 1) := by decide +kernel
theorem dX5_work_134 : decode cX5_work 134 = .ok (.aload_n 3, 1) := by decide +kernel
theorem dX5_work_135 : decode cX5_work 135 = .ok (.iconst 0, 1) := by decide +kernel
theorem dX5_work_136 : decode cX5_work 136 = .ok (.iaload, 1) := by decide +kernel
theorem dX5_work_137 : decode cX5_work 137 = .ok (.iconst 2, 1) := by decide +kernel
theorem dX5_work_138 : decode cX5_work 138 = .ok (.idiv, 1) := by decide +kernel
theorem dX5_work_139 : decode cX5_work 139 = .ok (.isub, 1) := by decide +kernel
theorem dX5_work_140 : decode cX5_work 140 = .ok (.iastore, 1) := by decide +kernel
theorem dX5_work_141 : decode cX5_work 141 = .ok (.dup, 1) := by decide +kernel
theorem dX5_work_142 : decode cX5_work 142 = .ok (.iconst 2, 1) := by decide +kernel
theorem dX5_work_143 : decode cX5_work 143 = .ok (.aload_n 3, 1) := by decide +kernel
theorem dX5_work_144 : decode cX5_work 144 = .ok (.iconst 2, 1) := by decide +kernel
theorem dX5_work_145 : decode cX5_work 145 = .ok (.iaload, 1) := by decide +kernel
theorem dX5_work_146 : decode cX5_work 146 = .ok (.iastore, 1) := by decide +kernel
theorem dX5_work_147 : decode cX5_work 147 = .ok (.dup, 1) := by decide +kernel
theorem dX5_work_148 : decode cX5_work 148 = .ok (.iconst 3, 1) := by decide +kernel
theorem dX5_work_149 : decode cX5_work 149 = .ok (.aload_n 2, 1) := by decide +kernel
theorem dX5_work_150 : decode cX5_work 150 = .ok (.iconst 3, 1) := by decide +kernel
theorem dX5_work_151 : decode cX5_work 151 = .ok (.iaload, 1) := by decide +kernel
theorem dX5_work_152 : decode cX5_work 152 = .ok (.iastore, 1) := by decide +kernel
theorem dX5_work_153 : decode cX5_work 153 = .ok (.dup, 1) := by decide +kernel
theorem dX5_work_154 : decode cX5_work 154 = .ok (.iconst 4, 1) := by decide +kernel
theorem dX5_work_155 : decode cX5_work 155 = .ok (.iload 4, 2) := by decide +kernel
theorem dX5_work_157 : decode cX5_work 157 = .ok (.iastore, 1) := by decide +kernel
theorem dX5_work_158 : decode cX5_work 158 = .ok (.dup, 1) := by decide +kernel
theorem dX5_work_159 : decode cX5_work 159 = .ok (.iconst 5, 1) := by decide +kernel
theorem dX5_work_160 : decode cX5_work 160 = .ok (.iconst 0, 1) := by decide +kernel
theorem dX5_work_161 : decode cX5_work 161 = .ok (.iastore, 1) := by decide +kernel
theorem dX5_work_162 : decode cX5_work 162 = .ok (.invokestatic 49, 3) := by decide +kernel
theorem dX5_work_165 : decode cX5_work 165 = .ok (.putfield 25, 3) := by decide +kernel
theorem dX5_work_168 : decode cX5_work 168 = .ok (.aload_n 0, 1) := by decide +kernel
theorem dX5_work_169 : decode cX5_work 169 = .ok (.getfield 19, 3) := by decide +kernel
theorem dX5_work_172 : decode cX5_work 172 = .ok (.iload_n 1, 1) := by decide +kernel
theorem dX5_work_173 : decode cX5_work 173 = .ok (.aaload, 1) := by decide +kernel
theorem dX5_work_174 : decode cX5_work 174 = .ok (.arraylength, 1) := by decide +kernel
theorem dX5_work_175 : decode cX5_work 175 = .ok (.iconst 1, 1) := by decide +kernel
theorem dX5_work_176 : decode cX5_work 176 = .ok (.iadd, 1) := by decide +kernel
theorem dX5_work_177 : decode cX5_work 177 = .ok (.newarray .int, 2) := by decide +kernel
theorem dX5_work_179 : decode cX5_work 179 = .ok (.astore 5, 2) := by decide +kernel
theorem dX5_work_181 : decode cX5_work 181 = .ok (.aload 5, 2) := by decide +kernel
theorem dX5_work_183 : decode cX5_work 183 = .ok (.iconst 0, 1) := by decide +kernel
theorem dX5_work_184 : decode cX5_work 184 = .ok (.iload 4, 2) := by decide +kernel
theorem dX5_work_186 : decode cX5_work 186 = .ok (.iconst 1, 1) := by decide +kernel
theorem dX5_work_187 : decode cX5_work 187 = .ok (.iadd, 1) := by decide +kernel
theorem dX5_work_188 : decode cX5_work 188 = .ok (.iastore, 1) := by decide +kernel
theorem dX5_work_189 : decode cX5_work 189 = .ok (.iconst 1, 1) := by decide +kernel
theorem dX5_work_190 : decode cX5_work 190 = .ok (.istore 6, 2) := by decide +kernel
theorem dX5_work_192 : decode cX5_work 192 = .ok (.iload 6, 2) := by decide +kernel
theorem dX5_work_194 : decode cX5_work 194 = .ok (.aload 5, 2) := by decide +kernel
theorem dX5_work_196 : decode cX5_work 196 = .ok (.arraylength, 1) := by decide +kernel
theorem dX5_work_197 : decode cX5_work 197 = .ok (.if_icmp .ge 25, 3) := by decide +kernel
theorem dX5_work_200 : decode cX5_work 200 = .ok (.aload 5, 2) := by decide +kernel
theorem dX5_work_202 : decode cX5_work 202 = .ok (.iload 6, 2) := by decide +kernel
theorem dX5_work_204 : decode cX5_work 204 = .ok (.aload_n 0, 1) := by decide +kernel
theorem dX5_work_205 : decode cX5_work 205 = .ok (.getfield 19, 3) := by decide +kernel
theorem dX5_work_208 : decode cX5_work 208 = .ok (.iload_n 1, 1) := by decide +kernel
theorem dX5_work_209 : decode cX5_work 209 = .ok (.aaload, 1) := by decide +kernel
theorem dX5_work_210 : decode cX5_work 210 = .ok (.iload 6, 2) := by decide +kernel
theorem dX5_work_212 : decode cX5_work 212 = .ok (.iconst 1, 1) := by decide +kernel
theorem dX5_work_213 : decode cX5_work 213 = .ok (.isub, 1) := by decide +kernel
theorem dX5_work_214 : decode cX5_work 214 = .ok (.iaload, 1) := by decide +kernel
theorem dX5_work_215 : decode cX5_work 215 = .ok (.iastore, 1) := by decide +kernel
theorem dX5_work_216 : decode cX5_work 216 = .ok (.iinc 6 1, 3) := by decide +kernel
theorem dX5_work_219 : decode cX5_work 219 = .ok (.goto (-27), 3) := by decide +kernel
theorem dX5_work_222 : decode cX5_work 222 = .ok (.aload_n 0, 1) := by decide +kernel
theorem dX5_work_223 : decode cX5_work 223 = .ok (.getfield 19, 3) := by decide +kernel
theorem dX5_work_226 : decode cX5_work 226 = .ok (.iload_n 1, 1) := by decide +kernel
theorem dX5_work_227 : decode cX5_work 227 = .ok (.aload 5, 2) := by decide +kernel
theorem dX5_work_229 : decode cX5_work 229 = .ok (.aastore, 1) := by decide +kernel
theorem dX5_work_230 : decode cX5_work 230 = .ok (.aload_n 2, 1) := by decide +kernel
theorem dX5_work_231 : decode cX5_work 231 = .ok (.iconst 3, 1) := by decide +kernel
theorem dX5_work_232 : decode cX5_work 232 = .ok (.iload 4, 2) := by decide +kernel
theorem dX5_work_234 : decode cX5_work 234 = .ok (.iastore, 1) := by decide +kernel
theorem dX5_work_235 : decode cX5_work 235 = .ok (.aload_n 0, 1) := by decide +kernel
theorem dX5_work_236 : decode cX5_work 236 = .ok (.dup, 1) := by decide +kernel
theorem dX5_work_237 : decode cX5_work 237 = .ok (.getfield 43, 3) := by decide +kernel
theorem dX5_work_240 : decode cX5_work 240 = .ok (.iconst 1, 1) := by decide +kernel
theorem dX5_work_241 : decode cX5_work 241 = .ok (.iadd, 1) := by decide +kernel
theorem dX5_work_242 : decode cX5_work 242 = .ok (.putfield 43, 3) := by decide +kernel
theorem dX5_work_245 : decode cX5_work 245 = .ok (.iconst 0, 1) := by decide +kernel
theorem dX5_work_246 : decode cX5_work 246 = .ok (.istore 6, 2) := by decide +kernel
theorem dX5_work_248 : decode cX5_work 248 = .ok (.iload 6, 2) := by decide +kernel
theorem dX5_work_250 : decode cX5_work 250 = .ok (.aload_n 0, 1) := by decide +kernel
theorem dX5_work_251 : decode cX5_work 251 = .ok (.getfield 15, 3) := by decide +kernel
theorem dX5_work_254 : decode cX5_work 254 = .ok (.arraylength, 1) := by decide +kernel
theorem dX5_work_255 : decode cX5_work 255 = .ok (.if_icmp .ge 22, 3) := by decide +kernel
theorem dX5_work_258 : decode cX5_work 258 = .ok (.aload_n 0, 1) := by decide +kernel
theorem dX5_work_259 : decode cX5_work 259 = .ok (.getfield 15, 3) := by decide +kernel
theorem dX5_work_262 : decode cX5_work 262 = .ok (.iload 6, 2) := by decide +kernel
theorem dX5_work_264 : decode cX5_work 264 = .ok (.aaload, 1) := by decide +kernel
theorem dX5_work_265 : decode cX5_work 265 = .ok (.iconst 2, 1) := by decide +kernel
theorem dX5_work_266 : decode cX5_work 266 = .ok (.iaload, 1) := by decide +kernel
theorem dX5_work_267 : decode cX5_work 267 = .ok (.iconst 3, 1) := by decide +kernel
theorem dX5_work_268 : decode cX5_work 268 = .ok (.if_icmp .eq 9, 3) := by decide +kernel
theorem dX5_work_271 : decode cX5_work 271 = .ok (.iinc 6 1, 3) := by decide +kernel
theorem dX5_work_274 : decode cX5_work 274 = .ok (.goto (-26), 3) := by decide +kernel
theorem dX5_work_277 : decode cX5_work 277 = .ok (.iload 6, 2) := by decide +kernel
theorem dX5_work_279 : decode cX5_work 279 = .ok (.aload_n 0, 1) := by decide +kernel
theorem dX5_work_280 : decode cX5_work 280 = .ok (.getfield 15, 3) := by decide +kernel
theorem dX5_work_283 : decode cX5_work 283 = .ok (.arraylength, 1) := by decide +kernel
theorem dX5_work_284 : decode cX5_work 284 = .ok (.if_icmp .ge 13, 3) := by decide +kernel
theorem dX5_work_287 : decode cX5_work 287 = .ok (.aload_n 0, 1) := by decide +kernel
theorem dX5_work_288 : decode cX5_work 288 = .ok (.getfield 15, 3) := by decide +kernel
theorem dX5_work_291 : decode cX5_work 291 = .ok (.iload 6, 2) := by decide +kernel
theorem dX5_work_293 : decode cX5_work 293 = .ok (.aaload, 1) := by decide +kernel
theorem dX5_work_294 : decode cX5_work 294 = .ok (.iconst 2, 1) := by decide +kernel
theorem dX5_work_295 : decode cX5_work 295 = .ok (.iconst 0, 1) := by decide +kernel
theorem dX5_work_296 : decode cX5_work 296 = .ok (.iastore, 1) := by decide +kernel
theorem dX5_work_297 : decode cX5_work 297 = .ok (.return_, 1) := by decide +kernel
theorem dX5_work_298 : decode cX5_work 298 = .ok (.aload_n 3, 1) := by decide +kernel
theorem dX5_work_299 : decode cX5_work 299 = .ok (.iconst 1, 1) := by decide +kernel
theorem dX5_work_300 : decode cX5_work 300 = .ok (.iconst 0, 1) := by decide +kernel
theorem dX5_work_301 : decode cX5_work 301 = .ok (.aload_n 3, 1) := by decide +kernel
theorem dX5_work_302 : decode cX5_work 302 = .ok (.iconst 1, 1) := by decide +kernel
theorem dX5_work_303 : decode cX5_work 303 = .ok (.iaload, 1) := by decide +kernel
theorem dX5_work_304 : decode cX5_work 304 = .ok (.aload_n 2, 1) := by decide +kernel
theorem dX5_work_305 : decode cX5_work 305 = .ok (.iconst 0, 1) := by decide +kernel
theorem dX5_work_306 : decode cX5_work 306 = .ok (.iaload, 1) := by decide +kernel
theorem dX5_work_307 : decode cX5_work 307 = .ok (.isub, 1) := by decide +kernel
theorem dX5_work_308 : decode cX5_work 308 = .ok (.invokestatic 53, 3) := by decide +kernel
theorem dX5_work_311 : decode cX5_work 311 = .ok (.iastore, 1) := by decide +kernel
theorem dX5_work_312 : decode cX5_work 312 = .ok (.aload_n 3, 1) := by decide +kernel
theorem dX5_work_313 : decode cX5_work 313 = .ok (.iconst 1, 1) := by decide +kernel
theorem dX5_work_314 : decode cX5_work 314 = .ok (.iaload, 1) := by decide +kernel
theorem dX5_work_315 : decode cX5_work 315 = .ok (.ifCond .ne 11, 3) := by decide +kernel
theorem dX5_work_318 : decode cX5_work 318 = .ok (.aload_n 0, 1) := by decide +kernel
theorem dX5_work_319 : decode cX5_work 319 = .ok (.aload_n 2, 1) := by decide +kernel
theorem dX5_work_320 : decode cX5_work 320 = .ok (.aload_n 2, 1) := by decide +kernel
theorem dX5_work_321 : decode cX5_work 321 = .ok (.iconst 3, 1) := by decide +kernel
theorem dX5_work_322 : decode cX5_work 322 = .ok (.iaload, 1) := by decide +kernel
theorem dX5_work_323 : decode cX5_work 323 = .ok (.invokevirtual 59, 3) := by decide +kernel
theorem dX5_work_326 : decode cX5_work 326 = .ok (.return_, 1) := by decide +kernel
theorem dX5_turn_0 : decode cX5_turn 0 = .ok (.aload_n 0, 1) := by decide +kernel
theorem dX5_turn_1 : decode cX5_turn 1 = .ok (.getfield 15, 3) := by decide +kernel
theorem dX5_turn_4 : decode cX5_turn 4 = .ok (.iload_n 1, 1) := by decide +kernel
theorem dX5_turn_5 : decode cX5_turn 5 = .ok (.aaload, 1) := by decide +kernel
theorem dX5_turn_6 : decode cX5_turn 6 = .ok (.astore_n 2, 1) := by decide +kernel
theorem dX5_turn_7 : decode cX5_turn 7 = .ok (.aload_n 2, 1) := by decide +kernel
theorem dX5_turn_8 : decode cX5_turn 8 = .ok (.iconst 2, 1) := by decide +kernel
theorem dX5_turn_9 : decode cX5_turn 9 = .ok (.iaload, 1) := by decide +kernel
theorem dX5_turn_10 : decode cX5_turn 10 = .ok (.iconst 3, 1) := by decide +kernel
theorem dX5_turn_11 : decode cX5_turn 11 = .ok (.if_icmp .ne 4, 3) := by decide +kernel
theorem dX5_turn_14 : decode cX5_turn 14 = .ok (.return_, 1) := by decide +kernel
theorem dX5_turn_15 : decode cX5_turn 15 = .ok (.aload_n 2, 1) := by decide +kernel
theorem dX5_turn_16 : decode cX5_turn 16 = .ok (.iconst 4, 1) := by decide +kernel
theorem dX5_turn_17 : decode cX5_turn 17 = .ok (.iaload, 1) := by decide +kernel
theorem dX5_turn_18 : decode cX5_turn 18 = .ok (.istore_n 3, 1) := by decide +kernel
theorem dX5_turn_19 : decode cX5_turn 19 = .ok (.aload_n 2, 1) := by decide +kernel
theorem dX5_turn_20 : decode cX5_turn 20 = .ok (.iconst 4, 1) := by decide +kernel
theorem dX5_turn_21 : decode cX5_turn 21 = .ok (.iconst 0, 1) := by decide +kernel
theorem dX5_turn_22 : decode cX5_turn 22 = .ok (.iastore, 1) := by decide +kernel
theorem dX5_turn_23 : decode cX5_turn 23 = .ok (.aload_n 2, 1) := by decide +kernel
theorem dX5_turn_24 : decode cX5_turn 24 = .ok (.iconst 2, 1) := by decide +kernel
theorem dX5_turn_25 : decode cX5_turn 25 = .ok (.iaload, 1) := by decide +kernel
theorem dX5_turn_26 : decode cX5_turn 26 = .ok (.iconst 2, 1) := by decide +kernel
theorem dX5_turn_27 : decode cX5_turn 27 = .ok (.if_icmp .ne 22, 3) := by decide +kernel
theorem dX5_turn_30 : decode cX5_turn 30 = .ok (.aload_n 0, 1) := by decide +kernel
theorem dX5_turn_31 : decode cX5_turn 31 = .ok (.dup, 1) := by decide +kernel
theorem dX5_turn_32 : decode cX5_turn 32 = .ok (.getfield 46, 3) := by decide +kernel
theorem dX5_turn_35 : decode cX5_turn 35 = .ok (.iconst 1, 1) := by decide +kernel
theorem dX5_turn_36 : decode cX5_turn 36 = .ok (.iadd, 1) := by decide +kernel
theorem dX5_turn_37 : decode cX5_turn 37 = .ok (.putfield 46, 3) := by decide +kernel
theorem dX5_turn_40 : decode cX5_turn 40 = .ok (.aload_n 0, 1) := by decide +kernel
theorem dX5_turn_41 : decode cX5_turn 41 = .ok (.aload_n 2, 1) := by decide +kernel
theorem dX5_turn_42 : decode cX5_turn 42 = .ok (.aload_n 2, 1) := by decide +kernel
theorem dX5_turn_43 : decode cX5_turn 43 = .ok (.iconst 3, 1) := by decide +kernel
theorem dX5_turn_44 : decode cX5_turn 44 = .ok (.iaload, 1) := by decide +kernel
theorem dX5_turn_45 : decode cX5_turn 45 = .ok (.invokevirtual 59, 3) := by decide +kernel
theorem dX5_turn_48 : decode cX5_turn 48 = .ok (.return_, 1) := by decide +kernel
theorem dX5_turn_49 : decode cX5_turn 49 = .ok (.aload_n 2, 1) := by decide +kernel
theorem dX5_turn_50 : decode cX5_turn 50 = .ok (.iconst 2, 1) := by decide +kernel
theorem dX5_turn_51 : decode cX5_turn 51 = .ok (.iaload, 1) := by decide +kernel
theorem dX5_turn_52 : decode cX5_turn 52 = .ok (.ifCond .ne 44, 3) := by decide +kernel
theorem dX5_turn_55 : decode cX5_turn 55 = .ok (.aload_n 0, 1) := by decide +kernel
theorem dX5_turn_56 : decode cX5_turn 56 = .ok (.getfield 19, 3) := by decide +kernel
theorem dX5_turn_59 : decode cX5_turn 59 = .ok (.iload_n 1, 1) := by decide +kernel
theorem dX5_turn_60 : decode cX5_turn 60 = .ok (.aaload, 1) := by decide +kernel
theorem dX5_turn_61 : decode cX5_turn 61 = .ok (.arraylength, 1) := by decide +kernel
theorem dX5_turn_62 : decode cX5_turn 62 = .ok (.ifCond .le 34, 3) := by decide +kernel
theorem dX5_turn_65 : decode cX5_turn 65 = .ok (.aload_n 2, 1) := by decide +kernel
theorem dX5_turn_66 : decode cX5_turn 66 = .ok (.iconst 2, 1) := by decide +kernel
theorem dX5_turn_67 : decode cX5_turn 67 = .ok (.iconst 1, 1) := by decide +kernel
theorem dX5_turn_68 : decode cX5_turn 68 = .ok (.iastore, 1) := by decide +kernel
theorem dX5_turn_69 : decode cX5_turn 69 = .ok (.aload_n 2, 1) := by decide +kernel
theorem dX5_turn_70 : decode cX5_turn 70 = .ok (.iconst 3, 1) := by decide +kernel
theorem dX5_turn_71 : decode cX5_turn 71 = .ok (.aload_n 0, 1) := by decide +kernel
theorem dX5_turn_72 : decode cX5_turn 72 = .ok (.getfield 19, 3) := by decide +kernel
theorem dX5_turn_75 : decode cX5_turn 75 = .ok (.iload_n 1, 1) := by decide +kernel
theorem dX5_turn_76 : decode cX5_turn 76 = .ok (.aaload, 1) := by decide +kernel
theorem dX5_turn_77 : decode cX5_turn 77 = .ok (.iconst 0, 1) := by decide +kernel
theorem dX5_turn_78 : decode cX5_turn 78 = .ok (.iaload, 1) := by decide +kernel
theorem dX5_turn_79 : decode cX5_turn 79 = .ok (.iastore, 1) := by decide +kernel
theorem dX5_turn_80 : decode cX5_turn 80 = .ok (.aload_n 0, 1) := by decide +kernel
theorem dX5_turn_81 : decode cX5_turn 81 = .ok (.getfield 19, 3) := by decide +kernel
theorem dX5_turn_84 : decode cX5_turn 84 = .ok (.iload_n 1, 1) := by decide +kernel
theorem dX5_turn_85 : decode cX5_turn 85 = .ok (.aload_n 0, 1) := by decide +kernel
theorem dX5_turn_86 : decode cX5_turn 86 = .ok (.getfield 19, 3) := by decide +kernel
theorem dX5_turn_89 : decode cX5_turn 89 = .ok (.iload_n 1, 1) := by decide +kernel
theorem dX5_turn_90 : decode cX5_turn 90 = .ok (.aaload, 1) := by decide +kernel
theorem dX5_turn_91 : decode cX5_turn 91 = .ok (.iconst 1, 1) := by decide +kernel
theorem dX5_turn_92 : decode cX5_turn 92 = .ok (.invokestatic 63, 3) := by decide +kernel
theorem dX5_turn_95 : decode cX5_turn 95 = .ok (.aastore, 1) := by decide +kernel
theorem dX5_turn_96 : decode cX5_turn 96 = .ok (.aload_n 2, 1) := by decide +kernel
theorem dX5_turn_97 : decode cX5_turn 97 = .ok (.iconst 2, 1) := by decide +kernel
theorem dX5_turn_98 : decode cX5_turn 98 = .ok (.iaload, 1) := by decide +kernel
theorem dX5_turn_99 : decode cX5_turn 99 = .ok (.iconst 1, 1) := by decide +kernel
theorem dX5_turn_100 : decode cX5_turn 100 = .ok (.if_icmp .ne 9, 3) := by decide +kernel
theorem dX5_turn_103 : decode cX5_turn 103 = .ok (.aload_n 0, 1) := by decide +kernel
theorem dX5_turn_104 : decode cX5_turn 104 = .ok (.iload_n 1, 1) := by decide +kernel
theorem dX5_turn_105 : decode cX5_turn 105 = .ok (.invokevirtual 67, 3) := by decide +kernel
theorem dX5_turn_108 : decode cX5_turn 108 = .ok (.return_, 1) := by decide +kernel
theorem dX5_turn_109 : decode cX5_turn 109 = .ok (.aload_n 0, 1) := by decide +kernel
theorem dX5_turn_110 : decode cX5_turn 110 = .ok (.getfield 22, 3) := by decide +kernel
theorem dX5_turn_113 : decode cX5_turn 113 = .ok (.astore 4, 2) := by decide +kernel
theorem dX5_turn_115 : decode cX5_turn 115 = .ok (.aload 4, 2) := by decide +kernel
theorem dX5_turn_117 : decode cX5_turn 117 = .ok (.arraylength, 1) := by decide +kernel
theorem dX5_turn_118 : decode cX5_turn 118 = .ok (.istore 5, 2) := by decide +kernel
theorem dX5_turn_120 : decode cX5_turn 120 = .ok (.iconst 0, 1) := by decide +kernel
theorem dX5_turn_121 : decode cX5_turn 121 = .ok (.istore 6, 2) := by decide +kernel
theorem dX5_turn_123 : decode cX5_turn 123 = .ok (.iload 6, 2) := by decide +kernel
theorem dX5_turn_125 : decode cX5_turn 125 = .ok (.iload 5, 2) := by decide +kernel
theorem dX5_turn_127 : decode cX5_turn 127 = .ok (.if_icmp .ge 44, 3) := by decide +kernel
theorem dX5_turn_130 : decode cX5_turn 130 = .ok (.aload 4, 2) := by decide +kernel
theorem dX5_turn_132 : decode cX5_turn 132 = .ok (.iload 6, 2) := by decide +kernel
theorem dX5_turn_134 : decode cX5_turn 134 = .ok (.aaload, 1) := by decide +kernel
theorem dX5_turn_135 : decode cX5_turn 135 = .ok (.astore 7, 2) := by decide +kernel
theorem dX5_turn_137 : decode cX5_turn 137 = .ok (.aload 7, 2) := by decide +kernel
theorem dX5_turn_139 : decode cX5_turn 139 = .ok (.iconst 5, 1) := by decide +kernel
theorem dX5_turn_140 : decode cX5_turn 140 = .ok (.iaload, 1) := by decide +kernel
theorem dX5_turn_141 : decode cX5_turn 141 = .ok (.iconst 1, 1) := by decide +kernel
theorem dX5_turn_142 : decode cX5_turn 142 = .ok (.if_icmp .ne 6, 3) := by decide +kernel
theorem dX5_turn_145 : decode cX5_turn 145 = .ok (.goto 20, 3) := by decide +kernel
theorem dX5_turn_148 : decode cX5_turn 148 = .ok (.aload 7, 2) := by decide +kernel
theorem dX5_turn_150 : decode cX5_turn 150 = .ok (.iconst 5, 1) := by decide +kernel
theorem dX5_turn_151 : decode cX5_turn 151 = .ok (.iconst 1, 1) := by decide +kernel
theorem dX5_turn_152 : decode cX5_turn 152 = .ok (.iastore, 1) := by decide +kernel
theorem dX5_turn_153 : decode cX5_turn 153 = .ok (.aload_n 2, 1) := by decide +kernel
theorem dX5_turn_154 : decode cX5_turn 154 = .ok (.iconst 2, 1) := by decide +kernel
theorem dX5_turn_155 : decode cX5_turn 155 = .ok (.iconst 1, 1) := by decide +kernel
theorem dX5_turn_156 : decode cX5_turn 156 = .ok (.iastore, 1) := by decide +kernel
theorem dX5_turn_157 : decode cX5_turn 157 = .ok (.aload_n 2, 1) := by decide +kernel
theorem dX5_turn_158 : decode cX5_turn 158 = .ok (.iconst 3, 1) := by decide +kernel
theorem dX5_turn_159 : decode cX5_turn 159 = .ok (.aload 7, 2) := by decide +kernel
theorem dX5_turn_161 : decode cX5_turn 161 = .ok (.iconst 1, 1) := by decide +kernel
theorem dX5_turn_162 : decode cX5_turn 162 = .ok (.iaload, 1) := by decide +kernel
theorem dX5_turn_163 : decode cX5_turn 163 = .ok (.iastore, 1) := by decide +kernel
theorem dX5_turn_164 : decode cX5_turn 164 = .ok (.return_, 1) := by decide +kernel
theorem dX5_turn_165 : decode cX5_turn 165 = .ok (.iinc 6 1, 3) := by decide +kernel
theorem dX5_turn_168 : decode cX5_turn 168 = .ok (.goto (-45), 3) := by decide +kernel
theorem dX5_turn_171 : decode cX5_turn 171 = .ok (.aload_n 0, 1) := by decide +kernel
theorem dX5_turn_172 : decode cX5_turn 172 = .ok (.iload_n 1, 1) := by decide +kernel
theorem dX5_turn_173 : decode cX5_turn 173 = .ok (.invokevirtual 71, 3) := by decide +kernel
theorem dX5_turn_176 : decode cX5_turn 176 = .ok (.istore 4, 2) := by decide +kernel
theorem dX5_turn_178 : decode cX5_turn 178 = .ok (.iload 4, 2) := by decide +kernel
theorem dX5_turn_180 : decode cX5_turn 180 = .ok (.ifCond .ge 29, 3) := by decide +kernel
theorem dX5_turn_183 : decode cX5_turn 183 = .ok (.aload_n 2, 1) := by decide +kernel
theorem dX5_turn_184 : decode cX5_turn 184 = .ok (.bipush 7, 2) := by decide +kernel
theorem dX5_turn_186 : decode cX5_turn 186 = .ok (.dup2, 1) := by decide +kernel
theorem dX5_turn_187 : decode cX5_turn 187 = .ok (.iaload, 1) := by decide +kernel
theorem dX5_turn_188 : decode cX5_turn 188 = .ok (.iconst 1, 1) := by decide +kernel
theorem dX5_turn_189 : decode cX5_turn 189 = .ok (.iadd, 1) := by decide +kernel
theorem dX5_turn_190 : decode cX5_turn 190 = .ok (.iastore, 1) := by decide +kernel
theorem dX5_turn_191 : decode cX5_turn 191 = .ok (.aload_n 2, 1) := by decide +kernel
theorem dX5_turn_192 : decode cX5_turn 192 = .ok (.iconst 4, 1) := by decide +kernel
theorem dX5_turn_193 : decode cX5_turn 193 = .ok (.iload_n 3, 1) := by decide +kernel
theorem dX5_turn_194 : decode cX5_turn 194 = .ok (.iconst 1, 1) := by decide +kernel
theorem dX5_turn_195 : decode cX5_turn 195 = .ok (.iadd, 1) := by decide +kernel
theorem dX5_turn_196 : decode cX5_turn 196 = .ok (.iconst 3, 1) := by decide +kernel
theorem dX5_turn_197 : decode cX5_turn 197 = .ok (.irem, 1) := by decide +kernel
theorem dX5_turn_198 : decode cX5_turn 198 = .ok (.iastore, 1) := by decide +kernel
theorem dX5_turn_199 : decode cX5_turn 199 = .ok (.iload_n 3, 1) := by decide +kernel
theorem dX5_turn_200 : decode cX5_turn 200 = .ok (.iconst 2, 1) := by decide +kernel
theorem dX5_turn_201 : decode cX5_turn 201 = .ok (.if_icmp .ne 7, 3) := by decide +kernel
theorem dX5_turn_204 : decode cX5_turn 204 = .ok (.aload_n 2, 1) := by decide +kernel
theorem dX5_turn_205 : decode cX5_turn 205 = .ok (.iconst 2, 1) := by decide +kernel
theorem dX5_turn_206 : decode cX5_turn 206 = .ok (.iconst 3, 1) := by decide +kernel
theorem dX5_turn_207 : decode cX5_turn 207 = .ok (.iastore, 1) := by decide +kernel
theorem dX5_turn_208 : decode cX5_turn 208 = .ok (.return_, 1) := by decide +kernel
theorem dX5_turn_209 : decode cX5_turn 209 = .ok (.aload_n 2, 1) := by decide +kernel
theorem dX5_turn_210 : decode cX5_turn 210 = .ok (.iconst 2, 1) := by decide +kernel
theorem dX5_turn_211 : decode cX5_turn 211 = .ok (.iconst 1, 1) := by decide +kernel
theorem dX5_turn_212 : decode cX5_turn 212 = .ok (.iastore, 1) := by decide +kernel
theorem dX5_turn_213 : decode cX5_turn 213 = .ok (.aload_n 2, 1) := by decide +kernel
theorem dX5_turn_214 : decode cX5_turn 214 = .ok (.iconst 3, 1) := by decide +kernel
theorem dX5_turn_215 : decode cX5_turn 215 = .ok (.aload_n 0, 1) := by decide +kernel
theorem dX5_turn_216 : decode cX5_turn 216 = .ok (.getfield 19, 3) := by decide +kernel
theorem dX5_turn_219 : decode cX5_turn 219 = .ok (.iload 4, 2) := by decide +kernel
theorem dX5_turn_221 : decode cX5_turn 221 = .ok (.aaload, 1) := by decide +kernel
theorem dX5_turn_222 : decode cX5_turn 222 = .ok (.aload_n 0, 1) := by decide +kernel
theorem dX5_turn_223 : decode cX5_turn 223 = .ok (.getfield 19, 3) := by decide +kernel
theorem dX5_turn_226 : decode cX5_turn 226 = .ok (.iload 4, 2) := by decide +kernel
theorem dX5_turn_228 : decode cX5_turn 228 = .ok (.aaload, 1) := by decide +kernel
theorem dX5_turn_229 : decode cX5_turn 229 = .ok (.arraylength, 1) := by decide +kernel
theorem dX5_turn_230 : decode cX5_turn 230 = .ok (.iconst 1, 1) := by decide +kernel
theorem dX5_turn_231 : decode cX5_turn 231 = .ok (.isub, 1) := by decide +kernel
theorem dX5_turn_232 : decode cX5_turn 232 = .ok (.iaload, 1) := by decide +kernel
theorem dX5_turn_233 : decode cX5_turn 233 = .ok (.iastore, 1) := by decide +kernel
theorem dX5_turn_234 : decode cX5_turn 234 = .ok (.aload_n 0, 1) := by decide +kernel
theorem dX5_turn_235 : decode cX5_turn 235 = .ok (.getfield 19, 3) := by decide +kernel
theorem dX5_turn_238 : decode cX5_turn 238 = .ok (.iload 4, 2) := by decide +kernel
theorem dX5_turn_240 : decode cX5_turn 240 = .ok (.aload_n 0, 1) := by decide +kernel
theorem dX5_turn_241 : decode cX5_turn 241 = .ok (.getfield 19, 3) := by decide +kernel
theorem dX5_turn_244 : decode cX5_turn 244 = .ok (.iload 4, 2) := by decide +kernel
theorem dX5_turn_246 : decode cX5_turn 246 = .ok (.aaload, 1) := by decide +kernel
theorem dX5_turn_247 : decode cX5_turn 247 = .ok (.iconst 0, 1) := by decide +kernel
theorem dX5_turn_248 : decode cX5_turn 248 = .ok (.invokestatic 63, 3) := by decide +kernel
theorem dX5_turn_251 : decode cX5_turn 251 = .ok (.aastore, 1) := by decide +kernel
theorem dX5_turn_252 : decode cX5_turn 252 = .ok (.aload_n 2, 1) := by decide +kernel
theorem dX5_turn_253 : decode cX5_turn 253 = .ok (.iconst 5, 1) := by decide +kernel
theorem dX5_turn_254 : decode cX5_turn 254 = .ok (.dup2, 1) := by decide +kernel
theorem dX5_turn_255 : decode cX5_turn 255 = .ok (.iaload, 1) := by decide +kernel
theorem dX5_turn_256 : decode cX5_turn 256 = .ok (.iconst 1, 1) := by decide +kernel
theorem dX5_turn_257 : decode cX5_turn 257 = .ok (.iadd, 1) := by decide +kernel
theorem dX5_turn_258 : decode cX5_turn 258 = .ok (.iastore, 1) := by decide +kernel
theorem dX5_turn_259 : decode cX5_turn 259 = .ok (.aload_n 0, 1) := by decide +kernel
theorem dX5_turn_260 : decode cX5_turn 260 = .ok (.getfield 15, 3) := by decide +kernel
theorem dX5_turn_263 : decode cX5_turn 263 = .ok (.iload 4, 2) := by decide +kernel
theorem dX5_turn_265 : decode cX5_turn 265 = .ok (.aaload, 1) := by decide +kernel
theorem dX5_turn_266 : decode cX5_turn 266 = .ok (.bipush 6, 2) := by decide +kernel
theorem dX5_turn_268 : decode cX5_turn 268 = .ok (.dup2, 1) := by decide +kernel
theorem dX5_turn_269 : decode cX5_turn 269 = .ok (.iaload, 1) := by decide +kernel
theorem dX5_turn_270 : decode cX5_turn 270 = .ok (.iconst 1, 1) := by decide +kernel
theorem dX5_turn_271 : decode cX5_turn 271 = .ok (.iadd, 1) := by decide +kernel
theorem dX5_turn_272 : decode cX5_turn 272 = .ok (.iastore, 1) := by decide +kernel
theorem dX5_turn_273 : decode cX5_turn 273 = .ok (.aload_n 0, 1) := by decide +kernel
theorem dX5_turn_274 : decode cX5_turn 274 = .ok (.getfield 22, 3) := by decide +kernel
theorem dX5_turn_277 : decode cX5_turn 277 = .ok (.aload_n 0, 1) := by decide +kernel
theorem dX5_turn_278 : decode cX5_turn 278 = .ok (.getfield 25, 3) := by decide +kernel
theorem dX5_turn_281 : decode cX5_turn 281 = .ok (.aload_n 2, 1) := by decide +kernel
theorem dX5_turn_282 : decode cX5_turn 282 = .ok (.iconst 3, 1) := by decide +kernel
theorem dX5_turn_283 : decode cX5_turn 283 = .ok (.iaload, 1) := by decide +kernel
theorem dX5_turn_284 : decode cX5_turn 284 = .ok (.aaload, 1) := by decide +kernel
theorem dX5_turn_285 : decode cX5_turn 285 = .ok (.iconst 2, 1) := by decide +kernel
theorem dX5_turn_286 : decode cX5_turn 286 = .ok (.iaload, 1) := by decide +kernel
theorem dX5_turn_287 : decode cX5_turn 287 = .ok (.aaload, 1) := by decide +kernel
theorem dX5_turn_288 : decode cX5_turn 288 = .ok (.iconst 4, 1) := by decide +kernel
theorem dX5_turn_289 : decode cX5_turn 289 = .ok (.dup2, 1) := by decide +kernel
theorem dX5_turn_290 : decode cX5_turn 290 = .ok (.iaload, 1) := by decide +kernel
theorem dX5_turn_291 : decode cX5_turn 291 = .ok (.iconst 1, 1) := by decide +kernel
theorem dX5_turn_292 : decode cX5_turn 292 = .ok (.iadd, 1) := by decide +kernel
theorem dX5_turn_293 : decode cX5_turn 293 = .ok (.iastore, 1) := by decide +kernel
theorem dX5_turn_294 : decode cX5_turn 294 = .ok (.aload_n 0, 1) := by decide +kernel
theorem dX5_turn_295 : decode cX5_turn 295 = .ok (.dup, 1) := by decide +kernel
theorem dX5_turn_296 : decode cX5_turn 296 = .ok (.getfield 40, 3) := by decide +kernel
theorem dX5_turn_299 : decode cX5_turn 299 = .ok (.iconst 1, 1) := by decide +kernel
theorem dX5_turn_300 : decode cX5_turn 300 = .ok (.iadd, 1) := by decide +kernel
theorem dX5_turn_301 : decode cX5_turn 301 = .ok (.putfield 40, 3) := by decide +kernel
theorem dX5_turn_304 : decode cX5_turn 304 = .ok (.return_, 1) := by decide +kernel
theorem dX5_pass_0 : decode cX5_pass 0 = .ok (.iconst 0, 1) := by decide +kernel
theorem dX5_pass_1 : decode cX5_pass 1 = .ok (.istore_n 1, 1) := by decide +kernel
theorem dX5_pass_2 : decode cX5_pass 2 = .ok (.iload_n 1, 1) := by decide +kernel
theorem dX5_pass_3 : decode cX5_pass 3 = .ok (.aload_n 0, 1) := by decide +kernel
theorem dX5_pass_4 : decode cX5_pass 4 = .ok (.getfield 15, 3) := by decide +kernel
theorem dX5_pass_7 : decode cX5_pass 7 = .ok (.arraylength, 1) := by decide +kernel
theorem dX5_pass_8 : decode cX5_pass 8 = .ok (.if_icmp .ge 14, 3) := by decide +kernel
theorem dX5_pass_11 : decode cX5_pass 11 = .ok (.aload_n 0, 1) := by decide +kernel
theorem dX5_pass_12 : decode cX5_pass 12 = .ok (.iload_n 1, 1) := by decide +kernel
theorem dX5_pass_13 : decode cX5_pass 13 = .ok (.invokevirtual 75, 3) := by decide +kernel
theorem dX5_pass_16 : decode cX5_pass 16 = .ok (.iinc 1 1, 3) := by decide +kernel
theorem dX5_pass_19 : decode cX5_pass 19 = .ok (.goto (-17), 3) := by decide +kernel
theorem dX5_pass_22 : decode cX5_pass 22 = .ok (.aload_n 0, 1) := by decide +kernel
theorem dX5_pass_23 : decode cX5_pass 23 = .ok (.dup, 1) := by decide +kernel
theorem dX5_pass_24 : decode cX5_pass 24 = .ok (.getfield 33, 3) := by decide +kernel
theorem dX5_pass_27 : decode cX5_pass 27 = .ok (.iconst 1, 1) := by decide +kernel
theorem dX5_pass_28 : decode cX5_pass 28 = .ok (.iadd, 1) := by decide +kernel
theorem dX5_pass_29 : decode cX5_pass 29 = .ok (.putfield 33, 3) := by decide +kernel
theorem dX5_pass_32 : decode cX5_pass 32 = .ok (.return_, 1) := by decide +kernel
theorem dX5_go_0 : decode cX5_go 0 = .ok (.aload_n 0, 1) := by decide +kernel
theorem dX5_go_1 : decode cX5_go 1 = .ok (.invokevirtual 78, 3) := by decide +kernel
theorem dX5_go_4 : decode cX5_go 4 = .ok (.iconst 3, 1) := by decide +kernel
theorem dX5_go_5 : decode cX5_go 5 = .ok (.iaload, 1) := by decide +kernel
theorem dX5_go_6 : decode cX5_go 6 = .ok (.istore_n 2, 1) := by decide +kernel
theorem dX5_go_7 : decode cX5_go 7 = .ok (.iconst 0, 1) := by decide +kernel
theorem dX5_go_8 : decode cX5_go 8 = .ok (.istore_n 3, 1) := by decide +kernel
theorem dX5_go_9 : decode cX5_go 9 = .ok (.iload_n 3, 1) := by decide +kernel
theorem dX5_go_10 : decode cX5_go 10 = .ok (.iload_n 1, 1) := by decide +kernel
theorem dX5_go_11 : decode cX5_go 11 = .ok (.if_icmp .ge 13, 3) := by decide +kernel
theorem dX5_go_14 : decode cX5_go 14 = .ok (.aload_n 0, 1) := by decide +kernel
theorem dX5_go_15 : decode cX5_go 15 = .ok (.invokevirtual 82, 3) := by decide +kernel
theorem dX5_go_18 : decode cX5_go 18 = .ok (.iinc 3 1, 3) := by decide +kernel
theorem dX5_go_21 : decode cX5_go 21 = .ok (.goto (-12), 3) := by decide +kernel
theorem dX5_go_24 : decode cX5_go 24 = .ok (.aload_n 0, 1) := by decide +kernel
theorem dX5_go_25 : decode cX5_go 25 = .ok (.invokevirtual 78, 3) := by decide +kernel
theorem dX5_go_28 : decode cX5_go 28 = .ok (.iconst 3, 1) := by decide +kernel
theorem dX5_go_29 : decode cX5_go 29 = .ok (.iaload, 1) := by decide +kernel
theorem dX5_go_30 : decode cX5_go 30 = .ok (.iload_n 2, 1) := by decide +kernel
theorem dX5_go_31 : decode cX5_go 31 = .ok (.isub, 1) := by decide +kernel
theorem dX5_go_32 : decode cX5_go 32 = .ok (.ireturn, 1) := by decide +kernel
theorem dX5_pitched_0 : decode cX5_pitched 0 = .ok (.iconst 0, 1) := by decide +kernel
theorem dX5_pitched_1 : decode cX5_pitched 1 = .ok (.istore_n 2, 1) := by decide +kernel
theorem dX5_pitched_2 : decode cX5_pitched 2 = .ok (.aload_n 0, 1) := by decide +kernel
theorem dX5_pitched_3 : decode cX5_pitched 3 = .ok (.getfield 25, 3) := by decide +kernel
theorem dX5_pitched_6 : decode cX5_pitched 6 = .ok (.astore_n 3, 1) := by decide +kernel
theorem dX5_pitched_7 : decode cX5_pitched 7 = .ok (.aload_n 3, 1) := by decide +kernel
theorem dX5_pitched_8 : decode cX5_pitched 8 = .ok (.arraylength, 1) := by decide +kernel
theorem dX5_pitched_9 : decode cX5_pitched 9 = .ok (.istore 4, 2) := by decide +kernel
theorem dX5_pitched_11 : decode cX5_pitched 11 = .ok (.iconst 0, 1) := by decide +kernel
theorem dX5_pitched_12 : decode cX5_pitched 12 = .ok (.istore 5, 2) := by decide +kernel
theorem dX5_pitched_14 : decode cX5_pitched 14 = .ok (.iload 5, 2) := by decide +kernel
theorem dX5_pitched_16 : decode cX5_pitched 16 = .ok (.iload 4, 2) := by decide +kernel
theorem dX5_pitched_18 : decode cX5_pitched 18 = .ok (.if_icmp .ge 43, 3) := by decide +kernel
theorem dX5_pitched_21 : decode cX5_pitched 21 = .ok (.aload_n 3, 1) := by decide +kernel
theorem dX5_pitched_22 : decode cX5_pitched 22 = .ok (.iload 5, 2) := by decide +kernel
theorem dX5_pitched_24 : decode cX5_pitched 24 = .ok (.aaload, 1) := by decide +kernel
theorem dX5_pitched_25 : decode cX5_pitched 25 = .ok (.astore 6, 2) := by decide +kernel
theorem dX5_pitched_27 : decode cX5_pitched 27 = .ok (.iload_n 2, 1) := by decide +kernel
theorem dX5_pitched_28 : decode cX5_pitched 28 = .ok (.iload_n 1, 1) := by decide +kernel
theorem dX5_pitched_29 : decode cX5_pitched 29 = .ok (.ifCond .lt 11, 3) := by decide +kernel
theorem dX5_pitched_32 : decode cX5_pitched 32 = .ok (.aload 6, 2) := by decide +kernel
theorem dX5_pitched_34 : decode cX5_pitched 34 = .ok (.iconst 2, 1) := by decide +kernel
theorem dX5_pitched_35 : decode cX5_pitched 35 = .ok (.iaload, 1) := by decide +kernel
theorem dX5_pitched_36 : decode cX5_pitched 36 = .ok (.iload_n 1, 1) := by decide +kernel
theorem dX5_pitched_37 : decode cX5_pitched 37 = .ok (.if_icmp .ne 15, 3) := by decide +kernel
theorem dX5_pitched_40 : decode cX5_pitched 40 = .ok (.aload 6, 2) := by decide +kernel
theorem dX5_pitched_42 : decode cX5_pitched 42 = .ok (.iconst 0, 1) := by decide +kernel
theorem dX5_pitched_43 : decode cX5_pitched 43 = .ok (.iaload, 1) := by decide +kernel
theorem dX5_pitched_44 : decode cX5_pitched 44 = .ok (.aload 6, 2) := by decide +kernel
theorem dX5_pitched_46 : decode cX5_pitched 46 = .ok (.iconst 1, 1) := by decide +kernel
theorem dX5_pitched_47 : decode cX5_pitched 47 = .ok (.iaload, 1) := by decide +kernel
theorem dX5_pitched_48 : decode cX5_pitched 48 = .ok (.isub, 1) := by decide +kernel
theorem dX5_pitched_49 : decode cX5_pitched 49 = .ok (.goto 4, 3) := by decide +kernel
theorem dX5_pitched_52 : decode cX5_pitched 52 = .ok (.iconst 0, 1) := by decide +kernel
theorem dX5_pitched_53 : decode cX5_pitched 53 = .ok (.iadd, 1) := by decide +kernel
theorem dX5_pitched_54 : decode cX5_pitched 54 = .ok (.istore_n 2, 1) := by decide +kernel
theorem dX5_pitched_55 : decode cX5_pitched 55 = .ok (.iinc 5 1, 3) := by decide +kernel
theorem dX5_pitched_58 : decode cX5_pitched 58 = .ok (.goto (-44), 3) := by decide +kernel
theorem dX5_pitched_61 : decode cX5_pitched 61 = .ok (.iload_n 2, 1) := by decide +kernel
theorem dX5_pitched_62 : decode cX5_pitched 62 = .ok (.ireturn, 1) := by decide +kernel
theorem dX5_made_0 : decode cX5_made 0 = .ok (.iconst 0, 1) := by decide +kernel
theorem dX5_made_1 : decode cX5_made 1 = .ok (.istore_n 2, 1) := by decide +kernel
theorem dX5_made_2 : decode cX5_made 2 = .ok (.aload_n 0, 1) := by decide +kernel
theorem dX5_made_3 : decode cX5_made 3 = .ok (.getfield 25, 3) := by decide +kernel
theorem dX5_made_6 : decode cX5_made 6 = .ok (.astore_n 3, 1) := by decide +kernel
theorem dX5_made_7 : decode cX5_made 7 = .ok (.aload_n 3, 1) := by decide +kernel
theorem dX5_made_8 : decode cX5_made 8 = .ok (.arraylength, 1) := by decide +kernel
theorem dX5_made_9 : decode cX5_made 9 = .ok (.istore 4, 2) := by decide +kernel
theorem dX5_made_11 : decode cX5_made 11 = .ok (.iconst 0, 1) := by decide +kernel
theorem dX5_made_12 : decode cX5_made 12 = .ok (.istore 5, 2) := by decide +kernel
theorem dX5_made_14 : decode cX5_made 14 = .ok (.iload 5, 2) := by decide +kernel
theorem dX5_made_16 : decode cX5_made 16 = .ok (.iload 4, 2) := by decide +kernel
theorem dX5_made_18 : decode cX5_made 18 = .ok (.if_icmp .ge 31, 3) := by decide +kernel
theorem dX5_made_21 : decode cX5_made 21 = .ok (.aload_n 3, 1) := by decide +kernel
theorem dX5_made_22 : decode cX5_made 22 = .ok (.iload 5, 2) := by decide +kernel
theorem dX5_made_24 : decode cX5_made 24 = .ok (.aaload, 1) := by decide +kernel
theorem dX5_made_25 : decode cX5_made 25 = .ok (.astore 6, 2) := by decide +kernel
theorem dX5_made_27 : decode cX5_made 27 = .ok (.iload_n 2, 1) := by decide +kernel
theorem dX5_made_28 : decode cX5_made 28 = .ok (.aload 6, 2) := by decide +kernel
theorem dX5_made_30 : decode cX5_made 30 = .ok (.iconst 2, 1) := by decide +kernel
theorem dX5_made_31 : decode cX5_made 31 = .ok (.iaload, 1) := by decide +kernel
theorem dX5_made_32 : decode cX5_made 32 = .ok (.iload_n 1, 1) := by decide +kernel
theorem dX5_made_33 : decode cX5_made 33 = .ok (.if_icmp .ne 7, 3) := by decide +kernel
theorem dX5_made_36 : decode cX5_made 36 = .ok (.iconst 1, 1) := by decide +kernel
theorem dX5_made_37 : decode cX5_made 37 = .ok (.goto 4, 3) := by decide +kernel
theorem dX5_made_40 : decode cX5_made 40 = .ok (.iconst 0, 1) := by decide +kernel
theorem dX5_made_41 : decode cX5_made 41 = .ok (.iadd, 1) := by decide +kernel
theorem dX5_made_42 : decode cX5_made 42 = .ok (.istore_n 2, 1) := by decide +kernel
theorem dX5_made_43 : decode cX5_made 43 = .ok (.iinc 5 1, 3) := by decide +kernel
theorem dX5_made_46 : decode cX5_made 46 = .ok (.goto (-32), 3) := by decide +kernel
theorem dX5_made_49 : decode cX5_made 49 = .ok (.iload_n 2, 1) := by decide +kernel
theorem dX5_made_50 : decode cX5_made 50 = .ok (.ireturn, 1) := by decide +kernel
theorem dX5_counts_0 : decode cX5_counts 0 = .ok (.bipush 13, 2) := by decide +kernel
theorem dX5_counts_2 : decode cX5_counts 2 = .ok (.newarray .int, 2) := by decide +kernel
theorem dX5_counts_4 : decode cX5_counts 4 = .ok (.dup, 1) := by decide +kernel
theorem dX5_counts_5 : decode cX5_counts 5 = .ok (.iconst 0, 1) := by decide +kernel
theorem dX5_counts_6 : decode cX5_counts 6 = .ok (.aload_n 0, 1) := by decide +kernel
theorem dX5_counts_7 : decode cX5_counts 7 = .ok (.getfield 33, 3) := by decide +kernel
theorem dX5_counts_10 : decode cX5_counts 10 = .ok (.iastore, 1) := by decide +kernel
theorem dX5_counts_11 : decode cX5_counts 11 = .ok (.dup, 1) := by decide +kernel
theorem dX5_counts_12 : decode cX5_counts 12 = .ok (.iconst 1, 1) := by decide +kernel
theorem dX5_counts_13 : decode cX5_counts 13 = .ok (.aload_n 0, 1) := by decide +kernel
theorem dX5_counts_14 : decode cX5_counts 14 = .ok (.getfield 15, 3) := by decide +kernel
theorem dX5_counts_17 : decode cX5_counts 17 = .ok (.arraylength, 1) := by decide +kernel
theorem dX5_counts_18 : decode cX5_counts 18 = .ok (.iastore, 1) := by decide +kernel
theorem dX5_counts_19 : decode cX5_counts 19 = .ok (.dup, 1) := by decide +kernel
theorem dX5_counts_20 : decode cX5_counts 20 = .ok (.iconst 2, 1) := by decide +kernel
theorem dX5_counts_21 : decode cX5_counts 21 = .ok (.aload_n 0, 1) := by decide +kernel
theorem dX5_counts_22 : decode cX5_counts 22 = .ok (.getfield 22, 3) := by decide +kernel
theorem dX5_counts_25 : decode cX5_counts 25 = .ok (.arraylength, 1) := by decide +kernel
theorem dX5_counts_26 : decode cX5_counts 26 = .ok (.iastore, 1) := by decide +kernel
theorem dX5_counts_27 : decode cX5_counts 27 = .ok (.dup, 1) := by decide +kernel
theorem dX5_counts_28 : decode cX5_counts 28 = .ok (.iconst 3, 1) := by decide +kernel
theorem dX5_counts_29 : decode cX5_counts 29 = .ok (.iconst 0, 1) := by decide +kernel
theorem dX5_counts_30 : decode cX5_counts 30 = .ok (.iastore, 1) := by decide +kernel
theorem dX5_counts_31 : decode cX5_counts 31 = .ok (.dup, 1) := by decide +kernel
theorem dX5_counts_32 : decode cX5_counts 32 = .ok (.iconst 4, 1) := by decide +kernel
theorem dX5_counts_33 : decode cX5_counts 33 = .ok (.iconst 0, 1) := by decide +kernel
theorem dX5_counts_34 : decode cX5_counts 34 = .ok (.iastore, 1) := by decide +kernel
theorem dX5_counts_35 : decode cX5_counts 35 = .ok (.dup, 1) := by decide +kernel
theorem dX5_counts_36 : decode cX5_counts 36 = .ok (.iconst 5, 1) := by decide +kernel
theorem dX5_counts_37 : decode cX5_counts 37 = .ok (.iconst 0, 1) := by decide +kernel
theorem dX5_counts_38 : decode cX5_counts 38 = .ok (.iastore, 1) := by decide +kernel
theorem dX5_counts_39 : decode cX5_counts 39 = .ok (.dup, 1) := by decide +kernel
theorem dX5_counts_40 : decode cX5_counts 40 = .ok (.bipush 6, 2) := by decide +kernel
theorem dX5_counts_42 : decode cX5_counts 42 = .ok (.iconst 0, 1) := by decide +kernel
theorem dX5_counts_43 : decode cX5_counts 43 = .ok (.iastore, 1) := by decide +kernel
theorem dX5_counts_44 : decode cX5_counts 44 = .ok (.dup, 1) := by decide +kernel
theorem dX5_counts_45 : decode cX5_counts 45 = .ok (.bipush 7, 2) := by decide +kernel
theorem dX5_counts_47 : decode cX5_counts 47 = .ok (.aload_n 0, 1) := by decide +kernel
theorem dX5_counts_48 : decode cX5_counts 48 = .ok (.getfield 40, 3) := by decide +kernel
theorem dX5_counts_51 : decode cX5_counts 51 = .ok (.iastore, 1) := by decide +kernel
theorem dX5_counts_52 : decode cX5_counts 52 = .ok (.dup, 1) := by decide +kernel
theorem dX5_counts_53 : decode cX5_counts 53 = .ok (.bipush 8, 2) := by decide +kernel
theorem dX5_counts_55 : decode cX5_counts 55 = .ok (.aload_n 0, 1) := by decide +kernel
theorem dX5_counts_56 : decode cX5_counts 56 = .ok (.getfield 43, 3) := by decide +kernel
theorem dX5_counts_59 : decode cX5_counts 59 = .ok (.iastore, 1) := by decide +kernel
theorem dX5_counts_60 : decode cX5_counts 60 = .ok (.dup, 1) := by decide +kernel
theorem dX5_counts_61 : decode cX5_counts 61 = .ok (.bipush 9, 2) := by decide +kernel
theorem dX5_counts_63 : decode cX5_counts 63 = .ok (.aload_n 0, 1) := by decide +kernel
theorem dX5_counts_64 : decode cX5_counts 64 = .ok (.getfield 46, 3) := by decide +kernel
theorem dX5_counts_67 : decode cX5_counts 67 = .ok (.iastore, 1) := by decide +kernel
theorem dX5_counts_68 : decode cX5_counts 68 = .ok (.dup, 1) := by decide +kernel
theorem dX5_counts_69 : decode cX5_counts 69 = .ok (.bipush 10, 2) := by decide +kernel
theorem dX5_counts_71 : decode cX5_counts 71 = .ok (.iconst 0, 1) := by decide +kernel
theorem dX5_counts_72 : decode cX5_counts 72 = .ok (.iastore, 1) := by decide +kernel
theorem dX5_counts_73 : decode cX5_counts 73 = .ok (.dup, 1) := by decide +kernel
theorem dX5_counts_74 : decode cX5_counts 74 = .ok (.bipush 11, 2) := by decide +kernel
theorem dX5_counts_76 : decode cX5_counts 76 = .ok (.aload_n 0, 1) := by decide +kernel
theorem dX5_counts_77 : decode cX5_counts 77 = .ok (.iconst (-1), 1) := by decide +kernel
theorem dX5_counts_78 : decode cX5_counts 78 = .ok (.invokevirtual 85, 3) := by decide +kernel
theorem dX5_counts_81 : decode cX5_counts 81 = .ok (.iastore, 1) := by decide +kernel
theorem dX5_counts_82 : decode cX5_counts 82 = .ok (.dup, 1) := by decide +kernel
theorem dX5_counts_83 : decode cX5_counts 83 = .ok (.bipush 12, 2) := by decide +kernel
theorem dX5_counts_85 : decode cX5_counts 85 = .ok (.aload_n 0, 1) := by decide +kernel
theorem dX5_counts_86 : decode cX5_counts 86 = .ok (.getfield 7, 3) := by decide +kernel
theorem dX5_counts_89 : decode cX5_counts 89 = .ok (.iastore, 1) := by decide +kernel
theorem dX5_counts_90 : decode cX5_counts 90 = .ok (.astore_n 1, 1) := by decide +kernel
theorem dX5_counts_91 : decode cX5_counts 91 = .ok (.aload_n 0, 1) := by decide +kernel
theorem dX5_counts_92 : decode cX5_counts 92 = .ok (.getfield 22, 3) := by decide +kernel
theorem dX5_counts_95 : decode cX5_counts 95 = .ok (.astore_n 2, 1) := by decide +kernel
theorem dX5_counts_96 : decode cX5_counts 96 = .ok (.aload_n 2, 1) := by decide +kernel
theorem dX5_counts_97 : decode cX5_counts 97 = .ok (.arraylength, 1) := by decide +kernel
theorem dX5_counts_98 : decode cX5_counts 98 = .ok (.istore_n 3, 1) := by decide +kernel
theorem dX5_counts_99 : decode cX5_counts 99 = .ok (.iconst 0, 1) := by decide +kernel
theorem dX5_counts_100 : decode cX5_counts 100 = .ok (.istore 4, 2) := by decide +kernel
theorem dX5_counts_102 : decode cX5_counts 102 = .ok (.iload 4, 2) := by decide +kernel
theorem dX5_counts_104 : decode cX5_counts 104 = .ok (.iload_n 3, 1) := by decide +kernel
theorem dX5_counts_105 : decode cX5_counts 105 = .ok (.if_icmp .ge 51, 3) := by decide +kernel
theorem dX5_counts_108 : decode cX5_counts 108 = .ok (.aload_n 2, 1) := by decide +kernel
theorem dX5_counts_109 : decode cX5_counts 109 = .ok (.iload 4, 2) := by decide +kernel
theorem dX5_counts_111 : decode cX5_counts 111 = .ok (.aaload, 1) := by decide +kernel
theorem dX5_counts_112 : decode cX5_counts 112 = .ok (.astore 5, 2) := by decide +kernel
theorem dX5_counts_114 : decode cX5_counts 114 = .ok (.aload_n 1, 1) := by decide +kernel
theorem dX5_counts_115 : decode cX5_counts 115 = .ok (.iconst 3, 1) := by decide +kernel
theorem dX5_counts_116 : decode cX5_counts 116 = .ok (.dup2, 1) := by decide +kernel
theorem dX5_counts_117 : decode cX5_counts 117 = .ok (.iaload, 1) := by decide +kernel
theorem dX5_counts_118 : decode cX5_counts 118 = .ok (.aload 5, 2) := by decide +kernel
theorem dX5_counts_120 : decode cX5_counts 120 = .ok (.iconst 3, 1) := by decide +kernel
theorem dX5_counts_121 : decode cX5_counts 121 = .ok (.iaload, 1) := by decide +kernel
theorem dX5_counts_122 : decode cX5_counts 122 = .ok (.ifCond .lt 7, 3) := by decide +kernel
theorem dX5_counts_125 : decode cX5_counts 125 = .ok (.iconst 1, 1) := by decide +kernel
theorem dX5_counts_126 : decode cX5_counts 126 = .ok (.goto 4, 3) := by decide +kernel
theorem dX5_counts_129 : decode cX5_counts 129 = .ok (.iconst 0, 1) := by decide +kernel
theorem dX5_counts_130 : decode cX5_counts 130 = .ok (.iadd, 1) := by decide +kernel
theorem dX5_counts_131 : decode cX5_counts 131 = .ok (.iastore, 1) := by decide +kernel
theorem dX5_counts_132 : decode cX5_counts 132 = .ok (.aload_n 1, 1) := by decide +kernel
theorem dX5_counts_133 : decode cX5_counts 133 = .ok (.iconst 4, 1) := by decide +kernel
theorem dX5_counts_134 : decode cX5_counts 134 = .ok (.dup2, 1) := by decide +kernel
theorem dX5_counts_135 : decode cX5_counts 135 = .ok (.iaload, 1) := by decide +kernel
theorem dX5_counts_136 : decode cX5_counts 136 = .ok (.aload 5, 2) := by decide +kernel
theorem dX5_counts_138 : decode cX5_counts 138 = .ok (.iconst 5, 1) := by decide +kernel
theorem dX5_counts_139 : decode cX5_counts 139 = .ok (.iaload, 1) := by decide +kernel
theorem dX5_counts_140 : decode cX5_counts 140 = .ok (.ifCond .ne 7, 3) := by decide +kernel
theorem dX5_counts_143 : decode cX5_counts 143 = .ok (.iconst 1, 1) := by decide +kernel
theorem dX5_counts_144 : decode cX5_counts 144 = .ok (.goto 4, 3) := by decide +kernel
theorem dX5_counts_147 : decode cX5_counts 147 = .ok (.iconst 0, 1) := by decide +kernel
theorem dX5_counts_148 : decode cX5_counts 148 = .ok (.iadd, 1) := by decide +kernel
theorem dX5_counts_149 : decode cX5_counts 149 = .ok (.iastore, 1) := by decide +kernel
theorem dX5_counts_150 : decode cX5_counts 150 = .ok (.iinc 4 1, 3) := by decide +kernel
theorem dX5_counts_153 : decode cX5_counts 153 = .ok (.goto (-51), 3) := by decide +kernel
theorem dX5_counts_156 : decode cX5_counts 156 = .ok (.aload_n 0, 1) := by decide +kernel
theorem dX5_counts_157 : decode cX5_counts 157 = .ok (.getfield 19, 3) := by decide +kernel
theorem dX5_counts_160 : decode cX5_counts 160 = .ok (.astore_n 2, 1) := by decide +kernel
theorem dX5_counts_161 : decode cX5_counts 161 = .ok (.aload_n 2, 1) := by decide +kernel
theorem dX5_counts_162 : decode cX5_counts 162 = .ok (.arraylength, 1) := by decide +kernel
theorem dX5_counts_163 : decode cX5_counts 163 = .ok (.istore_n 3, 1) := by decide +kernel
theorem dX5_counts_164 : decode cX5_counts 164 = .ok (.iconst 0, 1) := by decide +kernel
theorem dX5_counts_165 : decode cX5_counts 165 = .ok (.istore 4, 2) := by decide +kernel
theorem dX5_counts_167 : decode cX5_counts 167 = .ok (.iload 4, 2) := by decide +kernel
theorem dX5_counts_169 : decode cX5_counts 169 = .ok (.iload_n 3, 1) := by decide +kernel
theorem dX5_counts_170 : decode cX5_counts 170 = .ok (.if_icmp .ge 24, 3) := by decide +kernel
theorem dX5_counts_173 : decode cX5_counts 173 = .ok (.aload_n 2, 1) := by decide +kernel
theorem dX5_counts_174 : decode cX5_counts 174 = .ok (.iload 4, 2) := by decide +kernel
theorem dX5_counts_176 : decode cX5_counts 176 = .ok (.aaload, 1) := by decide +kernel
theorem dX5_counts_177 : decode cX5_counts 177 = .ok (.astore 5, 2) := by decide +kernel
theorem dX5_counts_179 : decode cX5_counts 179 = .ok (.aload_n 1, 1) := by decide +kernel
theorem dX5_counts_180 : decode cX5_counts 180 = .ok (.iconst 5, 1) := by decide +kernel
theorem dX5_counts_181 : decode cX5_counts 181 = .ok (.dup2, 1) := by decide +kernel
theorem dX5_counts_182 : decode cX5_counts 182 = .ok (.iaload, 1) := by decide +kernel
theorem dX5_counts_183 : decode cX5_counts 183 = .ok (.aload 5, 2) := by decide +kernel
theorem dX5_counts_185 : decode cX5_counts 185 = .ok (.arraylength, 1) := by decide +kernel
theorem dX5_counts_186 : decode cX5_counts 186 = .ok (.iadd, 1) := by decide +kernel
theorem dX5_counts_187 : decode cX5_counts 187 = .ok (.iastore, 1) := by decide +kernel
theorem dX5_counts_188 : decode cX5_counts 188 = .ok (.iinc 4 1, 3) := by decide +kernel
theorem dX5_counts_191 : decode cX5_counts 191 = .ok (.goto (-24), 3) := by decide +kernel
theorem dX5_counts_194 : decode cX5_counts 194 = .ok (.aload_n 0, 1) := by decide +kernel
theorem dX5_counts_195 : decode cX5_counts 195 = .ok (.getfield 15, 3) := by decide +kernel
theorem dX5_counts_198 : decode cX5_counts 198 = .ok (.astore_n 2, 1) := by decide +kernel
theorem dX5_counts_199 : decode cX5_counts 199 = .ok (.aload_n 2, 1) := by decide +kernel
theorem dX5_counts_200 : decode cX5_counts 200 = .ok (.arraylength, 1) := by decide +kernel
theorem dX5_counts_201 : decode cX5_counts 201 = .ok (.istore_n 3, 1) := by decide +kernel
theorem dX5_counts_202 : decode cX5_counts 202 = .ok (.iconst 0, 1) := by decide +kernel
theorem dX5_counts_203 : decode cX5_counts 203 = .ok (.istore 4, 2) := by decide +kernel
theorem dX5_counts_205 : decode cX5_counts 205 = .ok (.iload 4, 2) := by decide +kernel
theorem dX5_counts_207 : decode cX5_counts 207 = .ok (.iload_n 3, 1) := by decide +kernel
theorem dX5_counts_208 : decode cX5_counts 208 = .ok (.if_icmp .ge 47, 3) := by decide +kernel
theorem dX5_counts_211 : decode cX5_counts 211 = .ok (.aload_n 2, 1) := by decide +kernel
theorem dX5_counts_212 : decode cX5_counts 212 = .ok (.iload 4, 2) := by decide +kernel
theorem dX5_counts_214 : decode cX5_counts 214 = .ok (.aaload, 1) := by decide +kernel
theorem dX5_counts_215 : decode cX5_counts 215 = .ok (.astore 5, 2) := by decide +kernel
theorem dX5_counts_217 : decode cX5_counts 217 = .ok (.aload_n 1, 1) := by decide +kernel
theorem dX5_counts_218 : decode cX5_counts 218 = .ok (.bipush 6, 2) := by decide +kernel
theorem dX5_counts_220 : decode cX5_counts 220 = .ok (.dup2, 1) := by decide +kernel
theorem dX5_counts_221 : decode cX5_counts 221 = .ok (.iaload, 1) := by decide +kernel
theorem dX5_counts_222 : decode cX5_counts 222 = .ok (.aload 5, 2) := by decide +kernel
theorem dX5_counts_224 : decode cX5_counts 224 = .ok (.iconst 2, 1) := by decide +kernel
theorem dX5_counts_225 : decode cX5_counts 225 = .ok (.iaload, 1) := by decide +kernel
theorem dX5_counts_226 : decode cX5_counts 226 = .ok (.iconst 3, 1) := by decide +kernel
theorem dX5_counts_227 : decode cX5_counts 227 = .ok (.if_icmp .ne 7, 3) := by decide +kernel
theorem dX5_counts_230 : decode cX5_counts 230 = .ok (.iconst 1, 1) := by decide +kernel
theorem dX5_counts_231 : decode cX5_counts 231 = .ok (.goto 4, 3) := by decide +kernel
theorem dX5_counts_234 : decode cX5_counts 234 = .ok (.iconst 0, 1) := by decide +kernel
theorem dX5_counts_235 : decode cX5_counts 235 = .ok (.iadd, 1) := by decide +kernel
theorem dX5_counts_236 : decode cX5_counts 236 = .ok (.iastore, 1) := by decide +kernel
theorem dX5_counts_237 : decode cX5_counts 237 = .ok (.aload_n 1, 1) := by decide +kernel
theorem dX5_counts_238 : decode cX5_counts 238 = .ok (.bipush 10, 2) := by decide +kernel
theorem dX5_counts_240 : decode cX5_counts 240 = .ok (.dup2, 1) := by decide +kernel
theorem dX5_counts_241 : decode cX5_counts 241 = .ok (.iaload, 1) := by decide +kernel
theorem dX5_counts_242 : decode cX5_counts 242 = .ok (.aload 5, 2) := by decide +kernel
theorem dX5_counts_244 : decode cX5_counts 244 = .ok (.bipush 7, 2) := by decide +kernel
theorem dX5_counts_246 : decode cX5_counts 246 = .ok (.iaload, 1) := by decide +kernel
theorem dX5_counts_247 : decode cX5_counts 247 = .ok (.iadd, 1) := by decide +kernel
theorem dX5_counts_248 : decode cX5_counts 248 = .ok (.iastore, 1) := by decide +kernel
theorem dX5_counts_249 : decode cX5_counts 249 = .ok (.iinc 4 1, 3) := by decide +kernel
theorem dX5_counts_252 : decode cX5_counts 252 = .ok (.goto (-47), 3) := by decide +kernel
theorem dX5_counts_255 : decode cX5_counts 255 = .ok (.aload_n 1, 1) := by decide +kernel
theorem dX5_counts_256 : decode cX5_counts 256 = .ok (.areturn, 1) := by decide +kernel
theorem dX5_isSame_0 : decode cX5_isSame 0 = .ok (.aload_n 0, 1) := by decide +kernel
theorem dX5_isSame_1 : decode cX5_isSame 1 = .ok (.invokevirtual 78, 3) := by decide +kernel
theorem dX5_isSame_4 : decode cX5_isSame 4 = .ok (.astore_n 2, 1) := by decide +kernel
theorem dX5_isSame_5 : decode cX5_isSame 5 = .ok (.iconst 0, 1) := by decide +kernel
theorem dX5_isSame_6 : decode cX5_isSame 6 = .ok (.istore_n 3, 1) := by decide +kernel
theorem dX5_isSame_7 : decode cX5_isSame 7 = .ok (.iload_n 3, 1) := by decide +kernel
theorem dX5_isSame_8 : decode cX5_isSame 8 = .ok (.bipush 13, 2) := by decide +kernel
theorem dX5_isSame_10 : decode cX5_isSame 10 = .ok (.if_icmp .ge 22, 3) := by decide +kernel
theorem dX5_isSame_13 : decode cX5_isSame 13 = .ok (.aload_n 1, 1) := by decide +kernel
theorem dX5_isSame_14 : decode cX5_isSame 14 = .ok (.iload_n 3, 1) := by decide +kernel
theorem dX5_isSame_15 : decode cX5_isSame 15 = .ok (.invokevirtual 88, 3) := by decide +kernel
theorem dX5_isSame_18 : decode cX5_isSame 18 = .ok (.aload_n 2, 1) := by decide +kernel
theorem dX5_isSame_19 : decode cX5_isSame 19 = .ok (.iload_n 3, 1) := by decide +kernel
theorem dX5_isSame_20 : decode cX5_isSame 20 = .ok (.iaload, 1) := by decide +kernel
theorem dX5_isSame_21 : decode cX5_isSame 21 = .ok (.if_icmp .eq 5, 3) := by decide +kernel
theorem dX5_isSame_24 : decode cX5_isSame 24 = .ok (.iconst 0, 1) := by decide +kernel
theorem dX5_isSame_25 : decode cX5_isSame 25 = .ok (.ireturn, 1) := by decide +kernel
theorem dX5_isSame_26 : decode cX5_isSame 26 = .ok (.iinc 3 1, 3) := by decide +kernel
theorem dX5_isSame_29 : decode cX5_isSame 29 = .ok (.goto (-22), 3) := by decide +kernel
theorem dX5_isSame_32 : decode cX5_isSame 32 = .ok (.iconst (-1), 1) := by decide +kernel
theorem dX5_isSame_33 : decode cX5_isSame 33 = .ok (.istore_n 3, 1) := by decide +kernel
theorem dX5_isSame_34 : decode cX5_isSame 34 = .ok (.aload_n 0, 1) := by decide +kernel
theorem dX5_isSame_35 : decode cX5_isSame 35 = .ok (.getfield 15, 3) := by decide +kernel
theorem dX5_isSame_38 : decode cX5_isSame 38 = .ok (.arraylength, 1) := by decide +kernel
theorem dX5_isSame_39 : decode cX5_isSame 39 = .ok (.iconst 1, 1) := by decide +kernel
theorem dX5_isSame_40 : decode cX5_isSame 40 = .ok (.isub, 1) := by decide +kernel
theorem dX5_isSame_41 : decode cX5_isSame 41 = .ok (.istore 4, 2) := by decide +kernel
theorem dX5_isSame_43 : decode cX5_isSame 43 = .ok (.iload 4, 2) := by decide +kernel
theorem dX5_isSame_45 : decode cX5_isSame 45 = .ok (.ifCond .lt 279, 3) := by decide +kernel
theorem dX5_isSame_48 : decode cX5_isSame 48 = .ok (.aload_n 0, 1) := by decide +kernel
theorem dX5_isSame_49 : decode cX5_isSame 49 = .ok (.getfield 15, 3) := by decide +kernel
theorem dX5_isSame_52 : decode cX5_isSame 52 = .ok (.iload 4, 2) := by decide +kernel
theorem dX5_isSame_54 : decode cX5_isSame 54 = .ok (.aaload, 1) := by decide +kernel
theorem dX5_isSame_55 : decode cX5_isSame 55 = .ok (.astore 5, 2) := by decide +kernel
theorem dX5_isSame_57 : decode cX5_isSame 57 = .ok (.aload 5, 2) := by decide +kernel
theorem dX5_isSame_59 : decode cX5_isSame 59 = .ok (.iconst 2, 1) := by decide +kernel
theorem dX5_isSame_60 : decode cX5_isSame 60 = .ok (.iaload, 1) := by decide +kernel
theorem dX5_isSame_61 : decode cX5_isSame 61 = .ok (.iconst 1, 1) := by decide +kernel
theorem dX5_isSame_62 : decode cX5_isSame 62 = .ok (.if_icmp .eq 11, 3) := by decide +kernel
theorem dX5_isSame_65 : decode cX5_isSame 65 = .ok (.aload 5, 2) := by decide +kernel
theorem dX5_isSame_67 : decode cX5_isSame 67 = .ok (.iconst 2, 1) := by decide +kernel
theorem dX5_isSame_68 : decode cX5_isSame 68 = .ok (.iaload, 1) := by decide +kernel
theorem dX5_isSame_69 : decode cX5_isSame 69 = .ok (.iconst 2, 1) := by decide +kernel
theorem dX5_isSame_70 : decode cX5_isSame 70 = .ok (.if_icmp .ne 7, 3) := by decide +kernel
theorem dX5_isSame_73 : decode cX5_isSame 73 = .ok (.iconst 1, 1) := by decide +kernel
theorem dX5_isSame_74 : decode cX5_isSame 74 = .ok (.goto 4, 3) := by decide +kernel
theorem dX5_isSame_77 : decode cX5_isSame 77 = .ok (.iconst 0, 1) := by decide +kernel
theorem dX5_isSame_78 : decode cX5_isSame 78 = .ok (.istore 6, 2) := by decide +kernel
theorem dX5_isSame_80 : decode cX5_isSame 80 = .ok (.bipush 9, 2) := by decide +kernel
theorem dX5_isSame_82 : decode cX5_isSame 82 = .ok (.newarray .int, 2) := by decide +kernel
theorem dX5_isSame_84 : decode cX5_isSame 84 = .ok (.dup, 1) := by decide +kernel
theorem dX5_isSame_85 : decode cX5_isSame 85 = .ok (.iconst 0, 1) := by decide +kernel
theorem dX5_isSame_86 : decode cX5_isSame 86 = .ok (.aload 5, 2) := by decide +kernel
theorem dX5_isSame_88 : decode cX5_isSame 88 = .ok (.iconst 0, 1) := by decide +kernel
theorem dX5_isSame_89 : decode cX5_isSame 89 = .ok (.iaload, 1) := by decide +kernel
theorem dX5_isSame_90 : decode cX5_isSame 90 = .ok (.iastore, 1) := by decide +kernel
theorem dX5_isSame_91 : decode cX5_isSame 91 = .ok (.dup, 1) := by decide +kernel
theorem dX5_isSame_92 : decode cX5_isSame 92 = .ok (.iconst 1, 1) := by decide +kernel
theorem dX5_isSame_93 : decode cX5_isSame 93 = .ok (.aload 5, 2) := by decide +kernel
theorem dX5_isSame_95 : decode cX5_isSame 95 = .ok (.iconst 1, 1) := by decide +kernel
theorem dX5_isSame_96 : decode cX5_isSame 96 = .ok (.iaload, 1) := by decide +kernel
theorem dX5_isSame_97 : decode cX5_isSame 97 = .ok (.iastore, 1) := by decide +kernel
theorem dX5_isSame_98 : decode cX5_isSame 98 = .ok (.dup, 1) := by decide +kernel
theorem dX5_isSame_99 : decode cX5_isSame 99 = .ok (.iconst 2, 1) := by decide +kernel
theorem dX5_isSame_100 : decode cX5_isSame 100 = .ok (.aload_n 0, 1) := by decide +kernel
theorem dX5_isSame_101 : decode cX5_isSame 101 = .ok (.getfield 19, 3) := by decide +kernel
theorem dX5_isSame_104 : decode cX5_isSame 104 = .ok (.iload 4, 2) := by decide +kernel
theorem dX5_isSame_106 : decode cX5_isSame 106 = .ok (.aaload, 1) := by decide +kernel
theorem dX5_isSame_107 : decode cX5_isSame 107 = .ok (.arraylength, 1) := by decide +kernel
theorem dX5_isSame_108 : decode cX5_isSame 108 = .ok (.iastore, 1) := by decide +kernel
theorem dX5_isSame_109 : decode cX5_isSame 109 = .ok (.dup, 1) := by decide +kernel
theorem dX5_isSame_110 : decode cX5_isSame 110 = .ok (.iconst 3, 1) := by decide +kernel
theorem dX5_isSame_111 : decode cX5_isSame 111 = .ok (.aload 5, 2) := by decide +kernel
theorem dX5_isSame_113 : decode cX5_isSame 113 = .ok (.iconst 2, 1) := by decide +kernel
theorem dX5_isSame_114 : decode cX5_isSame 114 = .ok (.iaload, 1) := by decide +kernel
theorem dX5_isSame_115 : decode cX5_isSame 115 = .ok (.iastore, 1) := by decide +kernel
theorem dX5_isSame_116 : decode cX5_isSame 116 = .ok (.dup, 1) := by decide +kernel
theorem dX5_isSame_117 : decode cX5_isSame 117 = .ok (.iconst 4, 1) := by decide +kernel
theorem dX5_isSame_118 : decode cX5_isSame 118 = .ok (.aload 5, 2) := by decide +kernel
theorem dX5_isSame_120 : decode cX5_isSame 120 = .ok (.iconst 2, 1) := by decide +kernel
theorem dX5_isSame_121 : decode cX5_isSame 121 = .ok (.iaload, 1) := by decide +kernel
theorem dX5_isSame_122 : decode cX5_isSame 122 = .ok (.iconst 1, 1) := by decide +kernel
theorem dX5_isSame_123 : decode cX5_isSame 123 = .ok (.if_icmp .ne 17, 3) := by decide +kernel
theorem dX5_isSame_126 : decode cX5_isSame 126 = .ok (.aload_n 0, 1) := by decide +kernel
theorem dX5_isSame_127 : decode cX5_isSame 127 = .ok (.getfield 25, 3) := by decide +kernel
theorem dX5_isSame_130 : decode cX5_isSame 130 = .ok (.aload 5, 2) := by decide +kernel
theorem dX5_isSame_132 : decode cX5_isSame 132 = .ok (.iconst 3, 1) := by decide +kernel
theorem dX5_isSame_133 : decode cX5_isSame 133 = .ok (.iaload, 1) := by decide +kernel
theorem dX5_isSame_134 : decode cX5_isSame 134 = .ok (.aaload, 1) := by decide +kernel
theorem dX5_isSame_135 : decode cX5_isSame 135 = .ok (.iconst 1, 1) := by decide +kernel
theorem dX5_isSame_136 : decode cX5_isSame 136 = .ok (.iaload, 1) := by decide +kernel
theorem dX5_isSame_137 : decode cX5_isSame 137 = .ok (.goto 4, 3) := by decide +kernel
theorem dX5_isSame_140 : decode cX5_isSame 140 = .ok (.iconst 0, 1) := by decide +kernel
theorem dX5_isSame_141 : decode cX5_isSame 141 = .ok (.iastore, 1) := by decide +kernel
theorem dX5_isSame_142 : decode cX5_isSame 142 = .ok (.dup, 1) := by decide +kernel
theorem dX5_isSame_143 : decode cX5_isSame 143 = .ok (.iconst 5, 1) := by decide +kernel
theorem dX5_isSame_144 : decode cX5_isSame 144 = .ok (.aload 5, 2) := by decide +kernel
theorem dX5_isSame_146 : decode cX5_isSame 146 = .ok (.iconst 5, 1) := by decide +kernel
theorem dX5_isSame_147 : decode cX5_isSame 147 = .ok (.iaload, 1) := by decide +kernel
theorem dX5_isSame_148 : decode cX5_isSame 148 = .ok (.iastore, 1) := by decide +kernel
theorem dX5_isSame_149 : decode cX5_isSame 149 = .ok (.dup, 1) := by decide +kernel
theorem dX5_isSame_150 : decode cX5_isSame 150 = .ok (.bipush 6, 2) := by decide +kernel
theorem dX5_isSame_152 : decode cX5_isSame 152 = .ok (.aload 5, 2) := by decide +kernel
theorem dX5_isSame_154 : decode cX5_isSame 154 = .ok (.bipush 6, 2) := by decide +kernel
theorem dX5_isSame_156 : decode cX5_isSame 156 = .ok (.iaload, 1) := by decide +kernel
theorem dX5_isSame_157 : decode cX5_isSame 157 = .ok (.iastore, 1) := by decide +kernel
theorem dX5_isSame_158 : decode cX5_isSame 158 = .ok (.dup, 1) := by decide +kernel
theorem dX5_isSame_159 : decode cX5_isSame 159 = .ok (.bipush 7, 2) := by decide +kernel
theorem dX5_isSame_161 : decode cX5_isSame 161 = .ok (.aload 5, 2) := by decide +kernel
theorem dX5_isSame_163 : decode cX5_isSame 163 = .ok (.bipush 7, 2) := by decide +kernel
theorem dX5_isSame_165 : decode cX5_isSame 165 = .ok (.iaload, 1) := by decide +kernel
theorem dX5_isSame_166 : decode cX5_isSame 166 = .ok (.iastore, 1) := by decide +kernel
theorem dX5_isSame_167 : decode cX5_isSame 167 = .ok (.dup, 1) := by decide +kernel
theorem dX5_isSame_168 : decode cX5_isSame 168 = .ok (.bipush 8, 2) := by decide +kernel
theorem dX5_isSame_170 : decode cX5_isSame 170 = .ok (.iload 6, 2) := by decide +kernel
theorem dX5_isSame_172 : decode cX5_isSame 172 = .ok (.ifCond .eq 17, 3) := by decide +kernel
theorem dX5_isSame_175 : decode cX5_isSame 175 = .ok (.aload_n 0, 1) := by decide +kernel
theorem dX5_isSame_176 : decode cX5_isSame 176 = .ok (.getfield 25, 3) := by decide +kernel
theorem dX5_isSame_179 : decode cX5_isSame 179 = .ok (.aload 5, 2) := by decide +kernel
theorem dX5_isSame_181 : decode cX5_isSame 181 = .ok (.iconst 3, 1) := by decide +kernel
theorem dX5_isSame_182 : decode cX5_isSame 182 = .ok (.iaload, 1) := by decide +kernel
theorem dX5_isSame_183 : decode cX5_isSame 183 = .ok (.aaload, 1) := by decide +kernel
theorem dX5_isSame_184 : decode cX5_isSame 184 = .ok (.iconst 2, 1) := by decide +kernel
theorem dX5_isSame_185 : decode cX5_isSame 185 = .ok (.iaload, 1) := by decide +kernel
theorem dX5_isSame_186 : decode cX5_isSame 186 = .ok (.goto 4, 3) := by decide +kernel
theorem dX5_isSame_189 : decode cX5_isSame 189 = .ok (.iconst (-1), 1) := by decide +kernel
theorem dX5_isSame_190 : decode cX5_isSame 190 = .ok (.iastore, 1) := by decide +kernel
theorem dX5_isSame_191 : decode cX5_isSame 191 = .ok (.astore 7, 2) := by decide +kernel
theorem dX5_isSame_193 : decode cX5_isSame 193 = .ok (.iconst 0, 1) := by decide +kernel
theorem dX5_isSame_194 : decode cX5_isSame 194 = .ok (.istore 8, 2) := by decide +kernel
theorem dX5_isSame_196 : decode cX5_isSame 196 = .ok (.iload 8, 2) := by decide +kernel
theorem dX5_isSame_198 : decode cX5_isSame 198 = .ok (.bipush 9, 2) := by decide +kernel
theorem dX5_isSame_200 : decode cX5_isSame 200 = .ok (.if_icmp .ge 27, 3) := by decide +kernel
theorem dX5_isSame_203 : decode cX5_isSame 203 = .ok (.aload_n 1, 1) := by decide +kernel
theorem dX5_isSame_204 : decode cX5_isSame 204 = .ok (.iload 4, 2) := by decide +kernel
theorem dX5_isSame_206 : decode cX5_isSame 206 = .ok (.iload 8, 2) := by decide +kernel
theorem dX5_isSame_208 : decode cX5_isSame 208 = .ok (.invokevirtual 93, 3) := by decide +kernel
theorem dX5_isSame_211 : decode cX5_isSame 211 = .ok (.aload 7, 2) := by decide +kernel
theorem dX5_isSame_213 : decode cX5_isSame 213 = .ok (.iload 8, 2) := by decide +kernel
theorem dX5_isSame_215 : decode cX5_isSame 215 = .ok (.iaload, 1) := by decide +kernel
theorem dX5_isSame_216 : decode cX5_isSame 216 = .ok (.if_icmp .eq 5, 3) := by decide +kernel
theorem dX5_isSame_219 : decode cX5_isSame 219 = .ok (.iconst 0, 1) := by decide +kernel
theorem dX5_isSame_220 : decode cX5_isSame 220 = .ok (.ireturn, 1) := by decide +kernel
theorem dX5_isSame_221 : decode cX5_isSame 221 = .ok (.iinc 8 1, 3) := by decide +kernel
theorem dX5_isSame_224 : decode cX5_isSame 224 = .ok (.goto (-28), 3) := by decide +kernel
theorem dX5_isSame_227 : decode cX5_isSame 227 = .ok (.iconst 0, 1) := by decide +kernel
theorem dX5_isSame_228 : decode cX5_isSame 228 = .ok (.istore 8, 2) := by decide +kernel
theorem dX5_isSame_230 : decode cX5_isSame 230 = .ok (.iload 8, 2) := by decide +kernel
theorem dX5_isSame_232 : decode cX5_isSame 232 = .ok (.aload_n 0, 1) := by decide +kernel
theorem dX5_isSame_233 : decode cX5_isSame 233 = .ok (.getfield 19, 3) := by decide +kernel
theorem dX5_isSame_236 : decode cX5_isSame 236 = .ok (.iload 4, 2) := by decide +kernel
theorem dX5_isSame_238 : decode cX5_isSame 238 = .ok (.aaload, 1) := by decide +kernel
theorem dX5_isSame_239 : decode cX5_isSame 239 = .ok (.arraylength, 1) := by decide +kernel
theorem dX5_isSame_240 : decode cX5_isSame 240 = .ok (.if_icmp .ge 39, 3) := by decide +kernel
theorem dX5_isSame_243 : decode cX5_isSame 243 = .ok (.aload_n 1, 1) := by decide +kernel
theorem dX5_isSame_244 : decode cX5_isSame 244 = .ok (.iload 4, 2) := by decide +kernel
theorem dX5_isSame_246 : decode cX5_isSame 246 = .ok (.iload 8, 2) := by decide +kernel
theorem dX5_isSame_248 : decode cX5_isSame 248 = .ok (.invokevirtual 96, 3) := by decide +kernel
theorem dX5_isSame_251 : decode cX5_isSame 251 = .ok (.aload_n 0, 1) := by decide +kernel
theorem dX5_isSame_252 : decode cX5_isSame 252 = .ok (.getfield 25, 3) := by decide +kernel
theorem dX5_isSame_255 : decode cX5_isSame 255 = .ok (.aload_n 0, 1) := by decide +kernel
theorem dX5_isSame_256 : decode cX5_isSame 256 = .ok (.getfield 19, 3) := by decide +kernel
theorem dX5_isSame_259 : decode cX5_isSame 259 = .ok (.iload 4, 2) := by decide +kernel
theorem dX5_isSame_261 : decode cX5_isSame 261 = .ok (.aaload, 1) := by decide +kernel
theorem dX5_isSame_262 : decode cX5_isSame 262 = .ok (.iload 8, 2) := by decide +kernel
theorem dX5_isSame_264 : decode cX5_isSame 264 = .ok (.iaload, 1) := by decide +kernel
theorem dX5_isSame_265 : decode cX5_isSame 265 = .ok (.aaload, 1) := by decide +kernel
theorem dX5_isSame_266 : decode cX5_isSame 266 = .ok (.iconst 0, 1) := by decide +kernel
theorem dX5_isSame_267 : decode cX5_isSame 267 = .ok (.iaload, 1) := by decide +kernel
theorem dX5_isSame_268 : decode cX5_isSame 268 = .ok (.if_icmp .eq 5, 3) := by decide +kernel
theorem dX5_isSame_271 : decode cX5_isSame 271 = .ok (.iconst 0, 1) := by decide +kernel
theorem dX5_isSame_272 : decode cX5_isSame 272 = .ok (.ireturn, 1) := by decide +kernel
theorem dX5_isSame_273 : decode cX5_isSame 273 = .ok (.iinc 8 1, 3) := by decide +kernel
theorem dX5_isSame_276 : decode cX5_isSame 276 = .ok (.goto (-46), 3) := by decide +kernel
theorem dX5_isSame_279 : decode cX5_isSame 279 = .ok (.aload_n 1, 1) := by decide +kernel
theorem dX5_isSame_280 : decode cX5_isSame 280 = .ok (.iload 4, 2) := by decide +kernel
theorem dX5_isSame_282 : decode cX5_isSame 282 = .ok (.invokevirtual 99, 3) := by decide +kernel
theorem dX5_isSame_285 : decode cX5_isSame 285 = .ok (.aload_n 0, 1) := by decide +kernel
theorem dX5_isSame_286 : decode cX5_isSame 286 = .ok (.iload 4, 2) := by decide +kernel
theorem dX5_isSame_288 : decode cX5_isSame 288 = .ok (.invokevirtual 71, 3) := by decide +kernel
theorem dX5_isSame_291 : decode cX5_isSame 291 = .ok (.if_icmp .eq 5, 3) := by decide +kernel
theorem dX5_isSame_294 : decode cX5_isSame 294 = .ok (.iconst 0, 1) := by decide +kernel
theorem dX5_isSame_295 : decode cX5_isSame 295 = .ok (.ireturn, 1) := by decide +kernel
theorem dX5_isSame_296 : decode cX5_isSame 296 = .ok (.iload_n 3, 1) := by decide +kernel
theorem dX5_isSame_297 : decode cX5_isSame 297 = .ok (.ifCond .lt 18, 3) := by decide +kernel
theorem dX5_isSame_300 : decode cX5_isSame 300 = .ok (.aload 5, 2) := by decide +kernel
theorem dX5_isSame_302 : decode cX5_isSame 302 = .ok (.iconst 5, 1) := by decide +kernel
theorem dX5_isSame_303 : decode cX5_isSame 303 = .ok (.iaload, 1) := by decide +kernel
theorem dX5_isSame_304 : decode cX5_isSame 304 = .ok (.aload_n 0, 1) := by decide +kernel
theorem dX5_isSame_305 : decode cX5_isSame 305 = .ok (.getfield 15, 3) := by decide +kernel
theorem dX5_isSame_308 : decode cX5_isSame 308 = .ok (.iload_n 3, 1) := by decide +kernel
theorem dX5_isSame_309 : decode cX5_isSame 309 = .ok (.aaload, 1) := by decide +kernel
theorem dX5_isSame_310 : decode cX5_isSame 310 = .ok (.iconst 5, 1) := by decide +kernel
theorem dX5_isSame_311 : decode cX5_isSame 311 = .ok (.iaload, 1) := by decide +kernel
theorem dX5_isSame_312 : decode cX5_isSame 312 = .ok (.if_icmp .lt 6, 3) := by decide +kernel
theorem dX5_isSame_315 : decode cX5_isSame 315 = .ok (.iload 4, 2) := by decide +kernel
theorem dX5_isSame_317 : decode cX5_isSame 317 = .ok (.istore_n 3, 1) := by decide +kernel
theorem dX5_isSame_318 : decode cX5_isSame 318 = .ok (.iinc 4 (-1), 3) := by decide +kernel
theorem dX5_isSame_321 : decode cX5_isSame 321 = .ok (.goto (-278), 3) := by decide +kernel
theorem dX5_isSame_324 : decode cX5_isSame 324 = .ok (.iconst 0, 1) := by decide +kernel
theorem dX5_isSame_325 : decode cX5_isSame 325 = .ok (.istore 4, 2) := by decide +kernel
theorem dX5_isSame_327 : decode cX5_isSame 327 = .ok (.iload 4, 2) := by decide +kernel
theorem dX5_isSame_329 : decode cX5_isSame 329 = .ok (.aload_n 0, 1) := by decide +kernel
theorem dX5_isSame_330 : decode cX5_isSame 330 = .ok (.getfield 22, 3) := by decide +kernel
theorem dX5_isSame_333 : decode cX5_isSame 333 = .ok (.arraylength, 1) := by decide +kernel
theorem dX5_isSame_334 : decode cX5_isSame 334 = .ok (.if_icmp .ge 123, 3) := by decide +kernel
theorem dX5_isSame_337 : decode cX5_isSame 337 = .ok (.aload_n 0, 1) := by decide +kernel
theorem dX5_isSame_338 : decode cX5_isSame 338 = .ok (.getfield 22, 3) := by decide +kernel
theorem dX5_isSame_341 : decode cX5_isSame 341 = .ok (.iload 4, 2) := by decide +kernel
theorem dX5_isSame_343 : decode cX5_isSame 343 = .ok (.aaload, 1) := by decide +kernel
theorem dX5_isSame_344 : decode cX5_isSame 344 = .ok (.astore 5, 2) := by decide +kernel
theorem dX5_isSame_346 : decode cX5_isSame 346 = .ok (.bipush 7, 2) := by decide +kernel
theorem dX5_isSame_348 : decode cX5_isSame 348 = .ok (.newarray .int, 2) := by decide +kernel
theorem dX5_isSame_350 : decode cX5_isSame 350 = .ok (.dup, 1) := by decide +kernel
theorem dX5_isSame_351 : decode cX5_isSame 351 = .ok (.iconst 0, 1) := by decide +kernel
theorem dX5_isSame_352 : decode cX5_isSame 352 = .ok (.aload 5, 2) := by decide +kernel
theorem dX5_isSame_354 : decode cX5_isSame 354 = .ok (.iconst 0, 1) := by decide +kernel
theorem dX5_isSame_355 : decode cX5_isSame 355 = .ok (.iaload, 1) := by decide +kernel
theorem dX5_isSame_356 : decode cX5_isSame 356 = .ok (.iastore, 1) := by decide +kernel
theorem dX5_isSame_357 : decode cX5_isSame 357 = .ok (.dup, 1) := by decide +kernel
theorem dX5_isSame_358 : decode cX5_isSame 358 = .ok (.iconst 1, 1) := by decide +kernel
theorem dX5_isSame_359 : decode cX5_isSame 359 = .ok (.aload 5, 2) := by decide +kernel
theorem dX5_isSame_361 : decode cX5_isSame 361 = .ok (.iconst 3, 1) := by decide +kernel
theorem dX5_isSame_362 : decode cX5_isSame 362 = .ok (.iaload, 1) := by decide +kernel
theorem dX5_isSame_363 : decode cX5_isSame 363 = .ok (.ifCond .lt 7, 3) := by decide +kernel
theorem dX5_isSame_366 : decode cX5_isSame 366 = .ok (.iconst 2, 1) := by decide +kernel
theorem dX5_isSame_367 : decode cX5_isSame 367 = .ok (.goto 7, 3) := by decide +kernel
theorem dX5_isSame_370 : decode cX5_isSame 370 = .ok (.aload 5, 2) := by decide +kernel
theorem dX5_isSame_372 : decode cX5_isSame 372 = .ok (.iconst 5, 1) := by decide +kernel
theorem dX5_isSame_373 : decode cX5_isSame 373 = .ok (.iaload, 1) := by decide +kernel
theorem dX5_isSame_374 : decode cX5_isSame 374 = .ok (.iastore, 1) := by decide +kernel
theorem dX5_isSame_375 : decode cX5_isSame 375 = .ok (.dup, 1) := by decide +kernel
theorem dX5_isSame_376 : decode cX5_isSame 376 = .ok (.iconst 2, 1) := by decide +kernel
theorem dX5_isSame_377 : decode cX5_isSame 377 = .ok (.aload_n 0, 1) := by decide +kernel
theorem dX5_isSame_378 : decode cX5_isSame 378 = .ok (.iload 4, 2) := by decide +kernel
theorem dX5_isSame_380 : decode cX5_isSame 380 = .ok (.invokevirtual 100, 3) := by decide +kernel
theorem dX5_isSame_383 : decode cX5_isSame 383 = .ok (.iastore, 1) := by decide +kernel
theorem dX5_isSame_384 : decode cX5_isSame 384 = .ok (.dup, 1) := by decide +kernel
theorem dX5_isSame_385 : decode cX5_isSame 385 = .ok (.iconst 3, 1) := by decide +kernel
theorem dX5_isSame_386 : decode cX5_isSame 386 = .ok (.aload 5, 2) := by decide +kernel
theorem dX5_isSame_388 : decode cX5_isSame 388 = .ok (.iconst 4, 1) := by decide +kernel
theorem dX5_isSame_389 : decode cX5_isSame 389 = .ok (.iaload, 1) := by decide +kernel
theorem dX5_isSame_390 : decode cX5_isSame 390 = .ok (.iastore, 1) := by decide +kernel
theorem dX5_isSame_391 : decode cX5_isSame 391 = .ok (.dup, 1) := by decide +kernel
theorem dX5_isSame_392 : decode cX5_isSame 392 = .ok (.iconst 4, 1) := by decide +kernel
theorem dX5_isSame_393 : decode cX5_isSame 393 = .ok (.aload 5, 2) := by decide +kernel
theorem dX5_isSame_395 : decode cX5_isSame 395 = .ok (.iconst 2, 1) := by decide +kernel
theorem dX5_isSame_396 : decode cX5_isSame 396 = .ok (.iaload, 1) := by decide +kernel
theorem dX5_isSame_397 : decode cX5_isSame 397 = .ok (.iastore, 1) := by decide +kernel
theorem dX5_isSame_398 : decode cX5_isSame 398 = .ok (.dup, 1) := by decide +kernel
theorem dX5_isSame_399 : decode cX5_isSame 399 = .ok (.iconst 5, 1) := by decide +kernel
theorem dX5_isSame_400 : decode cX5_isSame 400 = .ok (.aload 5, 2) := by decide +kernel
theorem dX5_isSame_402 : decode cX5_isSame 402 = .ok (.iconst 3, 1) := by decide +kernel
theorem dX5_isSame_403 : decode cX5_isSame 403 = .ok (.iaload, 1) := by decide +kernel
theorem dX5_isSame_404 : decode cX5_isSame 404 = .ok (.iastore, 1) := by decide +kernel
theorem dX5_isSame_405 : decode cX5_isSame 405 = .ok (.dup, 1) := by decide +kernel
theorem dX5_isSame_406 : decode cX5_isSame 406 = .ok (.bipush 6, 2) := by decide +kernel
theorem dX5_isSame_408 : decode cX5_isSame 408 = .ok (.aload_n 0, 1) := by decide +kernel
theorem dX5_isSame_409 : decode cX5_isSame 409 = .ok (.iload 4, 2) := by decide +kernel
theorem dX5_isSame_411 : decode cX5_isSame 411 = .ok (.invokevirtual 85, 3) := by decide +kernel
theorem dX5_isSame_414 : decode cX5_isSame 414 = .ok (.iastore, 1) := by decide +kernel
theorem dX5_isSame_415 : decode cX5_isSame 415 = .ok (.astore 6, 2) := by decide +kernel
theorem dX5_isSame_417 : decode cX5_isSame 417 = .ok (.iconst 0, 1) := by decide +kernel
theorem dX5_isSame_418 : decode cX5_isSame 418 = .ok (.istore 7, 2) := by decide +kernel
theorem dX5_isSame_420 : decode cX5_isSame 420 = .ok (.iload 7, 2) := by decide +kernel
theorem dX5_isSame_422 : decode cX5_isSame 422 = .ok (.bipush 7, 2) := by decide +kernel
theorem dX5_isSame_424 : decode cX5_isSame 424 = .ok (.if_icmp .ge 27, 3) := by decide +kernel
theorem dX5_isSame_427 : decode cX5_isSame 427 = .ok (.aload_n 1, 1) := by decide +kernel
theorem dX5_isSame_428 : decode cX5_isSame 428 = .ok (.iload 4, 2) := by decide +kernel
theorem dX5_isSame_430 : decode cX5_isSame 430 = .ok (.iload 7, 2) := by decide +kernel
theorem dX5_isSame_432 : decode cX5_isSame 432 = .ok (.invokevirtual 103, 3) := by decide +kernel
theorem dX5_isSame_435 : decode cX5_isSame 435 = .ok (.aload 6, 2) := by decide +kernel
theorem dX5_isSame_437 : decode cX5_isSame 437 = .ok (.iload 7, 2) := by decide +kernel
theorem dX5_isSame_439 : decode cX5_isSame 439 = .ok (.iaload, 1) := by decide +kernel
theorem dX5_isSame_440 : decode cX5_isSame 440 = .ok (.if_icmp .eq 5, 3) := by decide +kernel
theorem dX5_isSame_443 : decode cX5_isSame 443 = .ok (.iconst 0, 1) := by decide +kernel
theorem dX5_isSame_444 : decode cX5_isSame 444 = .ok (.ireturn, 1) := by decide +kernel
theorem dX5_isSame_445 : decode cX5_isSame 445 = .ok (.iinc 7 1, 3) := by decide +kernel
theorem dX5_isSame_448 : decode cX5_isSame 448 = .ok (.goto (-28), 3) := by decide +kernel
theorem dX5_isSame_451 : decode cX5_isSame 451 = .ok (.iinc 4 1, 3) := by decide +kernel
theorem dX5_isSame_454 : decode cX5_isSame 454 = .ok (.goto (-127), 3) := by decide +kernel
theorem dX5_isSame_457 : decode cX5_isSame 457 = .ok (.aload_n 1, 1) := by decide +kernel
theorem dX5_isSame_458 : decode cX5_isSame 458 = .ok (.invokevirtual 106, 3) := by decide +kernel
theorem dX5_isSame_461 : decode cX5_isSame 461 = .ok (.iload_n 3, 1) := by decide +kernel
theorem dX5_isSame_462 : decode cX5_isSame 462 = .ok (.if_icmp .ne 39, 3) := by decide +kernel
theorem dX5_isSame_465 : decode cX5_isSame 465 = .ok (.aload_n 1, 1) := by decide +kernel
theorem dX5_isSame_466 : decode cX5_isSame 466 = .ok (.invokevirtual 110, 3) := by decide +kernel
theorem dX5_isSame_469 : decode cX5_isSame 469 = .ok (.aload_n 0, 1) := by decide +kernel
theorem dX5_isSame_470 : decode cX5_isSame 470 = .ok (.getfield 15, 3) := by decide +kernel
theorem dX5_isSame_473 : decode cX5_isSame 473 = .ok (.arraylength, 1) := by decide +kernel
theorem dX5_isSame_474 : decode cX5_isSame 474 = .ok (.ifCond .ne 7, 3) := by decide +kernel
theorem dX5_isSame_477 : decode cX5_isSame 477 = .ok (.dconst 0, 1) := by decide +kernel
theorem dX5_isSame_478 : decode cX5_isSame 478 = .ok (.goto 15, 3) := by decide +kernel
theorem dX5_isSame_481 : decode cX5_isSame 481 = .ok (.aload_n 2, 1) := by decide +kernel
theorem dX5_isSame_482 : decode cX5_isSame 482 = .ok (.bipush 10, 2) := by decide +kernel
theorem dX5_isSame_484 : decode cX5_isSame 484 = .ok (.iaload, 1) := by decide +kernel
theorem dX5_isSame_485 : decode cX5_isSame 485 = .ok (.i2d, 1) := by decide +kernel
theorem dX5_isSame_486 : decode cX5_isSame 486 = .ok (.aload_n 0, 1) := by decide +kernel
theorem dX5_isSame_487 : decode cX5_isSame 487 = .ok (.getfield 15, 3) := by decide +kernel
theorem dX5_isSame_490 : decode cX5_isSame 490 = .ok (.arraylength, 1) := by decide +kernel
theorem dX5_isSame_491 : decode cX5_isSame 491 = .ok (.i2d, 1) := by decide +kernel
theorem dX5_isSame_492 : decode cX5_isSame 492 = .ok (.ddiv, 1) := by decide +kernel
theorem dX5_isSame_493 : decode cX5_isSame 493 = .ok (.dcmp .l, 1) := by decide +kernel
theorem dX5_isSame_494 : decode cX5_isSame 494 = .ok (.ifCond .ne 7, 3) := by decide +kernel
theorem dX5_isSame_497 : decode cX5_isSame 497 = .ok (.iconst 1, 1) := by decide +kernel
theorem dX5_isSame_498 : decode cX5_isSame 498 = .ok (.goto 4, 3) := by decide +kernel
theorem dX5_isSame_501 : decode cX5_isSame 501 = .ok (.iconst 0, 1) := by decide +kernel
theorem dX5_isSame_502 : decode cX5_isSame 502 = .ok (.ireturn, 1) := by decide +kernel
theorem dJ9_max_7cf53_0 : decode cJ9_max_7cf53 0 = .ok (.iload_n 0, 1) := by decide +kernel
theorem dJ9_max_7cf53_1 : decode cJ9_max_7cf53 1 = .ok (.iload_n 1, 1) := by decide +kernel
theorem dJ9_max_7cf53_2 : decode cJ9_max_7cf53 2 = .ok (.if_icmp .lt 7, 3) := by decide +kernel
theorem dJ9_max_7cf53_5 : decode cJ9_max_7cf53 5 = .ok (.iload_n 0, 1) := by decide +kernel
theorem dJ9_max_7cf53_6 : decode cJ9_max_7cf53 6 = .ok (.goto 4, 3) := by decide +kernel
theorem dJ9_max_7cf53_9 : decode cJ9_max_7cf53 9 = .ok (.iload_n 1, 1) := by decide +kernel
theorem dJ9_max_7cf53_10 : decode cJ9_max_7cf53 10 = .ok (.ireturn, 1) := by decide +kernel
theorem dL_below_0 : decode cL_below 0 = .ok (.iload_n 0, 1) := by decide +kernel
theorem dL_below_1 : decode cL_below 1 = .ok (.ldc 7, 2) := by decide +kernel
theorem dL_below_3 : decode cL_below 3 = .ok (.iand, 1) := by decide +kernel
theorem dL_below_4 : decode cL_below 4 = .ok (.iload_n 1, 1) := by decide +kernel
theorem dL_below_5 : decode cL_below 5 = .ok (.irem, 1) := by decide +kernel
theorem dL_below_6 : decode cL_below 6 = .ok (.ireturn, 1) := by decide +kernel
theorem dL_cell_0 : decode cL_cell 0 = .ok (.iload_n 1, 1) := by decide +kernel
theorem dL_cell_1 : decode cL_cell 1 = .ok (.aload_n 0, 1) := by decide +kernel
theorem dL_cell_2 : decode cL_cell 2 = .ok (.arraylength, 1) := by decide +kernel
theorem dL_cell_3 : decode cL_cell 3 = .ok (.if_icmp .ge 9, 3) := by decide +kernel
theorem dL_cell_6 : decode cL_cell 6 = .ok (.aload_n 0, 1) := by decide +kernel
theorem dL_cell_7 : decode cL_cell 7 = .ok (.iload_n 1, 1) := by decide +kernel
theorem dL_cell_8 : decode cL_cell 8 = .ok (.iaload, 1) := by decide +kernel
theorem dL_cell_9 : decode cL_cell 9 = .ok (.goto 9, 3) := by decide +kernel
theorem dL_cell_12 : decode cL_cell 12 = .ok (.ldc 8, 2) := by decide +kernel
theorem dL_cell_14 : decode cL_cell 14 = .ok (.iload_n 1, 1) := by decide +kernel
theorem dL_cell_15 : decode cL_cell 15 = .ok (.iconst 3, 1) := by decide +kernel
theorem dL_cell_16 : decode cL_cell 16 = .ok (.iadd, 1) := by decide +kernel
theorem dL_cell_17 : decode cL_cell 17 = .ok (.imul, 1) := by decide +kernel
theorem dL_cell_18 : decode cL_cell 18 = .ok (.ireturn, 1) := by decide +kernel
theorem dL_act_0 : decode cL_act 0 = .ok (.aload_n 1, 1) := by decide +kernel
theorem dL_act_1 : decode cL_act 1 = .ok (.getfield 9, 3) := by decide +kernel
theorem dL_act_4 : decode cL_act 4 = .ok (.arraylength, 1) := by decide +kernel
theorem dL_act_5 : decode cL_act 5 = .ok (.istore_n 3, 1) := by decide +kernel
theorem dL_act_6 : decode cL_act 6 = .ok (.iload_n 3, 1) := by decide +kernel
theorem dL_act_7 : decode cL_act 7 = .ok (.ifCond .ne 7, 3) := by decide +kernel
theorem dL_act_10 : decode cL_act 10 = .ok (.iconst (-1), 1) := by decide +kernel
theorem dL_act_11 : decode cL_act 11 = .ok (.goto 10, 3) := by decide +kernel
theorem dL_act_14 : decode cL_act 14 = .ok (.iload_n 2, 1) := by decide +kernel
theorem dL_act_15 : decode cL_act 15 = .ok (.iconst 4, 1) := by decide +kernel
theorem dL_act_16 : decode cL_act 16 = .ok (.ishr, 1) := by decide +kernel
theorem dL_act_17 : decode cL_act 17 = .ok (.iload_n 3, 1) := by decide +kernel
theorem dL_act_18 : decode cL_act 18 = .ok (.invokestatic 15, 3) := by decide +kernel
theorem dL_act_21 : decode cL_act 21 = .ok (.istore 4, 2) := by decide +kernel
theorem dL_act_23 : decode cL_act 23 = .ok (.iload_n 2, 1) := by decide +kernel
theorem dL_act_24 : decode cL_act 24 = .ok (.bipush 11, 2) := by decide +kernel
theorem dL_act_26 : decode cL_act 26 = .ok (.invokestatic 15, 3) := by decide +kernel
theorem dL_act_29 : decode cL_act 29 = .ok (.tableswitch 427 0 7 #[47, 47, 109, 109, 109, 197, 251, 343], 47) := by decide +kernel
theorem dL_act_76 : decode cL_act 76 = .ok (.iconst 1, 1) := by decide +kernel
theorem dL_act_77 : decode cL_act 77 = .ok (.iload_n 2, 1) := by decide +kernel
theorem dL_act_78 : decode cL_act 78 = .ok (.iconst 4, 1) := by decide +kernel
theorem dL_act_79 : decode cL_act 79 = .ok (.ishr, 1) := by decide +kernel
theorem dL_act_80 : decode cL_act 80 = .ok (.bipush 9, 2) := by decide +kernel
theorem dL_act_82 : decode cL_act 82 = .ok (.invokestatic 15, 3) := by decide +kernel
theorem dL_act_85 : decode cL_act 85 = .ok (.iadd, 1) := by decide +kernel
theorem dL_act_86 : decode cL_act 86 = .ok (.istore 6, 2) := by decide +kernel
theorem dL_act_88 : decode cL_act 88 = .ok (.aload_n 0, 1) := by decide +kernel
theorem dL_act_89 : decode cL_act 89 = .ok (.iload 6, 2) := by decide +kernel
theorem dL_act_91 : decode cL_act 91 = .ok (.invokevirtual 21, 3) := by decide +kernel
theorem dL_act_94 : decode cL_act 94 = .ok (.istore 5, 2) := by decide +kernel
theorem dL_act_96 : decode cL_act 96 = .ok (.goto 8, 3) := by decide +kernel
theorem dL_act_99 : decode cL_act 99 = .ok (.astore 7, 2) := by decide +kernel
theorem dL_act_101 : decode cL_act 101 = .ok (.iconst (-1), 1) := by decide +kernel
theorem dL_act_102 : decode cL_act 102 = .ok (.istore 5, 2) := by decide +kernel
theorem dL_act_104 : decode cL_act 104 = .ok (.iload_n 3, 1) := by decide +kernel
theorem dL_act_105 : decode cL_act 105 = .ok (.bipush 6, 2) := by decide +kernel
theorem dL_act_107 : decode cL_act 107 = .ok (.if_icmp .ge 9, 3) := by decide +kernel
theorem dL_act_110 : decode cL_act 110 = .ok (.aload_n 1, 1) := by decide +kernel
theorem dL_act_111 : decode cL_act 111 = .ok (.iload 6, 2) := by decide +kernel
theorem dL_act_113 : decode cL_act 113 = .ok (.invokevirtual 29, 3) := by decide +kernel
theorem dL_act_116 : decode cL_act 116 = .ok (.iload 5, 2) := by decide +kernel
theorem dL_act_118 : decode cL_act 118 = .ok (.iload_n 3, 1) := by decide +kernel
theorem dL_act_119 : decode cL_act 119 = .ok (.bipush 6, 2) := by decide +kernel
theorem dL_act_121 : decode cL_act 121 = .ok (.if_icmp .ge 7, 3) := by decide +kernel
theorem dL_act_124 : decode cL_act 124 = .ok (.iload_n 3, 1) := by decide +kernel
theorem dL_act_125 : decode cL_act 125 = .ok (.goto 4, 3) := by decide +kernel
theorem dL_act_128 : decode cL_act 128 = .ok (.iconst (-1), 1) := by decide +kernel
theorem dL_act_129 : decode cL_act 129 = .ok (.if_icmp .ne 7, 3) := by decide +kernel
theorem dL_act_132 : decode cL_act 132 = .ok (.iconst 1, 1) := by decide +kernel
theorem dL_act_133 : decode cL_act 133 = .ok (.goto 4, 3) := by decide +kernel
theorem dL_act_136 : decode cL_act 136 = .ok (.iconst 0, 1) := by decide +kernel
theorem dL_act_137 : decode cL_act 137 = .ok (.ireturn, 1) := by decide +kernel
theorem dL_act_138 : decode cL_act 138 = .ok (.aload_n 1, 1) := by decide +kernel
theorem dL_act_139 : decode cL_act 139 = .ok (.getfield 32, 3) := by decide +kernel
theorem dL_act_142 : decode cL_act 142 = .ok (.arraylength, 1) := by decide +kernel
theorem dL_act_143 : decode cL_act 143 = .ok (.istore 6, 2) := by decide +kernel
theorem dL_act_145 : decode cL_act 145 = .ok (.iconst 1, 1) := by decide +kernel
theorem dL_act_146 : decode cL_act 146 = .ok (.iload_n 2, 1) := by decide +kernel
theorem dL_act_147 : decode cL_act 147 = .ok (.iconst 4, 1) := by decide +kernel
theorem dL_act_148 : decode cL_act 148 = .ok (.ishr, 1) := by decide +kernel
theorem dL_act_149 : decode cL_act 149 = .ok (.iload_n 2, 1) := by decide +kernel
theorem dL_act_150 : decode cL_act 150 = .ok (.bipush 7, 2) := by decide +kernel
theorem dL_act_152 : decode cL_act 152 = .ok (.ishr, 1) := by decide +kernel
theorem dL_act_153 : decode cL_act 153 = .ok (.iconst 2, 1) := by decide +kernel
theorem dL_act_154 : decode cL_act 154 = .ok (.invokestatic 15, 3) := by decide +kernel
theorem dL_act_157 : decode cL_act 157 = .ok (.ifCond .ne 8, 3) := by decide +kernel
theorem dL_act_160 : decode cL_act 160 = .ok (.bipush 60, 2) := by decide +kernel
theorem dL_act_162 : decode cL_act 162 = .ok (.goto 5, 3) := by decide +kernel
theorem dL_act_165 : decode cL_act 165 = .ok (.bipush 15, 2) := by decide +kernel
theorem dL_act_167 : decode cL_act 167 = .ok (.invokestatic 15, 3) := by decide +kernel
theorem dL_act_170 : decode cL_act 170 = .ok (.iadd, 1) := by decide +kernel
theorem dL_act_171 : decode cL_act 171 = .ok (.istore 7, 2) := by decide +kernel
theorem dL_act_173 : decode cL_act 173 = .ok (.aload_n 0, 1) := by decide +kernel
theorem dL_act_174 : decode cL_act 174 = .ok (.iload 7, 2) := by decide +kernel
theorem dL_act_176 : decode cL_act 176 = .ok (.invokevirtual 35, 3) := by decide +kernel
theorem dL_act_179 : decode cL_act 179 = .ok (.istore 5, 2) := by decide +kernel
theorem dL_act_181 : decode cL_act 181 = .ok (.goto 8, 3) := by decide +kernel
theorem dL_act_184 : decode cL_act 184 = .ok (.astore 8, 2) := by decide +kernel
theorem dL_act_186 : decode cL_act 186 = .ok (.iconst (-1), 1) := by decide +kernel
theorem dL_act_187 : decode cL_act 187 = .ok (.istore 5, 2) := by decide +kernel
theorem dL_act_189 : decode cL_act 189 = .ok (.iload 6, 2) := by decide +kernel
theorem dL_act_191 : decode cL_act 191 = .ok (.bipush 10, 2) := by decide +kernel
theorem dL_act_193 : decode cL_act 193 = .ok (.if_icmp .ge 9, 3) := by decide +kernel
theorem dL_act_196 : decode cL_act 196 = .ok (.aload_n 1, 1) := by decide +kernel
theorem dL_act_197 : decode cL_act 197 = .ok (.iload 7, 2) := by decide +kernel
theorem dL_act_199 : decode cL_act 199 = .ok (.invokevirtual 38, 3) := by decide +kernel
theorem dL_act_202 : decode cL_act 202 = .ok (.iload 5, 2) := by decide +kernel
theorem dL_act_204 : decode cL_act 204 = .ok (.iload 6, 2) := by decide +kernel
theorem dL_act_206 : decode cL_act 206 = .ok (.bipush 10, 2) := by decide +kernel
theorem dL_act_208 : decode cL_act 208 = .ok (.if_icmp .ge 8, 3) := by decide +kernel
theorem dL_act_211 : decode cL_act 211 = .ok (.iload 6, 2) := by decide +kernel
theorem dL_act_213 : decode cL_act 213 = .ok (.goto 4, 3) := by decide +kernel
theorem dL_act_216 : decode cL_act 216 = .ok (.iconst (-1), 1) := by decide +kernel
theorem dL_act_217 : decode cL_act 217 = .ok (.if_icmp .ne 7, 3) := by decide +kernel
theorem dL_act_220 : decode cL_act 220 = .ok (.iconst 1, 1) := by decide +kernel
theorem dL_act_221 : decode cL_act 221 = .ok (.goto 4, 3) := by decide +kernel
theorem dL_act_224 : decode cL_act 224 = .ok (.iconst 0, 1) := by decide +kernel
theorem dL_act_225 : decode cL_act 225 = .ok (.ireturn, 1) := by decide +kernel
theorem dL_act_226 : decode cL_act 226 = .ok (.aload_n 1, 1) := by decide +kernel
theorem dL_act_227 : decode cL_act 227 = .ok (.getfield 40, 3) := by decide +kernel
theorem dL_act_230 : decode cL_act 230 = .ok (.istore 6, 2) := by decide +kernel
theorem dL_act_232 : decode cL_act 232 = .ok (.aload_n 1, 1) := by decide +kernel
theorem dL_act_233 : decode cL_act 233 = .ok (.iconst 4, 1) := by decide +kernel
theorem dL_act_234 : decode cL_act 234 = .ok (.iload_n 2, 1) := by decide +kernel
theorem dL_act_235 : decode cL_act 235 = .ok (.iconst 4, 1) := by decide +kernel
theorem dL_act_236 : decode cL_act 236 = .ok (.ishr, 1) := by decide +kernel
theorem dL_act_237 : decode cL_act 237 = .ok (.iload_n 2, 1) := by decide +kernel
theorem dL_act_238 : decode cL_act 238 = .ok (.bipush 7, 2) := by decide +kernel
theorem dL_act_240 : decode cL_act 240 = .ok (.ishr, 1) := by decide +kernel
theorem dL_act_241 : decode cL_act 241 = .ok (.iconst 3, 1) := by decide +kernel
theorem dL_act_242 : decode cL_act 242 = .ok (.invokestatic 15, 3) := by decide +kernel
theorem dL_act_245 : decode cL_act 245 = .ok (.ifCond .ne 8, 3) := by decide +kernel
theorem dL_act_248 : decode cL_act 248 = .ok (.bipush 57, 2) := by decide +kernel
theorem dL_act_250 : decode cL_act 250 = .ok (.goto 4, 3) := by decide +kernel
theorem dL_act_253 : decode cL_act 253 = .ok (.iconst 5, 1) := by decide +kernel
theorem dL_act_254 : decode cL_act 254 = .ok (.invokestatic 15, 3) := by decide +kernel
theorem dL_act_257 : decode cL_act 257 = .ok (.iadd, 1) := by decide +kernel
theorem dL_act_258 : decode cL_act 258 = .ok (.putfield 40, 3) := by decide +kernel
theorem dL_act_261 : decode cL_act 261 = .ok (.aload_n 0, 1) := by decide +kernel
theorem dL_act_262 : decode cL_act 262 = .ok (.aload_n 1, 1) := by decide +kernel
theorem dL_act_263 : decode cL_act 263 = .ok (.getfield 40, 3) := by decide +kernel
theorem dL_act_266 : decode cL_act 266 = .ok (.invokevirtual 44, 3) := by decide +kernel
theorem dL_act_269 : decode cL_act 269 = .ok (.iload 6, 2) := by decide +kernel
theorem dL_act_271 : decode cL_act 271 = .ok (.if_icmp .ne 7, 3) := by decide +kernel
theorem dL_act_274 : decode cL_act 274 = .ok (.iconst 1, 1) := by decide +kernel
theorem dL_act_275 : decode cL_act 275 = .ok (.goto 4, 3) := by decide +kernel
theorem dL_act_278 : decode cL_act 278 = .ok (.iconst 0, 1) := by decide +kernel
theorem dL_act_279 : decode cL_act 279 = .ok (.ireturn, 1) := by decide +kernel
theorem dL_act_280 : decode cL_act 280 = .ok (.iload_n 3, 1) := by decide +kernel
theorem dL_act_281 : decode cL_act 281 = .ok (.iconst 2, 1) := by decide +kernel
theorem dL_act_282 : decode cL_act 282 = .ok (.if_icmp .ge 7, 3) := by decide +kernel
theorem dL_act_285 : decode cL_act 285 = .ok (.iconst (-1), 1) := by decide +kernel
theorem dL_act_286 : decode cL_act 286 = .ok (.goto 20, 3) := by decide +kernel
theorem dL_act_289 : decode cL_act 289 = .ok (.iload 4, 2) := by decide +kernel
theorem dL_act_291 : decode cL_act 291 = .ok (.iconst 1, 1) := by decide +kernel
theorem dL_act_292 : decode cL_act 292 = .ok (.iadd, 1) := by decide +kernel
theorem dL_act_293 : decode cL_act 293 = .ok (.iload_n 2, 1) := by decide +kernel
theorem dL_act_294 : decode cL_act 294 = .ok (.bipush 6, 2) := by decide +kernel
theorem dL_act_296 : decode cL_act 296 = .ok (.ishr, 1) := by decide +kernel
theorem dL_act_297 : decode cL_act 297 = .ok (.iload_n 3, 1) := by decide +kernel
theorem dL_act_298 : decode cL_act 298 = .ok (.iconst 1, 1) := by decide +kernel
theorem dL_act_299 : decode cL_act 299 = .ok (.isub, 1) := by decide +kernel
theorem dL_act_300 : decode cL_act 300 = .ok (.invokestatic 15, 3) := by decide +kernel
theorem dL_act_303 : decode cL_act 303 = .ok (.iadd, 1) := by decide +kernel
theorem dL_act_304 : decode cL_act 304 = .ok (.iload_n 3, 1) := by decide +kernel
theorem dL_act_305 : decode cL_act 305 = .ok (.irem, 1) := by decide +kernel
theorem dL_act_306 : decode cL_act 306 = .ok (.istore 6, 2) := by decide +kernel
theorem dL_act_308 : decode cL_act 308 = .ok (.iload 6, 2) := by decide +kernel
theorem dL_act_310 : decode cL_act 310 = .ok (.ifCond .ge 5, 3) := by decide +kernel
theorem dL_act_313 : decode cL_act 313 = .ok (.iconst 1, 1) := by decide +kernel
theorem dL_act_314 : decode cL_act 314 = .ok (.ireturn, 1) := by decide +kernel
theorem dL_act_315 : decode cL_act 315 = .ok (.aload_n 1, 1) := by decide +kernel
theorem dL_act_316 : decode cL_act 316 = .ok (.getfield 47, 3) := by decide +kernel
theorem dL_act_319 : decode cL_act 319 = .ok (.iload 4, 2) := by decide +kernel
theorem dL_act_321 : decode cL_act 321 = .ok (.aaload, 1) := by decide +kernel
theorem dL_act_322 : decode cL_act 322 = .ok (.astore 7, 2) := by decide +kernel
theorem dL_act_324 : decode cL_act 324 = .ok (.aload_n 1, 1) := by decide +kernel
theorem dL_act_325 : decode cL_act 325 = .ok (.getfield 47, 3) := by decide +kernel
theorem dL_act_328 : decode cL_act 328 = .ok (.iload 4, 2) := by decide +kernel
theorem dL_act_330 : decode cL_act 330 = .ok (.aload_n 1, 1) := by decide +kernel
theorem dL_act_331 : decode cL_act 331 = .ok (.getfield 47, 3) := by decide +kernel
theorem dL_act_334 : decode cL_act 334 = .ok (.iload 6, 2) := by decide +kernel
theorem dL_act_336 : decode cL_act 336 = .ok (.aaload, 1) := by decide +kernel
theorem dL_act_337 : decode cL_act 337 = .ok (.aastore, 1) := by decide +kernel
theorem dL_act_338 : decode cL_act 338 = .ok (.aload_n 1, 1) := by decide +kernel
theorem dL_act_339 : decode cL_act 339 = .ok (.getfield 47, 3) := by decide +kernel
theorem dL_act_342 : decode cL_act 342 = .ok (.iload 6, 2) := by decide +kernel
theorem dL_act_344 : decode cL_act 344 = .ok (.aload 7, 2) := by decide +kernel
theorem dL_act_346 : decode cL_act 346 = .ok (.aastore, 1) := by decide +kernel
theorem dL_act_347 : decode cL_act 347 = .ok (.aload_n 0, 1) := by decide +kernel
theorem dL_act_348 : decode cL_act 348 = .ok (.iload 4, 2) := by decide +kernel
theorem dL_act_350 : decode cL_act 350 = .ok (.iload 6, 2) := by decide +kernel
theorem dL_act_352 : decode cL_act 352 = .ok (.invokevirtual 50, 3) := by decide +kernel
theorem dL_act_355 : decode cL_act 355 = .ok (.aload_n 1, 1) := by decide +kernel
theorem dL_act_356 : decode cL_act 356 = .ok (.getfield 47, 3) := by decide +kernel
theorem dL_act_359 : decode cL_act 359 = .ok (.iload 4, 2) := by decide +kernel
theorem dL_act_361 : decode cL_act 361 = .ok (.aaload, 1) := by decide +kernel
theorem dL_act_362 : decode cL_act 362 = .ok (.arraylength, 1) := by decide +kernel
theorem dL_act_363 : decode cL_act 363 = .ok (.if_icmp .ne 7, 3) := by decide +kernel
theorem dL_act_366 : decode cL_act 366 = .ok (.iconst 1, 1) := by decide +kernel
theorem dL_act_367 : decode cL_act 367 = .ok (.goto 4, 3) := by decide +kernel
theorem dL_act_370 : decode cL_act 370 = .ok (.iconst 0, 1) := by decide +kernel
theorem dL_act_371 : decode cL_act 371 = .ok (.ireturn, 1) := by decide +kernel
theorem dL_act_372 : decode cL_act 372 = .ok (.iload_n 3, 1) := by decide +kernel
theorem dL_act_373 : decode cL_act 373 = .ok (.ifCond .ne 5, 3) := by decide +kernel
theorem dL_act_376 : decode cL_act 376 = .ok (.iconst 1, 1) := by decide +kernel
theorem dL_act_377 : decode cL_act 377 = .ok (.ireturn, 1) := by decide +kernel
theorem dL_act_378 : decode cL_act 378 = .ok (.aload_n 1, 1) := by decide +kernel
theorem dL_act_379 : decode cL_act 379 = .ok (.getfield 9, 3) := by decide +kernel
theorem dL_act_382 : decode cL_act 382 = .ok (.iload 4, 2) := by decide +kernel
theorem dL_act_384 : decode cL_act 384 = .ok (.aaload, 1) := by decide +kernel
theorem dL_act_385 : decode cL_act 385 = .ok (.iconst 2, 1) := by decide +kernel
theorem dL_act_386 : decode cL_act 386 = .ok (.iaload, 1) := by decide +kernel
theorem dL_act_387 : decode cL_act 387 = .ok (.iconst 3, 1) := by decide +kernel
theorem dL_act_388 : decode cL_act 388 = .ok (.if_icmp .ne 7, 3) := by decide +kernel
theorem dL_act_391 : decode cL_act 391 = .ok (.iconst 1, 1) := by decide +kernel
theorem dL_act_392 : decode cL_act 392 = .ok (.goto 4, 3) := by decide +kernel
theorem dL_act_395 : decode cL_act 395 = .ok (.iconst 0, 1) := by decide +kernel
theorem dL_act_396 : decode cL_act 396 = .ok (.istore 6, 2) := by decide +kernel
theorem dL_act_398 : decode cL_act 398 = .ok (.iload 6, 2) := by decide +kernel
theorem dL_act_400 : decode cL_act 400 = .ok (.ifCond .eq 13, 3) := by decide +kernel
theorem dL_act_403 : decode cL_act 403 = .ok (.aload_n 1, 1) := by decide +kernel
theorem dL_act_404 : decode cL_act 404 = .ok (.getfield 9, 3) := by decide +kernel
theorem dL_act_407 : decode cL_act 407 = .ok (.iload 4, 2) := by decide +kernel
theorem dL_act_409 : decode cL_act 409 = .ok (.aaload, 1) := by decide +kernel
theorem dL_act_410 : decode cL_act 410 = .ok (.iconst 2, 1) := by decide +kernel
theorem dL_act_411 : decode cL_act 411 = .ok (.iconst 0, 1) := by decide +kernel
theorem dL_act_412 : decode cL_act 412 = .ok (.iastore, 1) := by decide +kernel
theorem dL_act_413 : decode cL_act 413 = .ok (.aload_n 0, 1) := by decide +kernel
theorem dL_act_414 : decode cL_act 414 = .ok (.iload 4, 2) := by decide +kernel
theorem dL_act_416 : decode cL_act 416 = .ok (.invokevirtual 53, 3) := by decide +kernel
theorem dL_act_419 : decode cL_act 419 = .ok (.istore 5, 2) := by decide +kernel
theorem dL_act_421 : decode cL_act 421 = .ok (.goto 8, 3) := by decide +kernel
theorem dL_act_424 : decode cL_act 424 = .ok (.astore 7, 2) := by decide +kernel
theorem dL_act_426 : decode cL_act 426 = .ok (.iconst (-1), 1) := by decide +kernel
theorem dL_act_427 : decode cL_act 427 = .ok (.istore 5, 2) := by decide +kernel
theorem dL_act_429 : decode cL_act 429 = .ok (.iload 5, 2) := by decide +kernel
theorem dL_act_431 : decode cL_act 431 = .ok (.iload 6, 2) := by decide +kernel
theorem dL_act_433 : decode cL_act 433 = .ok (.ifCond .eq 13, 3) := by decide +kernel
theorem dL_act_436 : decode cL_act 436 = .ok (.aload_n 1, 1) := by decide +kernel
theorem dL_act_437 : decode cL_act 437 = .ok (.invokevirtual 56, 3) := by decide +kernel
theorem dL_act_440 : decode cL_act 440 = .ok (.bipush 6, 2) := by decide +kernel
theorem dL_act_442 : decode cL_act 442 = .ok (.iaload, 1) := by decide +kernel
theorem dL_act_443 : decode cL_act 443 = .ok (.goto 4, 3) := by decide +kernel
theorem dL_act_446 : decode cL_act 446 = .ok (.iconst (-1), 1) := by decide +kernel
theorem dL_act_447 : decode cL_act 447 = .ok (.if_icmp .ne 7, 3) := by decide +kernel
theorem dL_act_450 : decode cL_act 450 = .ok (.iconst 1, 1) := by decide +kernel
theorem dL_act_451 : decode cL_act 451 = .ok (.goto 4, 3) := by decide +kernel
theorem dL_act_454 : decode cL_act 454 = .ok (.iconst 0, 1) := by decide +kernel
theorem dL_act_455 : decode cL_act 455 = .ok (.ireturn, 1) := by decide +kernel
theorem dL_act_456 : decode cL_act 456 = .ok (.iload_n 3, 1) := by decide +kernel
theorem dL_act_457 : decode cL_act 457 = .ok (.ifCond .ne 5, 3) := by decide +kernel
theorem dL_act_460 : decode cL_act 460 = .ok (.iconst 1, 1) := by decide +kernel
theorem dL_act_461 : decode cL_act 461 = .ok (.ireturn, 1) := by decide +kernel
theorem dL_act_462 : decode cL_act 462 = .ok (.aload_n 1, 1) := by decide +kernel
theorem dL_act_463 : decode cL_act 463 = .ok (.getfield 9, 3) := by decide +kernel
theorem dL_act_466 : decode cL_act 466 = .ok (.iload 4, 2) := by decide +kernel
theorem dL_act_468 : decode cL_act 468 = .ok (.aaload, 1) := by decide +kernel
theorem dL_act_469 : decode cL_act 469 = .ok (.iconst 1, 1) := by decide +kernel
theorem dL_act_470 : decode cL_act 470 = .ok (.iaload, 1) := by decide +kernel
theorem dL_act_471 : decode cL_act 471 = .ok (.istore 6, 2) := by decide +kernel
theorem dL_act_473 : decode cL_act 473 = .ok (.aload_n 1, 1) := by decide +kernel
theorem dL_act_474 : decode cL_act 474 = .ok (.getfield 9, 3) := by decide +kernel
theorem dL_act_477 : decode cL_act 477 = .ok (.iload 4, 2) := by decide +kernel
theorem dL_act_479 : decode cL_act 479 = .ok (.aaload, 1) := by decide +kernel
theorem dL_act_480 : decode cL_act 480 = .ok (.iconst 1, 1) := by decide +kernel
theorem dL_act_481 : decode cL_act 481 = .ok (.iload_n 2, 1) := by decide +kernel
theorem dL_act_482 : decode cL_act 482 = .ok (.bipush 6, 2) := by decide +kernel
theorem dL_act_484 : decode cL_act 484 = .ok (.ishr, 1) := by decide +kernel
theorem dL_act_485 : decode cL_act 485 = .ok (.iconst 3, 1) := by decide +kernel
theorem dL_act_486 : decode cL_act 486 = .ok (.invokestatic 15, 3) := by decide +kernel
theorem dL_act_489 : decode cL_act 489 = .ok (.iastore, 1) := by decide +kernel
theorem dL_act_490 : decode cL_act 490 = .ok (.aload_n 0, 1) := by decide +kernel
theorem dL_act_491 : decode cL_act 491 = .ok (.iload 4, 2) := by decide +kernel
theorem dL_act_493 : decode cL_act 493 = .ok (.aload_n 1, 1) := by decide +kernel
theorem dL_act_494 : decode cL_act 494 = .ok (.getfield 9, 3) := by decide +kernel
theorem dL_act_497 : decode cL_act 497 = .ok (.iload 4, 2) := by decide +kernel
theorem dL_act_499 : decode cL_act 499 = .ok (.aaload, 1) := by decide +kernel
theorem dL_act_500 : decode cL_act 500 = .ok (.iconst 1, 1) := by decide +kernel
theorem dL_act_501 : decode cL_act 501 = .ok (.iaload, 1) := by decide +kernel
theorem dL_act_502 : decode cL_act 502 = .ok (.invokevirtual 60, 3) := by decide +kernel
theorem dL_act_505 : decode cL_act 505 = .ok (.iload 6, 2) := by decide +kernel
theorem dL_act_507 : decode cL_act 507 = .ok (.if_icmp .ne 7, 3) := by decide +kernel
theorem dL_act_510 : decode cL_act 510 = .ok (.iconst 1, 1) := by decide +kernel
theorem dL_act_511 : decode cL_act 511 = .ok (.goto 4, 3) := by decide +kernel
theorem dL_act_514 : decode cL_act 514 = .ok (.iconst 0, 1) := by decide +kernel
theorem dL_act_515 : decode cL_act 515 = .ok (.ireturn, 1) := by decide +kernel
theorem dL_build_0 : decode cL_build 0 = .ok (.new 10, 3) := by decide +kernel
theorem dL_build_3 : decode cL_build 3 = .ok (.dup, 1) := by decide +kernel
theorem dL_build_4 : decode cL_build 4 = .ok (.invokespecial 63, 3) := by decide +kernel
theorem dL_build_7 : decode cL_build 7 = .ok (.astore_n 2, 1) := by decide +kernel
theorem dL_build_8 : decode cL_build 8 = .ok (.iconst 0, 1) := by decide +kernel
theorem dL_build_9 : decode cL_build 9 = .ok (.istore_n 3, 1) := by decide +kernel
theorem dL_build_10 : decode cL_build 10 = .ok (.iload_n 3, 1) := by decide +kernel
theorem dL_build_11 : decode cL_build 11 = .ok (.bipush 22, 2) := by decide +kernel
theorem dL_build_13 : decode cL_build 13 = .ok (.if_icmp .ge 90, 3) := by decide +kernel
theorem dL_build_16 : decode cL_build 16 = .ok (.aload_n 1, 1) := by decide +kernel
theorem dL_build_17 : decode cL_build 17 = .ok (.iload_n 3, 1) := by decide +kernel
theorem dL_build_18 : decode cL_build 18 = .ok (.bipush 16, 2) := by decide +kernel
theorem dL_build_20 : decode cL_build 20 = .ok (.irem, 1) := by decide +kernel
theorem dL_build_21 : decode cL_build 21 = .ok (.invokestatic 64, 3) := by decide +kernel
theorem dL_build_24 : decode cL_build 24 = .ok (.iload_n 3, 1) := by decide +kernel
theorem dL_build_25 : decode cL_build 25 = .ok (.bipush 16, 2) := by decide +kernel
theorem dL_build_27 : decode cL_build 27 = .ok (.idiv, 1) := by decide +kernel
theorem dL_build_28 : decode cL_build 28 = .ok (.iconst 4, 1) := by decide +kernel
theorem dL_build_29 : decode cL_build 29 = .ok (.imul, 1) := by decide +kernel
theorem dL_build_30 : decode cL_build 30 = .ok (.ishr, 1) := by decide +kernel
theorem dL_build_31 : decode cL_build 31 = .ok (.bipush 59, 2) := by decide +kernel
theorem dL_build_33 : decode cL_build 33 = .ok (.iload_n 3, 1) := by decide +kernel
theorem dL_build_34 : decode cL_build 34 = .ok (.imul, 1) := by decide +kernel
theorem dL_build_35 : decode cL_build 35 = .ok (.iadd, 1) := by decide +kernel
theorem dL_build_36 : decode cL_build 36 = .ok (.istore 4, 2) := by decide +kernel
theorem dL_build_38 : decode cL_build 38 = .ok (.iload_n 3, 1) := by decide +kernel
theorem dL_build_39 : decode cL_build 39 = .ok (.bipush 6, 2) := by decide +kernel
theorem dL_build_41 : decode cL_build 41 = .ok (.if_icmp .ge 26, 3) := by decide +kernel
theorem dL_build_44 : decode cL_build 44 = .ok (.bipush 11, 2) := by decide +kernel
theorem dL_build_46 : decode cL_build 46 = .ok (.iload 4, 2) := by decide +kernel
theorem dL_build_48 : decode cL_build 48 = .ok (.ldc 68, 2) := by decide +kernel
theorem dL_build_50 : decode cL_build 50 = .ok (.invokestatic 15, 3) := by decide +kernel
theorem dL_build_53 : decode cL_build 53 = .ok (.imul, 1) := by decide +kernel
theorem dL_build_54 : decode cL_build 54 = .ok (.iload_n 3, 1) := by decide +kernel
theorem dL_build_55 : decode cL_build 55 = .ok (.iconst 3, 1) := by decide +kernel
theorem dL_build_56 : decode cL_build 56 = .ok (.if_icmp .ge 7, 3) := by decide +kernel
theorem dL_build_59 : decode cL_build 59 = .ok (.iconst 0, 1) := by decide +kernel
theorem dL_build_60 : decode cL_build 60 = .ok (.goto 4, 3) := by decide +kernel
theorem dL_build_63 : decode cL_build 63 = .ok (.iconst 2, 1) := by decide +kernel
theorem dL_build_64 : decode cL_build 64 = .ok (.iadd, 1) := by decide +kernel
theorem dL_build_65 : decode cL_build 65 = .ok (.istore 4, 2) := by decide +kernel
theorem dL_build_67 : decode cL_build 67 = .ok (.aload_n 0, 1) := by decide +kernel
theorem dL_build_68 : decode cL_build 68 = .ok (.aload_n 2, 1) := by decide +kernel
theorem dL_build_69 : decode cL_build 69 = .ok (.iload 4, 2) := by decide +kernel
theorem dL_build_71 : decode cL_build 71 = .ok (.invokestatic 69, 3) := by decide +kernel
theorem dL_build_74 : decode cL_build 74 = .ok (.ifCond .eq 21, 3) := by decide +kernel
theorem dL_build_77 : decode cL_build 77 = .ok (.iload_n 3, 1) := by decide +kernel
theorem dL_build_78 : decode cL_build 78 = .ok (.iconst 5, 1) := by decide +kernel
theorem dL_build_79 : decode cL_build 79 = .ok (.if_icmp .le 18, 3) := by decide +kernel
theorem dL_build_82 : decode cL_build 82 = .ok (.aload_n 0, 1) := by decide +kernel
theorem dL_build_83 : decode cL_build 83 = .ok (.iconst 1, 1) := by decide +kernel
theorem dL_build_84 : decode cL_build 84 = .ok (.invokevirtual 73, 3) := by decide +kernel
theorem dL_build_87 : decode cL_build 87 = .ok (.aload_n 2, 1) := by decide +kernel
theorem dL_build_88 : decode cL_build 88 = .ok (.iconst 1, 1) := by decide +kernel
theorem dL_build_89 : decode cL_build 89 = .ok (.invokevirtual 76, 3) := by decide +kernel
theorem dL_build_92 : decode cL_build 92 = .ok (.if_icmp .eq 5, 3) := by decide +kernel
theorem dL_build_95 : decode cL_build 95 = .ok (.aconst_null, 1) := by decide +kernel
theorem dL_build_96 : decode cL_build 96 = .ok (.areturn, 1) := by decide +kernel
theorem dL_build_97 : decode cL_build 97 = .ok (.iinc 3 1, 3) := by decide +kernel
theorem dL_build_100 : decode cL_build 100 = .ok (.goto (-90), 3) := by decide +kernel
theorem dL_build_103 : decode cL_build 103 = .ok (.aload_n 2, 1) := by decide +kernel
theorem dL_build_104 : decode cL_build 104 = .ok (.areturn, 1) := by decide +kernel
theorem dL_law_0 : decode cL_law 0 = .ok (.new 22, 3) := by decide +kernel
theorem dL_law_3 : decode cL_law 3 = .ok (.dup, 1) := by decide +kernel
theorem dL_law_4 : decode cL_law 4 = .ok (.invokespecial 79, 3) := by decide +kernel
theorem dL_law_7 : decode cL_law 7 = .ok (.astore_n 1, 1) := by decide +kernel
theorem dL_law_8 : decode cL_law 8 = .ok (.aload_n 1, 1) := by decide +kernel
theorem dL_law_9 : decode cL_law 9 = .ok (.aload_n 0, 1) := by decide +kernel
theorem dL_law_10 : decode cL_law 10 = .ok (.invokestatic 80, 3) := by decide +kernel
theorem dL_law_13 : decode cL_law 13 = .ok (.astore_n 2, 1) := by decide +kernel
theorem dL_law_14 : decode cL_law 14 = .ok (.aload_n 2, 1) := by decide +kernel
theorem dL_law_15 : decode cL_law 15 = .ok (.ifnonnull 5, 3) := by decide +kernel
theorem dL_law_18 : decode cL_law 18 = .ok (.iconst 0, 1) := by decide +kernel
theorem dL_law_19 : decode cL_law 19 = .ok (.ireturn, 1) := by decide +kernel
theorem dL_law_20 : decode cL_law 20 = .ok (.iconst 0, 1) := by decide +kernel
theorem dL_law_21 : decode cL_law 21 = .ok (.istore_n 3, 1) := by decide +kernel
theorem dL_law_22 : decode cL_law 22 = .ok (.iload_n 3, 1) := by decide +kernel
theorem dL_law_23 : decode cL_law 23 = .ok (.bipush 40, 2) := by decide +kernel
theorem dL_law_25 : decode cL_law 25 = .ok (.if_icmp .ge 1135, 3) := by decide +kernel
theorem dL_law_28 : decode cL_law 28 = .ok (.aload_n 0, 1) := by decide +kernel
theorem dL_law_29 : decode cL_law 29 = .ok (.iload_n 3, 1) := by decide +kernel
theorem dL_law_30 : decode cL_law 30 = .ok (.bipush 16, 2) := by decide +kernel
theorem dL_law_32 : decode cL_law 32 = .ok (.irem, 1) := by decide +kernel
theorem dL_law_33 : decode cL_law 33 = .ok (.invokestatic 64, 3) := by decide +kernel
theorem dL_law_36 : decode cL_law 36 = .ok (.iload_n 3, 1) := by decide +kernel
theorem dL_law_37 : decode cL_law 37 = .ok (.bipush 16, 2) := by decide +kernel
theorem dL_law_39 : decode cL_law 39 = .ok (.idiv, 1) := by decide +kernel
theorem dL_law_40 : decode cL_law 40 = .ok (.iconst 5, 1) := by decide +kernel
theorem dL_law_41 : decode cL_law 41 = .ok (.imul, 1) := by decide +kernel
theorem dL_law_42 : decode cL_law 42 = .ok (.ishr, 1) := by decide +kernel
theorem dL_law_43 : decode cL_law 43 = .ok (.bipush 53, 2) := by decide +kernel
theorem dL_law_45 : decode cL_law 45 = .ok (.iload_n 3, 1) := by decide +kernel
theorem dL_law_46 : decode cL_law 46 = .ok (.imul, 1) := by decide +kernel
theorem dL_law_47 : decode cL_law 47 = .ok (.iadd, 1) := by decide +kernel
theorem dL_law_48 : decode cL_law 48 = .ok (.istore 4, 2) := by decide +kernel
theorem dL_law_50 : decode cL_law 50 = .ok (.iload 4, 2) := by decide +kernel
theorem dL_law_52 : decode cL_law 52 = .ok (.iconst 3, 1) := by decide +kernel
theorem dL_law_53 : decode cL_law 53 = .ok (.invokestatic 15, 3) := by decide +kernel
theorem dL_law_56 : decode cL_law 56 = .ok (.ifCond .ne 17, 3) := by decide +kernel
theorem dL_law_59 : decode cL_law 59 = .ok (.aload_n 1, 1) := by decide +kernel
theorem dL_law_60 : decode cL_law 60 = .ok (.aload_n 2, 1) := by decide +kernel
theorem dL_law_61 : decode cL_law 61 = .ok (.iload 4, 2) := by decide +kernel
theorem dL_law_63 : decode cL_law 63 = .ok (.iconst 3, 1) := by decide +kernel
theorem dL_law_64 : decode cL_law 64 = .ok (.idiv, 1) := by decide +kernel
theorem dL_law_65 : decode cL_law 65 = .ok (.invokestatic 69, 3) := by decide +kernel
theorem dL_law_68 : decode cL_law 68 = .ok (.ifCond .ne 5, 3) := by decide +kernel
theorem dL_law_71 : decode cL_law 71 = .ok (.iconst 0, 1) := by decide +kernel
theorem dL_law_72 : decode cL_law 72 = .ok (.ireturn, 1) := by decide +kernel
theorem dL_law_73 : decode cL_law 73 = .ok (.aload_n 1, 1) := by decide +kernel
theorem dL_law_74 : decode cL_law 74 = .ok (.iconst 1, 1) := by decide +kernel
theorem dL_law_75 : decode cL_law 75 = .ok (.invokevirtual 84, 3) := by decide +kernel
theorem dL_law_78 : decode cL_law 78 = .ok (.istore 5, 2) := by decide +kernel
theorem dL_law_80 : decode cL_law 80 = .ok (.aload_n 1, 1) := by decide +kernel
theorem dL_law_81 : decode cL_law 81 = .ok (.iconst 2, 1) := by decide +kernel
theorem dL_law_82 : decode cL_law 82 = .ok (.invokevirtual 84, 3) := by decide +kernel
theorem dL_law_85 : decode cL_law 85 = .ok (.istore 6, 2) := by decide +kernel
theorem dL_law_87 : decode cL_law 87 = .ok (.iconst 0, 1) := by decide +kernel
theorem dL_law_88 : decode cL_law 88 = .ok (.istore 7, 2) := by decide +kernel
theorem dL_law_90 : decode cL_law 90 = .ok (.iconst 0, 1) := by decide +kernel
theorem dL_law_91 : decode cL_law 91 = .ok (.istore 8, 2) := by decide +kernel
theorem dL_law_93 : decode cL_law 93 = .ok (.iconst 0, 1) := by decide +kernel
theorem dL_law_94 : decode cL_law 94 = .ok (.istore 9, 2) := by decide +kernel
theorem dL_law_96 : decode cL_law 96 = .ok (.iconst 0, 1) := by decide +kernel
theorem dL_law_97 : decode cL_law 97 = .ok (.istore 10, 2) := by decide +kernel
theorem dL_law_99 : decode cL_law 99 = .ok (.iconst 0, 1) := by decide +kernel
theorem dL_law_100 : decode cL_law 100 = .ok (.istore 11, 2) := by decide +kernel
theorem dL_law_102 : decode cL_law 102 = .ok (.iconst 0, 1) := by decide +kernel
theorem dL_law_103 : decode cL_law 103 = .ok (.istore 12, 2) := by decide +kernel
theorem dL_law_105 : decode cL_law 105 = .ok (.iload 5, 2) := by decide +kernel
theorem dL_law_107 : decode cL_law 107 = .ok (.newarray .int, 2) := by decide +kernel
theorem dL_law_109 : decode cL_law 109 = .ok (.astore 13, 2) := by decide +kernel
theorem dL_law_111 : decode cL_law 111 = .ok (.iconst 0, 1) := by decide +kernel
theorem dL_law_112 : decode cL_law 112 = .ok (.istore 14, 2) := by decide +kernel
theorem dL_law_114 : decode cL_law 114 = .ok (.iload 14, 2) := by decide +kernel
theorem dL_law_116 : decode cL_law 116 = .ok (.iload 5, 2) := by decide +kernel
theorem dL_law_118 : decode cL_law 118 = .ok (.if_icmp .ge 242, 3) := by decide +kernel
theorem dL_law_121 : decode cL_law 121 = .ok (.iload 9, 2) := by decide +kernel
theorem dL_law_123 : decode cL_law 123 = .ok (.aload_n 1, 1) := by decide +kernel
theorem dL_law_124 : decode cL_law 124 = .ok (.iload 14, 2) := by decide +kernel
theorem dL_law_126 : decode cL_law 126 = .ok (.iconst 0, 1) := by decide +kernel
theorem dL_law_127 : decode cL_law 127 = .ok (.invokevirtual 87, 3) := by decide +kernel
theorem dL_law_130 : decode cL_law 130 = .ok (.iadd, 1) := by decide +kernel
theorem dL_law_131 : decode cL_law 131 = .ok (.istore 9, 2) := by decide +kernel
theorem dL_law_133 : decode cL_law 133 = .ok (.iload 10, 2) := by decide +kernel
theorem dL_law_135 : decode cL_law 135 = .ok (.aload_n 1, 1) := by decide +kernel
theorem dL_law_136 : decode cL_law 136 = .ok (.iload 14, 2) := by decide +kernel
theorem dL_law_138 : decode cL_law 138 = .ok (.iconst 2, 1) := by decide +kernel
theorem dL_law_139 : decode cL_law 139 = .ok (.invokevirtual 87, 3) := by decide +kernel
theorem dL_law_142 : decode cL_law 142 = .ok (.iadd, 1) := by decide +kernel
theorem dL_law_143 : decode cL_law 143 = .ok (.istore 10, 2) := by decide +kernel
theorem dL_law_145 : decode cL_law 145 = .ok (.iload 7, 2) := by decide +kernel
theorem dL_law_147 : decode cL_law 147 = .ok (.aload_n 1, 1) := by decide +kernel
theorem dL_law_148 : decode cL_law 148 = .ok (.iload 14, 2) := by decide +kernel
theorem dL_law_150 : decode cL_law 150 = .ok (.iconst 5, 1) := by decide +kernel
theorem dL_law_151 : decode cL_law 151 = .ok (.invokevirtual 87, 3) := by decide +kernel
theorem dL_law_154 : decode cL_law 154 = .ok (.iadd, 1) := by decide +kernel
theorem dL_law_155 : decode cL_law 155 = .ok (.istore 7, 2) := by decide +kernel
theorem dL_law_157 : decode cL_law 157 = .ok (.iload 8, 2) := by decide +kernel
theorem dL_law_159 : decode cL_law 159 = .ok (.aload_n 1, 1) := by decide +kernel
theorem dL_law_160 : decode cL_law 160 = .ok (.iload 14, 2) := by decide +kernel
theorem dL_law_162 : decode cL_law 162 = .ok (.bipush 6, 2) := by decide +kernel
theorem dL_law_164 : decode cL_law 164 = .ok (.invokevirtual 87, 3) := by decide +kernel
theorem dL_law_167 : decode cL_law 167 = .ok (.iadd, 1) := by decide +kernel
theorem dL_law_168 : decode cL_law 168 = .ok (.istore 8, 2) := by decide +kernel
theorem dL_law_170 : decode cL_law 170 = .ok (.aload 13, 2) := by decide +kernel
theorem dL_law_172 : decode cL_law 172 = .ok (.iload 14, 2) := by decide +kernel
theorem dL_law_174 : decode cL_law 174 = .ok (.aload_n 1, 1) := by decide +kernel
theorem dL_law_175 : decode cL_law 175 = .ok (.iload 14, 2) := by decide +kernel
theorem dL_law_177 : decode cL_law 177 = .ok (.bipush 7, 2) := by decide +kernel
theorem dL_law_179 : decode cL_law 179 = .ok (.invokevirtual 87, 3) := by decide +kernel
theorem dL_law_182 : decode cL_law 182 = .ok (.iastore, 1) := by decide +kernel
theorem dL_law_183 : decode cL_law 183 = .ok (.iload 11, 2) := by decide +kernel
theorem dL_law_185 : decode cL_law 185 = .ok (.aload 13, 2) := by decide +kernel
theorem dL_law_187 : decode cL_law 187 = .ok (.iload 14, 2) := by decide +kernel
theorem dL_law_189 : decode cL_law 189 = .ok (.iaload, 1) := by decide +kernel
theorem dL_law_190 : decode cL_law 190 = .ok (.iadd, 1) := by decide +kernel
theorem dL_law_191 : decode cL_law 191 = .ok (.istore 11, 2) := by decide +kernel
theorem dL_law_193 : decode cL_law 193 = .ok (.aload_n 1, 1) := by decide +kernel
theorem dL_law_194 : decode cL_law 194 = .ok (.iload 14, 2) := by decide +kernel
theorem dL_law_196 : decode cL_law 196 = .ok (.iconst 3, 1) := by decide +kernel
theorem dL_law_197 : decode cL_law 197 = .ok (.invokevirtual 87, 3) := by decide +kernel
theorem dL_law_200 : decode cL_law 200 = .ok (.istore 15, 2) := by decide +kernel
theorem dL_law_202 : decode cL_law 202 = .ok (.iload 12, 2) := by decide +kernel
theorem dL_law_204 : decode cL_law 204 = .ok (.iload 15, 2) := by decide +kernel
theorem dL_law_206 : decode cL_law 206 = .ok (.iconst 3, 1) := by decide +kernel
theorem dL_law_207 : decode cL_law 207 = .ok (.if_icmp .ne 7, 3) := by decide +kernel
theorem dL_law_210 : decode cL_law 210 = .ok (.iconst 1, 1) := by decide +kernel
theorem dL_law_211 : decode cL_law 211 = .ok (.goto 4, 3) := by decide +kernel
theorem dL_law_214 : decode cL_law 214 = .ok (.iconst 0, 1) := by decide +kernel
theorem dL_law_215 : decode cL_law 215 = .ok (.iadd, 1) := by decide +kernel
theorem dL_law_216 : decode cL_law 216 = .ok (.istore 12, 2) := by decide +kernel
theorem dL_law_218 : decode cL_law 218 = .ok (.iload 15, 2) := by decide +kernel
theorem dL_law_220 : decode cL_law 220 = .ok (.ifCond .lt 86, 3) := by decide +kernel
theorem dL_law_223 : decode cL_law 223 = .ok (.iload 15, 2) := by decide +kernel
theorem dL_law_225 : decode cL_law 225 = .ok (.iconst 3, 1) := by decide +kernel
theorem dL_law_226 : decode cL_law 226 = .ok (.if_icmp .gt 80, 3) := by decide +kernel
theorem dL_law_229 : decode cL_law 229 = .ok (.aload_n 1, 1) := by decide +kernel
theorem dL_law_230 : decode cL_law 230 = .ok (.iload 14, 2) := by decide +kernel
theorem dL_law_232 : decode cL_law 232 = .ok (.iconst 4, 1) := by decide +kernel
theorem dL_law_233 : decode cL_law 233 = .ok (.invokevirtual 87, 3) := by decide +kernel
theorem dL_law_236 : decode cL_law 236 = .ok (.ifCond .le 7, 3) := by decide +kernel
theorem dL_law_239 : decode cL_law 239 = .ok (.iconst 1, 1) := by decide +kernel
theorem dL_law_240 : decode cL_law 240 = .ok (.goto 4, 3) := by decide +kernel
theorem dL_law_243 : decode cL_law 243 = .ok (.iconst 0, 1) := by decide +kernel
theorem dL_law_244 : decode cL_law 244 = .ok (.iload 15, 2) := by decide +kernel
theorem dL_law_246 : decode cL_law 246 = .ok (.iconst 1, 1) := by decide +kernel
theorem dL_law_247 : decode cL_law 247 = .ok (.if_icmp .ne 7, 3) := by decide +kernel
theorem dL_law_250 : decode cL_law 250 = .ok (.iconst 1, 1) := by decide +kernel
theorem dL_law_251 : decode cL_law 251 = .ok (.goto 4, 3) := by decide +kernel
theorem dL_law_254 : decode cL_law 254 = .ok (.iconst 0, 1) := by decide +kernel
theorem dL_law_255 : decode cL_law 255 = .ok (.if_icmp .ne 51, 3) := by decide +kernel
theorem dL_law_258 : decode cL_law 258 = .ok (.aload_n 1, 1) := by decide +kernel
theorem dL_law_259 : decode cL_law 259 = .ok (.iload 14, 2) := by decide +kernel
theorem dL_law_261 : decode cL_law 261 = .ok (.bipush 8, 2) := by decide +kernel
theorem dL_law_263 : decode cL_law 263 = .ok (.invokevirtual 87, 3) := by decide +kernel
theorem dL_law_266 : decode cL_law 266 = .ok (.ifCond .lt 7, 3) := by decide +kernel
theorem dL_law_269 : decode cL_law 269 = .ok (.iconst 1, 1) := by decide +kernel
theorem dL_law_270 : decode cL_law 270 = .ok (.goto 4, 3) := by decide +kernel
theorem dL_law_273 : decode cL_law 273 = .ok (.iconst 0, 1) := by decide +kernel
theorem dL_law_274 : decode cL_law 274 = .ok (.iload 15, 2) := by decide +kernel
theorem dL_law_276 : decode cL_law 276 = .ok (.iconst 1, 1) := by decide +kernel
theorem dL_law_277 : decode cL_law 277 = .ok (.if_icmp .eq 9, 3) := by decide +kernel
theorem dL_law_280 : decode cL_law 280 = .ok (.iload 15, 2) := by decide +kernel
theorem dL_law_282 : decode cL_law 282 = .ok (.iconst 2, 1) := by decide +kernel
theorem dL_law_283 : decode cL_law 283 = .ok (.if_icmp .ne 7, 3) := by decide +kernel
theorem dL_law_286 : decode cL_law 286 = .ok (.iconst 1, 1) := by decide +kernel
theorem dL_law_287 : decode cL_law 287 = .ok (.goto 4, 3) := by decide +kernel
theorem dL_law_290 : decode cL_law 290 = .ok (.iconst 0, 1) := by decide +kernel
theorem dL_law_291 : decode cL_law 291 = .ok (.if_icmp .ne 15, 3) := by decide +kernel
theorem dL_law_294 : decode cL_law 294 = .ok (.aload_n 1, 1) := by decide +kernel
theorem dL_law_295 : decode cL_law 295 = .ok (.iload 14, 2) := by decide +kernel
theorem dL_law_297 : decode cL_law 297 = .ok (.iconst 2, 1) := by decide +kernel
theorem dL_law_298 : decode cL_law 298 = .ok (.invokevirtual 87, 3) := by decide +kernel
theorem dL_law_301 : decode cL_law 301 = .ok (.bipush 8, 2) := by decide +kernel
theorem dL_law_303 : decode cL_law 303 = .ok (.if_icmp .le 5, 3) := by decide +kernel
theorem dL_law_306 : decode cL_law 306 = .ok (.iconst 0, 1) := by decide +kernel
theorem dL_law_307 : decode cL_law 307 = .ok (.ireturn, 1) := by decide +kernel
theorem dL_law_308 : decode cL_law 308 = .ok (.aload_n 1, 1) := by decide +kernel
theorem dL_law_309 : decode cL_law 309 = .ok (.iload 14, 2) := by decide +kernel
theorem dL_law_311 : decode cL_law 311 = .ok (.invokevirtual 90, 3) := by decide +kernel
theorem dL_law_314 : decode cL_law 314 = .ok (.istore 16, 2) := by decide +kernel
theorem dL_law_316 : decode cL_law 316 = .ok (.iload 16, 2) := by decide +kernel
theorem dL_law_318 : decode cL_law 318 = .ok (.ifCond .lt 23, 3) := by decide +kernel
theorem dL_law_321 : decode cL_law 321 = .ok (.iload 16, 2) := by decide +kernel
theorem dL_law_323 : decode cL_law 323 = .ok (.iload 14, 2) := by decide +kernel
theorem dL_law_325 : decode cL_law 325 = .ok (.if_icmp .eq 27, 3) := by decide +kernel
theorem dL_law_328 : decode cL_law 328 = .ok (.aload_n 1, 1) := by decide +kernel
theorem dL_law_329 : decode cL_law 329 = .ok (.iload 16, 2) := by decide +kernel
theorem dL_law_331 : decode cL_law 331 = .ok (.iconst 2, 1) := by decide +kernel
theorem dL_law_332 : decode cL_law 332 = .ok (.invokevirtual 87, 3) := by decide +kernel
theorem dL_law_335 : decode cL_law 335 = .ok (.ifCond .ne 19, 3) := by decide +kernel
theorem dL_law_338 : decode cL_law 338 = .ok (.goto 14, 3) := by decide +kernel
theorem dL_law_341 : decode cL_law 341 = .ok (.aload_n 1, 1) := by decide +kernel
theorem dL_law_342 : decode cL_law 342 = .ok (.iload 14, 2) := by decide +kernel
theorem dL_law_344 : decode cL_law 344 = .ok (.iload 5, 2) := by decide +kernel
theorem dL_law_346 : decode cL_law 346 = .ok (.invokestatic 93, 3) := by decide +kernel
theorem dL_law_349 : decode cL_law 349 = .ok (.ifCond .eq 5, 3) := by decide +kernel
theorem dL_law_352 : decode cL_law 352 = .ok (.iconst 0, 1) := by decide +kernel
theorem dL_law_353 : decode cL_law 353 = .ok (.ireturn, 1) := by decide +kernel
theorem dL_law_354 : decode cL_law 354 = .ok (.iinc 14 1, 3) := by decide +kernel
theorem dL_law_357 : decode cL_law 357 = .ok (.goto (-243), 3) := by decide +kernel
theorem dL_law_360 : decode cL_law 360 = .ok (.iconst 0, 1) := by decide +kernel
theorem dL_law_361 : decode cL_law 361 = .ok (.istore 14, 2) := by decide +kernel
theorem dL_law_363 : decode cL_law 363 = .ok (.iconst 0, 1) := by decide +kernel
theorem dL_law_364 : decode cL_law 364 = .ok (.istore 15, 2) := by decide +kernel
theorem dL_law_366 : decode cL_law 366 = .ok (.iconst 0, 1) := by decide +kernel
theorem dL_law_367 : decode cL_law 367 = .ok (.istore 16, 2) := by decide +kernel
theorem dL_law_369 : decode cL_law 369 = .ok (.iconst 0, 1) := by decide +kernel
theorem dL_law_370 : decode cL_law 370 = .ok (.istore 17, 2) := by decide +kernel
theorem dL_law_372 : decode cL_law 372 = .ok (.iconst 0, 1) := by decide +kernel
theorem dL_law_373 : decode cL_law 373 = .ok (.istore 18, 2) := by decide +kernel
theorem dL_law_375 : decode cL_law 375 = .ok (.iconst 0, 1) := by decide +kernel
theorem dL_law_376 : decode cL_law 376 = .ok (.istore 19, 2) := by decide +kernel
theorem dL_law_378 : decode cL_law 378 = .ok (.iload 19, 2) := by decide +kernel
theorem dL_law_380 : decode cL_law 380 = .ok (.iload 6, 2) := by decide +kernel
theorem dL_law_382 : decode cL_law 382 = .ok (.if_icmp .ge 234, 3) := by decide +kernel
theorem dL_law_385 : decode cL_law 385 = .ok (.aload_n 1, 1) := by decide +kernel
theorem dL_law_386 : decode cL_law 386 = .ok (.iload 19, 2) := by decide +kernel
theorem dL_law_388 : decode cL_law 388 = .ok (.iconst 1, 1) := by decide +kernel
theorem dL_law_389 : decode cL_law 389 = .ok (.invokevirtual 97, 3) := by decide +kernel
theorem dL_law_392 : decode cL_law 392 = .ok (.istore 20, 2) := by decide +kernel
theorem dL_law_394 : decode cL_law 394 = .ok (.aload_n 1, 1) := by decide +kernel
theorem dL_law_395 : decode cL_law 395 = .ok (.iload 19, 2) := by decide +kernel
theorem dL_law_397 : decode cL_law 397 = .ok (.bipush 6, 2) := by decide +kernel
theorem dL_law_399 : decode cL_law 399 = .ok (.invokevirtual 97, 3) := by decide +kernel
theorem dL_law_402 : decode cL_law 402 = .ok (.istore 21, 2) := by decide +kernel
theorem dL_law_404 : decode cL_law 404 = .ok (.iload 14, 2) := by decide +kernel
theorem dL_law_406 : decode cL_law 406 = .ok (.aload_n 1, 1) := by decide +kernel
theorem dL_law_407 : decode cL_law 407 = .ok (.iload 19, 2) := by decide +kernel
theorem dL_law_409 : decode cL_law 409 = .ok (.iconst 2, 1) := by decide +kernel
theorem dL_law_410 : decode cL_law 410 = .ok (.invokevirtual 97, 3) := by decide +kernel
theorem dL_law_413 : decode cL_law 413 = .ok (.iadd, 1) := by decide +kernel
theorem dL_law_414 : decode cL_law 414 = .ok (.istore 14, 2) := by decide +kernel
theorem dL_law_416 : decode cL_law 416 = .ok (.iload 15, 2) := by decide +kernel
theorem dL_law_418 : decode cL_law 418 = .ok (.aload_n 1, 1) := by decide +kernel
theorem dL_law_419 : decode cL_law 419 = .ok (.iload 19, 2) := by decide +kernel
theorem dL_law_421 : decode cL_law 421 = .ok (.iconst 3, 1) := by decide +kernel
theorem dL_law_422 : decode cL_law 422 = .ok (.invokevirtual 97, 3) := by decide +kernel
theorem dL_law_425 : decode cL_law 425 = .ok (.iadd, 1) := by decide +kernel
theorem dL_law_426 : decode cL_law 426 = .ok (.istore 15, 2) := by decide +kernel
theorem dL_law_428 : decode cL_law 428 = .ok (.iload 16, 2) := by decide +kernel
theorem dL_law_430 : decode cL_law 430 = .ok (.iload 21, 2) := by decide +kernel
theorem dL_law_432 : decode cL_law 432 = .ok (.iadd, 1) := by decide +kernel
theorem dL_law_433 : decode cL_law 433 = .ok (.istore 16, 2) := by decide +kernel
theorem dL_law_435 : decode cL_law 435 = .ok (.iload 17, 2) := by decide +kernel
theorem dL_law_437 : decode cL_law 437 = .ok (.iload 20, 2) := by decide +kernel
theorem dL_law_439 : decode cL_law 439 = .ok (.iconst 2, 1) := by decide +kernel
theorem dL_law_440 : decode cL_law 440 = .ok (.if_icmp .ne 7, 3) := by decide +kernel
theorem dL_law_443 : decode cL_law 443 = .ok (.iconst 1, 1) := by decide +kernel
theorem dL_law_444 : decode cL_law 444 = .ok (.goto 4, 3) := by decide +kernel
theorem dL_law_447 : decode cL_law 447 = .ok (.iconst 0, 1) := by decide +kernel
theorem dL_law_448 : decode cL_law 448 = .ok (.iadd, 1) := by decide +kernel
theorem dL_law_449 : decode cL_law 449 = .ok (.istore 17, 2) := by decide +kernel
theorem dL_law_451 : decode cL_law 451 = .ok (.iload 18, 2) := by decide +kernel
theorem dL_law_453 : decode cL_law 453 = .ok (.iload 20, 2) := by decide +kernel
theorem dL_law_455 : decode cL_law 455 = .ok (.ifCond .ne 7, 3) := by decide +kernel
theorem dL_law_458 : decode cL_law 458 = .ok (.iconst 1, 1) := by decide +kernel
theorem dL_law_459 : decode cL_law 459 = .ok (.goto 4, 3) := by decide +kernel
theorem dL_law_462 : decode cL_law 462 = .ok (.iconst 0, 1) := by decide +kernel
theorem dL_law_463 : decode cL_law 463 = .ok (.iadd, 1) := by decide +kernel
theorem dL_law_464 : decode cL_law 464 = .ok (.istore 18, 2) := by decide +kernel
theorem dL_law_466 : decode cL_law 466 = .ok (.iload 20, 2) := by decide +kernel
theorem dL_law_468 : decode cL_law 468 = .ok (.ifCond .lt 140, 3) := by decide +kernel
theorem dL_law_471 : decode cL_law 471 = .ok (.iload 20, 2) := by decide +kernel
theorem dL_law_473 : decode cL_law 473 = .ok (.iconst 2, 1) := by decide +kernel
theorem dL_law_474 : decode cL_law 474 = .ok (.if_icmp .gt 134, 3) := by decide +kernel
theorem dL_law_477 : decode cL_law 477 = .ok (.iload 21, 2) := by decide +kernel
theorem dL_law_479 : decode cL_law 479 = .ok (.aload_n 1, 1) := by decide +kernel
theorem dL_law_480 : decode cL_law 480 = .ok (.iload 19, 2) := by decide +kernel
theorem dL_law_482 : decode cL_law 482 = .ok (.iconst 0, 1) := by decide +kernel
theorem dL_law_483 : decode cL_law 483 = .ok (.invokevirtual 97, 3) := by decide +kernel
theorem dL_law_486 : decode cL_law 486 = .ok (.if_icmp .gt 122, 3) := by decide +kernel
theorem dL_law_489 : decode cL_law 489 = .ok (.iload 20, 2) := by decide +kernel
theorem dL_law_491 : decode cL_law 491 = .ok (.ifCond .ne 19, 3) := by decide +kernel
theorem dL_law_494 : decode cL_law 494 = .ok (.iload 21, 2) := by decide +kernel
theorem dL_law_496 : decode cL_law 496 = .ok (.ifCond .ne 112, 3) := by decide +kernel
theorem dL_law_499 : decode cL_law 499 = .ok (.aload_n 1, 1) := by decide +kernel
theorem dL_law_500 : decode cL_law 500 = .ok (.iload 19, 2) := by decide +kernel
theorem dL_law_502 : decode cL_law 502 = .ok (.iconst 2, 1) := by decide +kernel
theorem dL_law_503 : decode cL_law 503 = .ok (.invokevirtual 97, 3) := by decide +kernel
theorem dL_law_506 : decode cL_law 506 = .ok (.iconst 1, 1) := by decide +kernel
theorem dL_law_507 : decode cL_law 507 = .ok (.if_icmp .ne 101, 3) := by decide +kernel
theorem dL_law_510 : decode cL_law 510 = .ok (.iload 20, 2) := by decide +kernel
theorem dL_law_512 : decode cL_law 512 = .ok (.iconst 2, 1) := by decide +kernel
theorem dL_law_513 : decode cL_law 513 = .ok (.if_icmp .ne 15, 3) := by decide +kernel
theorem dL_law_516 : decode cL_law 516 = .ok (.iload 21, 2) := by decide +kernel
theorem dL_law_518 : decode cL_law 518 = .ok (.aload_n 1, 1) := by decide +kernel
theorem dL_law_519 : decode cL_law 519 = .ok (.iload 19, 2) := by decide +kernel
theorem dL_law_521 : decode cL_law 521 = .ok (.iconst 0, 1) := by decide +kernel
theorem dL_law_522 : decode cL_law 522 = .ok (.invokevirtual 97, 3) := by decide +kernel
theorem dL_law_525 : decode cL_law 525 = .ok (.if_icmp .ne 83, 3) := by decide +kernel
theorem dL_law_528 : decode cL_law 528 = .ok (.aload_n 1, 1) := by decide +kernel
theorem dL_law_529 : decode cL_law 529 = .ok (.iload 19, 2) := by decide +kernel
theorem dL_law_531 : decode cL_law 531 = .ok (.iconst 5, 1) := by decide +kernel
theorem dL_law_532 : decode cL_law 532 = .ok (.invokevirtual 97, 3) := by decide +kernel
theorem dL_law_535 : decode cL_law 535 = .ok (.ifCond .lt 7, 3) := by decide +kernel
theorem dL_law_538 : decode cL_law 538 = .ok (.iconst 1, 1) := by decide +kernel
theorem dL_law_539 : decode cL_law 539 = .ok (.goto 4, 3) := by decide +kernel
theorem dL_law_542 : decode cL_law 542 = .ok (.iconst 0, 1) := by decide +kernel
theorem dL_law_543 : decode cL_law 543 = .ok (.iload 20, 2) := by decide +kernel
theorem dL_law_545 : decode cL_law 545 = .ok (.iconst 2, 1) := by decide +kernel
theorem dL_law_546 : decode cL_law 546 = .ok (.if_icmp .ne 7, 3) := by decide +kernel
theorem dL_law_549 : decode cL_law 549 = .ok (.iconst 1, 1) := by decide +kernel
theorem dL_law_550 : decode cL_law 550 = .ok (.goto 4, 3) := by decide +kernel
theorem dL_law_553 : decode cL_law 553 = .ok (.iconst 0, 1) := by decide +kernel
theorem dL_law_554 : decode cL_law 554 = .ok (.if_icmp .ne 54, 3) := by decide +kernel
theorem dL_law_557 : decode cL_law 557 = .ok (.iload 20, 2) := by decide +kernel
theorem dL_law_559 : decode cL_law 559 = .ok (.iconst 2, 1) := by decide +kernel
theorem dL_law_560 : decode cL_law 560 = .ok (.if_icmp .ne 35, 3) := by decide +kernel
theorem dL_law_563 : decode cL_law 563 = .ok (.aload_n 1, 1) := by decide +kernel
theorem dL_law_564 : decode cL_law 564 = .ok (.iload 19, 2) := by decide +kernel
theorem dL_law_566 : decode cL_law 566 = .ok (.iconst 5, 1) := by decide +kernel
theorem dL_law_567 : decode cL_law 567 = .ok (.invokevirtual 97, 3) := by decide +kernel
theorem dL_law_570 : decode cL_law 570 = .ok (.aload_n 1, 1) := by decide +kernel
theorem dL_law_571 : decode cL_law 571 = .ok (.iload 19, 2) := by decide +kernel
theorem dL_law_573 : decode cL_law 573 = .ok (.iconst 4, 1) := by decide +kernel
theorem dL_law_574 : decode cL_law 574 = .ok (.invokevirtual 97, 3) := by decide +kernel
theorem dL_law_577 : decode cL_law 577 = .ok (.if_icmp .le 31, 3) := by decide +kernel
theorem dL_law_580 : decode cL_law 580 = .ok (.aload_n 1, 1) := by decide +kernel
theorem dL_law_581 : decode cL_law 581 = .ok (.iload 19, 2) := by decide +kernel
theorem dL_law_583 : decode cL_law 583 = .ok (.iconst 5, 1) := by decide +kernel
theorem dL_law_584 : decode cL_law 584 = .ok (.invokevirtual 97, 3) := by decide +kernel
theorem dL_law_587 : decode cL_law 587 = .ok (.aload_n 1, 1) := by decide +kernel
theorem dL_law_588 : decode cL_law 588 = .ok (.iconst 0, 1) := by decide +kernel
theorem dL_law_589 : decode cL_law 589 = .ok (.invokevirtual 84, 3) := by decide +kernel
theorem dL_law_592 : decode cL_law 592 = .ok (.if_icmp .ge 16, 3) := by decide +kernel
theorem dL_law_595 : decode cL_law 595 = .ok (.aload_n 1, 1) := by decide +kernel
theorem dL_law_596 : decode cL_law 596 = .ok (.iload 19, 2) := by decide +kernel
theorem dL_law_598 : decode cL_law 598 = .ok (.iconst 2, 1) := by decide +kernel
theorem dL_law_599 : decode cL_law 599 = .ok (.invokevirtual 97, 3) := by decide +kernel
theorem dL_law_602 : decode cL_law 602 = .ok (.iconst 2, 1) := by decide +kernel
theorem dL_law_603 : decode cL_law 603 = .ok (.irem, 1) := by decide +kernel
theorem dL_law_604 : decode cL_law 604 = .ok (.iconst 1, 1) := by decide +kernel
theorem dL_law_605 : decode cL_law 605 = .ok (.if_icmp .eq 5, 3) := by decide +kernel
theorem dL_law_608 : decode cL_law 608 = .ok (.iconst 0, 1) := by decide +kernel
theorem dL_law_609 : decode cL_law 609 = .ok (.ireturn, 1) := by decide +kernel
theorem dL_law_610 : decode cL_law 610 = .ok (.iinc 19 1, 3) := by decide +kernel
theorem dL_law_613 : decode cL_law 613 = .ok (.goto (-235), 3) := by decide +kernel
theorem dL_law_616 : decode cL_law 616 = .ok (.iload 14, 2) := by decide +kernel
theorem dL_law_618 : decode cL_law 618 = .ok (.iload 6, 2) := by decide +kernel
theorem dL_law_620 : decode cL_law 620 = .ok (.iconst 2, 1) := by decide +kernel
theorem dL_law_621 : decode cL_law 621 = .ok (.aload_n 1, 1) := by decide +kernel
theorem dL_law_622 : decode cL_law 622 = .ok (.bipush 8, 2) := by decide +kernel
theorem dL_law_624 : decode cL_law 624 = .ok (.invokevirtual 84, 3) := by decide +kernel
theorem dL_law_627 : decode cL_law 627 = .ok (.imul, 1) := by decide +kernel
theorem dL_law_628 : decode cL_law 628 = .ok (.iadd, 1) := by decide +kernel
theorem dL_law_629 : decode cL_law 629 = .ok (.if_icmp .ne 152, 3) := by decide +kernel
theorem dL_law_632 : decode cL_law 632 = .ok (.aload_n 1, 1) := by decide +kernel
theorem dL_law_633 : decode cL_law 633 = .ok (.bipush 9, 2) := by decide +kernel
theorem dL_law_635 : decode cL_law 635 = .ok (.invokevirtual 84, 3) := by decide +kernel
theorem dL_law_638 : decode cL_law 638 = .ok (.aload_n 1, 1) := by decide +kernel
theorem dL_law_639 : decode cL_law 639 = .ok (.bipush 8, 2) := by decide +kernel
theorem dL_law_641 : decode cL_law 641 = .ok (.invokevirtual 84, 3) := by decide +kernel
theorem dL_law_644 : decode cL_law 644 = .ok (.if_icmp .gt 137, 3) := by decide +kernel
theorem dL_law_647 : decode cL_law 647 = .ok (.iload 17, 2) := by decide +kernel
theorem dL_law_649 : decode cL_law 649 = .ok (.iload 6, 2) := by decide +kernel
theorem dL_law_651 : decode cL_law 651 = .ok (.if_icmp .ne 18, 3) := by decide +kernel
theorem dL_law_654 : decode cL_law 654 = .ok (.aload_n 1, 1) := by decide +kernel
theorem dL_law_655 : decode cL_law 655 = .ok (.bipush 9, 2) := by decide +kernel
theorem dL_law_657 : decode cL_law 657 = .ok (.invokevirtual 84, 3) := by decide +kernel
theorem dL_law_660 : decode cL_law 660 = .ok (.aload_n 1, 1) := by decide +kernel
theorem dL_law_661 : decode cL_law 661 = .ok (.bipush 8, 2) := by decide +kernel
theorem dL_law_663 : decode cL_law 663 = .ok (.invokevirtual 84, 3) := by decide +kernel
theorem dL_law_666 : decode cL_law 666 = .ok (.if_icmp .ne 115, 3) := by decide +kernel
theorem dL_law_669 : decode cL_law 669 = .ok (.iload 7, 2) := by decide +kernel
theorem dL_law_671 : decode cL_law 671 = .ok (.aload_n 1, 1) := by decide +kernel
theorem dL_law_672 : decode cL_law 672 = .ok (.bipush 7, 2) := by decide +kernel
theorem dL_law_674 : decode cL_law 674 = .ok (.invokevirtual 84, 3) := by decide +kernel
theorem dL_law_677 : decode cL_law 677 = .ok (.if_icmp .ne 104, 3) := by decide +kernel
theorem dL_law_680 : decode cL_law 680 = .ok (.iload 8, 2) := by decide +kernel
theorem dL_law_682 : decode cL_law 682 = .ok (.iload 7, 2) := by decide +kernel
theorem dL_law_684 : decode cL_law 684 = .ok (.if_icmp .ne 97, 3) := by decide +kernel
theorem dL_law_687 : decode cL_law 687 = .ok (.iload 15, 2) := by decide +kernel
theorem dL_law_689 : decode cL_law 689 = .ok (.iload 7, 2) := by decide +kernel
theorem dL_law_691 : decode cL_law 691 = .ok (.if_icmp .ne 90, 3) := by decide +kernel
theorem dL_law_694 : decode cL_law 694 = .ok (.iload 16, 2) := by decide +kernel
theorem dL_law_696 : decode cL_law 696 = .ok (.aload_n 1, 1) := by decide +kernel
theorem dL_law_697 : decode cL_law 697 = .ok (.bipush 11, 2) := by decide +kernel
theorem dL_law_699 : decode cL_law 699 = .ok (.invokevirtual 84, 3) := by decide +kernel
theorem dL_law_702 : decode cL_law 702 = .ok (.if_icmp .ne 79, 3) := by decide +kernel
theorem dL_law_705 : decode cL_law 705 = .ok (.iload 17, 2) := by decide +kernel
theorem dL_law_707 : decode cL_law 707 = .ok (.aload_n 1, 1) := by decide +kernel
theorem dL_law_708 : decode cL_law 708 = .ok (.iconst 3, 1) := by decide +kernel
theorem dL_law_709 : decode cL_law 709 = .ok (.invokevirtual 84, 3) := by decide +kernel
theorem dL_law_712 : decode cL_law 712 = .ok (.if_icmp .ne 69, 3) := by decide +kernel
theorem dL_law_715 : decode cL_law 715 = .ok (.iload 18, 2) := by decide +kernel
theorem dL_law_717 : decode cL_law 717 = .ok (.aload_n 1, 1) := by decide +kernel
theorem dL_law_718 : decode cL_law 718 = .ok (.iconst 4, 1) := by decide +kernel
theorem dL_law_719 : decode cL_law 719 = .ok (.invokevirtual 84, 3) := by decide +kernel
theorem dL_law_722 : decode cL_law 722 = .ok (.if_icmp .ne 59, 3) := by decide +kernel
theorem dL_law_725 : decode cL_law 725 = .ok (.iload 10, 2) := by decide +kernel
theorem dL_law_727 : decode cL_law 727 = .ok (.aload_n 1, 1) := by decide +kernel
theorem dL_law_728 : decode cL_law 728 = .ok (.iconst 5, 1) := by decide +kernel
theorem dL_law_729 : decode cL_law 729 = .ok (.invokevirtual 84, 3) := by decide +kernel
theorem dL_law_732 : decode cL_law 732 = .ok (.if_icmp .ne 49, 3) := by decide +kernel
theorem dL_law_735 : decode cL_law 735 = .ok (.iload 12, 2) := by decide +kernel
theorem dL_law_737 : decode cL_law 737 = .ok (.aload_n 1, 1) := by decide +kernel
theorem dL_law_738 : decode cL_law 738 = .ok (.bipush 6, 2) := by decide +kernel
theorem dL_law_740 : decode cL_law 740 = .ok (.invokevirtual 84, 3) := by decide +kernel
theorem dL_law_743 : decode cL_law 743 = .ok (.if_icmp .ne 38, 3) := by decide +kernel
theorem dL_law_746 : decode cL_law 746 = .ok (.iload 11, 2) := by decide +kernel
theorem dL_law_748 : decode cL_law 748 = .ok (.aload_n 1, 1) := by decide +kernel
theorem dL_law_749 : decode cL_law 749 = .ok (.bipush 10, 2) := by decide +kernel
theorem dL_law_751 : decode cL_law 751 = .ok (.invokevirtual 84, 3) := by decide +kernel
theorem dL_law_754 : decode cL_law 754 = .ok (.if_icmp .ne 27, 3) := by decide +kernel
theorem dL_law_757 : decode cL_law 757 = .ok (.aload_n 1, 1) := by decide +kernel
theorem dL_law_758 : decode cL_law 758 = .ok (.invokevirtual 100, 3) := by decide +kernel
theorem dL_law_761 : decode cL_law 761 = .ok (.iload 5, 2) := by decide +kernel
theorem dL_law_763 : decode cL_law 763 = .ok (.ifCond .ne 7, 3) := by decide +kernel
theorem dL_law_766 : decode cL_law 766 = .ok (.dconst 0, 1) := by decide +kernel
theorem dL_law_767 : decode cL_law 767 = .ok (.goto 10, 3) := by decide +kernel
theorem dL_law_770 : decode cL_law 770 = .ok (.iload 11, 2) := by decide +kernel
theorem dL_law_772 : decode cL_law 772 = .ok (.i2d, 1) := by decide +kernel
theorem dL_law_773 : decode cL_law 773 = .ok (.iload 5, 2) := by decide +kernel
theorem dL_law_775 : decode cL_law 775 = .ok (.i2d, 1) := by decide +kernel
theorem dL_law_776 : decode cL_law 776 = .ok (.ddiv, 1) := by decide +kernel
theorem dL_law_777 : decode cL_law 777 = .ok (.dcmp .l, 1) := by decide +kernel
theorem dL_law_778 : decode cL_law 778 = .ok (.ifCond .eq 5, 3) := by decide +kernel
theorem dL_law_781 : decode cL_law 781 = .ok (.iconst 0, 1) := by decide +kernel
theorem dL_law_782 : decode cL_law 782 = .ok (.ireturn, 1) := by decide +kernel
theorem dL_law_783 : decode cL_law 783 = .ok (.aload_n 1, 1) := by decide +kernel
theorem dL_law_784 : decode cL_law 784 = .ok (.invokevirtual 104, 3) := by decide +kernel
theorem dL_law_787 : decode cL_law 787 = .ok (.lstore 19, 2) := by decide +kernel
theorem dL_law_789 : decode cL_law 789 = .ok (.bipush 12, 2) := by decide +kernel
theorem dL_law_791 : decode cL_law 791 = .ok (.newarray .int, 2) := by decide +kernel
theorem dL_law_793 : decode cL_law 793 = .ok (.astore 21, 2) := by decide +kernel
theorem dL_law_795 : decode cL_law 795 = .ok (.iconst 3, 1) := by decide +kernel
theorem dL_law_796 : decode cL_law 796 = .ok (.istore 22, 2) := by decide +kernel
theorem dL_law_798 : decode cL_law 798 = .ok (.iload 22, 2) := by decide +kernel
theorem dL_law_800 : decode cL_law 800 = .ok (.bipush 12, 2) := by decide +kernel
theorem dL_law_802 : decode cL_law 802 = .ok (.if_icmp .ge 21, 3) := by decide +kernel
theorem dL_law_805 : decode cL_law 805 = .ok (.aload 21, 2) := by decide +kernel
theorem dL_law_807 : decode cL_law 807 = .ok (.iload 22, 2) := by decide +kernel
theorem dL_law_809 : decode cL_law 809 = .ok (.aload_n 1, 1) := by decide +kernel
theorem dL_law_810 : decode cL_law 810 = .ok (.iconst 1, 1) := by decide +kernel
theorem dL_law_811 : decode cL_law 811 = .ok (.iload 22, 2) := by decide +kernel
theorem dL_law_813 : decode cL_law 813 = .ok (.invokevirtual 108, 3) := by decide +kernel
theorem dL_law_816 : decode cL_law 816 = .ok (.iastore, 1) := by decide +kernel
theorem dL_law_817 : decode cL_law 817 = .ok (.iinc 22 1, 3) := by decide +kernel
theorem dL_law_820 : decode cL_law 820 = .ok (.goto (-22), 3) := by decide +kernel
theorem dL_law_823 : decode cL_law 823 = .ok (.iload 6, 2) := by decide +kernel
theorem dL_law_825 : decode cL_law 825 = .ok (.ifCond .ne 7, 3) := by decide +kernel
theorem dL_law_828 : decode cL_law 828 = .ok (.iconst (-1), 1) := by decide +kernel
theorem dL_law_829 : decode cL_law 829 = .ok (.goto 12, 3) := by decide +kernel
theorem dL_law_832 : decode cL_law 832 = .ok (.iload 4, 2) := by decide +kernel
theorem dL_law_834 : decode cL_law 834 = .ok (.iconst 4, 1) := by decide +kernel
theorem dL_law_835 : decode cL_law 835 = .ok (.ishr, 1) := by decide +kernel
theorem dL_law_836 : decode cL_law 836 = .ok (.iload 6, 2) := by decide +kernel
theorem dL_law_838 : decode cL_law 838 = .ok (.invokestatic 15, 3) := by decide +kernel
theorem dL_law_841 : decode cL_law 841 = .ok (.istore 22, 2) := by decide +kernel
theorem dL_law_843 : decode cL_law 843 = .ok (.iload 22, 2) := by decide +kernel
theorem dL_law_845 : decode cL_law 845 = .ok (.ifCond .ge 7, 3) := by decide +kernel
theorem dL_law_848 : decode cL_law 848 = .ok (.iconst (-1), 1) := by decide +kernel
theorem dL_law_849 : decode cL_law 849 = .ok (.goto 9, 3) := by decide +kernel
theorem dL_law_852 : decode cL_law 852 = .ok (.aload_n 1, 1) := by decide +kernel
theorem dL_law_853 : decode cL_law 853 = .ok (.iload 22, 2) := by decide +kernel
theorem dL_law_855 : decode cL_law 855 = .ok (.invokevirtual 111, 3) := by decide +kernel
theorem dL_law_858 : decode cL_law 858 = .ok (.istore 23, 2) := by decide +kernel
theorem dL_law_860 : decode cL_law 860 = .ok (.iload_n 3, 1) := by decide +kernel
theorem dL_law_861 : decode cL_law 861 = .ok (.bipush 6, 2) := by decide +kernel
theorem dL_law_863 : decode cL_law 863 = .ok (.irem, 1) := by decide +kernel
theorem dL_law_864 : decode cL_law 864 = .ok (.ifCond .ne 22, 3) := by decide +kernel
theorem dL_law_867 : decode cL_law 867 = .ok (.aload_n 1, 1) := by decide +kernel
theorem dL_law_868 : decode cL_law 868 = .ok (.iconst 1, 1) := by decide +kernel
theorem dL_law_869 : decode cL_law 869 = .ok (.iload 4, 2) := by decide +kernel
theorem dL_law_871 : decode cL_law 871 = .ok (.bipush 6, 2) := by decide +kernel
theorem dL_law_873 : decode cL_law 873 = .ok (.ishr, 1) := by decide +kernel
theorem dL_law_874 : decode cL_law 874 = .ok (.bipush 12, 2) := by decide +kernel
theorem dL_law_876 : decode cL_law 876 = .ok (.invokestatic 15, 3) := by decide +kernel
theorem dL_law_879 : decode cL_law 879 = .ok (.iadd, 1) := by decide +kernel
theorem dL_law_880 : decode cL_law 880 = .ok (.invokevirtual 114, 3) := by decide +kernel
theorem dL_law_883 : decode cL_law 883 = .ok (.goto 4, 3) := by decide +kernel
theorem dL_law_886 : decode cL_law 886 = .ok (.iconst 4, 1) := by decide +kernel
theorem dL_law_887 : decode cL_law 887 = .ok (.istore 24, 2) := by decide +kernel
theorem dL_law_889 : decode cL_law 889 = .ok (.aload_n 1, 1) := by decide +kernel
theorem dL_law_890 : decode cL_law 890 = .ok (.invokevirtual 104, 3) := by decide +kernel
theorem dL_law_893 : decode cL_law 893 = .ok (.lload 19, 2) := by decide +kernel
theorem dL_law_895 : decode cL_law 895 = .ok (.lcmp, 1) := by decide +kernel
theorem dL_law_896 : decode cL_law 896 = .ok (.ifCond .ne 71, 3) := by decide +kernel
theorem dL_law_899 : decode cL_law 899 = .ok (.iload 24, 2) := by decide +kernel
theorem dL_law_901 : decode cL_law 901 = .ok (.iconst 4, 1) := by decide +kernel
theorem dL_law_902 : decode cL_law 902 = .ok (.if_icmp .eq 31, 3) := by decide +kernel
theorem dL_law_905 : decode cL_law 905 = .ok (.iload 24, 2) := by decide +kernel
theorem dL_law_907 : decode cL_law 907 = .ok (.bipush 8, 2) := by decide +kernel
theorem dL_law_909 : decode cL_law 909 = .ok (.if_icmp .eq 24, 3) := by decide +kernel
theorem dL_law_912 : decode cL_law 912 = .ok (.iload 24, 2) := by decide +kernel
theorem dL_law_914 : decode cL_law 914 = .ok (.bipush 16, 2) := by decide +kernel
theorem dL_law_916 : decode cL_law 916 = .ok (.if_icmp .eq 17, 3) := by decide +kernel
theorem dL_law_919 : decode cL_law 919 = .ok (.iload 24, 2) := by decide +kernel
theorem dL_law_921 : decode cL_law 921 = .ok (.bipush 32, 2) := by decide +kernel
theorem dL_law_923 : decode cL_law 923 = .ok (.if_icmp .eq 10, 3) := by decide +kernel
theorem dL_law_926 : decode cL_law 926 = .ok (.iload 24, 2) := by decide +kernel
theorem dL_law_928 : decode cL_law 928 = .ok (.bipush 60, 2) := by decide +kernel
theorem dL_law_930 : decode cL_law 930 = .ok (.if_icmp .ne 37, 3) := by decide +kernel
theorem dL_law_933 : decode cL_law 933 = .ok (.iload 22, 2) := by decide +kernel
theorem dL_law_935 : decode cL_law 935 = .ok (.ifCond .lt 34, 3) := by decide +kernel
theorem dL_law_938 : decode cL_law 938 = .ok (.iload 23, 2) := by decide +kernel
theorem dL_law_940 : decode cL_law 940 = .ok (.ifCond .ne 7, 3) := by decide +kernel
theorem dL_law_943 : decode cL_law 943 = .ok (.iconst 1, 1) := by decide +kernel
theorem dL_law_944 : decode cL_law 944 = .ok (.goto 4, 3) := by decide +kernel
theorem dL_law_947 : decode cL_law 947 = .ok (.iconst 0, 1) := by decide +kernel
theorem dL_law_948 : decode cL_law 948 = .ok (.aload_n 1, 1) := by decide +kernel
theorem dL_law_949 : decode cL_law 949 = .ok (.iload 22, 2) := by decide +kernel
theorem dL_law_951 : decode cL_law 951 = .ok (.iconst 1, 1) := by decide +kernel
theorem dL_law_952 : decode cL_law 952 = .ok (.invokevirtual 97, 3) := by decide +kernel
theorem dL_law_955 : decode cL_law 955 = .ok (.iconst 2, 1) := by decide +kernel
theorem dL_law_956 : decode cL_law 956 = .ok (.if_icmp .ne 7, 3) := by decide +kernel
theorem dL_law_959 : decode cL_law 959 = .ok (.iconst 1, 1) := by decide +kernel
theorem dL_law_960 : decode cL_law 960 = .ok (.goto 4, 3) := by decide +kernel
theorem dL_law_963 : decode cL_law 963 = .ok (.iconst 0, 1) := by decide +kernel
theorem dL_law_964 : decode cL_law 964 = .ok (.if_icmp .eq 5, 3) := by decide +kernel
theorem dL_law_967 : decode cL_law 967 = .ok (.iconst 0, 1) := by decide +kernel
theorem dL_law_968 : decode cL_law 968 = .ok (.ireturn, 1) := by decide +kernel
theorem dL_law_969 : decode cL_law 969 = .ok (.aload_n 1, 1) := by decide +kernel
theorem dL_law_970 : decode cL_law 970 = .ok (.iconst 1, 1) := by decide +kernel
theorem dL_law_971 : decode cL_law 971 = .ok (.invokevirtual 73, 3) := by decide +kernel
theorem dL_law_974 : decode cL_law 974 = .ok (.aload 21, 2) := by decide +kernel
theorem dL_law_976 : decode cL_law 976 = .ok (.iconst 3, 1) := by decide +kernel
theorem dL_law_977 : decode cL_law 977 = .ok (.iaload, 1) := by decide +kernel
theorem dL_law_978 : decode cL_law 978 = .ok (.iload 17, 2) := by decide +kernel
theorem dL_law_980 : decode cL_law 980 = .ok (.isub, 1) := by decide +kernel
theorem dL_law_981 : decode cL_law 981 = .ok (.if_icmp .ne 32, 3) := by decide +kernel
theorem dL_law_984 : decode cL_law 984 = .ok (.aload_n 2, 1) := by decide +kernel
theorem dL_law_985 : decode cL_law 985 = .ok (.iconst 1, 1) := by decide +kernel
theorem dL_law_986 : decode cL_law 986 = .ok (.invokevirtual 76, 3) := by decide +kernel
theorem dL_law_989 : decode cL_law 989 = .ok (.aload 21, 2) := by decide +kernel
theorem dL_law_991 : decode cL_law 991 = .ok (.iconst 3, 1) := by decide +kernel
theorem dL_law_992 : decode cL_law 992 = .ok (.iaload, 1) := by decide +kernel
theorem dL_law_993 : decode cL_law 993 = .ok (.iload 17, 2) := by decide +kernel
theorem dL_law_995 : decode cL_law 995 = .ok (.isub, 1) := by decide +kernel
theorem dL_law_996 : decode cL_law 996 = .ok (.if_icmp .ne 17, 3) := by decide +kernel
theorem dL_law_999 : decode cL_law 999 = .ok (.aload_n 1, 1) := by decide +kernel
theorem dL_law_1000 : decode cL_law 1000 = .ok (.bipush 11, 2) := by decide +kernel
theorem dL_law_1002 : decode cL_law 1002 = .ok (.invokevirtual 84, 3) := by decide +kernel
theorem dL_law_1005 : decode cL_law 1005 = .ok (.iload 16, 2) := by decide +kernel
theorem dL_law_1007 : decode cL_law 1007 = .ok (.isub, 1) := by decide +kernel
theorem dL_law_1008 : decode cL_law 1008 = .ok (.iload 9, 2) := by decide +kernel
theorem dL_law_1010 : decode cL_law 1010 = .ok (.if_icmp .le 5, 3) := by decide +kernel
theorem dL_law_1013 : decode cL_law 1013 = .ok (.iconst 0, 1) := by decide +kernel
theorem dL_law_1014 : decode cL_law 1014 = .ok (.ireturn, 1) := by decide +kernel
theorem dL_law_1015 : decode cL_law 1015 = .ok (.iconst 3, 1) := by decide +kernel
theorem dL_law_1016 : decode cL_law 1016 = .ok (.istore 25, 2) := by decide +kernel
theorem dL_law_1018 : decode cL_law 1018 = .ok (.iload 25, 2) := by decide +kernel
theorem dL_law_1020 : decode cL_law 1020 = .ok (.bipush 12, 2) := by decide +kernel
theorem dL_law_1022 : decode cL_law 1022 = .ok (.if_icmp .ge 25, 3) := by decide +kernel
theorem dL_law_1025 : decode cL_law 1025 = .ok (.aload_n 1, 1) := by decide +kernel
theorem dL_law_1026 : decode cL_law 1026 = .ok (.iload 25, 2) := by decide +kernel
theorem dL_law_1028 : decode cL_law 1028 = .ok (.invokevirtual 84, 3) := by decide +kernel
theorem dL_law_1031 : decode cL_law 1031 = .ok (.aload 21, 2) := by decide +kernel
theorem dL_law_1033 : decode cL_law 1033 = .ok (.iload 25, 2) := by decide +kernel
theorem dL_law_1035 : decode cL_law 1035 = .ok (.iaload, 1) := by decide +kernel
theorem dL_law_1036 : decode cL_law 1036 = .ok (.if_icmp .eq 5, 3) := by decide +kernel
theorem dL_law_1039 : decode cL_law 1039 = .ok (.iconst 0, 1) := by decide +kernel
theorem dL_law_1040 : decode cL_law 1040 = .ok (.ireturn, 1) := by decide +kernel
theorem dL_law_1041 : decode cL_law 1041 = .ok (.iinc 25 1, 3) := by decide +kernel
theorem dL_law_1044 : decode cL_law 1044 = .ok (.goto (-26), 3) := by decide +kernel
theorem dL_law_1047 : decode cL_law 1047 = .ok (.iload 23, 2) := by decide +kernel
theorem dL_law_1049 : decode cL_law 1049 = .ok (.ifCond .le 16, 3) := by decide +kernel
theorem dL_law_1052 : decode cL_law 1052 = .ok (.aload_n 1, 1) := by decide +kernel
theorem dL_law_1053 : decode cL_law 1053 = .ok (.iload 22, 2) := by decide +kernel
theorem dL_law_1055 : decode cL_law 1055 = .ok (.invokevirtual 111, 3) := by decide +kernel
theorem dL_law_1058 : decode cL_law 1058 = .ok (.iload 23, 2) := by decide +kernel
theorem dL_law_1060 : decode cL_law 1060 = .ok (.iconst 1, 1) := by decide +kernel
theorem dL_law_1061 : decode cL_law 1061 = .ok (.isub, 1) := by decide +kernel
theorem dL_law_1062 : decode cL_law 1062 = .ok (.if_icmp .ne 17, 3) := by decide +kernel
theorem dL_law_1065 : decode cL_law 1065 = .ok (.aload_n 1, 1) := by decide +kernel
theorem dL_law_1066 : decode cL_law 1066 = .ok (.bipush 10, 2) := by decide +kernel
theorem dL_law_1068 : decode cL_law 1068 = .ok (.invokevirtual 84, 3) := by decide +kernel
theorem dL_law_1071 : decode cL_law 1071 = .ok (.iload 11, 2) := by decide +kernel
theorem dL_law_1073 : decode cL_law 1073 = .ok (.isub, 1) := by decide +kernel
theorem dL_law_1074 : decode cL_law 1074 = .ok (.iload 5, 2) := by decide +kernel
theorem dL_law_1076 : decode cL_law 1076 = .ok (.if_icmp .le 5, 3) := by decide +kernel
theorem dL_law_1079 : decode cL_law 1079 = .ok (.iconst 0, 1) := by decide +kernel
theorem dL_law_1080 : decode cL_law 1080 = .ok (.ireturn, 1) := by decide +kernel
theorem dL_law_1081 : decode cL_law 1081 = .ok (.iconst 0, 1) := by decide +kernel
theorem dL_law_1082 : decode cL_law 1082 = .ok (.istore 25, 2) := by decide +kernel
theorem dL_law_1084 : decode cL_law 1084 = .ok (.iload 25, 2) := by decide +kernel
theorem dL_law_1086 : decode cL_law 1086 = .ok (.iload 5, 2) := by decide +kernel
theorem dL_law_1088 : decode cL_law 1088 = .ok (.if_icmp .ge 66, 3) := by decide +kernel
theorem dL_law_1091 : decode cL_law 1091 = .ok (.aload_n 1, 1) := by decide +kernel
theorem dL_law_1092 : decode cL_law 1092 = .ok (.iload 25, 2) := by decide +kernel
theorem dL_law_1094 : decode cL_law 1094 = .ok (.bipush 7, 2) := by decide +kernel
theorem dL_law_1096 : decode cL_law 1096 = .ok (.invokevirtual 87, 3) := by decide +kernel
theorem dL_law_1099 : decode cL_law 1099 = .ok (.aload 13, 2) := by decide +kernel
theorem dL_law_1101 : decode cL_law 1101 = .ok (.iload 25, 2) := by decide +kernel
theorem dL_law_1103 : decode cL_law 1103 = .ok (.iaload, 1) := by decide +kernel
theorem dL_law_1104 : decode cL_law 1104 = .ok (.isub, 1) := by decide +kernel
theorem dL_law_1105 : decode cL_law 1105 = .ok (.istore 26, 2) := by decide +kernel
theorem dL_law_1107 : decode cL_law 1107 = .ok (.iload 26, 2) := by decide +kernel
theorem dL_law_1109 : decode cL_law 1109 = .ok (.ifCond .lt 37, 3) := by decide +kernel
theorem dL_law_1112 : decode cL_law 1112 = .ok (.iload 26, 2) := by decide +kernel
theorem dL_law_1114 : decode cL_law 1114 = .ok (.iconst 1, 1) := by decide +kernel
theorem dL_law_1115 : decode cL_law 1115 = .ok (.if_icmp .gt 31, 3) := by decide +kernel
theorem dL_law_1118 : decode cL_law 1118 = .ok (.iload 26, 2) := by decide +kernel
theorem dL_law_1120 : decode cL_law 1120 = .ok (.iconst 1, 1) := by decide +kernel
theorem dL_law_1121 : decode cL_law 1121 = .ok (.if_icmp .ne 27, 3) := by decide +kernel
theorem dL_law_1124 : decode cL_law 1124 = .ok (.aload_n 1, 1) := by decide +kernel
theorem dL_law_1125 : decode cL_law 1125 = .ok (.iload 25, 2) := by decide +kernel
theorem dL_law_1127 : decode cL_law 1127 = .ok (.iconst 2, 1) := by decide +kernel
theorem dL_law_1128 : decode cL_law 1128 = .ok (.invokevirtual 87, 3) := by decide +kernel
theorem dL_law_1131 : decode cL_law 1131 = .ok (.ifCond .ne 15, 3) := by decide +kernel
theorem dL_law_1134 : decode cL_law 1134 = .ok (.aload_n 1, 1) := by decide +kernel
theorem dL_law_1135 : decode cL_law 1135 = .ok (.iload 25, 2) := by decide +kernel
theorem dL_law_1137 : decode cL_law 1137 = .ok (.iconst 3, 1) := by decide +kernel
theorem dL_law_1138 : decode cL_law 1138 = .ok (.invokevirtual 87, 3) := by decide +kernel
theorem dL_law_1141 : decode cL_law 1141 = .ok (.iconst 3, 1) := by decide +kernel
theorem dL_law_1142 : decode cL_law 1142 = .ok (.irem, 1) := by decide +kernel
theorem dL_law_1143 : decode cL_law 1143 = .ok (.ifCond .eq 5, 3) := by decide +kernel
theorem dL_law_1146 : decode cL_law 1146 = .ok (.iconst 0, 1) := by decide +kernel
theorem dL_law_1147 : decode cL_law 1147 = .ok (.ireturn, 1) := by decide +kernel
theorem dL_law_1148 : decode cL_law 1148 = .ok (.iinc 25 1, 3) := by decide +kernel
theorem dL_law_1151 : decode cL_law 1151 = .ok (.goto (-67), 3) := by decide +kernel
theorem dL_law_1154 : decode cL_law 1154 = .ok (.iinc 3 1, 3) := by decide +kernel
theorem dL_law_1157 : decode cL_law 1157 = .ok (.goto (-1135), 3) := by decide +kernel
theorem dL_law_1160 : decode cL_law 1160 = .ok (.aload_n 2, 1) := by decide +kernel
theorem dL_law_1161 : decode cL_law 1161 = .ok (.aload_n 1, 1) := by decide +kernel
theorem dL_law_1162 : decode cL_law 1162 = .ok (.invokevirtual 117, 3) := by decide +kernel
theorem dL_law_1165 : decode cL_law 1165 = .ok (.ireturn, 1) := by decide +kernel
theorem dL_inOthers_0 : decode cL_inOthers 0 = .ok (.iconst 0, 1) := by decide +kernel
theorem dL_inOthers_1 : decode cL_inOthers 1 = .ok (.istore_n 3, 1) := by decide +kernel
theorem dL_inOthers_2 : decode cL_inOthers 2 = .ok (.iload_n 3, 1) := by decide +kernel
theorem dL_inOthers_3 : decode cL_inOthers 3 = .ok (.iload_n 2, 1) := by decide +kernel
theorem dL_inOthers_4 : decode cL_inOthers 4 = .ok (.if_icmp .ge 25, 3) := by decide +kernel
theorem dL_inOthers_7 : decode cL_inOthers 7 = .ok (.iload_n 3, 1) := by decide +kernel
theorem dL_inOthers_8 : decode cL_inOthers 8 = .ok (.iload_n 1, 1) := by decide +kernel
theorem dL_inOthers_9 : decode cL_inOthers 9 = .ok (.if_icmp .eq 14, 3) := by decide +kernel
theorem dL_inOthers_12 : decode cL_inOthers 12 = .ok (.aload_n 0, 1) := by decide +kernel
theorem dL_inOthers_13 : decode cL_inOthers 13 = .ok (.iload_n 3, 1) := by decide +kernel
theorem dL_inOthers_14 : decode cL_inOthers 14 = .ok (.iconst 2, 1) := by decide +kernel
theorem dL_inOthers_15 : decode cL_inOthers 15 = .ok (.invokevirtual 87, 3) := by decide +kernel
theorem dL_inOthers_18 : decode cL_inOthers 18 = .ok (.ifCond .le 5, 3) := by decide +kernel
theorem dL_inOthers_21 : decode cL_inOthers 21 = .ok (.iconst 1, 1) := by decide +kernel
theorem dL_inOthers_22 : decode cL_inOthers 22 = .ok (.ireturn, 1) := by decide +kernel
theorem dL_inOthers_23 : decode cL_inOthers 23 = .ok (.iinc 3 1, 3) := by decide +kernel
theorem dL_inOthers_26 : decode cL_inOthers 26 = .ok (.goto (-24), 3) := by decide +kernel
theorem dL_inOthers_29 : decode cL_inOthers 29 = .ok (.iconst 0, 1) := by decide +kernel
theorem dL_inOthers_30 : decode cL_inOthers 30 = .ok (.ireturn, 1) := by decide +kernel
