theorem D0_0 : decode (byt 0) 0 = .ok (.aload_n 0, 1) := by decide +kernel
theorem D0_1 : decode (byt 0) 1 = .ok (.invokespecial 3, 3) := by decide +kernel
theorem D0_4 : decode (byt 0) 4 = .ok (.aload_n 0, 1) := by decide +kernel
theorem D0_5 : decode (byt 0) 5 = .ok (.bipush 40, 2) := by decide +kernel
theorem D0_7 : decode (byt 0) 7 = .ok (.newarray .int, 2) := by decide +kernel
theorem D0_9 : decode (byt 0) 9 = .ok (.putfield 9, 3) := by decide +kernel
theorem D0_12 : decode (byt 0) 12 = .ok (.aload_n 0, 1) := by decide +kernel
theorem D0_13 : decode (byt 0) 13 = .ok (.bipush 24, 2) := by decide +kernel
theorem D0_15 : decode (byt 0) 15 = .ok (.newarray .int, 2) := by decide +kernel
theorem D0_17 : decode (byt 0) 17 = .ok (.putfield 15, 3) := by decide +kernel
theorem D0_20 : decode (byt 0) 20 = .ok (.aload_n 0, 1) := by decide +kernel
theorem D0_21 : decode (byt 0) 21 = .ok (.new 18, 3) := by decide +kernel
theorem D0_24 : decode (byt 0) 24 = .ok (.dup, 1) := by decide +kernel
theorem D0_25 : decode (byt 0) 25 = .ok (.invokespecial 20, 3) := by decide +kernel
theorem D0_28 : decode (byt 0) 28 = .ok (.putfield 21, 3) := by decide +kernel
theorem D0_31 : decode (byt 0) 31 = .ok (.aload_n 0, 1) := by decide +kernel
theorem D0_32 : decode (byt 0) 32 = .ok (.new 25, 3) := by decide +kernel
theorem D0_35 : decode (byt 0) 35 = .ok (.dup, 1) := by decide +kernel
theorem D0_36 : decode (byt 0) 36 = .ok (.invokespecial 27, 3) := by decide +kernel
theorem D0_39 : decode (byt 0) 39 = .ok (.putfield 28, 3) := by decide +kernel
theorem D0_42 : decode (byt 0) 42 = .ok (.aload_n 0, 1) := by decide +kernel
theorem D0_43 : decode (byt 0) 43 = .ok (.iconst 0, 1) := by decide +kernel
theorem D0_44 : decode (byt 0) 44 = .ok (.putfield 32, 3) := by decide +kernel
theorem D0_47 : decode (byt 0) 47 = .ok (.aload_n 0, 1) := by decide +kernel
theorem D0_48 : decode (byt 0) 48 = .ok (.iconst 0, 1) := by decide +kernel
theorem D0_49 : decode (byt 0) 49 = .ok (.putfield 36, 3) := by decide +kernel
theorem D0_52 : decode (byt 0) 52 = .ok (.aload_n 0, 1) := by decide +kernel
theorem D0_53 : decode (byt 0) 53 = .ok (.iconst 0, 1) := by decide +kernel
theorem D0_54 : decode (byt 0) 54 = .ok (.putfield 39, 3) := by decide +kernel
theorem D0_57 : decode (byt 0) 57 = .ok (.aload_n 0, 1) := by decide +kernel
theorem D0_58 : decode (byt 0) 58 = .ok (.iconst 0, 1) := by decide +kernel
theorem D0_59 : decode (byt 0) 59 = .ok (.putfield 42, 3) := by decide +kernel
theorem D0_62 : decode (byt 0) 62 = .ok (.aload_n 0, 1) := by decide +kernel
theorem D0_63 : decode (byt 0) 63 = .ok (.iconst 0, 1) := by decide +kernel
theorem D0_64 : decode (byt 0) 64 = .ok (.putfield 45, 3) := by decide +kernel
theorem D0_67 : decode (byt 0) 67 = .ok (.aload_n 0, 1) := by decide +kernel
theorem D0_68 : decode (byt 0) 68 = .ok (.bipush 8, 2) := by decide +kernel
theorem D0_70 : decode (byt 0) 70 = .ok (.invokevirtual 49, 3) := by decide +kernel
theorem D0_73 : decode (byt 0) 73 = .ok (.return_, 1) := by decide +kernel
theorem D1_0 : decode (byt 1) 0 = .ok (.aload_n 0, 1) := by decide +kernel
theorem D1_1 : decode (byt 1) 1 = .ok (.iload_n 1, 1) := by decide +kernel
theorem D1_2 : decode (byt 1) 2 = .ok (.putfield 32, 3) := by decide +kernel
theorem D1_5 : decode (byt 1) 5 = .ok (.aload_n 0, 1) := by decide +kernel
theorem D1_6 : decode (byt 1) 6 = .ok (.iconst 0, 1) := by decide +kernel
theorem D1_7 : decode (byt 1) 7 = .ok (.putfield 36, 3) := by decide +kernel
theorem D1_10 : decode (byt 1) 10 = .ok (.aload_n 0, 1) := by decide +kernel
theorem D1_11 : decode (byt 1) 11 = .ok (.iconst 0, 1) := by decide +kernel
theorem D1_12 : decode (byt 1) 12 = .ok (.putfield 39, 3) := by decide +kernel
theorem D1_15 : decode (byt 1) 15 = .ok (.aload_n 0, 1) := by decide +kernel
theorem D1_16 : decode (byt 1) 16 = .ok (.iconst 0, 1) := by decide +kernel
theorem D1_17 : decode (byt 1) 17 = .ok (.putfield 42, 3) := by decide +kernel
theorem D1_20 : decode (byt 1) 20 = .ok (.aload_n 0, 1) := by decide +kernel
theorem D1_21 : decode (byt 1) 21 = .ok (.iconst 0, 1) := by decide +kernel
theorem D1_22 : decode (byt 1) 22 = .ok (.putfield 45, 3) := by decide +kernel
theorem D1_25 : decode (byt 1) 25 = .ok (.iconst 0, 1) := by decide +kernel
theorem D1_26 : decode (byt 1) 26 = .ok (.istore_n 2, 1) := by decide +kernel
theorem D1_27 : decode (byt 1) 27 = .ok (.iload_n 2, 1) := by decide +kernel
theorem D1_28 : decode (byt 1) 28 = .ok (.aload_n 0, 1) := by decide +kernel
theorem D1_29 : decode (byt 1) 29 = .ok (.getfield 15, 3) := by decide +kernel
theorem D1_32 : decode (byt 1) 32 = .ok (.arraylength, 1) := by decide +kernel
theorem D1_33 : decode (byt 1) 33 = .ok (.if_icmp .ge 16, 3) := by decide +kernel
theorem D1_36 : decode (byt 1) 36 = .ok (.aload_n 0, 1) := by decide +kernel
theorem D1_37 : decode (byt 1) 37 = .ok (.getfield 15, 3) := by decide +kernel
theorem D1_40 : decode (byt 1) 40 = .ok (.iload_n 2, 1) := by decide +kernel
theorem D1_41 : decode (byt 1) 41 = .ok (.iconst 1, 1) := by decide +kernel
theorem D1_42 : decode (byt 1) 42 = .ok (.iastore, 1) := by decide +kernel
theorem D1_43 : decode (byt 1) 43 = .ok (.iinc 2 1, 3) := by decide +kernel
theorem D1_46 : decode (byt 1) 46 = .ok (.goto (-19), 3) := by decide +kernel
theorem D1_49 : decode (byt 1) 49 = .ok (.return_, 1) := by decide +kernel
theorem D2_0 : decode (byt 2) 0 = .ok (.iconst 1, 1) := by decide +kernel
theorem D2_1 : decode (byt 2) 1 = .ok (.aload_n 0, 1) := by decide +kernel
theorem D2_2 : decode (byt 2) 2 = .ok (.getfield 32, 3) := by decide +kernel
theorem D2_5 : decode (byt 2) 5 = .ok (.ishl, 1) := by decide +kernel
theorem D2_6 : decode (byt 2) 6 = .ok (.ireturn, 1) := by decide +kernel
theorem D3_0 : decode (byt 3) 0 = .ok (.iload_n 1, 1) := by decide +kernel
theorem D3_1 : decode (byt 3) 1 = .ok (.iconst 1, 1) := by decide +kernel
theorem D3_2 : decode (byt 3) 2 = .ok (.if_icmp .lt 15, 3) := by decide +kernel
theorem D3_5 : decode (byt 3) 5 = .ok (.iload_n 1, 1) := by decide +kernel
theorem D3_6 : decode (byt 3) 6 = .ok (.aload_n 0, 1) := by decide +kernel
theorem D3_7 : decode (byt 3) 7 = .ok (.getfield 32, 3) := by decide +kernel
theorem D3_10 : decode (byt 3) 10 = .ok (.if_icmp .gt 7, 3) := by decide +kernel
theorem D3_13 : decode (byt 3) 13 = .ok (.iconst 1, 1) := by decide +kernel
theorem D3_14 : decode (byt 3) 14 = .ok (.goto 4, 3) := by decide +kernel
theorem D3_17 : decode (byt 3) 17 = .ok (.iconst 0, 1) := by decide +kernel
theorem D3_18 : decode (byt 3) 18 = .ok (.ireturn, 1) := by decide +kernel
theorem D4_0 : decode (byt 4) 0 = .ok (.iload_n 1, 1) := by decide +kernel
theorem D4_1 : decode (byt 4) 1 = .ok (.ifCond .eq 15, 3) := by decide +kernel
theorem D4_4 : decode (byt 4) 4 = .ok (.aload_n 0, 1) := by decide +kernel
theorem D4_5 : decode (byt 4) 5 = .ok (.iload_n 1, 1) := by decide +kernel
theorem D4_6 : decode (byt 4) 6 = .ok (.invokevirtual 53, 3) := by decide +kernel
theorem D4_9 : decode (byt 4) 9 = .ok (.ifCond .eq 7, 3) := by decide +kernel
theorem D4_12 : decode (byt 4) 12 = .ok (.iconst 1, 1) := by decide +kernel
theorem D4_13 : decode (byt 4) 13 = .ok (.goto 4, 3) := by decide +kernel
theorem D4_16 : decode (byt 4) 16 = .ok (.iconst 0, 1) := by decide +kernel
theorem D4_17 : decode (byt 4) 17 = .ok (.ireturn, 1) := by decide +kernel
theorem D5_0 : decode (byt 5) 0 = .ok (.iload_n 1, 1) := by decide +kernel
theorem D5_1 : decode (byt 5) 1 = .ok (.aload_n 0, 1) := by decide +kernel
theorem D5_2 : decode (byt 5) 2 = .ok (.getfield 32, 3) := by decide +kernel
theorem D5_5 : decode (byt 5) 5 = .ok (.ineg, 1) := by decide +kernel
theorem D5_6 : decode (byt 5) 6 = .ok (.if_icmp .lt 15, 3) := by decide +kernel
theorem D5_9 : decode (byt 5) 9 = .ok (.iload_n 1, 1) := by decide +kernel
theorem D5_10 : decode (byt 5) 10 = .ok (.aload_n 0, 1) := by decide +kernel
theorem D5_11 : decode (byt 5) 11 = .ok (.getfield 32, 3) := by decide +kernel
theorem D5_14 : decode (byt 5) 14 = .ok (.if_icmp .gt 7, 3) := by decide +kernel
theorem D5_17 : decode (byt 5) 17 = .ok (.iconst 1, 1) := by decide +kernel
theorem D5_18 : decode (byt 5) 18 = .ok (.goto 4, 3) := by decide +kernel
theorem D5_21 : decode (byt 5) 21 = .ok (.iconst 0, 1) := by decide +kernel
theorem D5_22 : decode (byt 5) 22 = .ok (.ireturn, 1) := by decide +kernel
theorem D6_0 : decode (byt 6) 0 = .ok (.iload_n 1, 1) := by decide +kernel
theorem D6_1 : decode (byt 6) 1 = .ok (.ifCond .lt 21, 3) := by decide +kernel
theorem D6_4 : decode (byt 6) 4 = .ok (.iload_n 1, 1) := by decide +kernel
theorem D6_5 : decode (byt 6) 5 = .ok (.aload_n 0, 1) := by decide +kernel
theorem D6_6 : decode (byt 6) 6 = .ok (.getfield 9, 3) := by decide +kernel
theorem D6_9 : decode (byt 6) 9 = .ok (.arraylength, 1) := by decide +kernel
theorem D6_10 : decode (byt 6) 10 = .ok (.if_icmp .ge 12, 3) := by decide +kernel
theorem D6_13 : decode (byt 6) 13 = .ok (.aload_n 0, 1) := by decide +kernel
theorem D6_14 : decode (byt 6) 14 = .ok (.getfield 9, 3) := by decide +kernel
theorem D6_17 : decode (byt 6) 17 = .ok (.iload_n 1, 1) := by decide +kernel
theorem D6_18 : decode (byt 6) 18 = .ok (.iaload, 1) := by decide +kernel
theorem D6_19 : decode (byt 6) 19 = .ok (.goto 4, 3) := by decide +kernel
theorem D6_22 : decode (byt 6) 22 = .ok (.iconst 0, 1) := by decide +kernel
theorem D6_23 : decode (byt 6) 23 = .ok (.ireturn, 1) := by decide +kernel
theorem D7_0 : decode (byt 7) 0 = .ok (.aload_n 0, 1) := by decide +kernel
theorem D7_1 : decode (byt 7) 1 = .ok (.getfield 36, 3) := by decide +kernel
theorem D7_4 : decode (byt 7) 4 = .ok (.aload_n 0, 1) := by decide +kernel
theorem D7_5 : decode (byt 7) 5 = .ok (.getfield 9, 3) := by decide +kernel
theorem D7_8 : decode (byt 7) 8 = .ok (.arraylength, 1) := by decide +kernel
theorem D7_9 : decode (byt 7) 9 = .ok (.if_icmp .ge 28, 3) := by decide +kernel
theorem D7_12 : decode (byt 7) 12 = .ok (.aload_n 0, 1) := by decide +kernel
theorem D7_13 : decode (byt 7) 13 = .ok (.getfield 9, 3) := by decide +kernel
theorem D7_16 : decode (byt 7) 16 = .ok (.aload_n 0, 1) := by decide +kernel
theorem D7_17 : decode (byt 7) 17 = .ok (.getfield 36, 3) := by decide +kernel
theorem D7_20 : decode (byt 7) 20 = .ok (.iload_n 1, 1) := by decide +kernel
theorem D7_21 : decode (byt 7) 21 = .ok (.iastore, 1) := by decide +kernel
theorem D7_22 : decode (byt 7) 22 = .ok (.aload_n 0, 1) := by decide +kernel
theorem D7_23 : decode (byt 7) 23 = .ok (.dup, 1) := by decide +kernel
theorem D7_24 : decode (byt 7) 24 = .ok (.getfield 36, 3) := by decide +kernel
theorem D7_27 : decode (byt 7) 27 = .ok (.iconst 1, 1) := by decide +kernel
theorem D7_28 : decode (byt 7) 28 = .ok (.iadd, 1) := by decide +kernel
theorem D7_29 : decode (byt 7) 29 = .ok (.putfield 36, 3) := by decide +kernel
theorem D7_32 : decode (byt 7) 32 = .ok (.aload_n 0, 1) := by decide +kernel
theorem D7_33 : decode (byt 7) 33 = .ok (.iconst 0, 1) := by decide +kernel
theorem D7_34 : decode (byt 7) 34 = .ok (.putfield 45, 3) := by decide +kernel
theorem D7_37 : decode (byt 7) 37 = .ok (.return_, 1) := by decide +kernel
theorem D8_0 : decode (byt 8) 0 = .ok (.aload_n 0, 1) := by decide +kernel
theorem D8_1 : decode (byt 8) 1 = .ok (.getfield 36, 3) := by decide +kernel
theorem D8_4 : decode (byt 8) 4 = .ok (.ifCond .le 35, 3) := by decide +kernel
theorem D8_7 : decode (byt 8) 7 = .ok (.aload_n 0, 1) := by decide +kernel
theorem D8_8 : decode (byt 8) 8 = .ok (.getfield 36, 3) := by decide +kernel
theorem D8_11 : decode (byt 8) 11 = .ok (.aload_n 0, 1) := by decide +kernel
theorem D8_12 : decode (byt 8) 12 = .ok (.getfield 9, 3) := by decide +kernel
theorem D8_15 : decode (byt 8) 15 = .ok (.arraylength, 1) := by decide +kernel
theorem D8_16 : decode (byt 8) 16 = .ok (.if_icmp .gt 23, 3) := by decide +kernel
theorem D8_19 : decode (byt 8) 19 = .ok (.aload_n 0, 1) := by decide +kernel
theorem D8_20 : decode (byt 8) 20 = .ok (.getfield 9, 3) := by decide +kernel
theorem D8_23 : decode (byt 8) 23 = .ok (.aload_n 0, 1) := by decide +kernel
theorem D8_24 : decode (byt 8) 24 = .ok (.getfield 36, 3) := by decide +kernel
theorem D8_27 : decode (byt 8) 27 = .ok (.iconst 1, 1) := by decide +kernel
theorem D8_28 : decode (byt 8) 28 = .ok (.isub, 1) := by decide +kernel
theorem D8_29 : decode (byt 8) 29 = .ok (.dup2, 1) := by decide +kernel
theorem D8_30 : decode (byt 8) 30 = .ok (.iaload, 1) := by decide +kernel
theorem D8_31 : decode (byt 8) 31 = .ok (.iload_n 1, 1) := by decide +kernel
theorem D8_32 : decode (byt 8) 32 = .ok (.ior, 1) := by decide +kernel
theorem D8_33 : decode (byt 8) 33 = .ok (.iastore, 1) := by decide +kernel
theorem D8_34 : decode (byt 8) 34 = .ok (.aload_n 0, 1) := by decide +kernel
theorem D8_35 : decode (byt 8) 35 = .ok (.iconst 0, 1) := by decide +kernel
theorem D8_36 : decode (byt 8) 36 = .ok (.putfield 45, 3) := by decide +kernel
theorem D8_39 : decode (byt 8) 39 = .ok (.return_, 1) := by decide +kernel
theorem D9_0 : decode (byt 9) 0 = .ok (.aload_n 0, 1) := by decide +kernel
theorem D9_1 : decode (byt 9) 1 = .ok (.getfield 36, 3) := by decide +kernel
theorem D9_4 : decode (byt 9) 4 = .ok (.ifCond .le 18, 3) := by decide +kernel
theorem D9_7 : decode (byt 9) 7 = .ok (.aload_n 0, 1) := by decide +kernel
theorem D9_8 : decode (byt 9) 8 = .ok (.dup, 1) := by decide +kernel
theorem D9_9 : decode (byt 9) 9 = .ok (.getfield 36, 3) := by decide +kernel
theorem D9_12 : decode (byt 9) 12 = .ok (.iconst 1, 1) := by decide +kernel
theorem D9_13 : decode (byt 9) 13 = .ok (.isub, 1) := by decide +kernel
theorem D9_14 : decode (byt 9) 14 = .ok (.putfield 36, 3) := by decide +kernel
theorem D9_17 : decode (byt 9) 17 = .ok (.aload_n 0, 1) := by decide +kernel
theorem D9_18 : decode (byt 9) 18 = .ok (.iconst 0, 1) := by decide +kernel
theorem D9_19 : decode (byt 9) 19 = .ok (.putfield 45, 3) := by decide +kernel
theorem D9_22 : decode (byt 9) 22 = .ok (.return_, 1) := by decide +kernel
theorem D10_0 : decode (byt 10) 0 = .ok (.aload_n 0, 1) := by decide +kernel
theorem D10_1 : decode (byt 10) 1 = .ok (.iload_n 1, 1) := by decide +kernel
theorem D10_2 : decode (byt 10) 2 = .ok (.invokevirtual 57, 3) := by decide +kernel
theorem D10_5 : decode (byt 10) 5 = .ok (.ifCond .eq 15, 3) := by decide +kernel
theorem D10_8 : decode (byt 10) 8 = .ok (.aload_n 0, 1) := by decide +kernel
theorem D10_9 : decode (byt 10) 9 = .ok (.getfield 15, 3) := by decide +kernel
theorem D10_12 : decode (byt 10) 12 = .ok (.iload_n 1, 1) := by decide +kernel
theorem D10_13 : decode (byt 10) 13 = .ok (.invokestatic 60, 3) := by decide +kernel
theorem D10_16 : decode (byt 10) 16 = .ok (.iaload, 1) := by decide +kernel
theorem D10_17 : decode (byt 10) 17 = .ok (.goto 4, 3) := by decide +kernel
theorem D10_20 : decode (byt 10) 20 = .ok (.iconst 1, 1) := by decide +kernel
theorem D10_21 : decode (byt 10) 21 = .ok (.ireturn, 1) := by decide +kernel
theorem D11_0 : decode (byt 11) 0 = .ok (.aload_n 0, 1) := by decide +kernel
theorem D11_1 : decode (byt 11) 1 = .ok (.iload_n 1, 1) := by decide +kernel
theorem D11_2 : decode (byt 11) 2 = .ok (.invokevirtual 57, 3) := by decide +kernel
theorem D11_5 : decode (byt 11) 5 = .ok (.ifCond .eq 13, 3) := by decide +kernel
theorem D11_8 : decode (byt 11) 8 = .ok (.aload_n 0, 1) := by decide +kernel
theorem D11_9 : decode (byt 11) 9 = .ok (.getfield 15, 3) := by decide +kernel
theorem D11_12 : decode (byt 11) 12 = .ok (.iload_n 1, 1) := by decide +kernel
theorem D11_13 : decode (byt 11) 13 = .ok (.invokestatic 60, 3) := by decide +kernel
theorem D11_16 : decode (byt 11) 16 = .ok (.iload_n 2, 1) := by decide +kernel
theorem D11_17 : decode (byt 11) 17 = .ok (.iastore, 1) := by decide +kernel
theorem D11_18 : decode (byt 11) 18 = .ok (.return_, 1) := by decide +kernel
theorem D12_0 : decode (byt 12) 0 = .ok (.lconst 1, 1) := by decide +kernel
theorem D12_1 : decode (byt 12) 1 = .ok (.lstore_n 2, 1) := by decide +kernel
theorem D12_2 : decode (byt 12) 2 = .ok (.iconst 1, 1) := by decide +kernel
theorem D12_3 : decode (byt 12) 3 = .ok (.istore 4, 2) := by decide +kernel
theorem D12_5 : decode (byt 12) 5 = .ok (.iload 4, 2) := by decide +kernel
theorem D12_7 : decode (byt 12) 7 = .ok (.aload_n 0, 1) := by decide +kernel
theorem D12_8 : decode (byt 12) 8 = .ok (.getfield 32, 3) := by decide +kernel
theorem D12_11 : decode (byt 12) 11 = .ok (.if_icmp .gt 51, 3) := by decide +kernel
theorem D12_14 : decode (byt 12) 14 = .ok (.iload_n 1, 1) := by decide +kernel
theorem D12_15 : decode (byt 12) 15 = .ok (.aload_n 0, 1) := by decide +kernel
theorem D12_16 : decode (byt 12) 16 = .ok (.getfield 32, 3) := by decide +kernel
theorem D12_19 : decode (byt 12) 19 = .ok (.iload 4, 2) := by decide +kernel
theorem D12_21 : decode (byt 12) 21 = .ok (.isub, 1) := by decide +kernel
theorem D12_22 : decode (byt 12) 22 = .ok (.ishr, 1) := by decide +kernel
theorem D12_23 : decode (byt 12) 23 = .ok (.iconst 1, 1) := by decide +kernel
theorem D12_24 : decode (byt 12) 24 = .ok (.iand, 1) := by decide +kernel
theorem D12_25 : decode (byt 12) 25 = .ok (.ifCond .eq 7, 3) := by decide +kernel
theorem D12_28 : decode (byt 12) 28 = .ok (.iconst 1, 1) := by decide +kernel
theorem D12_29 : decode (byt 12) 29 = .ok (.goto 4, 3) := by decide +kernel
theorem D12_32 : decode (byt 12) 32 = .ok (.iconst 0, 1) := by decide +kernel
theorem D12_33 : decode (byt 12) 33 = .ok (.istore 5, 2) := by decide +kernel
theorem D12_35 : decode (byt 12) 35 = .ok (.lload_n 2, 1) := by decide +kernel
theorem D12_36 : decode (byt 12) 36 = .ok (.aload_n 0, 1) := by decide +kernel
theorem D12_37 : decode (byt 12) 37 = .ok (.iload 5, 2) := by decide +kernel
theorem D12_39 : decode (byt 12) 39 = .ok (.ifCond .eq 8, 3) := by decide +kernel
theorem D12_42 : decode (byt 12) 42 = .ok (.iload 4, 2) := by decide +kernel
theorem D12_44 : decode (byt 12) 44 = .ok (.goto 6, 3) := by decide +kernel
theorem D12_47 : decode (byt 12) 47 = .ok (.iload 4, 2) := by decide +kernel
theorem D12_49 : decode (byt 12) 49 = .ok (.ineg, 1) := by decide +kernel
theorem D12_50 : decode (byt 12) 50 = .ok (.invokevirtual 64, 3) := by decide +kernel
theorem D12_53 : decode (byt 12) 53 = .ok (.i2l, 1) := by decide +kernel
theorem D12_54 : decode (byt 12) 54 = .ok (.lmul, 1) := by decide +kernel
theorem D12_55 : decode (byt 12) 55 = .ok (.lstore_n 2, 1) := by decide +kernel
theorem D12_56 : decode (byt 12) 56 = .ok (.iinc 4 1, 3) := by decide +kernel
theorem D12_59 : decode (byt 12) 59 = .ok (.goto (-54), 3) := by decide +kernel
theorem D12_62 : decode (byt 12) 62 = .ok (.lload_n 2, 1) := by decide +kernel
theorem D12_63 : decode (byt 12) 63 = .ok (.lreturn, 1) := by decide +kernel
theorem D13_0 : decode (byt 13) 0 = .ok (.aload_n 1, 1) := by decide +kernel
theorem D13_1 : decode (byt 13) 1 = .ok (.arraylength, 1) := by decide +kernel
theorem D13_2 : decode (byt 13) 2 = .ok (.aload_n 0, 1) := by decide +kernel
theorem D13_3 : decode (byt 13) 3 = .ok (.invokevirtual 67, 3) := by decide +kernel
theorem D13_6 : decode (byt 13) 6 = .ok (.if_icmp .ge 4, 3) := by decide +kernel
theorem D13_9 : decode (byt 13) 9 = .ok (.return_, 1) := by decide +kernel
theorem D13_10 : decode (byt 13) 10 = .ok (.aload_n 1, 1) := by decide +kernel
theorem D13_11 : decode (byt 13) 11 = .ok (.iconst 0, 1) := by decide +kernel
theorem D13_12 : decode (byt 13) 12 = .ok (.lconst 1, 1) := by decide +kernel
theorem D13_13 : decode (byt 13) 13 = .ok (.lastore, 1) := by decide +kernel
theorem D13_14 : decode (byt 13) 14 = .ok (.iconst 1, 1) := by decide +kernel
theorem D13_15 : decode (byt 13) 15 = .ok (.istore_n 2, 1) := by decide +kernel
theorem D13_16 : decode (byt 13) 16 = .ok (.aload_n 0, 1) := by decide +kernel
theorem D13_17 : decode (byt 13) 17 = .ok (.getfield 32, 3) := by decide +kernel
theorem D13_20 : decode (byt 13) 20 = .ok (.istore_n 3, 1) := by decide +kernel
theorem D13_21 : decode (byt 13) 21 = .ok (.iload_n 3, 1) := by decide +kernel
theorem D13_22 : decode (byt 13) 22 = .ok (.iconst 1, 1) := by decide +kernel
theorem D13_23 : decode (byt 13) 23 = .ok (.if_icmp .lt 67, 3) := by decide +kernel
theorem D13_26 : decode (byt 13) 26 = .ok (.aload_n 0, 1) := by decide +kernel
theorem D13_27 : decode (byt 13) 27 = .ok (.iload_n 3, 1) := by decide +kernel
theorem D13_28 : decode (byt 13) 28 = .ok (.invokevirtual 64, 3) := by decide +kernel
theorem D13_31 : decode (byt 13) 31 = .ok (.istore 4, 2) := by decide +kernel
theorem D13_33 : decode (byt 13) 33 = .ok (.aload_n 0, 1) := by decide +kernel
theorem D13_34 : decode (byt 13) 34 = .ok (.iload_n 3, 1) := by decide +kernel
theorem D13_35 : decode (byt 13) 35 = .ok (.ineg, 1) := by decide +kernel
theorem D13_36 : decode (byt 13) 36 = .ok (.invokevirtual 64, 3) := by decide +kernel
theorem D13_39 : decode (byt 13) 39 = .ok (.istore 5, 2) := by decide +kernel
theorem D13_41 : decode (byt 13) 41 = .ok (.iconst 0, 1) := by decide +kernel
theorem D13_42 : decode (byt 13) 42 = .ok (.istore 6, 2) := by decide +kernel
theorem D13_44 : decode (byt 13) 44 = .ok (.iload 6, 2) := by decide +kernel
theorem D13_46 : decode (byt 13) 46 = .ok (.iload_n 2, 1) := by decide +kernel
theorem D13_47 : decode (byt 13) 47 = .ok (.if_icmp .ge 33, 3) := by decide +kernel
theorem D13_50 : decode (byt 13) 50 = .ok (.aload_n 1, 1) := by decide +kernel
theorem D13_51 : decode (byt 13) 51 = .ok (.iload_n 2, 1) := by decide +kernel
theorem D13_52 : decode (byt 13) 52 = .ok (.iload 6, 2) := by decide +kernel
theorem D13_54 : decode (byt 13) 54 = .ok (.iadd, 1) := by decide +kernel
theorem D13_55 : decode (byt 13) 55 = .ok (.aload_n 1, 1) := by decide +kernel
theorem D13_56 : decode (byt 13) 56 = .ok (.iload 6, 2) := by decide +kernel
theorem D13_58 : decode (byt 13) 58 = .ok (.laload, 1) := by decide +kernel
theorem D13_59 : decode (byt 13) 59 = .ok (.iload 4, 2) := by decide +kernel
theorem D13_61 : decode (byt 13) 61 = .ok (.i2l, 1) := by decide +kernel
theorem D13_62 : decode (byt 13) 62 = .ok (.lmul, 1) := by decide +kernel
theorem D13_63 : decode (byt 13) 63 = .ok (.lastore, 1) := by decide +kernel
theorem D13_64 : decode (byt 13) 64 = .ok (.aload_n 1, 1) := by decide +kernel
theorem D13_65 : decode (byt 13) 65 = .ok (.iload 6, 2) := by decide +kernel
theorem D13_67 : decode (byt 13) 67 = .ok (.dup2, 1) := by decide +kernel
theorem D13_68 : decode (byt 13) 68 = .ok (.laload, 1) := by decide +kernel
theorem D13_69 : decode (byt 13) 69 = .ok (.iload 5, 2) := by decide +kernel
theorem D13_71 : decode (byt 13) 71 = .ok (.i2l, 1) := by decide +kernel
theorem D13_72 : decode (byt 13) 72 = .ok (.lmul, 1) := by decide +kernel
theorem D13_73 : decode (byt 13) 73 = .ok (.lastore, 1) := by decide +kernel
theorem D13_74 : decode (byt 13) 74 = .ok (.iinc 6 1, 3) := by decide +kernel
theorem D13_77 : decode (byt 13) 77 = .ok (.goto (-33), 3) := by decide +kernel
theorem D13_80 : decode (byt 13) 80 = .ok (.iload_n 2, 1) := by decide +kernel
theorem D13_81 : decode (byt 13) 81 = .ok (.iconst 2, 1) := by decide +kernel
theorem D13_82 : decode (byt 13) 82 = .ok (.imul, 1) := by decide +kernel
theorem D13_83 : decode (byt 13) 83 = .ok (.istore_n 2, 1) := by decide +kernel
theorem D13_84 : decode (byt 13) 84 = .ok (.iinc 3 (-1), 3) := by decide +kernel
theorem D13_87 : decode (byt 13) 87 = .ok (.goto (-66), 3) := by decide +kernel
theorem D13_90 : decode (byt 13) 90 = .ok (.return_, 1) := by decide +kernel
theorem D14_0 : decode (byt 14) 0 = .ok (.iconst 0, 1) := by decide +kernel
theorem D14_1 : decode (byt 14) 1 = .ok (.istore_n 1, 1) := by decide +kernel
theorem D14_2 : decode (byt 14) 2 = .ok (.iconst 1, 1) := by decide +kernel
theorem D14_3 : decode (byt 14) 3 = .ok (.istore_n 2, 1) := by decide +kernel
theorem D14_4 : decode (byt 14) 4 = .ok (.iload_n 2, 1) := by decide +kernel
theorem D14_5 : decode (byt 14) 5 = .ok (.aload_n 0, 1) := by decide +kernel
theorem D14_6 : decode (byt 14) 6 = .ok (.getfield 32, 3) := by decide +kernel
theorem D14_9 : decode (byt 14) 9 = .ok (.if_icmp .gt 32, 3) := by decide +kernel
theorem D14_12 : decode (byt 14) 12 = .ok (.aload_n 0, 1) := by decide +kernel
theorem D14_13 : decode (byt 14) 13 = .ok (.getfield 39, 3) := by decide +kernel
theorem D14_16 : decode (byt 14) 16 = .ok (.iload_n 2, 1) := by decide +kernel
theorem D14_17 : decode (byt 14) 17 = .ok (.invokestatic 71, 3) := by decide +kernel
theorem D14_20 : decode (byt 14) 20 = .ok (.iand, 1) := by decide +kernel
theorem D14_21 : decode (byt 14) 21 = .ok (.ifCond .eq 14, 3) := by decide +kernel
theorem D14_24 : decode (byt 14) 24 = .ok (.iload_n 1, 1) := by decide +kernel
theorem D14_25 : decode (byt 14) 25 = .ok (.iconst 1, 1) := by decide +kernel
theorem D14_26 : decode (byt 14) 26 = .ok (.aload_n 0, 1) := by decide +kernel
theorem D14_27 : decode (byt 14) 27 = .ok (.getfield 32, 3) := by decide +kernel
theorem D14_30 : decode (byt 14) 30 = .ok (.iload_n 2, 1) := by decide +kernel
theorem D14_31 : decode (byt 14) 31 = .ok (.isub, 1) := by decide +kernel
theorem D14_32 : decode (byt 14) 32 = .ok (.ishl, 1) := by decide +kernel
theorem D14_33 : decode (byt 14) 33 = .ok (.ior, 1) := by decide +kernel
theorem D14_34 : decode (byt 14) 34 = .ok (.istore_n 1, 1) := by decide +kernel
theorem D14_35 : decode (byt 14) 35 = .ok (.iinc 2 1, 3) := by decide +kernel
theorem D14_38 : decode (byt 14) 38 = .ok (.goto (-34), 3) := by decide +kernel
theorem D14_41 : decode (byt 14) 41 = .ok (.iload_n 1, 1) := by decide +kernel
theorem D14_42 : decode (byt 14) 42 = .ok (.ireturn, 1) := by decide +kernel
theorem D15_0 : decode (byt 15) 0 = .ok (.aload_n 0, 1) := by decide +kernel
theorem D15_1 : decode (byt 15) 1 = .ok (.getfield 28, 3) := by decide +kernel
theorem D15_4 : decode (byt 15) 4 = .ok (.aload_n 0, 1) := by decide +kernel
theorem D15_5 : decode (byt 15) 5 = .ok (.getfield 21, 3) := by decide +kernel
theorem D15_8 : decode (byt 15) 8 = .ok (.aload_n 0, 1) := by decide +kernel
theorem D15_9 : decode (byt 15) 9 = .ok (.getfield 32, 3) := by decide +kernel
theorem D15_12 : decode (byt 15) 12 = .ok (.invokevirtual 74, 3) := by decide +kernel
theorem D15_15 : decode (byt 15) 15 = .ok (.invokevirtual 78, 3) := by decide +kernel
theorem D15_18 : decode (byt 15) 18 = .ok (.iconst 1, 1) := by decide +kernel
theorem D15_19 : decode (byt 15) 19 = .ok (.istore_n 1, 1) := by decide +kernel
theorem D15_20 : decode (byt 15) 20 = .ok (.iload_n 1, 1) := by decide +kernel
theorem D15_21 : decode (byt 15) 21 = .ok (.aload_n 0, 1) := by decide +kernel
theorem D15_22 : decode (byt 15) 22 = .ok (.getfield 32, 3) := by decide +kernel
theorem D15_25 : decode (byt 15) 25 = .ok (.if_icmp .gt 54, 3) := by decide +kernel
theorem D15_28 : decode (byt 15) 28 = .ok (.aload_n 0, 1) := by decide +kernel
theorem D15_29 : decode (byt 15) 29 = .ok (.getfield 42, 3) := by decide +kernel
theorem D15_32 : decode (byt 15) 32 = .ok (.iload_n 1, 1) := by decide +kernel
theorem D15_33 : decode (byt 15) 33 = .ok (.invokestatic 71, 3) := by decide +kernel
theorem D15_36 : decode (byt 15) 36 = .ok (.iand, 1) := by decide +kernel
theorem D15_37 : decode (byt 15) 37 = .ok (.ifCond .eq 14, 3) := by decide +kernel
theorem D15_40 : decode (byt 15) 40 = .ok (.aload_n 0, 1) := by decide +kernel
theorem D15_41 : decode (byt 15) 41 = .ok (.getfield 28, 3) := by decide +kernel
theorem D15_44 : decode (byt 15) 44 = .ok (.iload_n 1, 1) := by decide +kernel
theorem D15_45 : decode (byt 15) 45 = .ok (.invokevirtual 82, 3) := by decide +kernel
theorem D15_48 : decode (byt 15) 48 = .ok (.goto 25, 3) := by decide +kernel
theorem D15_51 : decode (byt 15) 51 = .ok (.aload_n 0, 1) := by decide +kernel
theorem D15_52 : decode (byt 15) 52 = .ok (.getfield 42, 3) := by decide +kernel
theorem D15_55 : decode (byt 15) 55 = .ok (.iload_n 1, 1) := by decide +kernel
theorem D15_56 : decode (byt 15) 56 = .ok (.ineg, 1) := by decide +kernel
theorem D15_57 : decode (byt 15) 57 = .ok (.invokestatic 71, 3) := by decide +kernel
theorem D15_60 : decode (byt 15) 60 = .ok (.iand, 1) := by decide +kernel
theorem D15_61 : decode (byt 15) 61 = .ok (.ifCond .eq 12, 3) := by decide +kernel
theorem D15_64 : decode (byt 15) 64 = .ok (.aload_n 0, 1) := by decide +kernel
theorem D15_65 : decode (byt 15) 65 = .ok (.getfield 28, 3) := by decide +kernel
theorem D15_68 : decode (byt 15) 68 = .ok (.iload_n 1, 1) := by decide +kernel
theorem D15_69 : decode (byt 15) 69 = .ok (.ineg, 1) := by decide +kernel
theorem D15_70 : decode (byt 15) 70 = .ok (.invokevirtual 82, 3) := by decide +kernel
theorem D15_73 : decode (byt 15) 73 = .ok (.iinc 1 1, 3) := by decide +kernel
theorem D15_76 : decode (byt 15) 76 = .ok (.goto (-56), 3) := by decide +kernel
theorem D15_79 : decode (byt 15) 79 = .ok (.aload_n 0, 1) := by decide +kernel
theorem D15_80 : decode (byt 15) 80 = .ok (.getfield 28, 3) := by decide +kernel
theorem D15_83 : decode (byt 15) 83 = .ok (.areturn, 1) := by decide +kernel
theorem D16_0 : decode (byt 16) 0 = .ok (.aload_n 0, 1) := by decide +kernel
theorem D16_1 : decode (byt 16) 1 = .ok (.getfield 21, 3) := by decide +kernel
theorem D16_4 : decode (byt 16) 4 = .ok (.aload_n 0, 1) := by decide +kernel
theorem D16_5 : decode (byt 16) 5 = .ok (.getfield 32, 3) := by decide +kernel
theorem D16_8 : decode (byt 16) 8 = .ok (.invokevirtual 74, 3) := by decide +kernel
theorem D16_11 : decode (byt 16) 11 = .ok (.astore_n 1, 1) := by decide +kernel
theorem D16_12 : decode (byt 16) 12 = .ok (.aload_n 0, 1) := by decide +kernel
theorem D16_13 : decode (byt 16) 13 = .ok (.getfield 28, 3) := by decide +kernel
theorem D16_16 : decode (byt 16) 16 = .ok (.aload_n 0, 1) := by decide +kernel
theorem D16_17 : decode (byt 16) 17 = .ok (.getfield 32, 3) := by decide +kernel
theorem D16_20 : decode (byt 16) 20 = .ok (.invokevirtual 85, 3) := by decide +kernel
theorem D16_23 : decode (byt 16) 23 = .ok (.iconst 0, 1) := by decide +kernel
theorem D16_24 : decode (byt 16) 24 = .ok (.istore_n 2, 1) := by decide +kernel
theorem D16_25 : decode (byt 16) 25 = .ok (.iload_n 2, 1) := by decide +kernel
theorem D16_26 : decode (byt 16) 26 = .ok (.aload_n 1, 1) := by decide +kernel
theorem D16_27 : decode (byt 16) 27 = .ok (.getfield 88, 3) := by decide +kernel
theorem D16_30 : decode (byt 16) 30 = .ok (.if_icmp .ge 29, 3) := by decide +kernel
theorem D16_33 : decode (byt 16) 33 = .ok (.aload_n 0, 1) := by decide +kernel
theorem D16_34 : decode (byt 16) 34 = .ok (.getfield 28, 3) := by decide +kernel
theorem D16_37 : decode (byt 16) 37 = .ok (.iload_n 2, 1) := by decide +kernel
theorem D16_38 : decode (byt 16) 38 = .ok (.aload_n 1, 1) := by decide +kernel
theorem D16_39 : decode (byt 16) 39 = .ok (.getfield 91, 3) := by decide +kernel
theorem D16_42 : decode (byt 16) 42 = .ok (.iload_n 2, 1) := by decide +kernel
theorem D16_43 : decode (byt 16) 43 = .ok (.laload, 1) := by decide +kernel
theorem D16_44 : decode (byt 16) 44 = .ok (.aload_n 0, 1) := by decide +kernel
theorem D16_45 : decode (byt 16) 45 = .ok (.iload_n 2, 1) := by decide +kernel
theorem D16_46 : decode (byt 16) 46 = .ok (.invokevirtual 95, 3) := by decide +kernel
theorem D16_49 : decode (byt 16) 49 = .ok (.lxor, 1) := by decide +kernel
theorem D16_50 : decode (byt 16) 50 = .ok (.invokevirtual 99, 3) := by decide +kernel
theorem D16_53 : decode (byt 16) 53 = .ok (.iinc 2 1, 3) := by decide +kernel
theorem D16_56 : decode (byt 16) 56 = .ok (.goto (-31), 3) := by decide +kernel
theorem D16_59 : decode (byt 16) 59 = .ok (.aload_n 0, 1) := by decide +kernel
theorem D16_60 : decode (byt 16) 60 = .ok (.getfield 28, 3) := by decide +kernel
theorem D16_63 : decode (byt 16) 63 = .ok (.iconst 0, 1) := by decide +kernel
theorem D16_64 : decode (byt 16) 64 = .ok (.invokevirtual 103, 3) := by decide +kernel
theorem D16_67 : decode (byt 16) 67 = .ok (.ireturn, 1) := by decide +kernel
theorem D17_0 : decode (byt 17) 0 = .ok (.ldc2_w 106, 3) := by decide +kernel
theorem D17_3 : decode (byt 17) 3 = .ok (.lstore_n 2, 1) := by decide +kernel
theorem D17_4 : decode (byt 17) 4 = .ok (.iconst 0, 1) := by decide +kernel
theorem D17_5 : decode (byt 17) 5 = .ok (.istore 4, 2) := by decide +kernel
theorem D17_7 : decode (byt 17) 7 = .ok (.iload 4, 2) := by decide +kernel
theorem D17_9 : decode (byt 17) 9 = .ok (.aload_n 0, 1) := by decide +kernel
theorem D17_10 : decode (byt 17) 10 = .ok (.getfield 36, 3) := by decide +kernel
theorem D17_13 : decode (byt 17) 13 = .ok (.if_icmp .ge 23, 3) := by decide +kernel
theorem D17_16 : decode (byt 17) 16 = .ok (.lload_n 2, 1) := by decide +kernel
theorem D17_17 : decode (byt 17) 17 = .ok (.aload_n 0, 1) := by decide +kernel
theorem D17_18 : decode (byt 17) 18 = .ok (.aload_n 0, 1) := by decide +kernel
theorem D17_19 : decode (byt 17) 19 = .ok (.iload 4, 2) := by decide +kernel
theorem D17_21 : decode (byt 17) 21 = .ok (.invokevirtual 108, 3) := by decide +kernel
theorem D17_24 : decode (byt 17) 24 = .ok (.iload_n 1, 1) := by decide +kernel
theorem D17_25 : decode (byt 17) 25 = .ok (.invokevirtual 111, 3) := by decide +kernel
theorem D17_28 : decode (byt 17) 28 = .ok (.land, 1) := by decide +kernel
theorem D17_29 : decode (byt 17) 29 = .ok (.lstore_n 2, 1) := by decide +kernel
theorem D17_30 : decode (byt 17) 30 = .ok (.iinc 4 1, 3) := by decide +kernel
theorem D17_33 : decode (byt 17) 33 = .ok (.goto (-26), 3) := by decide +kernel
theorem D17_36 : decode (byt 17) 36 = .ok (.lload_n 2, 1) := by decide +kernel
theorem D17_37 : decode (byt 17) 37 = .ok (.lreturn, 1) := by decide +kernel
theorem D18_0 : decode (byt 18) 0 = .ok (.lconst 0, 1) := by decide +kernel
theorem D18_1 : decode (byt 18) 1 = .ok (.lstore_n 3, 1) := by decide +kernel
theorem D18_2 : decode (byt 18) 2 = .ok (.iload_n 1, 1) := by decide +kernel
theorem D18_3 : decode (byt 18) 3 = .ok (.invokestatic 115, 3) := by decide +kernel
theorem D18_6 : decode (byt 18) 6 = .ok (.istore 5, 2) := by decide +kernel
theorem D18_8 : decode (byt 18) 8 = .ok (.iconst 1, 1) := by decide +kernel
theorem D18_9 : decode (byt 18) 9 = .ok (.istore 6, 2) := by decide +kernel
theorem D18_11 : decode (byt 18) 11 = .ok (.iload 6, 2) := by decide +kernel
theorem D18_13 : decode (byt 18) 13 = .ok (.aload_n 0, 1) := by decide +kernel
theorem D18_14 : decode (byt 18) 14 = .ok (.getfield 32, 3) := by decide +kernel
theorem D18_17 : decode (byt 18) 17 = .ok (.if_icmp .gt 62, 3) := by decide +kernel
theorem D18_20 : decode (byt 18) 20 = .ok (.iload 5, 2) := by decide +kernel
theorem D18_22 : decode (byt 18) 22 = .ok (.iload 6, 2) := by decide +kernel
theorem D18_24 : decode (byt 18) 24 = .ok (.iconst 1, 1) := by decide +kernel
theorem D18_25 : decode (byt 18) 25 = .ok (.isub, 1) := by decide +kernel
theorem D18_26 : decode (byt 18) 26 = .ok (.ishr, 1) := by decide +kernel
theorem D18_27 : decode (byt 18) 27 = .ok (.iconst 1, 1) := by decide +kernel
theorem D18_28 : decode (byt 18) 28 = .ok (.iand, 1) := by decide +kernel
theorem D18_29 : decode (byt 18) 29 = .ok (.ifCond .eq 44, 3) := by decide +kernel
theorem D18_32 : decode (byt 18) 32 = .ok (.iload_n 1, 1) := by decide +kernel
theorem D18_33 : decode (byt 18) 33 = .ok (.iload 6, 2) := by decide +kernel
theorem D18_35 : decode (byt 18) 35 = .ok (.invokestatic 71, 3) := by decide +kernel
theorem D18_38 : decode (byt 18) 38 = .ok (.iand, 1) := by decide +kernel
theorem D18_39 : decode (byt 18) 39 = .ok (.ifCond .eq 7, 3) := by decide +kernel
theorem D18_42 : decode (byt 18) 42 = .ok (.iconst 1, 1) := by decide +kernel
theorem D18_43 : decode (byt 18) 43 = .ok (.goto 4, 3) := by decide +kernel
theorem D18_46 : decode (byt 18) 46 = .ok (.iconst 0, 1) := by decide +kernel
theorem D18_47 : decode (byt 18) 47 = .ok (.istore 7, 2) := by decide +kernel
theorem D18_49 : decode (byt 18) 49 = .ok (.lload_n 3, 1) := by decide +kernel
theorem D18_50 : decode (byt 18) 50 = .ok (.iload 7, 2) := by decide +kernel
theorem D18_52 : decode (byt 18) 52 = .ok (.ifCond .eq 8, 3) := by decide +kernel
theorem D18_55 : decode (byt 18) 55 = .ok (.iload 6, 2) := by decide +kernel
theorem D18_57 : decode (byt 18) 57 = .ok (.goto 6, 3) := by decide +kernel
theorem D18_60 : decode (byt 18) 60 = .ok (.iload 6, 2) := by decide +kernel
theorem D18_62 : decode (byt 18) 62 = .ok (.ineg, 1) := by decide +kernel
theorem D18_63 : decode (byt 18) 63 = .ok (.aload_n 0, 1) := by decide +kernel
theorem D18_64 : decode (byt 18) 64 = .ok (.getfield 32, 3) := by decide +kernel
theorem D18_67 : decode (byt 18) 67 = .ok (.iload_n 2, 1) := by decide +kernel
theorem D18_68 : decode (byt 18) 68 = .ok (.invokestatic 118, 3) := by decide +kernel
theorem D18_71 : decode (byt 18) 71 = .ok (.lor, 1) := by decide +kernel
theorem D18_72 : decode (byt 18) 72 = .ok (.lstore_n 3, 1) := by decide +kernel
theorem D18_73 : decode (byt 18) 73 = .ok (.iinc 6 1, 3) := by decide +kernel
theorem D18_76 : decode (byt 18) 76 = .ok (.goto (-65), 3) := by decide +kernel
theorem D18_79 : decode (byt 18) 79 = .ok (.lload_n 3, 1) := by decide +kernel
theorem D18_80 : decode (byt 18) 80 = .ok (.lreturn, 1) := by decide +kernel
theorem D19_0 : decode (byt 19) 0 = .ok (.aload_n 0, 1) := by decide +kernel
theorem D19_1 : decode (byt 19) 1 = .ok (.invokespecial 3, 3) := by decide +kernel
theorem D19_4 : decode (byt 19) 4 = .ok (.aload_n 0, 1) := by decide +kernel
theorem D19_5 : decode (byt 19) 5 = .ok (.sipush 1500, 3) := by decide +kernel
theorem D19_8 : decode (byt 19) 8 = .ok (.newarray .int, 2) := by decide +kernel
theorem D19_10 : decode (byt 19) 10 = .ok (.putfield 9, 3) := by decide +kernel
theorem D19_13 : decode (byt 19) 13 = .ok (.aload_n 0, 1) := by decide +kernel
theorem D19_14 : decode (byt 19) 14 = .ok (.sipush 1500, 3) := by decide +kernel
theorem D19_17 : decode (byt 19) 17 = .ok (.newarray .int, 2) := by decide +kernel
theorem D19_19 : decode (byt 19) 19 = .ok (.putfield 15, 3) := by decide +kernel
theorem D19_22 : decode (byt 19) 22 = .ok (.aload_n 0, 1) := by decide +kernel
theorem D19_23 : decode (byt 19) 23 = .ok (.sipush 1500, 3) := by decide +kernel
theorem D19_26 : decode (byt 19) 26 = .ok (.newarray .int, 2) := by decide +kernel
theorem D19_28 : decode (byt 19) 28 = .ok (.putfield 18, 3) := by decide +kernel
theorem D19_31 : decode (byt 19) 31 = .ok (.aload_n 0, 1) := by decide +kernel
theorem D19_32 : decode (byt 19) 32 = .ok (.sipush 1500, 3) := by decide +kernel
theorem D19_35 : decode (byt 19) 35 = .ok (.newarray .int, 2) := by decide +kernel
theorem D19_37 : decode (byt 19) 37 = .ok (.putfield 21, 3) := by decide +kernel
theorem D19_40 : decode (byt 19) 40 = .ok (.aload_n 0, 1) := by decide +kernel
theorem D19_41 : decode (byt 19) 41 = .ok (.sipush 18000, 3) := by decide +kernel
theorem D19_44 : decode (byt 19) 44 = .ok (.newarray .int, 2) := by decide +kernel
theorem D19_46 : decode (byt 19) 46 = .ok (.putfield 24, 3) := by decide +kernel
theorem D19_49 : decode (byt 19) 49 = .ok (.aload_n 0, 1) := by decide +kernel
theorem D19_50 : decode (byt 19) 50 = .ok (.sipush 1500, 3) := by decide +kernel
theorem D19_53 : decode (byt 19) 53 = .ok (.newarray .long, 2) := by decide +kernel
theorem D19_55 : decode (byt 19) 55 = .ok (.putfield 27, 3) := by decide +kernel
theorem D19_58 : decode (byt 19) 58 = .ok (.aload_n 0, 1) := by decide +kernel
theorem D19_59 : decode (byt 19) 59 = .ok (.new 31, 3) := by decide +kernel
theorem D19_62 : decode (byt 19) 62 = .ok (.dup, 1) := by decide +kernel
theorem D19_63 : decode (byt 19) 63 = .ok (.invokespecial 33, 3) := by decide +kernel
theorem D19_66 : decode (byt 19) 66 = .ok (.putfield 34, 3) := by decide +kernel
theorem D19_69 : decode (byt 19) 69 = .ok (.aload_n 0, 1) := by decide +kernel
theorem D19_70 : decode (byt 19) 70 = .ok (.iconst 1, 1) := by decide +kernel
theorem D19_71 : decode (byt 19) 71 = .ok (.putfield 38, 3) := by decide +kernel
theorem D19_74 : decode (byt 19) 74 = .ok (.aload_n 0, 1) := by decide +kernel
theorem D19_75 : decode (byt 19) 75 = .ok (.iconst 0, 1) := by decide +kernel
theorem D19_76 : decode (byt 19) 76 = .ok (.putfield 42, 3) := by decide +kernel
theorem D19_79 : decode (byt 19) 79 = .ok (.aload_n 0, 1) := by decide +kernel
theorem D19_80 : decode (byt 19) 80 = .ok (.iconst 0, 1) := by decide +kernel
theorem D19_81 : decode (byt 19) 81 = .ok (.putfield 46, 3) := by decide +kernel
theorem D19_84 : decode (byt 19) 84 = .ok (.aload_n 0, 1) := by decide +kernel
theorem D19_85 : decode (byt 19) 85 = .ok (.iconst 0, 1) := by decide +kernel
theorem D19_86 : decode (byt 19) 86 = .ok (.putfield 49, 3) := by decide +kernel
theorem D19_89 : decode (byt 19) 89 = .ok (.aload_n 0, 1) := by decide +kernel
theorem D19_90 : decode (byt 19) 90 = .ok (.iconst 0, 1) := by decide +kernel
theorem D19_91 : decode (byt 19) 91 = .ok (.putfield 52, 3) := by decide +kernel
theorem D19_94 : decode (byt 19) 94 = .ok (.return_, 1) := by decide +kernel
theorem D20_0 : decode (byt 20) 0 = .ok (.aload_n 0, 1) := by decide +kernel
theorem D20_1 : decode (byt 20) 1 = .ok (.iconst 0, 1) := by decide +kernel
theorem D20_2 : decode (byt 20) 2 = .ok (.putfield 42, 3) := by decide +kernel
theorem D20_5 : decode (byt 20) 5 = .ok (.aload_n 0, 1) := by decide +kernel
theorem D20_6 : decode (byt 20) 6 = .ok (.iconst 0, 1) := by decide +kernel
theorem D20_7 : decode (byt 20) 7 = .ok (.putfield 46, 3) := by decide +kernel
theorem D20_10 : decode (byt 20) 10 = .ok (.aload_n 0, 1) := by decide +kernel
theorem D20_11 : decode (byt 20) 11 = .ok (.iconst 0, 1) := by decide +kernel
theorem D20_12 : decode (byt 20) 12 = .ok (.putfield 49, 3) := by decide +kernel
theorem D20_15 : decode (byt 20) 15 = .ok (.aload_n 0, 1) := by decide +kernel
theorem D20_16 : decode (byt 20) 16 = .ok (.iconst 0, 1) := by decide +kernel
theorem D20_17 : decode (byt 20) 17 = .ok (.putfield 52, 3) := by decide +kernel
theorem D20_20 : decode (byt 20) 20 = .ok (.aload_n 0, 1) := by decide +kernel
theorem D20_21 : decode (byt 20) 21 = .ok (.iconst 1, 1) := by decide +kernel
theorem D20_22 : decode (byt 20) 22 = .ok (.putfield 38, 3) := by decide +kernel
theorem D20_25 : decode (byt 20) 25 = .ok (.aload_n 0, 1) := by decide +kernel
theorem D20_26 : decode (byt 20) 26 = .ok (.iconst 0, 1) := by decide +kernel
theorem D20_27 : decode (byt 20) 27 = .ok (.iconst 0, 1) := by decide +kernel
theorem D20_28 : decode (byt 20) 28 = .ok (.iconst 0, 1) := by decide +kernel
theorem D20_29 : decode (byt 20) 29 = .ok (.invokevirtual 55, 3) := by decide +kernel
theorem D20_32 : decode (byt 20) 32 = .ok (.pop, 1) := by decide +kernel
theorem D20_33 : decode (byt 20) 33 = .ok (.aload_n 0, 1) := by decide +kernel
theorem D20_34 : decode (byt 20) 34 = .ok (.iconst 1, 1) := by decide +kernel
theorem D20_35 : decode (byt 20) 35 = .ok (.iconst 0, 1) := by decide +kernel
theorem D20_36 : decode (byt 20) 36 = .ok (.iconst 0, 1) := by decide +kernel
theorem D20_37 : decode (byt 20) 37 = .ok (.invokevirtual 55, 3) := by decide +kernel
theorem D20_40 : decode (byt 20) 40 = .ok (.pop, 1) := by decide +kernel
theorem D20_41 : decode (byt 20) 41 = .ok (.return_, 1) := by decide +kernel
theorem D21_0 : decode (byt 21) 0 = .ok (.iload_n 1, 1) := by decide +kernel
theorem D21_1 : decode (byt 21) 1 = .ok (.ifCond .lt 22, 3) := by decide +kernel
theorem D21_4 : decode (byt 21) 4 = .ok (.iload_n 1, 1) := by decide +kernel
theorem D21_5 : decode (byt 21) 5 = .ok (.aload_n 0, 1) := by decide +kernel
theorem D21_6 : decode (byt 21) 6 = .ok (.getfield 42, 3) := by decide +kernel
theorem D21_9 : decode (byt 21) 9 = .ok (.if_icmp .ge 14, 3) := by decide +kernel
theorem D21_12 : decode (byt 21) 12 = .ok (.iload_n 1, 1) := by decide +kernel
theorem D21_13 : decode (byt 21) 13 = .ok (.sipush 1500, 3) := by decide +kernel
theorem D21_16 : decode (byt 21) 16 = .ok (.if_icmp .ge 7, 3) := by decide +kernel
theorem D21_19 : decode (byt 21) 19 = .ok (.iconst 1, 1) := by decide +kernel
theorem D21_20 : decode (byt 21) 20 = .ok (.goto 4, 3) := by decide +kernel
theorem D21_23 : decode (byt 21) 23 = .ok (.iconst 0, 1) := by decide +kernel
theorem D21_24 : decode (byt 21) 24 = .ok (.ireturn, 1) := by decide +kernel
theorem D22_0 : decode (byt 22) 0 = .ok (.aload_n 0, 1) := by decide +kernel
theorem D22_1 : decode (byt 22) 1 = .ok (.getfield 42, 3) := by decide +kernel
theorem D22_4 : decode (byt 22) 4 = .ok (.sipush 1500, 3) := by decide +kernel
theorem D22_7 : decode (byt 22) 7 = .ok (.if_icmp .lt 10, 3) := by decide +kernel
theorem D22_10 : decode (byt 22) 10 = .ok (.aload_n 0, 1) := by decide +kernel
theorem D22_11 : decode (byt 22) 11 = .ok (.iconst 1, 1) := by decide +kernel
theorem D22_12 : decode (byt 22) 12 = .ok (.putfield 52, 3) := by decide +kernel
theorem D22_15 : decode (byt 22) 15 = .ok (.iconst (-1), 1) := by decide +kernel
theorem D22_16 : decode (byt 22) 16 = .ok (.ireturn, 1) := by decide +kernel
theorem D22_17 : decode (byt 22) 17 = .ok (.aload_n 0, 1) := by decide +kernel
theorem D22_18 : decode (byt 22) 18 = .ok (.getfield 42, 3) := by decide +kernel
theorem D22_21 : decode (byt 22) 21 = .ok (.istore 4, 2) := by decide +kernel
theorem D22_23 : decode (byt 22) 23 = .ok (.aload_n 0, 1) := by decide +kernel
theorem D22_24 : decode (byt 22) 24 = .ok (.dup, 1) := by decide +kernel
theorem D22_25 : decode (byt 22) 25 = .ok (.getfield 42, 3) := by decide +kernel
theorem D22_28 : decode (byt 22) 28 = .ok (.iconst 1, 1) := by decide +kernel
theorem D22_29 : decode (byt 22) 29 = .ok (.iadd, 1) := by decide +kernel
theorem D22_30 : decode (byt 22) 30 = .ok (.putfield 42, 3) := by decide +kernel
theorem D22_33 : decode (byt 22) 33 = .ok (.aload_n 0, 1) := by decide +kernel
theorem D22_34 : decode (byt 22) 34 = .ok (.getfield 9, 3) := by decide +kernel
theorem D22_37 : decode (byt 22) 37 = .ok (.iload 4, 2) := by decide +kernel
theorem D22_39 : decode (byt 22) 39 = .ok (.iload_n 1, 1) := by decide +kernel
theorem D22_40 : decode (byt 22) 40 = .ok (.iastore, 1) := by decide +kernel
theorem D22_41 : decode (byt 22) 41 = .ok (.aload_n 0, 1) := by decide +kernel
theorem D22_42 : decode (byt 22) 42 = .ok (.getfield 15, 3) := by decide +kernel
theorem D22_45 : decode (byt 22) 45 = .ok (.iload 4, 2) := by decide +kernel
theorem D22_47 : decode (byt 22) 47 = .ok (.iload_n 2, 1) := by decide +kernel
theorem D22_48 : decode (byt 22) 48 = .ok (.iastore, 1) := by decide +kernel
theorem D22_49 : decode (byt 22) 49 = .ok (.aload_n 0, 1) := by decide +kernel
theorem D22_50 : decode (byt 22) 50 = .ok (.getfield 18, 3) := by decide +kernel
theorem D22_53 : decode (byt 22) 53 = .ok (.iload 4, 2) := by decide +kernel
theorem D22_55 : decode (byt 22) 55 = .ok (.iconst 0, 1) := by decide +kernel
theorem D22_56 : decode (byt 22) 56 = .ok (.iastore, 1) := by decide +kernel
theorem D22_57 : decode (byt 22) 57 = .ok (.aload_n 0, 1) := by decide +kernel
theorem D22_58 : decode (byt 22) 58 = .ok (.getfield 21, 3) := by decide +kernel
theorem D22_61 : decode (byt 22) 61 = .ok (.iload 4, 2) := by decide +kernel
theorem D22_63 : decode (byt 22) 63 = .ok (.iload_n 3, 1) := by decide +kernel
theorem D22_64 : decode (byt 22) 64 = .ok (.iastore, 1) := by decide +kernel
theorem D22_65 : decode (byt 22) 65 = .ok (.iload 4, 2) := by decide +kernel
theorem D22_67 : decode (byt 22) 67 = .ok (.ireturn, 1) := by decide +kernel
theorem D23_0 : decode (byt 23) 0 = .ok (.aload_n 0, 1) := by decide +kernel
theorem D23_1 : decode (byt 23) 1 = .ok (.iload_n 1, 1) := by decide +kernel
theorem D23_2 : decode (byt 23) 2 = .ok (.invokevirtual 59, 3) := by decide +kernel
theorem D23_5 : decode (byt 23) 5 = .ok (.ifCond .eq 22, 3) := by decide +kernel
theorem D23_8 : decode (byt 23) 8 = .ok (.aload_n 0, 1) := by decide +kernel
theorem D23_9 : decode (byt 23) 9 = .ok (.iload_n 2, 1) := by decide +kernel
theorem D23_10 : decode (byt 23) 10 = .ok (.invokevirtual 59, 3) := by decide +kernel
theorem D23_13 : decode (byt 23) 13 = .ok (.ifCond .eq 14, 3) := by decide +kernel
theorem D23_16 : decode (byt 23) 16 = .ok (.aload_n 0, 1) := by decide +kernel
theorem D23_17 : decode (byt 23) 17 = .ok (.getfield 18, 3) := by decide +kernel
theorem D23_20 : decode (byt 23) 20 = .ok (.iload_n 1, 1) := by decide +kernel
theorem D23_21 : decode (byt 23) 21 = .ok (.iaload, 1) := by decide +kernel
theorem D23_22 : decode (byt 23) 22 = .ok (.bipush 12, 2) := by decide +kernel
theorem D23_24 : decode (byt 23) 24 = .ok (.if_icmp .lt 4, 3) := by decide +kernel
theorem D23_27 : decode (byt 23) 27 = .ok (.return_, 1) := by decide +kernel
theorem D23_28 : decode (byt 23) 28 = .ok (.aload_n 0, 1) := by decide +kernel
theorem D23_29 : decode (byt 23) 29 = .ok (.getfield 24, 3) := by decide +kernel
theorem D23_32 : decode (byt 23) 32 = .ok (.iload_n 1, 1) := by decide +kernel
theorem D23_33 : decode (byt 23) 33 = .ok (.bipush 12, 2) := by decide +kernel
theorem D23_35 : decode (byt 23) 35 = .ok (.imul, 1) := by decide +kernel
theorem D23_36 : decode (byt 23) 36 = .ok (.aload_n 0, 1) := by decide +kernel
theorem D23_37 : decode (byt 23) 37 = .ok (.getfield 18, 3) := by decide +kernel
theorem D23_40 : decode (byt 23) 40 = .ok (.iload_n 1, 1) := by decide +kernel
theorem D23_41 : decode (byt 23) 41 = .ok (.iaload, 1) := by decide +kernel
theorem D23_42 : decode (byt 23) 42 = .ok (.iadd, 1) := by decide +kernel
theorem D23_43 : decode (byt 23) 43 = .ok (.iload_n 2, 1) := by decide +kernel
theorem D23_44 : decode (byt 23) 44 = .ok (.iastore, 1) := by decide +kernel
theorem D23_45 : decode (byt 23) 45 = .ok (.aload_n 0, 1) := by decide +kernel
theorem D23_46 : decode (byt 23) 46 = .ok (.getfield 18, 3) := by decide +kernel
theorem D23_49 : decode (byt 23) 49 = .ok (.iload_n 1, 1) := by decide +kernel
theorem D23_50 : decode (byt 23) 50 = .ok (.dup2, 1) := by decide +kernel
theorem D23_51 : decode (byt 23) 51 = .ok (.iaload, 1) := by decide +kernel
theorem D23_52 : decode (byt 23) 52 = .ok (.iconst 1, 1) := by decide +kernel
theorem D23_53 : decode (byt 23) 53 = .ok (.iadd, 1) := by decide +kernel
theorem D23_54 : decode (byt 23) 54 = .ok (.iastore, 1) := by decide +kernel
theorem D23_55 : decode (byt 23) 55 = .ok (.aload_n 0, 1) := by decide +kernel
theorem D23_56 : decode (byt 23) 56 = .ok (.getfield 21, 3) := by decide +kernel
theorem D23_59 : decode (byt 23) 59 = .ok (.iload_n 1, 1) := by decide +kernel
theorem D23_60 : decode (byt 23) 60 = .ok (.dup2, 1) := by decide +kernel
theorem D23_61 : decode (byt 23) 61 = .ok (.iaload, 1) := by decide +kernel
theorem D23_62 : decode (byt 23) 62 = .ok (.aload_n 0, 1) := by decide +kernel
theorem D23_63 : decode (byt 23) 63 = .ok (.getfield 21, 3) := by decide +kernel
theorem D23_66 : decode (byt 23) 66 = .ok (.iload_n 2, 1) := by decide +kernel
theorem D23_67 : decode (byt 23) 67 = .ok (.iaload, 1) := by decide +kernel
theorem D23_68 : decode (byt 23) 68 = .ok (.ior, 1) := by decide +kernel
theorem D23_69 : decode (byt 23) 69 = .ok (.iastore, 1) := by decide +kernel
theorem D23_70 : decode (byt 23) 70 = .ok (.return_, 1) := by decide +kernel
theorem D24_0 : decode (byt 24) 0 = .ok (.aload_n 0, 1) := by decide +kernel
theorem D24_1 : decode (byt 24) 1 = .ok (.iload_n 1, 1) := by decide +kernel
theorem D24_2 : decode (byt 24) 2 = .ok (.invokevirtual 59, 3) := by decide +kernel
theorem D24_5 : decode (byt 24) 5 = .ok (.ifCond .eq 17, 3) := by decide +kernel
theorem D24_8 : decode (byt 24) 8 = .ok (.iload_n 2, 1) := by decide +kernel
theorem D24_9 : decode (byt 24) 9 = .ok (.ifCond .lt 13, 3) := by decide +kernel
theorem D24_12 : decode (byt 24) 12 = .ok (.iload_n 2, 1) := by decide +kernel
theorem D24_13 : decode (byt 24) 13 = .ok (.aload_n 0, 1) := by decide +kernel
theorem D24_14 : decode (byt 24) 14 = .ok (.getfield 18, 3) := by decide +kernel
theorem D24_17 : decode (byt 24) 17 = .ok (.iload_n 1, 1) := by decide +kernel
theorem D24_18 : decode (byt 24) 18 = .ok (.iaload, 1) := by decide +kernel
theorem D24_19 : decode (byt 24) 19 = .ok (.if_icmp .lt 5, 3) := by decide +kernel
theorem D24_22 : decode (byt 24) 22 = .ok (.iconst (-1), 1) := by decide +kernel
theorem D24_23 : decode (byt 24) 23 = .ok (.ireturn, 1) := by decide +kernel
theorem D24_24 : decode (byt 24) 24 = .ok (.aload_n 0, 1) := by decide +kernel
theorem D24_25 : decode (byt 24) 25 = .ok (.getfield 24, 3) := by decide +kernel
theorem D24_28 : decode (byt 24) 28 = .ok (.iload_n 1, 1) := by decide +kernel
theorem D24_29 : decode (byt 24) 29 = .ok (.bipush 12, 2) := by decide +kernel
theorem D24_31 : decode (byt 24) 31 = .ok (.imul, 1) := by decide +kernel
theorem D24_32 : decode (byt 24) 32 = .ok (.iload_n 2, 1) := by decide +kernel
theorem D24_33 : decode (byt 24) 33 = .ok (.iadd, 1) := by decide +kernel
theorem D24_34 : decode (byt 24) 34 = .ok (.iaload, 1) := by decide +kernel
theorem D24_35 : decode (byt 24) 35 = .ok (.ireturn, 1) := by decide +kernel
theorem D25_0 : decode (byt 25) 0 = .ok (.aload_n 0, 1) := by decide +kernel
theorem D25_1 : decode (byt 25) 1 = .ok (.iload_n 1, 1) := by decide +kernel
theorem D25_2 : decode (byt 25) 2 = .ok (.invokevirtual 59, 3) := by decide +kernel
theorem D25_5 : decode (byt 25) 5 = .ok (.ifCond .eq 26, 3) := by decide +kernel
theorem D25_8 : decode (byt 25) 8 = .ok (.iload_n 2, 1) := by decide +kernel
theorem D25_9 : decode (byt 25) 9 = .ok (.ifCond .lt 22, 3) := by decide +kernel
theorem D25_12 : decode (byt 25) 12 = .ok (.iload_n 2, 1) := by decide +kernel
theorem D25_13 : decode (byt 25) 13 = .ok (.aload_n 0, 1) := by decide +kernel
theorem D25_14 : decode (byt 25) 14 = .ok (.getfield 18, 3) := by decide +kernel
theorem D25_17 : decode (byt 25) 17 = .ok (.iload_n 1, 1) := by decide +kernel
theorem D25_18 : decode (byt 25) 18 = .ok (.iaload, 1) := by decide +kernel
theorem D25_19 : decode (byt 25) 19 = .ok (.if_icmp .ge 12, 3) := by decide +kernel
theorem D25_22 : decode (byt 25) 22 = .ok (.iload_n 3, 1) := by decide +kernel
theorem D25_23 : decode (byt 25) 23 = .ok (.ifCond .lt 8, 3) := by decide +kernel
theorem D25_26 : decode (byt 25) 26 = .ok (.iload_n 3, 1) := by decide +kernel
theorem D25_27 : decode (byt 25) 27 = .ok (.iload_n 1, 1) := by decide +kernel
theorem D25_28 : decode (byt 25) 28 = .ok (.if_icmp .lt 4, 3) := by decide +kernel
theorem D25_31 : decode (byt 25) 31 = .ok (.return_, 1) := by decide +kernel
theorem D25_32 : decode (byt 25) 32 = .ok (.aload_n 0, 1) := by decide +kernel
theorem D25_33 : decode (byt 25) 33 = .ok (.getfield 24, 3) := by decide +kernel
theorem D25_36 : decode (byt 25) 36 = .ok (.iload_n 1, 1) := by decide +kernel
theorem D25_37 : decode (byt 25) 37 = .ok (.bipush 12, 2) := by decide +kernel
theorem D25_39 : decode (byt 25) 39 = .ok (.imul, 1) := by decide +kernel
theorem D25_40 : decode (byt 25) 40 = .ok (.iload_n 2, 1) := by decide +kernel
theorem D25_41 : decode (byt 25) 41 = .ok (.iadd, 1) := by decide +kernel
theorem D25_42 : decode (byt 25) 42 = .ok (.iload_n 3, 1) := by decide +kernel
theorem D25_43 : decode (byt 25) 43 = .ok (.iastore, 1) := by decide +kernel
theorem D25_44 : decode (byt 25) 44 = .ok (.aload_n 0, 1) := by decide +kernel
theorem D25_45 : decode (byt 25) 45 = .ok (.iconst 1, 1) := by decide +kernel
theorem D25_46 : decode (byt 25) 46 = .ok (.putfield 38, 3) := by decide +kernel
theorem D25_49 : decode (byt 25) 49 = .ok (.iload_n 1, 1) := by decide +kernel
theorem D25_50 : decode (byt 25) 50 = .ok (.istore 4, 2) := by decide +kernel
theorem D25_52 : decode (byt 25) 52 = .ok (.iload 4, 2) := by decide +kernel
theorem D25_54 : decode (byt 25) 54 = .ok (.aload_n 0, 1) := by decide +kernel
theorem D25_55 : decode (byt 25) 55 = .ok (.getfield 42, 3) := by decide +kernel
theorem D25_58 : decode (byt 25) 58 = .ok (.if_icmp .ge 15, 3) := by decide +kernel
theorem D25_61 : decode (byt 25) 61 = .ok (.aload_n 0, 1) := by decide +kernel
theorem D25_62 : decode (byt 25) 62 = .ok (.iload 4, 2) := by decide +kernel
theorem D25_64 : decode (byt 25) 64 = .ok (.invokevirtual 63, 3) := by decide +kernel
theorem D25_67 : decode (byt 25) 67 = .ok (.iinc 4 1, 3) := by decide +kernel
theorem D25_70 : decode (byt 25) 70 = .ok (.goto (-18), 3) := by decide +kernel
theorem D25_73 : decode (byt 25) 73 = .ok (.return_, 1) := by decide +kernel
theorem D26_0 : decode (byt 26) 0 = .ok (.aload_n 0, 1) := by decide +kernel
theorem D26_1 : decode (byt 26) 1 = .ok (.getfield 15, 3) := by decide +kernel
theorem D26_4 : decode (byt 26) 4 = .ok (.iload_n 1, 1) := by decide +kernel
theorem D26_5 : decode (byt 26) 5 = .ok (.iaload, 1) := by decide +kernel
theorem D26_6 : decode (byt 26) 6 = .ok (.invokestatic 67, 3) := by decide +kernel
theorem D26_9 : decode (byt 26) 9 = .ok (.invokestatic 71, 3) := by decide +kernel
theorem D26_12 : decode (byt 26) 12 = .ok (.istore_n 2, 1) := by decide +kernel
theorem D26_13 : decode (byt 26) 13 = .ok (.iconst 0, 1) := by decide +kernel
theorem D26_14 : decode (byt 26) 14 = .ok (.istore_n 3, 1) := by decide +kernel
theorem D26_15 : decode (byt 26) 15 = .ok (.iload_n 3, 1) := by decide +kernel
theorem D26_16 : decode (byt 26) 16 = .ok (.aload_n 0, 1) := by decide +kernel
theorem D26_17 : decode (byt 26) 17 = .ok (.getfield 18, 3) := by decide +kernel
theorem D26_20 : decode (byt 26) 20 = .ok (.iload_n 1, 1) := by decide +kernel
theorem D26_21 : decode (byt 26) 21 = .ok (.iaload, 1) := by decide +kernel
theorem D26_22 : decode (byt 26) 22 = .ok (.if_icmp .ge 18, 3) := by decide +kernel
theorem D26_25 : decode (byt 26) 25 = .ok (.iload_n 2, 1) := by decide +kernel
theorem D26_26 : decode (byt 26) 26 = .ok (.aload_n 0, 1) := by decide +kernel
theorem D26_27 : decode (byt 26) 27 = .ok (.iload_n 1, 1) := by decide +kernel
theorem D26_28 : decode (byt 26) 28 = .ok (.iload_n 3, 1) := by decide +kernel
theorem D26_29 : decode (byt 26) 29 = .ok (.invokevirtual 74, 3) := by decide +kernel
theorem D26_32 : decode (byt 26) 32 = .ok (.ior, 1) := by decide +kernel
theorem D26_33 : decode (byt 26) 33 = .ok (.istore_n 2, 1) := by decide +kernel
theorem D26_34 : decode (byt 26) 34 = .ok (.iinc 3 1, 3) := by decide +kernel
theorem D26_37 : decode (byt 26) 37 = .ok (.goto (-22), 3) := by decide +kernel
theorem D26_40 : decode (byt 26) 40 = .ok (.aload_n 0, 1) := by decide +kernel
theorem D26_41 : decode (byt 26) 41 = .ok (.getfield 21, 3) := by decide +kernel
theorem D26_44 : decode (byt 26) 44 = .ok (.iload_n 1, 1) := by decide +kernel
theorem D26_45 : decode (byt 26) 45 = .ok (.iload_n 2, 1) := by decide +kernel
theorem D26_46 : decode (byt 26) 46 = .ok (.iastore, 1) := by decide +kernel
theorem D26_47 : decode (byt 26) 47 = .ok (.return_, 1) := by decide +kernel
theorem D27_0 : decode (byt 27) 0 = .ok (.iconst 0, 1) := by decide +kernel
theorem D27_1 : decode (byt 27) 1 = .ok (.istore_n 1, 1) := by decide +kernel
theorem D27_2 : decode (byt 27) 2 = .ok (.iload_n 1, 1) := by decide +kernel
theorem D27_3 : decode (byt 27) 3 = .ok (.aload_n 0, 1) := by decide +kernel
theorem D27_4 : decode (byt 27) 4 = .ok (.getfield 42, 3) := by decide +kernel
theorem D27_7 : decode (byt 27) 7 = .ok (.if_icmp .ge 29, 3) := by decide +kernel
theorem D27_10 : decode (byt 27) 10 = .ok (.aload_n 0, 1) := by decide +kernel
theorem D27_11 : decode (byt 27) 11 = .ok (.getfield 9, 3) := by decide +kernel
theorem D27_14 : decode (byt 27) 14 = .ok (.iload_n 1, 1) := by decide +kernel
theorem D27_15 : decode (byt 27) 15 = .ok (.iaload, 1) := by decide +kernel
theorem D27_16 : decode (byt 27) 16 = .ok (.iconst 3, 1) := by decide +kernel
theorem D27_17 : decode (byt 27) 17 = .ok (.if_icmp .ne 13, 3) := by decide +kernel
theorem D27_20 : decode (byt 27) 20 = .ok (.aload_n 0, 1) := by decide +kernel
theorem D27_21 : decode (byt 27) 21 = .ok (.iload_n 1, 1) := by decide +kernel
theorem D27_22 : decode (byt 27) 22 = .ok (.invokevirtual 81, 3) := by decide +kernel
theorem D27_25 : decode (byt 27) 25 = .ok (.ifCond .eq 5, 3) := by decide +kernel
theorem D27_28 : decode (byt 27) 28 = .ok (.iload_n 1, 1) := by decide +kernel
theorem D27_29 : decode (byt 27) 29 = .ok (.ireturn, 1) := by decide +kernel
theorem D27_30 : decode (byt 27) 30 = .ok (.iinc 1 1, 3) := by decide +kernel
theorem D27_33 : decode (byt 27) 33 = .ok (.goto (-31), 3) := by decide +kernel
theorem D27_36 : decode (byt 27) 36 = .ok (.iconst (-1), 1) := by decide +kernel
theorem D27_37 : decode (byt 27) 37 = .ok (.ireturn, 1) := by decide +kernel
theorem D28_0 : decode (byt 28) 0 = .ok (.iconst 0, 1) := by decide +kernel
theorem D28_1 : decode (byt 28) 1 = .ok (.istore_n 2, 1) := by decide +kernel
theorem D28_2 : decode (byt 28) 2 = .ok (.iconst 0, 1) := by decide +kernel
theorem D28_3 : decode (byt 28) 3 = .ok (.istore_n 3, 1) := by decide +kernel
theorem D28_4 : decode (byt 28) 4 = .ok (.iload_n 3, 1) := by decide +kernel
theorem D28_5 : decode (byt 28) 5 = .ok (.aload_n 0, 1) := by decide +kernel
theorem D28_6 : decode (byt 28) 6 = .ok (.getfield 18, 3) := by decide +kernel
theorem D28_9 : decode (byt 28) 9 = .ok (.iload_n 1, 1) := by decide +kernel
theorem D28_10 : decode (byt 28) 10 = .ok (.iaload, 1) := by decide +kernel
theorem D28_11 : decode (byt 28) 11 = .ok (.if_icmp .ge 31, 3) := by decide +kernel
theorem D28_14 : decode (byt 28) 14 = .ok (.aload_n 0, 1) := by decide +kernel
theorem D28_15 : decode (byt 28) 15 = .ok (.iload_n 1, 1) := by decide +kernel
theorem D28_16 : decode (byt 28) 16 = .ok (.iload_n 3, 1) := by decide +kernel
theorem D28_17 : decode (byt 28) 17 = .ok (.invokevirtual 74, 3) := by decide +kernel
theorem D28_20 : decode (byt 28) 20 = .ok (.istore 4, 2) := by decide +kernel
theorem D28_22 : decode (byt 28) 22 = .ok (.iload_n 2, 1) := by decide +kernel
theorem D28_23 : decode (byt 28) 23 = .ok (.iload 4, 2) := by decide +kernel
theorem D28_25 : decode (byt 28) 25 = .ok (.iand, 1) := by decide +kernel
theorem D28_26 : decode (byt 28) 26 = .ok (.ifCond .eq 5, 3) := by decide +kernel
theorem D28_29 : decode (byt 28) 29 = .ok (.iconst 1, 1) := by decide +kernel
theorem D28_30 : decode (byt 28) 30 = .ok (.ireturn, 1) := by decide +kernel
theorem D28_31 : decode (byt 28) 31 = .ok (.iload_n 2, 1) := by decide +kernel
theorem D28_32 : decode (byt 28) 32 = .ok (.iload 4, 2) := by decide +kernel
theorem D28_34 : decode (byt 28) 34 = .ok (.ior, 1) := by decide +kernel
theorem D28_35 : decode (byt 28) 35 = .ok (.istore_n 2, 1) := by decide +kernel
theorem D28_36 : decode (byt 28) 36 = .ok (.iinc 3 1, 3) := by decide +kernel
theorem D28_39 : decode (byt 28) 39 = .ok (.goto (-35), 3) := by decide +kernel
theorem D28_42 : decode (byt 28) 42 = .ok (.iconst 0, 1) := by decide +kernel
theorem D28_43 : decode (byt 28) 43 = .ok (.ireturn, 1) := by decide +kernel
theorem D29_0 : decode (byt 29) 0 = .ok (.iconst 0, 1) := by decide +kernel
theorem D29_1 : decode (byt 29) 1 = .ok (.istore_n 1, 1) := by decide +kernel
theorem D29_2 : decode (byt 29) 2 = .ok (.iload_n 1, 1) := by decide +kernel
theorem D29_3 : decode (byt 29) 3 = .ok (.aload_n 0, 1) := by decide +kernel
theorem D29_4 : decode (byt 29) 4 = .ok (.getfield 42, 3) := by decide +kernel
theorem D29_7 : decode (byt 29) 7 = .ok (.if_icmp .ge 59, 3) := by decide +kernel
theorem D29_10 : decode (byt 29) 10 = .ok (.aload_n 0, 1) := by decide +kernel
theorem D29_11 : decode (byt 29) 11 = .ok (.getfield 9, 3) := by decide +kernel
theorem D29_14 : decode (byt 29) 14 = .ok (.iload_n 1, 1) := by decide +kernel
theorem D29_15 : decode (byt 29) 15 = .ok (.iaload, 1) := by decide +kernel
theorem D29_16 : decode (byt 29) 16 = .ok (.iconst 4, 1) := by decide +kernel
theorem D29_17 : decode (byt 29) 17 = .ok (.if_icmp .ne 43, 3) := by decide +kernel
theorem D29_20 : decode (byt 29) 20 = .ok (.aload_n 0, 1) := by decide +kernel
theorem D29_21 : decode (byt 29) 21 = .ok (.getfield 18, 3) := by decide +kernel
theorem D29_24 : decode (byt 29) 24 = .ok (.iload_n 1, 1) := by decide +kernel
theorem D29_25 : decode (byt 29) 25 = .ok (.iaload, 1) := by decide +kernel
theorem D29_26 : decode (byt 29) 26 = .ok (.iconst 2, 1) := by decide +kernel
theorem D29_27 : decode (byt 29) 27 = .ok (.if_icmp .ne 33, 3) := by decide +kernel
theorem D29_30 : decode (byt 29) 30 = .ok (.aload_n 0, 1) := by decide +kernel
theorem D29_31 : decode (byt 29) 31 = .ok (.iload_n 1, 1) := by decide +kernel
theorem D29_32 : decode (byt 29) 32 = .ok (.iconst 0, 1) := by decide +kernel
theorem D29_33 : decode (byt 29) 33 = .ok (.invokevirtual 74, 3) := by decide +kernel
theorem D29_36 : decode (byt 29) 36 = .ok (.aload_n 0, 1) := by decide +kernel
theorem D29_37 : decode (byt 29) 37 = .ok (.iload_n 1, 1) := by decide +kernel
theorem D29_38 : decode (byt 29) 38 = .ok (.iconst 1, 1) := by decide +kernel
theorem D29_39 : decode (byt 29) 39 = .ok (.invokevirtual 74, 3) := by decide +kernel
theorem D29_42 : decode (byt 29) 42 = .ok (.ior, 1) := by decide +kernel
theorem D29_43 : decode (byt 29) 43 = .ok (.istore_n 2, 1) := by decide +kernel
theorem D29_44 : decode (byt 29) 44 = .ok (.iload_n 2, 1) := by decide +kernel
theorem D29_45 : decode (byt 29) 45 = .ok (.aload_n 0, 1) := by decide +kernel
theorem D29_46 : decode (byt 29) 46 = .ok (.getfield 15, 3) := by decide +kernel
theorem D29_49 : decode (byt 29) 49 = .ok (.iload_n 1, 1) := by decide +kernel
theorem D29_50 : decode (byt 29) 50 = .ok (.iaload, 1) := by decide +kernel
theorem D29_51 : decode (byt 29) 51 = .ok (.invokestatic 67, 3) := by decide +kernel
theorem D29_54 : decode (byt 29) 54 = .ok (.iand, 1) := by decide +kernel
theorem D29_55 : decode (byt 29) 55 = .ok (.ifCond .eq 5, 3) := by decide +kernel
theorem D29_58 : decode (byt 29) 58 = .ok (.iload_n 1, 1) := by decide +kernel
theorem D29_59 : decode (byt 29) 59 = .ok (.ireturn, 1) := by decide +kernel
theorem D29_60 : decode (byt 29) 60 = .ok (.iinc 1 1, 3) := by decide +kernel
theorem D29_63 : decode (byt 29) 63 = .ok (.goto (-61), 3) := by decide +kernel
theorem D29_66 : decode (byt 29) 66 = .ok (.iconst (-1), 1) := by decide +kernel
theorem D29_67 : decode (byt 29) 67 = .ok (.ireturn, 1) := by decide +kernel
theorem D30_0 : decode (byt 30) 0 = .ok (.aload_n 0, 1) := by decide +kernel
theorem D30_1 : decode (byt 30) 1 = .ok (.getfield 38, 3) := by decide +kernel
theorem D30_4 : decode (byt 30) 4 = .ok (.ifCond .eq 49, 3) := by decide +kernel
theorem D30_7 : decode (byt 30) 7 = .ok (.aload_n 0, 1) := by decide +kernel
theorem D30_8 : decode (byt 30) 8 = .ok (.getfield 34, 3) := by decide +kernel
theorem D30_11 : decode (byt 30) 11 = .ok (.iload_n 1, 1) := by decide +kernel
theorem D30_12 : decode (byt 30) 12 = .ok (.invokevirtual 84, 3) := by decide +kernel
theorem D30_15 : decode (byt 30) 15 = .ok (.iconst 0, 1) := by decide +kernel
theorem D30_16 : decode (byt 30) 16 = .ok (.istore_n 2, 1) := by decide +kernel
theorem D30_17 : decode (byt 30) 17 = .ok (.iload_n 2, 1) := by decide +kernel
theorem D30_18 : decode (byt 30) 18 = .ok (.aload_n 0, 1) := by decide +kernel
theorem D30_19 : decode (byt 30) 19 = .ok (.getfield 34, 3) := by decide +kernel
theorem D30_22 : decode (byt 30) 22 = .ok (.getfield 87, 3) := by decide +kernel
theorem D30_25 : decode (byt 30) 25 = .ok (.if_icmp .ge 23, 3) := by decide +kernel
theorem D30_28 : decode (byt 30) 28 = .ok (.aload_n 0, 1) := by decide +kernel
theorem D30_29 : decode (byt 30) 29 = .ok (.getfield 34, 3) := by decide +kernel
theorem D30_32 : decode (byt 30) 32 = .ok (.iload_n 2, 1) := by decide +kernel
theorem D30_33 : decode (byt 30) 33 = .ok (.aload_n 0, 1) := by decide +kernel
theorem D30_34 : decode (byt 30) 34 = .ok (.iload_n 1, 1) := by decide +kernel
theorem D30_35 : decode (byt 30) 35 = .ok (.iload_n 2, 1) := by decide +kernel
theorem D30_36 : decode (byt 30) 36 = .ok (.invokevirtual 90, 3) := by decide +kernel
theorem D30_39 : decode (byt 30) 39 = .ok (.invokevirtual 94, 3) := by decide +kernel
theorem D30_42 : decode (byt 30) 42 = .ok (.iinc 2 1, 3) := by decide +kernel
theorem D30_45 : decode (byt 30) 45 = .ok (.goto (-28), 3) := by decide +kernel
theorem D30_48 : decode (byt 30) 48 = .ok (.aload_n 0, 1) := by decide +kernel
theorem D30_49 : decode (byt 30) 49 = .ok (.iconst 0, 1) := by decide +kernel
theorem D30_50 : decode (byt 30) 50 = .ok (.putfield 38, 3) := by decide +kernel
theorem D30_53 : decode (byt 30) 53 = .ok (.aload_n 0, 1) := by decide +kernel
theorem D30_54 : decode (byt 30) 54 = .ok (.getfield 34, 3) := by decide +kernel
theorem D30_57 : decode (byt 30) 57 = .ok (.areturn, 1) := by decide +kernel
theorem D31_0 : decode (byt 31) 0 = .ok (.iconst 0, 1) := by decide +kernel
theorem D31_1 : decode (byt 31) 1 = .ok (.istore_n 3, 1) := by decide +kernel
theorem D31_2 : decode (byt 31) 2 = .ok (.iload_n 3, 1) := by decide +kernel
theorem D31_3 : decode (byt 31) 3 = .ok (.aload_n 0, 1) := by decide +kernel
theorem D31_4 : decode (byt 31) 4 = .ok (.getfield 46, 3) := by decide +kernel
theorem D31_7 : decode (byt 31) 7 = .ok (.if_icmp .gt 30, 3) := by decide +kernel
theorem D31_10 : decode (byt 31) 10 = .ok (.iload_n 3, 1) := by decide +kernel
theorem D31_11 : decode (byt 31) 11 = .ok (.aload_n 0, 1) := by decide +kernel
theorem D31_12 : decode (byt 31) 12 = .ok (.getfield 42, 3) := by decide +kernel
theorem D31_15 : decode (byt 31) 15 = .ok (.if_icmp .ge 22, 3) := by decide +kernel
theorem D31_18 : decode (byt 31) 18 = .ok (.aload_n 0, 1) := by decide +kernel
theorem D31_19 : decode (byt 31) 19 = .ok (.getfield 27, 3) := by decide +kernel
theorem D31_22 : decode (byt 31) 22 = .ok (.iload_n 3, 1) := by decide +kernel
theorem D31_23 : decode (byt 31) 23 = .ok (.aload_n 0, 1) := by decide +kernel
theorem D31_24 : decode (byt 31) 24 = .ok (.iload_n 3, 1) := by decide +kernel
theorem D31_25 : decode (byt 31) 25 = .ok (.iload_n 1, 1) := by decide +kernel
theorem D31_26 : decode (byt 31) 26 = .ok (.iload_n 2, 1) := by decide +kernel
theorem D31_27 : decode (byt 31) 27 = .ok (.invokevirtual 98, 3) := by decide +kernel
theorem D31_30 : decode (byt 31) 30 = .ok (.lastore, 1) := by decide +kernel
theorem D31_31 : decode (byt 31) 31 = .ok (.iinc 3 1, 3) := by decide +kernel
theorem D31_34 : decode (byt 31) 34 = .ok (.goto (-32), 3) := by decide +kernel
theorem D31_37 : decode (byt 31) 37 = .ok (.aload_n 0, 1) := by decide +kernel
theorem D31_38 : decode (byt 31) 38 = .ok (.aload_n 0, 1) := by decide +kernel
theorem D31_39 : decode (byt 31) 39 = .ok (.getfield 46, 3) := by decide +kernel
theorem D31_42 : decode (byt 31) 42 = .ok (.invokevirtual 59, 3) := by decide +kernel
theorem D31_45 : decode (byt 31) 45 = .ok (.ifCond .eq 15, 3) := by decide +kernel
theorem D31_48 : decode (byt 31) 48 = .ok (.aload_n 0, 1) := by decide +kernel
theorem D31_49 : decode (byt 31) 49 = .ok (.getfield 27, 3) := by decide +kernel
theorem D31_52 : decode (byt 31) 52 = .ok (.aload_n 0, 1) := by decide +kernel
theorem D31_53 : decode (byt 31) 53 = .ok (.getfield 46, 3) := by decide +kernel
theorem D31_56 : decode (byt 31) 56 = .ok (.laload, 1) := by decide +kernel
theorem D31_57 : decode (byt 31) 57 = .ok (.goto 4, 3) := by decide +kernel
theorem D31_60 : decode (byt 31) 60 = .ok (.lconst 0, 1) := by decide +kernel
theorem D31_61 : decode (byt 31) 61 = .ok (.lreturn, 1) := by decide +kernel
theorem D32_0 : decode (byt 32) 0 = .ok (.aload_n 0, 1) := by decide +kernel
theorem D32_1 : decode (byt 32) 1 = .ok (.getfield 9, 3) := by decide +kernel
theorem D32_4 : decode (byt 32) 4 = .ok (.iload_n 1, 1) := by decide +kernel
theorem D32_5 : decode (byt 32) 5 = .ok (.iaload, 1) := by decide +kernel
theorem D32_6 : decode (byt 32) 6 = .ok (.tableswitch 73 0 4 #[34, 73, 38, 50, 56], 34) := by decide +kernel
theorem D32_40 : decode (byt 32) 40 = .ok (.ldc2_w 102, 3) := by decide +kernel
theorem D32_43 : decode (byt 32) 43 = .ok (.lreturn, 1) := by decide +kernel
theorem D32_44 : decode (byt 32) 44 = .ok (.aload_n 0, 1) := by decide +kernel
theorem D32_45 : decode (byt 32) 45 = .ok (.getfield 15, 3) := by decide +kernel
theorem D32_48 : decode (byt 32) 48 = .ok (.iload_n 1, 1) := by decide +kernel
theorem D32_49 : decode (byt 32) 49 = .ok (.iaload, 1) := by decide +kernel
theorem D32_50 : decode (byt 32) 50 = .ok (.iload_n 2, 1) := by decide +kernel
theorem D32_51 : decode (byt 32) 51 = .ok (.iload_n 3, 1) := by decide +kernel
theorem D32_52 : decode (byt 32) 52 = .ok (.invokestatic 104, 3) := by decide +kernel
theorem D32_55 : decode (byt 32) 55 = .ok (.lreturn, 1) := by decide +kernel
theorem D32_56 : decode (byt 32) 56 = .ok (.aload_n 0, 1) := by decide +kernel
theorem D32_57 : decode (byt 32) 57 = .ok (.iload_n 1, 1) := by decide +kernel
theorem D32_58 : decode (byt 32) 58 = .ok (.invokevirtual 107, 3) := by decide +kernel
theorem D32_61 : decode (byt 32) 61 = .ok (.lreturn, 1) := by decide +kernel
theorem D32_62 : decode (byt 32) 62 = .ok (.aload_n 0, 1) := by decide +kernel
theorem D32_63 : decode (byt 32) 63 = .ok (.iload_n 1, 1) := by decide +kernel
theorem D32_64 : decode (byt 32) 64 = .ok (.aload_n 0, 1) := by decide +kernel
theorem D32_65 : decode (byt 32) 65 = .ok (.getfield 15, 3) := by decide +kernel
theorem D32_68 : decode (byt 32) 68 = .ok (.iload_n 1, 1) := by decide +kernel
theorem D32_69 : decode (byt 32) 69 = .ok (.iaload, 1) := by decide +kernel
theorem D32_70 : decode (byt 32) 70 = .ok (.iload_n 2, 1) := by decide +kernel
theorem D32_71 : decode (byt 32) 71 = .ok (.iload_n 3, 1) := by decide +kernel
theorem D32_72 : decode (byt 32) 72 = .ok (.invokestatic 104, 3) := by decide +kernel
theorem D32_75 : decode (byt 32) 75 = .ok (.invokevirtual 111, 3) := by decide +kernel
theorem D32_78 : decode (byt 32) 78 = .ok (.lreturn, 1) := by decide +kernel
theorem D32_79 : decode (byt 32) 79 = .ok (.lconst 0, 1) := by decide +kernel
theorem D32_80 : decode (byt 32) 80 = .ok (.lreturn, 1) := by decide +kernel
theorem D33_0 : decode (byt 33) 0 = .ok (.ldc2_w 102, 3) := by decide +kernel
theorem D33_3 : decode (byt 33) 3 = .ok (.lstore_n 2, 1) := by decide +kernel
theorem D33_4 : decode (byt 33) 4 = .ok (.iload_n 1, 1) := by decide +kernel
theorem D33_5 : decode (byt 33) 5 = .ok (.bipush 12, 2) := by decide +kernel
theorem D33_7 : decode (byt 33) 7 = .ok (.imul, 1) := by decide +kernel
theorem D33_8 : decode (byt 33) 8 = .ok (.istore 4, 2) := by decide +kernel
theorem D33_10 : decode (byt 33) 10 = .ok (.iconst 0, 1) := by decide +kernel
theorem D33_11 : decode (byt 33) 11 = .ok (.istore 5, 2) := by decide +kernel
theorem D33_13 : decode (byt 33) 13 = .ok (.iload 5, 2) := by decide +kernel
theorem D33_15 : decode (byt 33) 15 = .ok (.aload_n 0, 1) := by decide +kernel
theorem D33_16 : decode (byt 33) 16 = .ok (.getfield 18, 3) := by decide +kernel
theorem D33_19 : decode (byt 33) 19 = .ok (.iload_n 1, 1) := by decide +kernel
theorem D33_20 : decode (byt 33) 20 = .ok (.iaload, 1) := by decide +kernel
theorem D33_21 : decode (byt 33) 21 = .ok (.if_icmp .ge 53, 3) := by decide +kernel
theorem D33_24 : decode (byt 33) 24 = .ok (.iload 5, 2) := by decide +kernel
theorem D33_26 : decode (byt 33) 26 = .ok (.bipush 12, 2) := by decide +kernel
theorem D33_28 : decode (byt 33) 28 = .ok (.if_icmp .ge 46, 3) := by decide +kernel
theorem D33_31 : decode (byt 33) 31 = .ok (.aload_n 0, 1) := by decide +kernel
theorem D33_32 : decode (byt 33) 32 = .ok (.getfield 24, 3) := by decide +kernel
theorem D33_35 : decode (byt 33) 35 = .ok (.iload 4, 2) := by decide +kernel
theorem D33_37 : decode (byt 33) 37 = .ok (.iload 5, 2) := by decide +kernel
theorem D33_39 : decode (byt 33) 39 = .ok (.iadd, 1) := by decide +kernel
theorem D33_40 : decode (byt 33) 40 = .ok (.iaload, 1) := by decide +kernel
theorem D33_41 : decode (byt 33) 41 = .ok (.istore 6, 2) := by decide +kernel
theorem D33_43 : decode (byt 33) 43 = .ok (.lload_n 2, 1) := by decide +kernel
theorem D33_44 : decode (byt 33) 44 = .ok (.iload 6, 2) := by decide +kernel
theorem D33_46 : decode (byt 33) 46 = .ok (.ifCond .lt 19, 3) := by decide +kernel
theorem D33_49 : decode (byt 33) 49 = .ok (.iload 6, 2) := by decide +kernel
theorem D33_51 : decode (byt 33) 51 = .ok (.iload_n 1, 1) := by decide +kernel
theorem D33_52 : decode (byt 33) 52 = .ok (.if_icmp .ge 13, 3) := by decide +kernel
theorem D33_55 : decode (byt 33) 55 = .ok (.aload_n 0, 1) := by decide +kernel
theorem D33_56 : decode (byt 33) 56 = .ok (.getfield 27, 3) := by decide +kernel
theorem D33_59 : decode (byt 33) 59 = .ok (.iload 6, 2) := by decide +kernel
theorem D33_61 : decode (byt 33) 61 = .ok (.laload, 1) := by decide +kernel
theorem D33_62 : decode (byt 33) 62 = .ok (.goto 4, 3) := by decide +kernel
theorem D33_65 : decode (byt 33) 65 = .ok (.lconst 0, 1) := by decide +kernel
theorem D33_66 : decode (byt 33) 66 = .ok (.land, 1) := by decide +kernel
theorem D33_67 : decode (byt 33) 67 = .ok (.lstore_n 2, 1) := by decide +kernel
theorem D33_68 : decode (byt 33) 68 = .ok (.iinc 5 1, 3) := by decide +kernel
theorem D33_71 : decode (byt 33) 71 = .ok (.goto (-58), 3) := by decide +kernel
theorem D33_74 : decode (byt 33) 74 = .ok (.lload_n 2, 1) := by decide +kernel
theorem D33_75 : decode (byt 33) 75 = .ok (.lreturn, 1) := by decide +kernel
theorem D34_0 : decode (byt 34) 0 = .ok (.iload_n 1, 1) := by decide +kernel
theorem D34_1 : decode (byt 34) 1 = .ok (.bipush 12, 2) := by decide +kernel
theorem D34_3 : decode (byt 34) 3 = .ok (.imul, 1) := by decide +kernel
theorem D34_4 : decode (byt 34) 4 = .ok (.istore 4, 2) := by decide +kernel
theorem D34_6 : decode (byt 34) 6 = .ok (.aload_n 0, 1) := by decide +kernel
theorem D34_7 : decode (byt 34) 7 = .ok (.getfield 24, 3) := by decide +kernel
theorem D34_10 : decode (byt 34) 10 = .ok (.iload 4, 2) := by decide +kernel
theorem D34_12 : decode (byt 34) 12 = .ok (.iaload, 1) := by decide +kernel
theorem D34_13 : decode (byt 34) 13 = .ok (.istore 5, 2) := by decide +kernel
theorem D34_15 : decode (byt 34) 15 = .ok (.aload_n 0, 1) := by decide +kernel
theorem D34_16 : decode (byt 34) 16 = .ok (.getfield 24, 3) := by decide +kernel
theorem D34_19 : decode (byt 34) 19 = .ok (.iload 4, 2) := by decide +kernel
theorem D34_21 : decode (byt 34) 21 = .ok (.iconst 1, 1) := by decide +kernel
theorem D34_22 : decode (byt 34) 22 = .ok (.iadd, 1) := by decide +kernel
theorem D34_23 : decode (byt 34) 23 = .ok (.iaload, 1) := by decide +kernel
theorem D34_24 : decode (byt 34) 24 = .ok (.istore 6, 2) := by decide +kernel
theorem D34_26 : decode (byt 34) 26 = .ok (.iload 5, 2) := by decide +kernel
theorem D34_28 : decode (byt 34) 28 = .ok (.ifCond .lt 20, 3) := by decide +kernel
theorem D34_31 : decode (byt 34) 31 = .ok (.iload 5, 2) := by decide +kernel
theorem D34_33 : decode (byt 34) 33 = .ok (.iload_n 1, 1) := by decide +kernel
theorem D34_34 : decode (byt 34) 34 = .ok (.if_icmp .ge 14, 3) := by decide +kernel
theorem D34_37 : decode (byt 34) 37 = .ok (.iload 6, 2) := by decide +kernel
theorem D34_39 : decode (byt 34) 39 = .ok (.ifCond .lt 9, 3) := by decide +kernel
theorem D34_42 : decode (byt 34) 42 = .ok (.iload 6, 2) := by decide +kernel
theorem D34_44 : decode (byt 34) 44 = .ok (.iload_n 1, 1) := by decide +kernel
theorem D34_45 : decode (byt 34) 45 = .ok (.if_icmp .lt 5, 3) := by decide +kernel
theorem D34_48 : decode (byt 34) 48 = .ok (.lconst 0, 1) := by decide +kernel
theorem D34_49 : decode (byt 34) 49 = .ok (.lreturn, 1) := by decide +kernel
theorem D34_50 : decode (byt 34) 50 = .ok (.lload_n 2, 1) := by decide +kernel
theorem D34_51 : decode (byt 34) 51 = .ok (.aload_n 0, 1) := by decide +kernel
theorem D34_52 : decode (byt 34) 52 = .ok (.getfield 27, 3) := by decide +kernel
theorem D34_55 : decode (byt 34) 55 = .ok (.iload 5, 2) := by decide +kernel
theorem D34_57 : decode (byt 34) 57 = .ok (.laload, 1) := by decide +kernel
theorem D34_58 : decode (byt 34) 58 = .ok (.land, 1) := by decide +kernel
theorem D34_59 : decode (byt 34) 59 = .ok (.lload_n 2, 1) := by decide +kernel
theorem D34_60 : decode (byt 34) 60 = .ok (.ldc2_w 102, 3) := by decide +kernel
theorem D34_63 : decode (byt 34) 63 = .ok (.lxor, 1) := by decide +kernel
theorem D34_64 : decode (byt 34) 64 = .ok (.aload_n 0, 1) := by decide +kernel
theorem D34_65 : decode (byt 34) 65 = .ok (.getfield 27, 3) := by decide +kernel
theorem D34_68 : decode (byt 34) 68 = .ok (.iload 6, 2) := by decide +kernel
theorem D34_70 : decode (byt 34) 70 = .ok (.laload, 1) := by decide +kernel
theorem D34_71 : decode (byt 34) 71 = .ok (.land, 1) := by decide +kernel
theorem D34_72 : decode (byt 34) 72 = .ok (.lor, 1) := by decide +kernel
theorem D34_73 : decode (byt 34) 73 = .ok (.lreturn, 1) := by decide +kernel
theorem D35_0 : decode (byt 35) 0 = .ok (.aload_n 0, 1) := by decide +kernel
theorem D35_1 : decode (byt 35) 1 = .ok (.invokespecial 3, 3) := by decide +kernel
theorem D35_4 : decode (byt 35) 4 = .ok (.aload_n 0, 1) := by decide +kernel
theorem D35_5 : decode (byt 35) 5 = .ok (.bipush 40, 2) := by decide +kernel
theorem D35_7 : decode (byt 35) 7 = .ok (.newarray .int, 2) := by decide +kernel
theorem D35_9 : decode (byt 35) 9 = .ok (.putfield 9, 3) := by decide +kernel
theorem D35_12 : decode (byt 35) 12 = .ok (.aload_n 0, 1) := by decide +kernel
theorem D35_13 : decode (byt 35) 13 = .ok (.bipush 40, 2) := by decide +kernel
theorem D35_15 : decode (byt 35) 15 = .ok (.newarray .int, 2) := by decide +kernel
theorem D35_17 : decode (byt 35) 17 = .ok (.putfield 15, 3) := by decide +kernel
theorem D35_20 : decode (byt 35) 20 = .ok (.aload_n 0, 1) := by decide +kernel
theorem D35_21 : decode (byt 35) 21 = .ok (.bipush 40, 2) := by decide +kernel
theorem D35_23 : decode (byt 35) 23 = .ok (.newarray .int, 2) := by decide +kernel
theorem D35_25 : decode (byt 35) 25 = .ok (.putfield 18, 3) := by decide +kernel
theorem D35_28 : decode (byt 35) 28 = .ok (.aload_n 0, 1) := by decide +kernel
theorem D35_29 : decode (byt 35) 29 = .ok (.bipush 12, 2) := by decide +kernel
theorem D35_31 : decode (byt 35) 31 = .ok (.newarray .int, 2) := by decide +kernel
theorem D35_33 : decode (byt 35) 33 = .ok (.putfield 21, 3) := by decide +kernel
theorem D35_36 : decode (byt 35) 36 = .ok (.aload_n 0, 1) := by decide +kernel
theorem D35_37 : decode (byt 35) 37 = .ok (.bipush 12, 2) := by decide +kernel
theorem D35_39 : decode (byt 35) 39 = .ok (.newarray .int, 2) := by decide +kernel
theorem D35_41 : decode (byt 35) 41 = .ok (.putfield 24, 3) := by decide +kernel
theorem D35_44 : decode (byt 35) 44 = .ok (.aload_n 0, 1) := by decide +kernel
theorem D35_45 : decode (byt 35) 45 = .ok (.iconst 0, 1) := by decide +kernel
theorem D35_46 : decode (byt 35) 46 = .ok (.putfield 27, 3) := by decide +kernel
theorem D35_49 : decode (byt 35) 49 = .ok (.aload_n 0, 1) := by decide +kernel
theorem D35_50 : decode (byt 35) 50 = .ok (.iconst 0, 1) := by decide +kernel
theorem D35_51 : decode (byt 35) 51 = .ok (.putfield 31, 3) := by decide +kernel
theorem D35_54 : decode (byt 35) 54 = .ok (.aload_n 0, 1) := by decide +kernel
theorem D35_55 : decode (byt 35) 55 = .ok (.iconst 0, 1) := by decide +kernel
theorem D35_56 : decode (byt 35) 56 = .ok (.putfield 34, 3) := by decide +kernel
theorem D35_59 : decode (byt 35) 59 = .ok (.aload_n 0, 1) := by decide +kernel
theorem D35_60 : decode (byt 35) 60 = .ok (.iconst 0, 1) := by decide +kernel
theorem D35_61 : decode (byt 35) 61 = .ok (.putfield 37, 3) := by decide +kernel
theorem D35_64 : decode (byt 35) 64 = .ok (.return_, 1) := by decide +kernel
theorem D36_0 : decode (byt 36) 0 = .ok (.aload_n 0, 1) := by decide +kernel
theorem D36_1 : decode (byt 36) 1 = .ok (.iconst 0, 1) := by decide +kernel
theorem D36_2 : decode (byt 36) 2 = .ok (.putfield 34, 3) := by decide +kernel
theorem D36_5 : decode (byt 36) 5 = .ok (.aload_n 0, 1) := by decide +kernel
theorem D36_6 : decode (byt 36) 6 = .ok (.iconst 0, 1) := by decide +kernel
theorem D36_7 : decode (byt 36) 7 = .ok (.putfield 37, 3) := by decide +kernel
theorem D36_10 : decode (byt 36) 10 = .ok (.aload_n 0, 1) := by decide +kernel
theorem D36_11 : decode (byt 36) 11 = .ok (.aload_n 1, 1) := by decide +kernel
theorem D36_12 : decode (byt 36) 12 = .ok (.iload_n 2, 1) := by decide +kernel
theorem D36_13 : decode (byt 36) 13 = .ok (.iload_n 3, 1) := by decide +kernel
theorem D36_14 : decode (byt 36) 14 = .ok (.invokevirtual 40, 3) := by decide +kernel
theorem D36_17 : decode (byt 36) 17 = .ok (.return_, 1) := by decide +kernel
theorem D37_0 : decode (byt 37) 0 = .ok (.iload_n 3, 1) := by decide +kernel
theorem D37_1 : decode (byt 37) 1 = .ok (.invokestatic 44, 3) := by decide +kernel
theorem D37_4 : decode (byt 37) 4 = .ok (.istore 4, 2) := by decide +kernel
theorem D37_6 : decode (byt 37) 6 = .ok (.aload_n 0, 1) := by decide +kernel
theorem D37_7 : decode (byt 37) 7 = .ok (.iconst 0, 1) := by decide +kernel
theorem D37_8 : decode (byt 37) 8 = .ok (.putfield 27, 3) := by decide +kernel
theorem D37_11 : decode (byt 37) 11 = .ok (.iconst 0, 1) := by decide +kernel
theorem D37_12 : decode (byt 37) 12 = .ok (.istore 5, 2) := by decide +kernel
theorem D37_14 : decode (byt 37) 14 = .ok (.iload 5, 2) := by decide +kernel
theorem D37_16 : decode (byt 37) 16 = .ok (.iload_n 2, 1) := by decide +kernel
theorem D37_17 : decode (byt 37) 17 = .ok (.if_icmp .ge 38, 3) := by decide +kernel
theorem D37_20 : decode (byt 37) 20 = .ok (.iload 5, 2) := by decide +kernel
theorem D37_22 : decode (byt 37) 22 = .ok (.aload_n 1, 1) := by decide +kernel
theorem D37_23 : decode (byt 37) 23 = .ok (.arraylength, 1) := by decide +kernel
theorem D37_24 : decode (byt 37) 24 = .ok (.if_icmp .ge 31, 3) := by decide +kernel
theorem D37_27 : decode (byt 37) 27 = .ok (.aload_n 1, 1) := by decide +kernel
theorem D37_28 : decode (byt 37) 28 = .ok (.iload 5, 2) := by decide +kernel
theorem D37_30 : decode (byt 37) 30 = .ok (.iaload, 1) := by decide +kernel
theorem D37_31 : decode (byt 37) 31 = .ok (.iload_n 3, 1) := by decide +kernel
theorem D37_32 : decode (byt 37) 32 = .ok (.iand, 1) := by decide +kernel
theorem D37_33 : decode (byt 37) 33 = .ok (.ifCond .ne 16, 3) := by decide +kernel
theorem D37_36 : decode (byt 37) 36 = .ok (.aload_n 0, 1) := by decide +kernel
theorem D37_37 : decode (byt 37) 37 = .ok (.aload_n 1, 1) := by decide +kernel
theorem D37_38 : decode (byt 37) 38 = .ok (.iload 5, 2) := by decide +kernel
theorem D37_40 : decode (byt 37) 40 = .ok (.iaload, 1) := by decide +kernel
theorem D37_41 : decode (byt 37) 41 = .ok (.iload 4, 2) := by decide +kernel
theorem D37_43 : decode (byt 37) 43 = .ok (.iconst (-1), 1) := by decide +kernel
theorem D37_44 : decode (byt 37) 44 = .ok (.ixor, 1) := by decide +kernel
theorem D37_45 : decode (byt 37) 45 = .ok (.iand, 1) := by decide +kernel
theorem D37_46 : decode (byt 37) 46 = .ok (.invokevirtual 48, 3) := by decide +kernel
theorem D37_49 : decode (byt 37) 49 = .ok (.iinc 5 1, 3) := by decide +kernel
theorem D37_52 : decode (byt 37) 52 = .ok (.goto (-38), 3) := by decide +kernel
theorem D37_55 : decode (byt 37) 55 = .ok (.return_, 1) := by decide +kernel
theorem D38_0 : decode (byt 38) 0 = .ok (.iconst 0, 1) := by decide +kernel
theorem D38_1 : decode (byt 38) 1 = .ok (.istore_n 2, 1) := by decide +kernel
theorem D38_2 : decode (byt 38) 2 = .ok (.iload_n 2, 1) := by decide +kernel
theorem D38_3 : decode (byt 38) 3 = .ok (.aload_n 0, 1) := by decide +kernel
theorem D38_4 : decode (byt 38) 4 = .ok (.getfield 27, 3) := by decide +kernel
theorem D38_7 : decode (byt 38) 7 = .ok (.if_icmp .ge 20, 3) := by decide +kernel
theorem D38_10 : decode (byt 38) 10 = .ok (.aload_n 0, 1) := by decide +kernel
theorem D38_11 : decode (byt 38) 11 = .ok (.getfield 9, 3) := by decide +kernel
theorem D38_14 : decode (byt 38) 14 = .ok (.iload_n 2, 1) := by decide +kernel
theorem D38_15 : decode (byt 38) 15 = .ok (.iaload, 1) := by decide +kernel
theorem D38_16 : decode (byt 38) 16 = .ok (.iload_n 1, 1) := by decide +kernel
theorem D38_17 : decode (byt 38) 17 = .ok (.if_icmp .ne 4, 3) := by decide +kernel
theorem D38_20 : decode (byt 38) 20 = .ok (.return_, 1) := by decide +kernel
theorem D38_21 : decode (byt 38) 21 = .ok (.iinc 2 1, 3) := by decide +kernel
theorem D38_24 : decode (byt 38) 24 = .ok (.goto (-22), 3) := by decide +kernel
theorem D38_27 : decode (byt 38) 27 = .ok (.aload_n 0, 1) := by decide +kernel
theorem D38_28 : decode (byt 38) 28 = .ok (.getfield 27, 3) := by decide +kernel
theorem D38_31 : decode (byt 38) 31 = .ok (.aload_n 0, 1) := by decide +kernel
theorem D38_32 : decode (byt 38) 32 = .ok (.getfield 9, 3) := by decide +kernel
theorem D38_35 : decode (byt 38) 35 = .ok (.arraylength, 1) := by decide +kernel
theorem D38_36 : decode (byt 38) 36 = .ok (.if_icmp .ge 23, 3) := by decide +kernel
theorem D38_39 : decode (byt 38) 39 = .ok (.aload_n 0, 1) := by decide +kernel
theorem D38_40 : decode (byt 38) 40 = .ok (.getfield 9, 3) := by decide +kernel
theorem D38_43 : decode (byt 38) 43 = .ok (.aload_n 0, 1) := by decide +kernel
theorem D38_44 : decode (byt 38) 44 = .ok (.getfield 27, 3) := by decide +kernel
theorem D38_47 : decode (byt 38) 47 = .ok (.iload_n 1, 1) := by decide +kernel
theorem D38_48 : decode (byt 38) 48 = .ok (.iastore, 1) := by decide +kernel
theorem D38_49 : decode (byt 38) 49 = .ok (.aload_n 0, 1) := by decide +kernel
theorem D38_50 : decode (byt 38) 50 = .ok (.dup, 1) := by decide +kernel
theorem D38_51 : decode (byt 38) 51 = .ok (.getfield 27, 3) := by decide +kernel
theorem D38_54 : decode (byt 38) 54 = .ok (.iconst 1, 1) := by decide +kernel
theorem D38_55 : decode (byt 38) 55 = .ok (.iadd, 1) := by decide +kernel
theorem D38_56 : decode (byt 38) 56 = .ok (.putfield 27, 3) := by decide +kernel
theorem D38_59 : decode (byt 38) 59 = .ok (.return_, 1) := by decide +kernel
theorem D39_0 : decode (byt 39) 0 = .ok (.iconst 0, 1) := by decide +kernel
theorem D39_1 : decode (byt 39) 1 = .ok (.istore_n 1, 1) := by decide +kernel
theorem D39_2 : decode (byt 39) 2 = .ok (.iload_n 1, 1) := by decide +kernel
theorem D39_3 : decode (byt 39) 3 = .ok (.bipush 12, 2) := by decide +kernel
theorem D39_5 : decode (byt 39) 5 = .ok (.if_icmp .gt 74, 3) := by decide +kernel
theorem D39_8 : decode (byt 39) 8 = .ok (.aload_n 0, 1) := by decide +kernel
theorem D39_9 : decode (byt 39) 9 = .ok (.invokevirtual 52, 3) := by decide +kernel
theorem D39_12 : decode (byt 39) 12 = .ok (.ifCond .eq 5, 3) := by decide +kernel
theorem D39_15 : decode (byt 39) 15 = .ok (.iconst 0, 1) := by decide +kernel
theorem D39_16 : decode (byt 39) 16 = .ok (.ireturn, 1) := by decide +kernel
theorem D39_17 : decode (byt 39) 17 = .ok (.aload_n 0, 1) := by decide +kernel
theorem D39_18 : decode (byt 39) 18 = .ok (.invokevirtual 56, 3) := by decide +kernel
theorem D39_21 : decode (byt 39) 21 = .ok (.istore_n 2, 1) := by decide +kernel
theorem D39_22 : decode (byt 39) 22 = .ok (.iload_n 2, 1) := by decide +kernel
theorem D39_23 : decode (byt 39) 23 = .ok (.ifCond .ne 5, 3) := by decide +kernel
theorem D39_26 : decode (byt 39) 26 = .ok (.iconst 1, 1) := by decide +kernel
theorem D39_27 : decode (byt 39) 27 = .ok (.ireturn, 1) := by decide +kernel
theorem D39_28 : decode (byt 39) 28 = .ok (.aload_n 0, 1) := by decide +kernel
theorem D39_29 : decode (byt 39) 29 = .ok (.getfield 34, 3) := by decide +kernel
theorem D39_32 : decode (byt 39) 32 = .ok (.aload_n 0, 1) := by decide +kernel
theorem D39_33 : decode (byt 39) 33 = .ok (.getfield 21, 3) := by decide +kernel
theorem D39_36 : decode (byt 39) 36 = .ok (.arraylength, 1) := by decide +kernel
theorem D39_37 : decode (byt 39) 37 = .ok (.if_icmp .ge 23, 3) := by decide +kernel
theorem D39_40 : decode (byt 39) 40 = .ok (.aload_n 0, 1) := by decide +kernel
theorem D39_41 : decode (byt 39) 41 = .ok (.getfield 21, 3) := by decide +kernel
theorem D39_44 : decode (byt 39) 44 = .ok (.aload_n 0, 1) := by decide +kernel
theorem D39_45 : decode (byt 39) 45 = .ok (.getfield 34, 3) := by decide +kernel
theorem D39_48 : decode (byt 39) 48 = .ok (.iload_n 2, 1) := by decide +kernel
theorem D39_49 : decode (byt 39) 49 = .ok (.iastore, 1) := by decide +kernel
theorem D39_50 : decode (byt 39) 50 = .ok (.aload_n 0, 1) := by decide +kernel
theorem D39_51 : decode (byt 39) 51 = .ok (.dup, 1) := by decide +kernel
theorem D39_52 : decode (byt 39) 52 = .ok (.getfield 34, 3) := by decide +kernel
theorem D39_55 : decode (byt 39) 55 = .ok (.iconst 1, 1) := by decide +kernel
theorem D39_56 : decode (byt 39) 56 = .ok (.iadd, 1) := by decide +kernel
theorem D39_57 : decode (byt 39) 57 = .ok (.putfield 34, 3) := by decide +kernel
theorem D39_60 : decode (byt 39) 60 = .ok (.aload_n 0, 1) := by decide +kernel
theorem D39_61 : decode (byt 39) 61 = .ok (.aload_n 0, 1) := by decide +kernel
theorem D39_62 : decode (byt 39) 62 = .ok (.getfield 9, 3) := by decide +kernel
theorem D39_65 : decode (byt 39) 65 = .ok (.aload_n 0, 1) := by decide +kernel
theorem D39_66 : decode (byt 39) 66 = .ok (.getfield 27, 3) := by decide +kernel
theorem D39_69 : decode (byt 39) 69 = .ok (.iload_n 2, 1) := by decide +kernel
theorem D39_70 : decode (byt 39) 70 = .ok (.invokevirtual 40, 3) := by decide +kernel
theorem D39_73 : decode (byt 39) 73 = .ok (.iinc 1 1, 3) := by decide +kernel
theorem D39_76 : decode (byt 39) 76 = .ok (.goto (-74), 3) := by decide +kernel
theorem D39_79 : decode (byt 39) 79 = .ok (.iconst 1, 1) := by decide +kernel
theorem D39_80 : decode (byt 39) 80 = .ok (.ireturn, 1) := by decide +kernel
theorem D40_0 : decode (byt 40) 0 = .ok (.iconst 0, 1) := by decide +kernel
theorem D40_1 : decode (byt 40) 1 = .ok (.istore_n 1, 1) := by decide +kernel
theorem D40_2 : decode (byt 40) 2 = .ok (.iload_n 1, 1) := by decide +kernel
theorem D40_3 : decode (byt 40) 3 = .ok (.aload_n 0, 1) := by decide +kernel
theorem D40_4 : decode (byt 40) 4 = .ok (.getfield 27, 3) := by decide +kernel
theorem D40_7 : decode (byt 40) 7 = .ok (.if_icmp .ge 20, 3) := by decide +kernel
theorem D40_10 : decode (byt 40) 10 = .ok (.aload_n 0, 1) := by decide +kernel
theorem D40_11 : decode (byt 40) 11 = .ok (.getfield 9, 3) := by decide +kernel
theorem D40_14 : decode (byt 40) 14 = .ok (.iload_n 1, 1) := by decide +kernel
theorem D40_15 : decode (byt 40) 15 = .ok (.iaload, 1) := by decide +kernel
theorem D40_16 : decode (byt 40) 16 = .ok (.ifCond .ne 5, 3) := by decide +kernel
theorem D40_19 : decode (byt 40) 19 = .ok (.iconst 1, 1) := by decide +kernel
theorem D40_20 : decode (byt 40) 20 = .ok (.ireturn, 1) := by decide +kernel
theorem D40_21 : decode (byt 40) 21 = .ok (.iinc 1 1, 3) := by decide +kernel
theorem D40_24 : decode (byt 40) 24 = .ok (.goto (-22), 3) := by decide +kernel
theorem D40_27 : decode (byt 40) 27 = .ok (.iconst 0, 1) := by decide +kernel
theorem D40_28 : decode (byt 40) 28 = .ok (.ireturn, 1) := by decide +kernel
theorem D41_0 : decode (byt 41) 0 = .ok (.iconst 0, 1) := by decide +kernel
theorem D41_1 : decode (byt 41) 1 = .ok (.istore_n 1, 1) := by decide +kernel
theorem D41_2 : decode (byt 41) 2 = .ok (.iload_n 1, 1) := by decide +kernel
theorem D41_3 : decode (byt 41) 3 = .ok (.aload_n 0, 1) := by decide +kernel
theorem D41_4 : decode (byt 41) 4 = .ok (.getfield 27, 3) := by decide +kernel
theorem D41_7 : decode (byt 41) 7 = .ok (.if_icmp .ge 29, 3) := by decide +kernel
theorem D41_10 : decode (byt 41) 10 = .ok (.aload_n 0, 1) := by decide +kernel
theorem D41_11 : decode (byt 41) 11 = .ok (.getfield 9, 3) := by decide +kernel
theorem D41_14 : decode (byt 41) 14 = .ok (.iload_n 1, 1) := by decide +kernel
theorem D41_15 : decode (byt 41) 15 = .ok (.iaload, 1) := by decide +kernel
theorem D41_16 : decode (byt 41) 16 = .ok (.invokestatic 60, 3) := by decide +kernel
theorem D41_19 : decode (byt 41) 19 = .ok (.iconst 1, 1) := by decide +kernel
theorem D41_20 : decode (byt 41) 20 = .ok (.if_icmp .ne 10, 3) := by decide +kernel
theorem D41_23 : decode (byt 41) 23 = .ok (.aload_n 0, 1) := by decide +kernel
theorem D41_24 : decode (byt 41) 24 = .ok (.getfield 9, 3) := by decide +kernel
theorem D41_27 : decode (byt 41) 27 = .ok (.iload_n 1, 1) := by decide +kernel
theorem D41_28 : decode (byt 41) 28 = .ok (.iaload, 1) := by decide +kernel
theorem D41_29 : decode (byt 41) 29 = .ok (.ireturn, 1) := by decide +kernel
theorem D41_30 : decode (byt 41) 30 = .ok (.iinc 1 1, 3) := by decide +kernel
theorem D41_33 : decode (byt 41) 33 = .ok (.goto (-31), 3) := by decide +kernel
theorem D41_36 : decode (byt 41) 36 = .ok (.iconst 0, 1) := by decide +kernel
theorem D41_37 : decode (byt 41) 37 = .ok (.ireturn, 1) := by decide +kernel
theorem D42_0 : decode (byt 42) 0 = .ok (.iconst 0, 1) := by decide +kernel
theorem D42_1 : decode (byt 42) 1 = .ok (.istore_n 1, 1) := by decide +kernel
theorem D42_2 : decode (byt 42) 2 = .ok (.iload_n 1, 1) := by decide +kernel
theorem D42_3 : decode (byt 42) 3 = .ok (.aload_n 0, 1) := by decide +kernel
theorem D42_4 : decode (byt 42) 4 = .ok (.getfield 27, 3) := by decide +kernel
theorem D42_7 : decode (byt 42) 7 = .ok (.if_icmp .ge 16, 3) := by decide +kernel
theorem D42_10 : decode (byt 42) 10 = .ok (.aload_n 0, 1) := by decide +kernel
theorem D42_11 : decode (byt 42) 11 = .ok (.getfield 15, 3) := by decide +kernel
theorem D42_14 : decode (byt 42) 14 = .ok (.iload_n 1, 1) := by decide +kernel
theorem D42_15 : decode (byt 42) 15 = .ok (.iconst (-1), 1) := by decide +kernel
theorem D42_16 : decode (byt 42) 16 = .ok (.iastore, 1) := by decide +kernel
theorem D42_17 : decode (byt 42) 17 = .ok (.iinc 1 1, 3) := by decide +kernel
theorem D42_20 : decode (byt 42) 20 = .ok (.goto (-18), 3) := by decide +kernel
theorem D42_23 : decode (byt 42) 23 = .ok (.iconst 0, 1) := by decide +kernel
theorem D42_24 : decode (byt 42) 24 = .ok (.istore_n 1, 1) := by decide +kernel
theorem D42_25 : decode (byt 42) 25 = .ok (.iconst 0, 1) := by decide +kernel
theorem D42_26 : decode (byt 42) 26 = .ok (.istore_n 2, 1) := by decide +kernel
theorem D42_27 : decode (byt 42) 27 = .ok (.iload_n 2, 1) := by decide +kernel
theorem D42_28 : decode (byt 42) 28 = .ok (.aload_n 0, 1) := by decide +kernel
theorem D42_29 : decode (byt 42) 29 = .ok (.getfield 27, 3) := by decide +kernel
theorem D42_32 : decode (byt 42) 32 = .ok (.if_icmp .ge 28, 3) := by decide +kernel
theorem D42_35 : decode (byt 42) 35 = .ok (.aload_n 0, 1) := by decide +kernel
theorem D42_36 : decode (byt 42) 36 = .ok (.getfield 15, 3) := by decide +kernel
theorem D42_39 : decode (byt 42) 39 = .ok (.iload_n 2, 1) := by decide +kernel
theorem D42_40 : decode (byt 42) 40 = .ok (.iaload, 1) := by decide +kernel
theorem D42_41 : decode (byt 42) 41 = .ok (.iconst (-1), 1) := by decide +kernel
theorem D42_42 : decode (byt 42) 42 = .ok (.if_icmp .ne 12, 3) := by decide +kernel
theorem D42_45 : decode (byt 42) 45 = .ok (.aload_n 0, 1) := by decide +kernel
theorem D42_46 : decode (byt 42) 46 = .ok (.iload_n 2, 1) := by decide +kernel
theorem D42_47 : decode (byt 42) 47 = .ok (.iload_n 1, 1) := by decide +kernel
theorem D42_48 : decode (byt 42) 48 = .ok (.invokevirtual 65, 3) := by decide +kernel
theorem D42_51 : decode (byt 42) 51 = .ok (.iinc 1 1, 3) := by decide +kernel
theorem D42_54 : decode (byt 42) 54 = .ok (.iinc 2 1, 3) := by decide +kernel
theorem D42_57 : decode (byt 42) 57 = .ok (.goto (-30), 3) := by decide +kernel
theorem D42_60 : decode (byt 42) 60 = .ok (.iload_n 1, 1) := by decide +kernel
theorem D42_61 : decode (byt 42) 61 = .ok (.ireturn, 1) := by decide +kernel
theorem D43_0 : decode (byt 43) 0 = .ok (.aload_n 0, 1) := by decide +kernel
theorem D43_1 : decode (byt 43) 1 = .ok (.getfield 9, 3) := by decide +kernel
theorem D43_4 : decode (byt 43) 4 = .ok (.iload_n 1, 1) := by decide +kernel
theorem D43_5 : decode (byt 43) 5 = .ok (.iaload, 1) := by decide +kernel
theorem D43_6 : decode (byt 43) 6 = .ok (.invokestatic 69, 3) := by decide +kernel
theorem D43_9 : decode (byt 43) 9 = .ok (.istore_n 3, 1) := by decide +kernel
theorem D43_10 : decode (byt 43) 10 = .ok (.iconst 0, 1) := by decide +kernel
theorem D43_11 : decode (byt 43) 11 = .ok (.istore 4, 2) := by decide +kernel
theorem D43_13 : decode (byt 43) 13 = .ok (.iconst 0, 1) := by decide +kernel
theorem D43_14 : decode (byt 43) 14 = .ok (.istore 5, 2) := by decide +kernel
theorem D43_16 : decode (byt 43) 16 = .ok (.iload 5, 2) := by decide +kernel
theorem D43_18 : decode (byt 43) 18 = .ok (.bipush 12, 2) := by decide +kernel
theorem D43_20 : decode (byt 43) 20 = .ok (.if_icmp .gt 72, 3) := by decide +kernel
theorem D43_23 : decode (byt 43) 23 = .ok (.iload_n 3, 1) := by decide +kernel
theorem D43_24 : decode (byt 43) 24 = .ok (.iload 4, 2) := by decide +kernel
theorem D43_26 : decode (byt 43) 26 = .ok (.if_icmp .eq 66, 3) := by decide +kernel
theorem D43_29 : decode (byt 43) 29 = .ok (.iload_n 3, 1) := by decide +kernel
theorem D43_30 : decode (byt 43) 30 = .ok (.istore 4, 2) := by decide +kernel
theorem D43_32 : decode (byt 43) 32 = .ok (.iload_n 1, 1) := by decide +kernel
theorem D43_33 : decode (byt 43) 33 = .ok (.istore 6, 2) := by decide +kernel
theorem D43_35 : decode (byt 43) 35 = .ok (.iload 6, 2) := by decide +kernel
theorem D43_37 : decode (byt 43) 37 = .ok (.aload_n 0, 1) := by decide +kernel
theorem D43_38 : decode (byt 43) 38 = .ok (.getfield 27, 3) := by decide +kernel
theorem D43_41 : decode (byt 43) 41 = .ok (.if_icmp .ge 45, 3) := by decide +kernel
theorem D43_44 : decode (byt 43) 44 = .ok (.aload_n 0, 1) := by decide +kernel
theorem D43_45 : decode (byt 43) 45 = .ok (.getfield 9, 3) := by decide +kernel
theorem D43_48 : decode (byt 43) 48 = .ok (.iload 6, 2) := by decide +kernel
theorem D43_50 : decode (byt 43) 50 = .ok (.iaload, 1) := by decide +kernel
theorem D43_51 : decode (byt 43) 51 = .ok (.invokestatic 69, 3) := by decide +kernel
theorem D43_54 : decode (byt 43) 54 = .ok (.iload_n 3, 1) := by decide +kernel
theorem D43_55 : decode (byt 43) 55 = .ok (.iand, 1) := by decide +kernel
theorem D43_56 : decode (byt 43) 56 = .ok (.ifCond .eq 24, 3) := by decide +kernel
theorem D43_59 : decode (byt 43) 59 = .ok (.aload_n 0, 1) := by decide +kernel
theorem D43_60 : decode (byt 43) 60 = .ok (.getfield 15, 3) := by decide +kernel
theorem D43_63 : decode (byt 43) 63 = .ok (.iload 6, 2) := by decide +kernel
theorem D43_65 : decode (byt 43) 65 = .ok (.iload_n 2, 1) := by decide +kernel
theorem D43_66 : decode (byt 43) 66 = .ok (.iastore, 1) := by decide +kernel
theorem D43_67 : decode (byt 43) 67 = .ok (.iload_n 3, 1) := by decide +kernel
theorem D43_68 : decode (byt 43) 68 = .ok (.aload_n 0, 1) := by decide +kernel
theorem D43_69 : decode (byt 43) 69 = .ok (.getfield 9, 3) := by decide +kernel
theorem D43_72 : decode (byt 43) 72 = .ok (.iload 6, 2) := by decide +kernel
theorem D43_74 : decode (byt 43) 74 = .ok (.iaload, 1) := by decide +kernel
theorem D43_75 : decode (byt 43) 75 = .ok (.invokestatic 69, 3) := by decide +kernel
theorem D43_78 : decode (byt 43) 78 = .ok (.ior, 1) := by decide +kernel
theorem D43_79 : decode (byt 43) 79 = .ok (.istore_n 3, 1) := by decide +kernel
theorem D43_80 : decode (byt 43) 80 = .ok (.iinc 6 1, 3) := by decide +kernel
theorem D43_83 : decode (byt 43) 83 = .ok (.goto (-48), 3) := by decide +kernel
theorem D43_86 : decode (byt 43) 86 = .ok (.iinc 5 1, 3) := by decide +kernel
theorem D43_89 : decode (byt 43) 89 = .ok (.goto (-73), 3) := by decide +kernel
theorem D43_92 : decode (byt 43) 92 = .ok (.return_, 1) := by decide +kernel
theorem D44_0 : decode (byt 44) 0 = .ok (.aload_n 0, 1) := by decide +kernel
theorem D44_1 : decode (byt 44) 1 = .ok (.iconst 0, 1) := by decide +kernel
theorem D44_2 : decode (byt 44) 2 = .ok (.putfield 31, 3) := by decide +kernel
theorem D44_5 : decode (byt 44) 5 = .ok (.iconst 0, 1) := by decide +kernel
theorem D44_6 : decode (byt 44) 6 = .ok (.istore_n 2, 1) := by decide +kernel
theorem D44_7 : decode (byt 44) 7 = .ok (.iload_n 2, 1) := by decide +kernel
theorem D44_8 : decode (byt 44) 8 = .ok (.aload_n 0, 1) := by decide +kernel
theorem D44_9 : decode (byt 44) 9 = .ok (.getfield 27, 3) := by decide +kernel
theorem D44_12 : decode (byt 44) 12 = .ok (.if_icmp .ge 44, 3) := by decide +kernel
theorem D44_15 : decode (byt 44) 15 = .ok (.aload_n 0, 1) := by decide +kernel
theorem D44_16 : decode (byt 44) 16 = .ok (.getfield 15, 3) := by decide +kernel
theorem D44_19 : decode (byt 44) 19 = .ok (.iload_n 2, 1) := by decide +kernel
theorem D44_20 : decode (byt 44) 20 = .ok (.iaload, 1) := by decide +kernel
theorem D44_21 : decode (byt 44) 21 = .ok (.iload_n 1, 1) := by decide +kernel
theorem D44_22 : decode (byt 44) 22 = .ok (.if_icmp .ne 28, 3) := by decide +kernel
theorem D44_25 : decode (byt 44) 25 = .ok (.aload_n 0, 1) := by decide +kernel
theorem D44_26 : decode (byt 44) 26 = .ok (.getfield 18, 3) := by decide +kernel
theorem D44_29 : decode (byt 44) 29 = .ok (.aload_n 0, 1) := by decide +kernel
theorem D44_30 : decode (byt 44) 30 = .ok (.getfield 31, 3) := by decide +kernel
theorem D44_33 : decode (byt 44) 33 = .ok (.aload_n 0, 1) := by decide +kernel
theorem D44_34 : decode (byt 44) 34 = .ok (.getfield 9, 3) := by decide +kernel
theorem D44_37 : decode (byt 44) 37 = .ok (.iload_n 2, 1) := by decide +kernel
theorem D44_38 : decode (byt 44) 38 = .ok (.iaload, 1) := by decide +kernel
theorem D44_39 : decode (byt 44) 39 = .ok (.iastore, 1) := by decide +kernel
theorem D44_40 : decode (byt 44) 40 = .ok (.aload_n 0, 1) := by decide +kernel
theorem D44_41 : decode (byt 44) 41 = .ok (.dup, 1) := by decide +kernel
theorem D44_42 : decode (byt 44) 42 = .ok (.getfield 31, 3) := by decide +kernel
theorem D44_45 : decode (byt 44) 45 = .ok (.iconst 1, 1) := by decide +kernel
theorem D44_46 : decode (byt 44) 46 = .ok (.iadd, 1) := by decide +kernel
theorem D44_47 : decode (byt 44) 47 = .ok (.putfield 31, 3) := by decide +kernel
theorem D44_50 : decode (byt 44) 50 = .ok (.iinc 2 1, 3) := by decide +kernel
theorem D44_53 : decode (byt 44) 53 = .ok (.goto (-46), 3) := by decide +kernel
theorem D44_56 : decode (byt 44) 56 = .ok (.return_, 1) := by decide +kernel
theorem D45_0 : decode (byt 45) 0 = .ok (.aload_n 0, 1) := by decide +kernel
theorem D45_1 : decode (byt 45) 1 = .ok (.getfield 37, 3) := by decide +kernel
theorem D45_4 : decode (byt 45) 4 = .ok (.aload_n 0, 1) := by decide +kernel
theorem D45_5 : decode (byt 45) 5 = .ok (.getfield 24, 3) := by decide +kernel
theorem D45_8 : decode (byt 45) 8 = .ok (.arraylength, 1) := by decide +kernel
theorem D45_9 : decode (byt 45) 9 = .ok (.if_icmp .ge 23, 3) := by decide +kernel
theorem D45_12 : decode (byt 45) 12 = .ok (.aload_n 0, 1) := by decide +kernel
theorem D45_13 : decode (byt 45) 13 = .ok (.getfield 24, 3) := by decide +kernel
theorem D45_16 : decode (byt 45) 16 = .ok (.aload_n 0, 1) := by decide +kernel
theorem D45_17 : decode (byt 45) 17 = .ok (.getfield 37, 3) := by decide +kernel
theorem D45_20 : decode (byt 45) 20 = .ok (.iload_n 1, 1) := by decide +kernel
theorem D45_21 : decode (byt 45) 21 = .ok (.iastore, 1) := by decide +kernel
theorem D45_22 : decode (byt 45) 22 = .ok (.aload_n 0, 1) := by decide +kernel
theorem D45_23 : decode (byt 45) 23 = .ok (.dup, 1) := by decide +kernel
theorem D45_24 : decode (byt 45) 24 = .ok (.getfield 37, 3) := by decide +kernel
theorem D45_27 : decode (byt 45) 27 = .ok (.iconst 1, 1) := by decide +kernel
theorem D45_28 : decode (byt 45) 28 = .ok (.iadd, 1) := by decide +kernel
theorem D45_29 : decode (byt 45) 29 = .ok (.putfield 37, 3) := by decide +kernel
theorem D45_32 : decode (byt 45) 32 = .ok (.return_, 1) := by decide +kernel
theorem D46_0 : decode (byt 46) 0 = .ok (.iconst 0, 1) := by decide +kernel
theorem D46_1 : decode (byt 46) 1 = .ok (.istore_n 2, 1) := by decide +kernel
theorem D46_2 : decode (byt 46) 2 = .ok (.iconst 0, 1) := by decide +kernel
theorem D46_3 : decode (byt 46) 3 = .ok (.istore_n 3, 1) := by decide +kernel
theorem D46_4 : decode (byt 46) 4 = .ok (.iload_n 3, 1) := by decide +kernel
theorem D46_5 : decode (byt 46) 5 = .ok (.aload_n 0, 1) := by decide +kernel
theorem D46_6 : decode (byt 46) 6 = .ok (.getfield 31, 3) := by decide +kernel
theorem D46_9 : decode (byt 46) 9 = .ok (.if_icmp .ge 21, 3) := by decide +kernel
theorem D46_12 : decode (byt 46) 12 = .ok (.iload_n 2, 1) := by decide +kernel
theorem D46_13 : decode (byt 46) 13 = .ok (.aload_n 0, 1) := by decide +kernel
theorem D46_14 : decode (byt 46) 14 = .ok (.getfield 18, 3) := by decide +kernel
theorem D46_17 : decode (byt 46) 17 = .ok (.iload_n 3, 1) := by decide +kernel
theorem D46_18 : decode (byt 46) 18 = .ok (.iaload, 1) := by decide +kernel
theorem D46_19 : decode (byt 46) 19 = .ok (.invokestatic 69, 3) := by decide +kernel
theorem D46_22 : decode (byt 46) 22 = .ok (.ior, 1) := by decide +kernel
theorem D46_23 : decode (byt 46) 23 = .ok (.istore_n 2, 1) := by decide +kernel
theorem D46_24 : decode (byt 46) 24 = .ok (.iinc 3 1, 3) := by decide +kernel
theorem D46_27 : decode (byt 46) 27 = .ok (.goto (-23), 3) := by decide +kernel
theorem D46_30 : decode (byt 46) 30 = .ok (.iload_n 2, 1) := by decide +kernel
theorem D46_31 : decode (byt 46) 31 = .ok (.iload_n 1, 1) := by decide +kernel
theorem D46_32 : decode (byt 46) 32 = .ok (.iand, 1) := by decide +kernel
theorem D46_33 : decode (byt 46) 33 = .ok (.ifCond .eq 7, 3) := by decide +kernel
theorem D46_36 : decode (byt 46) 36 = .ok (.iload_n 2, 1) := by decide +kernel
theorem D46_37 : decode (byt 46) 37 = .ok (.iload_n 1, 1) := by decide +kernel
theorem D46_38 : decode (byt 46) 38 = .ok (.iand, 1) := by decide +kernel
theorem D46_39 : decode (byt 46) 39 = .ok (.istore_n 2, 1) := by decide +kernel
theorem D46_40 : decode (byt 46) 40 = .ok (.iconst 0, 1) := by decide +kernel
theorem D46_41 : decode (byt 46) 41 = .ok (.istore_n 3, 1) := by decide +kernel
theorem D46_42 : decode (byt 46) 42 = .ok (.iconst 0, 1) := by decide +kernel
theorem D46_43 : decode (byt 46) 43 = .ok (.istore 4, 2) := by decide +kernel
theorem D46_45 : decode (byt 46) 45 = .ok (.iconst 1, 1) := by decide +kernel
theorem D46_46 : decode (byt 46) 46 = .ok (.istore 5, 2) := by decide +kernel
theorem D46_48 : decode (byt 46) 48 = .ok (.iload 5, 2) := by decide +kernel
theorem D46_50 : decode (byt 46) 50 = .ok (.bipush 12, 2) := by decide +kernel
theorem D46_52 : decode (byt 46) 52 = .ok (.if_icmp .gt 48, 3) := by decide +kernel
theorem D46_55 : decode (byt 46) 55 = .ok (.iload_n 2, 1) := by decide +kernel
theorem D46_56 : decode (byt 46) 56 = .ok (.iload 5, 2) := by decide +kernel
theorem D46_58 : decode (byt 46) 58 = .ok (.invokestatic 72, 3) := by decide +kernel
theorem D46_61 : decode (byt 46) 61 = .ok (.iand, 1) := by decide +kernel
theorem D46_62 : decode (byt 46) 62 = .ok (.ifCond .eq 15, 3) := by decide +kernel
theorem D46_65 : decode (byt 46) 65 = .ok (.aload_n 0, 1) := by decide +kernel
theorem D46_66 : decode (byt 46) 66 = .ok (.iload 5, 2) := by decide +kernel
theorem D46_68 : decode (byt 46) 68 = .ok (.invokestatic 72, 3) := by decide +kernel
theorem D46_71 : decode (byt 46) 71 = .ok (.invokevirtual 75, 3) := by decide +kernel
theorem D46_74 : decode (byt 46) 74 = .ok (.goto 4, 3) := by decide +kernel
theorem D46_77 : decode (byt 46) 77 = .ok (.iconst 0, 1) := by decide +kernel
theorem D46_78 : decode (byt 46) 78 = .ok (.istore 6, 2) := by decide +kernel
theorem D46_80 : decode (byt 46) 80 = .ok (.iload 6, 2) := by decide +kernel
theorem D46_82 : decode (byt 46) 82 = .ok (.iload 4, 2) := by decide +kernel
theorem D46_84 : decode (byt 46) 84 = .ok (.if_icmp .le 10, 3) := by decide +kernel
theorem D46_87 : decode (byt 46) 87 = .ok (.iload 5, 2) := by decide +kernel
theorem D46_89 : decode (byt 46) 89 = .ok (.istore_n 3, 1) := by decide +kernel
theorem D46_90 : decode (byt 46) 90 = .ok (.iload 6, 2) := by decide +kernel
theorem D46_92 : decode (byt 46) 92 = .ok (.istore 4, 2) := by decide +kernel
theorem D46_94 : decode (byt 46) 94 = .ok (.iinc 5 1, 3) := by decide +kernel
theorem D46_97 : decode (byt 46) 97 = .ok (.goto (-49), 3) := by decide +kernel
theorem D46_100 : decode (byt 46) 100 = .ok (.iload_n 3, 1) := by decide +kernel
theorem D46_101 : decode (byt 46) 101 = .ok (.ireturn, 1) := by decide +kernel
theorem D47_0 : decode (byt 47) 0 = .ok (.iconst 0, 1) := by decide +kernel
theorem D47_1 : decode (byt 47) 1 = .ok (.istore_n 2, 1) := by decide +kernel
theorem D47_2 : decode (byt 47) 2 = .ok (.iconst 0, 1) := by decide +kernel
theorem D47_3 : decode (byt 47) 3 = .ok (.istore_n 3, 1) := by decide +kernel
theorem D47_4 : decode (byt 47) 4 = .ok (.iload_n 3, 1) := by decide +kernel
theorem D47_5 : decode (byt 47) 5 = .ok (.aload_n 0, 1) := by decide +kernel
theorem D47_6 : decode (byt 47) 6 = .ok (.getfield 31, 3) := by decide +kernel
theorem D47_9 : decode (byt 47) 9 = .ok (.if_icmp .ge 26, 3) := by decide +kernel
theorem D47_12 : decode (byt 47) 12 = .ok (.aload_n 0, 1) := by decide +kernel
theorem D47_13 : decode (byt 47) 13 = .ok (.getfield 18, 3) := by decide +kernel
theorem D47_16 : decode (byt 47) 16 = .ok (.iload_n 3, 1) := by decide +kernel
theorem D47_17 : decode (byt 47) 17 = .ok (.iaload, 1) := by decide +kernel
theorem D47_18 : decode (byt 47) 18 = .ok (.invokestatic 69, 3) := by decide +kernel
theorem D47_21 : decode (byt 47) 21 = .ok (.iload_n 1, 1) := by decide +kernel
theorem D47_22 : decode (byt 47) 22 = .ok (.iand, 1) := by decide +kernel
theorem D47_23 : decode (byt 47) 23 = .ok (.ifCond .eq 6, 3) := by decide +kernel
theorem D47_26 : decode (byt 47) 26 = .ok (.iinc 2 1, 3) := by decide +kernel
theorem D47_29 : decode (byt 47) 29 = .ok (.iinc 3 1, 3) := by decide +kernel
theorem D47_32 : decode (byt 47) 32 = .ok (.goto (-28), 3) := by decide +kernel
theorem D47_35 : decode (byt 47) 35 = .ok (.iload_n 2, 1) := by decide +kernel
theorem D47_36 : decode (byt 47) 36 = .ok (.ireturn, 1) := by decide +kernel
theorem D48_0 : decode (byt 48) 0 = .ok (.aload_n 0, 1) := by decide +kernel
theorem D48_1 : decode (byt 48) 1 = .ok (.invokespecial 3, 3) := by decide +kernel
theorem D48_4 : decode (byt 48) 4 = .ok (.aload_n 0, 1) := by decide +kernel
theorem D48_5 : decode (byt 48) 5 = .ok (.bipush 13, 2) := by decide +kernel
theorem D48_7 : decode (byt 48) 7 = .ok (.anewarray 9, 3) := by decide +kernel
theorem D48_10 : decode (byt 48) 10 = .ok (.putfield 11, 3) := by decide +kernel
theorem D48_13 : decode (byt 48) 13 = .ok (.aload_n 0, 1) := by decide +kernel
theorem D48_14 : decode (byt 48) 14 = .ok (.new 17, 3) := by decide +kernel
theorem D48_17 : decode (byt 48) 17 = .ok (.dup, 1) := by decide +kernel
theorem D48_18 : decode (byt 48) 18 = .ok (.invokespecial 19, 3) := by decide +kernel
theorem D48_21 : decode (byt 48) 21 = .ok (.putfield 20, 3) := by decide +kernel
theorem D48_24 : decode (byt 48) 24 = .ok (.aload_n 0, 1) := by decide +kernel
theorem D48_25 : decode (byt 48) 25 = .ok (.bipush 24, 2) := by decide +kernel
theorem D48_27 : decode (byt 48) 27 = .ok (.newarray .int, 2) := by decide +kernel
theorem D48_29 : decode (byt 48) 29 = .ok (.putfield 24, 3) := by decide +kernel
theorem D48_32 : decode (byt 48) 32 = .ok (.aload_n 0, 1) := by decide +kernel
theorem D48_33 : decode (byt 48) 33 = .ok (.iconst 0, 1) := by decide +kernel
theorem D48_34 : decode (byt 48) 34 = .ok (.putfield 28, 3) := by decide +kernel
theorem D48_37 : decode (byt 48) 37 = .ok (.iconst 0, 1) := by decide +kernel
theorem D48_38 : decode (byt 48) 38 = .ok (.istore_n 1, 1) := by decide +kernel
theorem D48_39 : decode (byt 48) 39 = .ok (.iload_n 1, 1) := by decide +kernel
theorem D48_40 : decode (byt 48) 40 = .ok (.aload_n 0, 1) := by decide +kernel
theorem D48_41 : decode (byt 48) 41 = .ok (.getfield 11, 3) := by decide +kernel
theorem D48_44 : decode (byt 48) 44 = .ok (.arraylength, 1) := by decide +kernel
theorem D48_45 : decode (byt 48) 45 = .ok (.if_icmp .ge 22, 3) := by decide +kernel
theorem D48_48 : decode (byt 48) 48 = .ok (.aload_n 0, 1) := by decide +kernel
theorem D48_49 : decode (byt 48) 49 = .ok (.getfield 11, 3) := by decide +kernel
theorem D48_52 : decode (byt 48) 52 = .ok (.iload_n 1, 1) := by decide +kernel
theorem D48_53 : decode (byt 48) 53 = .ok (.new 9, 3) := by decide +kernel
theorem D48_56 : decode (byt 48) 56 = .ok (.dup, 1) := by decide +kernel
theorem D48_57 : decode (byt 48) 57 = .ok (.invokespecial 32, 3) := by decide +kernel
theorem D48_60 : decode (byt 48) 60 = .ok (.aastore, 1) := by decide +kernel
theorem D48_61 : decode (byt 48) 61 = .ok (.iinc 1 1, 3) := by decide +kernel
theorem D48_64 : decode (byt 48) 64 = .ok (.goto (-25), 3) := by decide +kernel
theorem D48_67 : decode (byt 48) 67 = .ok (.return_, 1) := by decide +kernel
theorem D49_0 : decode (byt 49) 0 = .ok (.aload_n 0, 1) := by decide +kernel
theorem D49_1 : decode (byt 49) 1 = .ok (.aload_n 1, 1) := by decide +kernel
theorem D49_2 : decode (byt 49) 2 = .ok (.getfield 33, 3) := by decide +kernel
theorem D49_5 : decode (byt 49) 5 = .ok (.putfield 28, 3) := by decide +kernel
theorem D49_8 : decode (byt 49) 8 = .ok (.aload_n 0, 1) := by decide +kernel
theorem D49_9 : decode (byt 49) 9 = .ok (.getfield 20, 3) := by decide +kernel
theorem D49_12 : decode (byt 49) 12 = .ok (.invokevirtual 36, 3) := by decide +kernel
theorem D49_15 : decode (byt 49) 15 = .ok (.iconst 0, 1) := by decide +kernel
theorem D49_16 : decode (byt 49) 16 = .ok (.istore_n 2, 1) := by decide +kernel
theorem D49_17 : decode (byt 49) 17 = .ok (.iload_n 2, 1) := by decide +kernel
theorem D49_18 : decode (byt 49) 18 = .ok (.aload_n 0, 1) := by decide +kernel
theorem D49_19 : decode (byt 49) 19 = .ok (.getfield 24, 3) := by decide +kernel
theorem D49_22 : decode (byt 49) 22 = .ok (.arraylength, 1) := by decide +kernel
theorem D49_23 : decode (byt 49) 23 = .ok (.if_icmp .ge 16, 3) := by decide +kernel
theorem D49_26 : decode (byt 49) 26 = .ok (.aload_n 0, 1) := by decide +kernel
theorem D49_27 : decode (byt 49) 27 = .ok (.getfield 24, 3) := by decide +kernel
theorem D49_30 : decode (byt 49) 30 = .ok (.iload_n 2, 1) := by decide +kernel
theorem D49_31 : decode (byt 49) 31 = .ok (.iconst (-1), 1) := by decide +kernel
theorem D49_32 : decode (byt 49) 32 = .ok (.iastore, 1) := by decide +kernel
theorem D49_33 : decode (byt 49) 33 = .ok (.iinc 2 1, 3) := by decide +kernel
theorem D49_36 : decode (byt 49) 36 = .ok (.goto (-19), 3) := by decide +kernel
theorem D49_39 : decode (byt 49) 39 = .ok (.aload_n 1, 1) := by decide +kernel
theorem D49_40 : decode (byt 49) 40 = .ok (.getfield 39, 3) := by decide +kernel
theorem D49_43 : decode (byt 49) 43 = .ok (.invokevirtual 43, 3) := by decide +kernel
theorem D49_46 : decode (byt 49) 46 = .ok (.aload_n 0, 1) := by decide +kernel
theorem D49_47 : decode (byt 49) 47 = .ok (.getfield 11, 3) := by decide +kernel
theorem D49_50 : decode (byt 49) 50 = .ok (.iconst 0, 1) := by decide +kernel
theorem D49_51 : decode (byt 49) 51 = .ok (.aaload, 1) := by decide +kernel
theorem D49_52 : decode (byt 49) 52 = .ok (.aload_n 1, 1) := by decide +kernel
theorem D49_53 : decode (byt 49) 53 = .ok (.getfield 48, 3) := by decide +kernel
theorem D49_56 : decode (byt 49) 56 = .ok (.aload_n 1, 1) := by decide +kernel
theorem D49_57 : decode (byt 49) 57 = .ok (.getfield 51, 3) := by decide +kernel
theorem D49_60 : decode (byt 49) 60 = .ok (.iconst 0, 1) := by decide +kernel
theorem D49_61 : decode (byt 49) 61 = .ok (.invokevirtual 54, 3) := by decide +kernel
theorem D49_64 : decode (byt 49) 64 = .ok (.aload_n 1, 1) := by decide +kernel
theorem D49_65 : decode (byt 49) 65 = .ok (.getfield 39, 3) := by decide +kernel
theorem D49_68 : decode (byt 49) 68 = .ok (.aload_n 0, 1) := by decide +kernel
theorem D49_69 : decode (byt 49) 69 = .ok (.aload_n 1, 1) := by decide +kernel
theorem D49_70 : decode (byt 49) 70 = .ok (.getfield 39, 3) := by decide +kernel
theorem D49_73 : decode (byt 49) 73 = .ok (.iconst 0, 1) := by decide +kernel
theorem D49_74 : decode (byt 49) 74 = .ok (.invokevirtual 58, 3) := by decide +kernel
theorem D49_77 : decode (byt 49) 77 = .ok (.putfield 62, 3) := by decide +kernel
theorem D49_80 : decode (byt 49) 80 = .ok (.aload_n 1, 1) := by decide +kernel
theorem D49_81 : decode (byt 49) 81 = .ok (.getfield 39, 3) := by decide +kernel
theorem D49_84 : decode (byt 49) 84 = .ok (.getfield 65, 3) := by decide +kernel
theorem D49_87 : decode (byt 49) 87 = .ok (.ifCond .ne 7, 3) := by decide +kernel
theorem D49_90 : decode (byt 49) 90 = .ok (.iconst 1, 1) := by decide +kernel
theorem D49_91 : decode (byt 49) 91 = .ok (.goto 4, 3) := by decide +kernel
theorem D49_94 : decode (byt 49) 94 = .ok (.iconst 0, 1) := by decide +kernel
theorem D49_95 : decode (byt 49) 95 = .ok (.ireturn, 1) := by decide +kernel
theorem D50_0 : decode (byt 50) 0 = .ok (.aload_n 0, 1) := by decide +kernel
theorem D50_1 : decode (byt 50) 1 = .ok (.getfield 11, 3) := by decide +kernel
theorem D50_4 : decode (byt 50) 4 = .ok (.iload_n 2, 1) := by decide +kernel
theorem D50_5 : decode (byt 50) 5 = .ok (.aaload, 1) := by decide +kernel
theorem D50_6 : decode (byt 50) 6 = .ok (.astore_n 3, 1) := by decide +kernel
theorem D50_7 : decode (byt 50) 7 = .ok (.aload_n 3, 1) := by decide +kernel
theorem D50_8 : decode (byt 50) 8 = .ok (.invokevirtual 69, 3) := by decide +kernel
theorem D50_11 : decode (byt 50) 11 = .ok (.ifCond .ne 5, 3) := by decide +kernel
theorem D50_14 : decode (byt 50) 14 = .ok (.iconst 1, 1) := by decide +kernel
theorem D50_15 : decode (byt 50) 15 = .ok (.ireturn, 1) := by decide +kernel
theorem D50_16 : decode (byt 50) 16 = .ok (.aload_n 3, 1) := by decide +kernel
theorem D50_17 : decode (byt 50) 17 = .ok (.invokevirtual 73, 3) := by decide +kernel
theorem D50_20 : decode (byt 50) 20 = .ok (.istore 4, 2) := by decide +kernel
theorem D50_22 : decode (byt 50) 22 = .ok (.iconst 0, 1) := by decide +kernel
theorem D50_23 : decode (byt 50) 23 = .ok (.istore 5, 2) := by decide +kernel
theorem D50_25 : decode (byt 50) 25 = .ok (.iload 5, 2) := by decide +kernel
theorem D50_27 : decode (byt 50) 27 = .ok (.iload 4, 2) := by decide +kernel
theorem D50_29 : decode (byt 50) 29 = .ok (.if_icmp .ge 44, 3) := by decide +kernel
theorem D50_32 : decode (byt 50) 32 = .ok (.aload_n 3, 1) := by decide +kernel
theorem D50_33 : decode (byt 50) 33 = .ok (.iload 5, 2) := by decide +kernel
theorem D50_35 : decode (byt 50) 35 = .ok (.invokevirtual 77, 3) := by decide +kernel
theorem D50_38 : decode (byt 50) 38 = .ok (.aload_n 0, 1) := by decide +kernel
theorem D50_39 : decode (byt 50) 39 = .ok (.aload_n 1, 1) := by decide +kernel
theorem D50_40 : decode (byt 50) 40 = .ok (.iload_n 2, 1) := by decide +kernel
theorem D50_41 : decode (byt 50) 41 = .ok (.invokevirtual 81, 3) := by decide +kernel
theorem D50_44 : decode (byt 50) 44 = .ok (.istore 6, 2) := by decide +kernel
theorem D50_46 : decode (byt 50) 46 = .ok (.aload_n 1, 1) := by decide +kernel
theorem D50_47 : decode (byt 50) 47 = .ok (.getfield 65, 3) := by decide +kernel
theorem D50_50 : decode (byt 50) 50 = .ok (.ifCond .ne 9, 3) := by decide +kernel
theorem D50_53 : decode (byt 50) 53 = .ok (.iload 6, 2) := by decide +kernel
theorem D50_55 : decode (byt 50) 55 = .ok (.iconst 1, 1) := by decide +kernel
theorem D50_56 : decode (byt 50) 56 = .ok (.if_icmp .ne 5, 3) := by decide +kernel
theorem D50_59 : decode (byt 50) 59 = .ok (.iconst 1, 1) := by decide +kernel
theorem D50_60 : decode (byt 50) 60 = .ok (.ireturn, 1) := by decide +kernel
theorem D50_61 : decode (byt 50) 61 = .ok (.aload_n 3, 1) := by decide +kernel
theorem D50_62 : decode (byt 50) 62 = .ok (.iload 6, 2) := by decide +kernel
theorem D50_64 : decode (byt 50) 64 = .ok (.invokevirtual 84, 3) := by decide +kernel
theorem D50_67 : decode (byt 50) 67 = .ok (.iinc 5 1, 3) := by decide +kernel
theorem D50_70 : decode (byt 50) 70 = .ok (.goto (-45), 3) := by decide +kernel
theorem D50_73 : decode (byt 50) 73 = .ok (.aload_n 0, 1) := by decide +kernel
theorem D50_74 : decode (byt 50) 74 = .ok (.aload_n 1, 1) := by decide +kernel
theorem D50_75 : decode (byt 50) 75 = .ok (.aload_n 3, 1) := by decide +kernel
theorem D50_76 : decode (byt 50) 76 = .ok (.invokevirtual 87, 3) := by decide +kernel
theorem D50_79 : decode (byt 50) 79 = .ok (.ireturn, 1) := by decide +kernel
theorem D51_0 : decode (byt 51) 0 = .ok (.aload_n 0, 1) := by decide +kernel
theorem D51_1 : decode (byt 51) 1 = .ok (.getfield 11, 3) := by decide +kernel
theorem D51_4 : decode (byt 51) 4 = .ok (.iload_n 2, 1) := by decide +kernel
theorem D51_5 : decode (byt 51) 5 = .ok (.aaload, 1) := by decide +kernel
theorem D51_6 : decode (byt 51) 6 = .ok (.astore_n 3, 1) := by decide +kernel
theorem D51_7 : decode (byt 51) 7 = .ok (.aload_n 0, 1) := by decide +kernel
theorem D51_8 : decode (byt 51) 8 = .ok (.getfield 20, 3) := by decide +kernel
theorem D51_11 : decode (byt 51) 11 = .ok (.aload_n 3, 1) := by decide +kernel
theorem D51_12 : decode (byt 51) 12 = .ok (.getfield 91, 3) := by decide +kernel
theorem D51_15 : decode (byt 51) 15 = .ok (.aload_n 3, 1) := by decide +kernel
theorem D51_16 : decode (byt 51) 16 = .ok (.getfield 94, 3) := by decide +kernel
theorem D51_19 : decode (byt 51) 19 = .ok (.invokevirtual 97, 3) := by decide +kernel
theorem D51_22 : decode (byt 51) 22 = .ok (.istore 4, 2) := by decide +kernel
theorem D51_24 : decode (byt 51) 24 = .ok (.iload 4, 2) := by decide +kernel
theorem D51_26 : decode (byt 51) 26 = .ok (.iconst (-1), 1) := by decide +kernel
theorem D51_27 : decode (byt 51) 27 = .ok (.if_icmp .eq 16, 3) := by decide +kernel
theorem D51_30 : decode (byt 51) 30 = .ok (.aload_n 1, 1) := by decide +kernel
theorem D51_31 : decode (byt 51) 31 = .ok (.dup, 1) := by decide +kernel
theorem D51_32 : decode (byt 51) 32 = .ok (.getfield 101, 3) := by decide +kernel
theorem D51_35 : decode (byt 51) 35 = .ok (.iconst 1, 1) := by decide +kernel
theorem D51_36 : decode (byt 51) 36 = .ok (.iadd, 1) := by decide +kernel
theorem D51_37 : decode (byt 51) 37 = .ok (.putfield 101, 3) := by decide +kernel
theorem D51_40 : decode (byt 51) 40 = .ok (.iload 4, 2) := by decide +kernel
theorem D51_42 : decode (byt 51) 42 = .ok (.ireturn, 1) := by decide +kernel
theorem D51_43 : decode (byt 51) 43 = .ok (.aload_n 3, 1) := by decide +kernel
theorem D51_44 : decode (byt 51) 44 = .ok (.aload_n 0, 1) := by decide +kernel
theorem D51_45 : decode (byt 51) 45 = .ok (.getfield 28, 3) := by decide +kernel
theorem D51_48 : decode (byt 51) 48 = .ok (.invokevirtual 104, 3) := by decide +kernel
theorem D51_51 : decode (byt 51) 51 = .ok (.istore 5, 2) := by decide +kernel
theorem D51_53 : decode (byt 51) 53 = .ok (.aload_n 0, 1) := by decide +kernel
theorem D51_54 : decode (byt 51) 54 = .ok (.aload_n 1, 1) := by decide +kernel
theorem D51_55 : decode (byt 51) 55 = .ok (.iload_n 2, 1) := by decide +kernel
theorem D51_56 : decode (byt 51) 56 = .ok (.iload 5, 2) := by decide +kernel
theorem D51_58 : decode (byt 51) 58 = .ok (.invokestatic 108, 3) := by decide +kernel
theorem D51_61 : decode (byt 51) 61 = .ok (.invokevirtual 111, 3) := by decide +kernel
theorem D51_64 : decode (byt 51) 64 = .ok (.istore 6, 2) := by decide +kernel
theorem D51_66 : decode (byt 51) 66 = .ok (.aload_n 1, 1) := by decide +kernel
theorem D51_67 : decode (byt 51) 67 = .ok (.getfield 65, 3) := by decide +kernel
theorem D51_70 : decode (byt 51) 70 = .ok (.ifCond .eq 7, 3) := by decide +kernel
theorem D51_73 : decode (byt 51) 73 = .ok (.iconst 1, 1) := by decide +kernel
theorem D51_74 : decode (byt 51) 74 = .ok (.goto 15, 3) := by decide +kernel
theorem D51_77 : decode (byt 51) 77 = .ok (.aload_n 0, 1) := by decide +kernel
theorem D51_78 : decode (byt 51) 78 = .ok (.aload_n 1, 1) := by decide +kernel
theorem D51_79 : decode (byt 51) 79 = .ok (.iload_n 2, 1) := by decide +kernel
theorem D51_80 : decode (byt 51) 80 = .ok (.iload 5, 2) := by decide +kernel
theorem D51_82 : decode (byt 51) 82 = .ok (.ineg, 1) := by decide +kernel
theorem D51_83 : decode (byt 51) 83 = .ok (.invokestatic 108, 3) := by decide +kernel
theorem D51_86 : decode (byt 51) 86 = .ok (.invokevirtual 111, 3) := by decide +kernel
theorem D51_89 : decode (byt 51) 89 = .ok (.istore 7, 2) := by decide +kernel
theorem D51_91 : decode (byt 51) 91 = .ok (.aload_n 1, 1) := by decide +kernel
theorem D51_92 : decode (byt 51) 92 = .ok (.getfield 65, 3) := by decide +kernel
theorem D51_95 : decode (byt 51) 95 = .ok (.ifCond .eq 5, 3) := by decide +kernel
theorem D51_98 : decode (byt 51) 98 = .ok (.iconst 1, 1) := by decide +kernel
theorem D51_99 : decode (byt 51) 99 = .ok (.ireturn, 1) := by decide +kernel
theorem D51_100 : decode (byt 51) 100 = .ok (.iconst 1, 1) := by decide +kernel
theorem D51_101 : decode (byt 51) 101 = .ok (.istore 8, 2) := by decide +kernel
theorem D51_103 : decode (byt 51) 103 = .ok (.iload 6, 2) := by decide +kernel
theorem D51_105 : decode (byt 51) 105 = .ok (.iconst 1, 1) := by decide +kernel
theorem D51_106 : decode (byt 51) 106 = .ok (.if_icmp .ne 9, 3) := by decide +kernel
theorem D51_109 : decode (byt 51) 109 = .ok (.iload 7, 2) := by decide +kernel
theorem D51_111 : decode (byt 51) 111 = .ok (.iconst 1, 1) := by decide +kernel
theorem D51_112 : decode (byt 51) 112 = .ok (.if_icmp .eq 33, 3) := by decide +kernel
theorem D51_115 : decode (byt 51) 115 = .ok (.aload_n 1, 1) := by decide +kernel
theorem D51_116 : decode (byt 51) 116 = .ok (.iconst 4, 1) := by decide +kernel
theorem D51_117 : decode (byt 51) 117 = .ok (.iload 5, 2) := by decide +kernel
theorem D51_119 : decode (byt 51) 119 = .ok (.iload 5, 2) := by decide +kernel
theorem D51_121 : decode (byt 51) 121 = .ok (.invokestatic 108, 3) := by decide +kernel
theorem D51_124 : decode (byt 51) 124 = .ok (.invokevirtual 115, 3) := by decide +kernel
theorem D51_127 : decode (byt 51) 127 = .ok (.istore 8, 2) := by decide +kernel
theorem D51_129 : decode (byt 51) 129 = .ok (.aload_n 1, 1) := by decide +kernel
theorem D51_130 : decode (byt 51) 130 = .ok (.iload 8, 2) := by decide +kernel
theorem D51_132 : decode (byt 51) 132 = .ok (.iload 6, 2) := by decide +kernel
theorem D51_134 : decode (byt 51) 134 = .ok (.invokevirtual 119, 3) := by decide +kernel
theorem D51_137 : decode (byt 51) 137 = .ok (.aload_n 1, 1) := by decide +kernel
theorem D51_138 : decode (byt 51) 138 = .ok (.iload 8, 2) := by decide +kernel
theorem D51_140 : decode (byt 51) 140 = .ok (.iload 7, 2) := by decide +kernel
theorem D51_142 : decode (byt 51) 142 = .ok (.invokevirtual 119, 3) := by decide +kernel
theorem D51_145 : decode (byt 51) 145 = .ok (.aload_n 0, 1) := by decide +kernel
theorem D51_146 : decode (byt 51) 146 = .ok (.getfield 20, 3) := by decide +kernel
theorem D51_149 : decode (byt 51) 149 = .ok (.aload_n 3, 1) := by decide +kernel
theorem D51_150 : decode (byt 51) 150 = .ok (.getfield 91, 3) := by decide +kernel
theorem D51_153 : decode (byt 51) 153 = .ok (.aload_n 3, 1) := by decide +kernel
theorem D51_154 : decode (byt 51) 154 = .ok (.getfield 94, 3) := by decide +kernel
theorem D51_157 : decode (byt 51) 157 = .ok (.iload 8, 2) := by decide +kernel
theorem D51_159 : decode (byt 51) 159 = .ok (.invokevirtual 123, 3) := by decide +kernel
theorem D51_162 : decode (byt 51) 162 = .ok (.ifCond .ne 8, 3) := by decide +kernel
theorem D51_165 : decode (byt 51) 165 = .ok (.aload_n 1, 1) := by decide +kernel
theorem D51_166 : decode (byt 51) 166 = .ok (.iconst 1, 1) := by decide +kernel
theorem D51_167 : decode (byt 51) 167 = .ok (.putfield 65, 3) := by decide +kernel
theorem D51_170 : decode (byt 51) 170 = .ok (.iload 8, 2) := by decide +kernel
theorem D51_172 : decode (byt 51) 172 = .ok (.ireturn, 1) := by decide +kernel
theorem D52_0 : decode (byt 52) 0 = .ok (.iload_n 2, 1) := by decide +kernel
theorem D52_1 : decode (byt 52) 1 = .ok (.iconst 1, 1) := by decide +kernel
theorem D52_2 : decode (byt 52) 2 = .ok (.iadd, 1) := by decide +kernel
theorem D52_3 : decode (byt 52) 3 = .ok (.aload_n 0, 1) := by decide +kernel
theorem D52_4 : decode (byt 52) 4 = .ok (.getfield 11, 3) := by decide +kernel
theorem D52_7 : decode (byt 52) 7 = .ok (.arraylength, 1) := by decide +kernel
theorem D52_8 : decode (byt 52) 8 = .ok (.if_icmp .lt 10, 3) := by decide +kernel
theorem D52_11 : decode (byt 52) 11 = .ok (.aload_n 1, 1) := by decide +kernel
theorem D52_12 : decode (byt 52) 12 = .ok (.iconst 1, 1) := by decide +kernel
theorem D52_13 : decode (byt 52) 13 = .ok (.putfield 65, 3) := by decide +kernel
theorem D52_16 : decode (byt 52) 16 = .ok (.iconst 1, 1) := by decide +kernel
theorem D52_17 : decode (byt 52) 17 = .ok (.ireturn, 1) := by decide +kernel
theorem D52_18 : decode (byt 52) 18 = .ok (.aload_n 0, 1) := by decide +kernel
theorem D52_19 : decode (byt 52) 19 = .ok (.getfield 11, 3) := by decide +kernel
theorem D52_22 : decode (byt 52) 22 = .ok (.iload_n 2, 1) := by decide +kernel
theorem D52_23 : decode (byt 52) 23 = .ok (.iconst 1, 1) := by decide +kernel
theorem D52_24 : decode (byt 52) 24 = .ok (.iadd, 1) := by decide +kernel
theorem D52_25 : decode (byt 52) 25 = .ok (.aaload, 1) := by decide +kernel
theorem D52_26 : decode (byt 52) 26 = .ok (.aload_n 0, 1) := by decide +kernel
theorem D52_27 : decode (byt 52) 27 = .ok (.getfield 11, 3) := by decide +kernel
theorem D52_30 : decode (byt 52) 30 = .ok (.iload_n 2, 1) := by decide +kernel
theorem D52_31 : decode (byt 52) 31 = .ok (.aaload, 1) := by decide +kernel
theorem D52_32 : decode (byt 52) 32 = .ok (.getfield 91, 3) := by decide +kernel
theorem D52_35 : decode (byt 52) 35 = .ok (.aload_n 0, 1) := by decide +kernel
theorem D52_36 : decode (byt 52) 36 = .ok (.getfield 11, 3) := by decide +kernel
theorem D52_39 : decode (byt 52) 39 = .ok (.iload_n 2, 1) := by decide +kernel
theorem D52_40 : decode (byt 52) 40 = .ok (.aaload, 1) := by decide +kernel
theorem D52_41 : decode (byt 52) 41 = .ok (.getfield 94, 3) := by decide +kernel
theorem D52_44 : decode (byt 52) 44 = .ok (.iload_n 3, 1) := by decide +kernel
theorem D52_45 : decode (byt 52) 45 = .ok (.invokevirtual 54, 3) := by decide +kernel
theorem D52_48 : decode (byt 52) 48 = .ok (.aload_n 0, 1) := by decide +kernel
theorem D52_49 : decode (byt 52) 49 = .ok (.aload_n 1, 1) := by decide +kernel
theorem D52_50 : decode (byt 52) 50 = .ok (.iload_n 2, 1) := by decide +kernel
theorem D52_51 : decode (byt 52) 51 = .ok (.iconst 1, 1) := by decide +kernel
theorem D52_52 : decode (byt 52) 52 = .ok (.iadd, 1) := by decide +kernel
theorem D52_53 : decode (byt 52) 53 = .ok (.invokevirtual 58, 3) := by decide +kernel
theorem D52_56 : decode (byt 52) 56 = .ok (.ireturn, 1) := by decide +kernel
theorem D53_0 : decode (byt 53) 0 = .ok (.iconst 0, 1) := by decide +kernel
theorem D53_1 : decode (byt 53) 1 = .ok (.istore_n 3, 1) := by decide +kernel
theorem D53_2 : decode (byt 53) 2 = .ok (.iload_n 3, 1) := by decide +kernel
theorem D53_3 : decode (byt 53) 3 = .ok (.aload_n 2, 1) := by decide +kernel
theorem D53_4 : decode (byt 53) 4 = .ok (.getfield 127, 3) := by decide +kernel
theorem D53_7 : decode (byt 53) 7 = .ok (.if_icmp .ge 26, 3) := by decide +kernel
theorem D53_10 : decode (byt 53) 10 = .ok (.aload_n 2, 1) := by decide +kernel
theorem D53_11 : decode (byt 53) 11 = .ok (.getfield 130, 3) := by decide +kernel
theorem D53_14 : decode (byt 53) 14 = .ok (.iload_n 3, 1) := by decide +kernel
theorem D53_15 : decode (byt 53) 15 = .ok (.aload_n 0, 1) := by decide +kernel
theorem D53_16 : decode (byt 53) 16 = .ok (.aload_n 1, 1) := by decide +kernel
theorem D53_17 : decode (byt 53) 17 = .ok (.aload_n 2, 1) := by decide +kernel
theorem D53_18 : decode (byt 53) 18 = .ok (.getfield 130, 3) := by decide +kernel
theorem D53_21 : decode (byt 53) 21 = .ok (.iload_n 3, 1) := by decide +kernel
theorem D53_22 : decode (byt 53) 22 = .ok (.iaload, 1) := by decide +kernel
theorem D53_23 : decode (byt 53) 23 = .ok (.invokevirtual 133, 3) := by decide +kernel
theorem D53_26 : decode (byt 53) 26 = .ok (.iastore, 1) := by decide +kernel
theorem D53_27 : decode (byt 53) 27 = .ok (.iinc 3 1, 3) := by decide +kernel
theorem D53_30 : decode (byt 53) 30 = .ok (.goto (-28), 3) := by decide +kernel
theorem D53_33 : decode (byt 53) 33 = .ok (.aload_n 2, 1) := by decide +kernel
theorem D53_34 : decode (byt 53) 34 = .ok (.getfield 127, 3) := by decide +kernel
theorem D53_37 : decode (byt 53) 37 = .ok (.aload_n 2, 1) := by decide +kernel
theorem D53_38 : decode (byt 53) 38 = .ok (.getfield 136, 3) := by decide +kernel
theorem D53_41 : decode (byt 53) 41 = .ok (.iadd, 1) := by decide +kernel
theorem D53_42 : decode (byt 53) 42 = .ok (.ifCond .ne 5, 3) := by decide +kernel
theorem D53_45 : decode (byt 53) 45 = .ok (.iconst 0, 1) := by decide +kernel
theorem D53_46 : decode (byt 53) 46 = .ok (.ireturn, 1) := by decide +kernel
theorem D53_47 : decode (byt 53) 47 = .ok (.aload_n 2, 1) := by decide +kernel
theorem D53_48 : decode (byt 53) 48 = .ok (.getfield 127, 3) := by decide +kernel
theorem D53_51 : decode (byt 53) 51 = .ok (.aload_n 2, 1) := by decide +kernel
theorem D53_52 : decode (byt 53) 52 = .ok (.getfield 136, 3) := by decide +kernel
theorem D53_55 : decode (byt 53) 55 = .ok (.iadd, 1) := by decide +kernel
theorem D53_56 : decode (byt 53) 56 = .ok (.iconst 1, 1) := by decide +kernel
theorem D53_57 : decode (byt 53) 57 = .ok (.if_icmp .ne 27, 3) := by decide +kernel
theorem D53_60 : decode (byt 53) 60 = .ok (.aload_n 2, 1) := by decide +kernel
theorem D53_61 : decode (byt 53) 61 = .ok (.getfield 127, 3) := by decide +kernel
theorem D53_64 : decode (byt 53) 64 = .ok (.iconst 1, 1) := by decide +kernel
theorem D53_65 : decode (byt 53) 65 = .ok (.if_icmp .ne 12, 3) := by decide +kernel
theorem D53_68 : decode (byt 53) 68 = .ok (.aload_n 2, 1) := by decide +kernel
theorem D53_69 : decode (byt 53) 69 = .ok (.getfield 130, 3) := by decide +kernel
theorem D53_72 : decode (byt 53) 72 = .ok (.iconst 0, 1) := by decide +kernel
theorem D53_73 : decode (byt 53) 73 = .ok (.iaload, 1) := by decide +kernel
theorem D53_74 : decode (byt 53) 74 = .ok (.goto 9, 3) := by decide +kernel
theorem D53_77 : decode (byt 53) 77 = .ok (.aload_n 2, 1) := by decide +kernel
theorem D53_78 : decode (byt 53) 78 = .ok (.getfield 139, 3) := by decide +kernel
theorem D53_81 : decode (byt 53) 81 = .ok (.iconst 0, 1) := by decide +kernel
theorem D53_82 : decode (byt 53) 82 = .ok (.iaload, 1) := by decide +kernel
theorem D53_83 : decode (byt 53) 83 = .ok (.ireturn, 1) := by decide +kernel
theorem D53_84 : decode (byt 53) 84 = .ok (.aload_n 1, 1) := by decide +kernel
theorem D53_85 : decode (byt 53) 85 = .ok (.iconst 3, 1) := by decide +kernel
theorem D53_86 : decode (byt 53) 86 = .ok (.iconst 0, 1) := by decide +kernel
theorem D53_87 : decode (byt 53) 87 = .ok (.iconst 0, 1) := by decide +kernel
theorem D53_88 : decode (byt 53) 88 = .ok (.invokevirtual 115, 3) := by decide +kernel
theorem D53_91 : decode (byt 53) 91 = .ok (.istore_n 3, 1) := by decide +kernel
theorem D53_92 : decode (byt 53) 92 = .ok (.iconst 0, 1) := by decide +kernel
theorem D53_93 : decode (byt 53) 93 = .ok (.istore 4, 2) := by decide +kernel
theorem D53_95 : decode (byt 53) 95 = .ok (.iload 4, 2) := by decide +kernel
theorem D53_97 : decode (byt 53) 97 = .ok (.aload_n 2, 1) := by decide +kernel
theorem D53_98 : decode (byt 53) 98 = .ok (.getfield 127, 3) := by decide +kernel
theorem D53_101 : decode (byt 53) 101 = .ok (.if_icmp .ge 21, 3) := by decide +kernel
theorem D53_104 : decode (byt 53) 104 = .ok (.aload_n 1, 1) := by decide +kernel
theorem D53_105 : decode (byt 53) 105 = .ok (.iload_n 3, 1) := by decide +kernel
theorem D53_106 : decode (byt 53) 106 = .ok (.aload_n 2, 1) := by decide +kernel
theorem D53_107 : decode (byt 53) 107 = .ok (.getfield 130, 3) := by decide +kernel
theorem D53_110 : decode (byt 53) 110 = .ok (.iload 4, 2) := by decide +kernel
theorem D53_112 : decode (byt 53) 112 = .ok (.iaload, 1) := by decide +kernel
theorem D53_113 : decode (byt 53) 113 = .ok (.invokevirtual 119, 3) := by decide +kernel
theorem D53_116 : decode (byt 53) 116 = .ok (.iinc 4 1, 3) := by decide +kernel
theorem D53_119 : decode (byt 53) 119 = .ok (.goto (-24), 3) := by decide +kernel
theorem D53_122 : decode (byt 53) 122 = .ok (.iconst 0, 1) := by decide +kernel
theorem D53_123 : decode (byt 53) 123 = .ok (.istore 4, 2) := by decide +kernel
theorem D53_125 : decode (byt 53) 125 = .ok (.iload 4, 2) := by decide +kernel
theorem D53_127 : decode (byt 53) 127 = .ok (.aload_n 2, 1) := by decide +kernel
theorem D53_128 : decode (byt 53) 128 = .ok (.getfield 136, 3) := by decide +kernel
theorem D53_131 : decode (byt 53) 131 = .ok (.if_icmp .ge 21, 3) := by decide +kernel
theorem D53_134 : decode (byt 53) 134 = .ok (.aload_n 1, 1) := by decide +kernel
theorem D53_135 : decode (byt 53) 135 = .ok (.iload_n 3, 1) := by decide +kernel
theorem D53_136 : decode (byt 53) 136 = .ok (.aload_n 2, 1) := by decide +kernel
theorem D53_137 : decode (byt 53) 137 = .ok (.getfield 139, 3) := by decide +kernel
theorem D53_140 : decode (byt 53) 140 = .ok (.iload 4, 2) := by decide +kernel
theorem D53_142 : decode (byt 53) 142 = .ok (.iaload, 1) := by decide +kernel
theorem D53_143 : decode (byt 53) 143 = .ok (.invokevirtual 119, 3) := by decide +kernel
theorem D53_146 : decode (byt 53) 146 = .ok (.iinc 4 1, 3) := by decide +kernel
theorem D53_149 : decode (byt 53) 149 = .ok (.goto (-24), 3) := by decide +kernel
theorem D53_152 : decode (byt 53) 152 = .ok (.iload_n 3, 1) := by decide +kernel
theorem D53_153 : decode (byt 53) 153 = .ok (.ireturn, 1) := by decide +kernel
theorem D54_0 : decode (byt 54) 0 = .ok (.iload_n 2, 1) := by decide +kernel
theorem D54_1 : decode (byt 54) 1 = .ok (.iconst 1, 1) := by decide +kernel
theorem D54_2 : decode (byt 54) 2 = .ok (.isub, 1) := by decide +kernel
theorem D54_3 : decode (byt 54) 3 = .ok (.invokestatic 142, 3) := by decide +kernel
theorem D54_6 : decode (byt 54) 6 = .ok (.istore_n 3, 1) := by decide +kernel
theorem D54_7 : decode (byt 54) 7 = .ok (.iload_n 3, 1) := by decide +kernel
theorem D54_8 : decode (byt 54) 8 = .ok (.aload_n 0, 1) := by decide +kernel
theorem D54_9 : decode (byt 54) 9 = .ok (.getfield 24, 3) := by decide +kernel
theorem D54_12 : decode (byt 54) 12 = .ok (.arraylength, 1) := by decide +kernel
theorem D54_13 : decode (byt 54) 13 = .ok (.if_icmp .lt 5, 3) := by decide +kernel
theorem D54_16 : decode (byt 54) 16 = .ok (.iconst 1, 1) := by decide +kernel
theorem D54_17 : decode (byt 54) 17 = .ok (.ireturn, 1) := by decide +kernel
theorem D54_18 : decode (byt 54) 18 = .ok (.aload_n 0, 1) := by decide +kernel
theorem D54_19 : decode (byt 54) 19 = .ok (.getfield 24, 3) := by decide +kernel
theorem D54_22 : decode (byt 54) 22 = .ok (.iload_n 3, 1) := by decide +kernel
theorem D54_23 : decode (byt 54) 23 = .ok (.iaload, 1) := by decide +kernel
theorem D54_24 : decode (byt 54) 24 = .ok (.iconst (-1), 1) := by decide +kernel
theorem D54_25 : decode (byt 54) 25 = .ok (.if_icmp .ne 46, 3) := by decide +kernel
theorem D54_28 : decode (byt 54) 28 = .ok (.iload_n 3, 1) := by decide +kernel
theorem D54_29 : decode (byt 54) 29 = .ok (.bipush 12, 2) := by decide +kernel
theorem D54_31 : decode (byt 54) 31 = .ok (.irem, 1) := by decide +kernel
theorem D54_32 : decode (byt 54) 32 = .ok (.iconst 1, 1) := by decide +kernel
theorem D54_33 : decode (byt 54) 33 = .ok (.iadd, 1) := by decide +kernel
theorem D54_34 : decode (byt 54) 34 = .ok (.istore 4, 2) := by decide +kernel
theorem D54_36 : decode (byt 54) 36 = .ok (.iload_n 3, 1) := by decide +kernel
theorem D54_37 : decode (byt 54) 37 = .ok (.bipush 12, 2) := by decide +kernel
theorem D54_39 : decode (byt 54) 39 = .ok (.if_icmp .ge 8, 3) := by decide +kernel
theorem D54_42 : decode (byt 54) 42 = .ok (.iload 4, 2) := by decide +kernel
theorem D54_44 : decode (byt 54) 44 = .ok (.goto 6, 3) := by decide +kernel
theorem D54_47 : decode (byt 54) 47 = .ok (.iload 4, 2) := by decide +kernel
theorem D54_49 : decode (byt 54) 49 = .ok (.ineg, 1) := by decide +kernel
theorem D54_50 : decode (byt 54) 50 = .ok (.istore 5, 2) := by decide +kernel
theorem D54_52 : decode (byt 54) 52 = .ok (.aload_n 0, 1) := by decide +kernel
theorem D54_53 : decode (byt 54) 53 = .ok (.getfield 24, 3) := by decide +kernel
theorem D54_56 : decode (byt 54) 56 = .ok (.iload_n 3, 1) := by decide +kernel
theorem D54_57 : decode (byt 54) 57 = .ok (.aload_n 1, 1) := by decide +kernel
theorem D54_58 : decode (byt 54) 58 = .ok (.iconst 2, 1) := by decide +kernel
theorem D54_59 : decode (byt 54) 59 = .ok (.iload 5, 2) := by decide +kernel
theorem D54_61 : decode (byt 54) 61 = .ok (.iconst 1, 1) := by decide +kernel
theorem D54_62 : decode (byt 54) 62 = .ok (.iload 4, 2) := by decide +kernel
theorem D54_64 : decode (byt 54) 64 = .ok (.iconst 1, 1) := by decide +kernel
theorem D54_65 : decode (byt 54) 65 = .ok (.isub, 1) := by decide +kernel
theorem D54_66 : decode (byt 54) 66 = .ok (.ishl, 1) := by decide +kernel
theorem D54_67 : decode (byt 54) 67 = .ok (.invokevirtual 115, 3) := by decide +kernel
theorem D54_70 : decode (byt 54) 70 = .ok (.iastore, 1) := by decide +kernel
theorem D54_71 : decode (byt 54) 71 = .ok (.aload_n 0, 1) := by decide +kernel
theorem D54_72 : decode (byt 54) 72 = .ok (.getfield 24, 3) := by decide +kernel
theorem D54_75 : decode (byt 54) 75 = .ok (.iload_n 3, 1) := by decide +kernel
theorem D54_76 : decode (byt 54) 76 = .ok (.iaload, 1) := by decide +kernel
theorem D54_77 : decode (byt 54) 77 = .ok (.ireturn, 1) := by decide +kernel
theorem D55_0 : decode (byt 55) 0 = .ok (.aload_n 0, 1) := by decide +kernel
theorem D55_1 : decode (byt 55) 1 = .ok (.invokespecial 3, 3) := by decide +kernel
theorem D55_4 : decode (byt 55) 4 = .ok (.aload_n 0, 1) := by decide +kernel
theorem D55_5 : decode (byt 55) 5 = .ok (.ldc 9, 2) := by decide +kernel
theorem D55_7 : decode (byt 55) 7 = .ok (.newarray .int, 2) := by decide +kernel
theorem D55_9 : decode (byt 55) 9 = .ok (.putfield 10, 3) := by decide +kernel
theorem D55_12 : decode (byt 55) 12 = .ok (.aload_n 0, 1) := by decide +kernel
theorem D55_13 : decode (byt 55) 13 = .ok (.sipush 2047, 3) := by decide +kernel
theorem D55_16 : decode (byt 55) 16 = .ok (.newarray .int, 2) := by decide +kernel
theorem D55_18 : decode (byt 55) 18 = .ok (.putfield 16, 3) := by decide +kernel
theorem D55_21 : decode (byt 55) 21 = .ok (.aload_n 0, 1) := by decide +kernel
theorem D55_22 : decode (byt 55) 22 = .ok (.sipush 2047, 3) := by decide +kernel
theorem D55_25 : decode (byt 55) 25 = .ok (.newarray .int, 2) := by decide +kernel
theorem D55_27 : decode (byt 55) 27 = .ok (.putfield 19, 3) := by decide +kernel
theorem D55_30 : decode (byt 55) 30 = .ok (.aload_n 0, 1) := by decide +kernel
theorem D55_31 : decode (byt 55) 31 = .ok (.sipush 2047, 3) := by decide +kernel
theorem D55_34 : decode (byt 55) 34 = .ok (.newarray .int, 2) := by decide +kernel
theorem D55_36 : decode (byt 55) 36 = .ok (.putfield 22, 3) := by decide +kernel
theorem D55_39 : decode (byt 55) 39 = .ok (.aload_n 0, 1) := by decide +kernel
theorem D55_40 : decode (byt 55) 40 = .ok (.sipush 2047, 3) := by decide +kernel
theorem D55_43 : decode (byt 55) 43 = .ok (.newarray .int, 2) := by decide +kernel
theorem D55_45 : decode (byt 55) 45 = .ok (.putfield 25, 3) := by decide +kernel
theorem D55_48 : decode (byt 55) 48 = .ok (.aload_n 0, 1) := by decide +kernel
theorem D55_49 : decode (byt 55) 49 = .ok (.sipush 256, 3) := by decide +kernel
theorem D55_52 : decode (byt 55) 52 = .ok (.newarray .int, 2) := by decide +kernel
theorem D55_54 : decode (byt 55) 54 = .ok (.putfield 28, 3) := by decide +kernel
theorem D55_57 : decode (byt 55) 57 = .ok (.aload_n 0, 1) := by decide +kernel
theorem D55_58 : decode (byt 55) 58 = .ok (.iconst 0, 1) := by decide +kernel
theorem D55_59 : decode (byt 55) 59 = .ok (.putfield 31, 3) := by decide +kernel
theorem D55_62 : decode (byt 55) 62 = .ok (.aload_n 0, 1) := by decide +kernel
theorem D55_63 : decode (byt 55) 63 = .ok (.iconst 0, 1) := by decide +kernel
theorem D55_64 : decode (byt 55) 64 = .ok (.putfield 35, 3) := by decide +kernel
theorem D55_67 : decode (byt 55) 67 = .ok (.return_, 1) := by decide +kernel
theorem D56_0 : decode (byt 56) 0 = .ok (.aload_n 0, 1) := by decide +kernel
theorem D56_1 : decode (byt 56) 1 = .ok (.iconst 0, 1) := by decide +kernel
theorem D56_2 : decode (byt 56) 2 = .ok (.putfield 31, 3) := by decide +kernel
theorem D56_5 : decode (byt 56) 5 = .ok (.aload_n 0, 1) := by decide +kernel
theorem D56_6 : decode (byt 56) 6 = .ok (.iconst 0, 1) := by decide +kernel
theorem D56_7 : decode (byt 56) 7 = .ok (.putfield 35, 3) := by decide +kernel
theorem D56_10 : decode (byt 56) 10 = .ok (.iconst 0, 1) := by decide +kernel
theorem D56_11 : decode (byt 56) 11 = .ok (.istore_n 1, 1) := by decide +kernel
theorem D56_12 : decode (byt 56) 12 = .ok (.iload_n 1, 1) := by decide +kernel
theorem D56_13 : decode (byt 56) 13 = .ok (.aload_n 0, 1) := by decide +kernel
theorem D56_14 : decode (byt 56) 14 = .ok (.getfield 28, 3) := by decide +kernel
theorem D56_17 : decode (byt 56) 17 = .ok (.arraylength, 1) := by decide +kernel
theorem D56_18 : decode (byt 56) 18 = .ok (.if_icmp .ge 16, 3) := by decide +kernel
theorem D56_21 : decode (byt 56) 21 = .ok (.aload_n 0, 1) := by decide +kernel
theorem D56_22 : decode (byt 56) 22 = .ok (.getfield 28, 3) := by decide +kernel
theorem D56_25 : decode (byt 56) 25 = .ok (.iload_n 1, 1) := by decide +kernel
theorem D56_26 : decode (byt 56) 26 = .ok (.iconst (-1), 1) := by decide +kernel
theorem D56_27 : decode (byt 56) 27 = .ok (.iastore, 1) := by decide +kernel
theorem D56_28 : decode (byt 56) 28 = .ok (.iinc 1 1, 3) := by decide +kernel
theorem D56_31 : decode (byt 56) 31 = .ok (.goto (-19), 3) := by decide +kernel
theorem D56_34 : decode (byt 56) 34 = .ok (.return_, 1) := by decide +kernel
theorem D57_0 : decode (byt 57) 0 = .ok (.aload_n 0, 1) := by decide +kernel
theorem D57_1 : decode (byt 57) 1 = .ok (.getfield 28, 3) := by decide +kernel
theorem D57_4 : decode (byt 57) 4 = .ok (.aload_n 1, 1) := by decide +kernel
theorem D57_5 : decode (byt 57) 5 = .ok (.iload_n 2, 1) := by decide +kernel
theorem D57_6 : decode (byt 57) 6 = .ok (.invokestatic 38, 3) := by decide +kernel
theorem D57_9 : decode (byt 57) 9 = .ok (.iaload, 1) := by decide +kernel
theorem D57_10 : decode (byt 57) 10 = .ok (.istore_n 3, 1) := by decide +kernel
theorem D57_11 : decode (byt 57) 11 = .ok (.iconst 0, 1) := by decide +kernel
theorem D57_12 : decode (byt 57) 12 = .ok (.istore 4, 2) := by decide +kernel
theorem D57_14 : decode (byt 57) 14 = .ok (.iload 4, 2) := by decide +kernel
theorem D57_16 : decode (byt 57) 16 = .ok (.aload_n 0, 1) := by decide +kernel
theorem D57_17 : decode (byt 57) 17 = .ok (.getfield 31, 3) := by decide +kernel
theorem D57_20 : decode (byt 57) 20 = .ok (.if_icmp .ge 45, 3) := by decide +kernel
theorem D57_23 : decode (byt 57) 23 = .ok (.iload_n 3, 1) := by decide +kernel
theorem D57_24 : decode (byt 57) 24 = .ok (.ifCond .lt 41, 3) := by decide +kernel
theorem D57_27 : decode (byt 57) 27 = .ok (.iload_n 3, 1) := by decide +kernel
theorem D57_28 : decode (byt 57) 28 = .ok (.aload_n 0, 1) := by decide +kernel
theorem D57_29 : decode (byt 57) 29 = .ok (.getfield 31, 3) := by decide +kernel
theorem D57_32 : decode (byt 57) 32 = .ok (.if_icmp .ge 33, 3) := by decide +kernel
theorem D57_35 : decode (byt 57) 35 = .ok (.aload_n 0, 1) := by decide +kernel
theorem D57_36 : decode (byt 57) 36 = .ok (.iload_n 3, 1) := by decide +kernel
theorem D57_37 : decode (byt 57) 37 = .ok (.aload_n 1, 1) := by decide +kernel
theorem D57_38 : decode (byt 57) 38 = .ok (.iload_n 2, 1) := by decide +kernel
theorem D57_39 : decode (byt 57) 39 = .ok (.invokevirtual 42, 3) := by decide +kernel
theorem D57_42 : decode (byt 57) 42 = .ok (.ifCond .eq 10, 3) := by decide +kernel
theorem D57_45 : decode (byt 57) 45 = .ok (.aload_n 0, 1) := by decide +kernel
theorem D57_46 : decode (byt 57) 46 = .ok (.getfield 22, 3) := by decide +kernel
theorem D57_49 : decode (byt 57) 49 = .ok (.iload_n 3, 1) := by decide +kernel
theorem D57_50 : decode (byt 57) 50 = .ok (.iaload, 1) := by decide +kernel
theorem D57_51 : decode (byt 57) 51 = .ok (.ireturn, 1) := by decide +kernel
theorem D57_52 : decode (byt 57) 52 = .ok (.aload_n 0, 1) := by decide +kernel
theorem D57_53 : decode (byt 57) 53 = .ok (.getfield 25, 3) := by decide +kernel
theorem D57_56 : decode (byt 57) 56 = .ok (.iload_n 3, 1) := by decide +kernel
theorem D57_57 : decode (byt 57) 57 = .ok (.iaload, 1) := by decide +kernel
theorem D57_58 : decode (byt 57) 58 = .ok (.istore_n 3, 1) := by decide +kernel
theorem D57_59 : decode (byt 57) 59 = .ok (.iinc 4 1, 3) := by decide +kernel
theorem D57_62 : decode (byt 57) 62 = .ok (.goto (-48), 3) := by decide +kernel
theorem D57_65 : decode (byt 57) 65 = .ok (.iconst (-1), 1) := by decide +kernel
theorem D57_66 : decode (byt 57) 66 = .ok (.ireturn, 1) := by decide +kernel
theorem D58_0 : decode (byt 58) 0 = .ok (.aload_n 0, 1) := by decide +kernel
theorem D58_1 : decode (byt 58) 1 = .ok (.getfield 31, 3) := by decide +kernel
theorem D58_4 : decode (byt 58) 4 = .ok (.sipush 2047, 3) := by decide +kernel
theorem D58_7 : decode (byt 58) 7 = .ok (.if_icmp .ge 20, 3) := by decide +kernel
theorem D58_10 : decode (byt 58) 10 = .ok (.iload_n 2, 1) := by decide +kernel
theorem D58_11 : decode (byt 58) 11 = .ok (.aload_n 1, 1) := by decide +kernel
theorem D58_12 : decode (byt 58) 12 = .ok (.arraylength, 1) := by decide +kernel
theorem D58_13 : decode (byt 58) 13 = .ok (.if_icmp .gt 14, 3) := by decide +kernel
theorem D58_16 : decode (byt 58) 16 = .ok (.iload_n 2, 1) := by decide +kernel
theorem D58_17 : decode (byt 58) 17 = .ok (.ldc 9, 2) := by decide +kernel
theorem D58_19 : decode (byt 58) 19 = .ok (.aload_n 0, 1) := by decide +kernel
theorem D58_20 : decode (byt 58) 20 = .ok (.getfield 35, 3) := by decide +kernel
theorem D58_23 : decode (byt 58) 23 = .ok (.isub, 1) := by decide +kernel
theorem D58_24 : decode (byt 58) 24 = .ok (.if_icmp .le 5, 3) := by decide +kernel
theorem D58_27 : decode (byt 58) 27 = .ok (.iconst 0, 1) := by decide +kernel
theorem D58_28 : decode (byt 58) 28 = .ok (.ireturn, 1) := by decide +kernel
theorem D58_29 : decode (byt 58) 29 = .ok (.aload_n 1, 1) := by decide +kernel
theorem D58_30 : decode (byt 58) 30 = .ok (.iload_n 2, 1) := by decide +kernel
theorem D58_31 : decode (byt 58) 31 = .ok (.invokestatic 38, 3) := by decide +kernel
theorem D58_34 : decode (byt 58) 34 = .ok (.istore 4, 2) := by decide +kernel
theorem D58_36 : decode (byt 58) 36 = .ok (.aload_n 0, 1) := by decide +kernel
theorem D58_37 : decode (byt 58) 37 = .ok (.getfield 16, 3) := by decide +kernel
theorem D58_40 : decode (byt 58) 40 = .ok (.aload_n 0, 1) := by decide +kernel
theorem D58_41 : decode (byt 58) 41 = .ok (.getfield 31, 3) := by decide +kernel
theorem D58_44 : decode (byt 58) 44 = .ok (.aload_n 0, 1) := by decide +kernel
theorem D58_45 : decode (byt 58) 45 = .ok (.getfield 35, 3) := by decide +kernel
theorem D58_48 : decode (byt 58) 48 = .ok (.iastore, 1) := by decide +kernel
theorem D58_49 : decode (byt 58) 49 = .ok (.aload_n 0, 1) := by decide +kernel
theorem D58_50 : decode (byt 58) 50 = .ok (.getfield 19, 3) := by decide +kernel
theorem D58_53 : decode (byt 58) 53 = .ok (.aload_n 0, 1) := by decide +kernel
theorem D58_54 : decode (byt 58) 54 = .ok (.getfield 31, 3) := by decide +kernel
theorem D58_57 : decode (byt 58) 57 = .ok (.iload_n 2, 1) := by decide +kernel
theorem D58_58 : decode (byt 58) 58 = .ok (.iastore, 1) := by decide +kernel
theorem D58_59 : decode (byt 58) 59 = .ok (.aload_n 0, 1) := by decide +kernel
theorem D58_60 : decode (byt 58) 60 = .ok (.getfield 22, 3) := by decide +kernel
theorem D58_63 : decode (byt 58) 63 = .ok (.aload_n 0, 1) := by decide +kernel
theorem D58_64 : decode (byt 58) 64 = .ok (.getfield 31, 3) := by decide +kernel
theorem D58_67 : decode (byt 58) 67 = .ok (.iload_n 3, 1) := by decide +kernel
theorem D58_68 : decode (byt 58) 68 = .ok (.iastore, 1) := by decide +kernel
theorem D58_69 : decode (byt 58) 69 = .ok (.aload_n 0, 1) := by decide +kernel
theorem D58_70 : decode (byt 58) 70 = .ok (.getfield 25, 3) := by decide +kernel
theorem D58_73 : decode (byt 58) 73 = .ok (.aload_n 0, 1) := by decide +kernel
theorem D58_74 : decode (byt 58) 74 = .ok (.getfield 31, 3) := by decide +kernel
theorem D58_77 : decode (byt 58) 77 = .ok (.aload_n 0, 1) := by decide +kernel
theorem D58_78 : decode (byt 58) 78 = .ok (.getfield 28, 3) := by decide +kernel
theorem D58_81 : decode (byt 58) 81 = .ok (.iload 4, 2) := by decide +kernel
theorem D58_83 : decode (byt 58) 83 = .ok (.iaload, 1) := by decide +kernel
theorem D58_84 : decode (byt 58) 84 = .ok (.iastore, 1) := by decide +kernel
theorem D58_85 : decode (byt 58) 85 = .ok (.aload_n 0, 1) := by decide +kernel
theorem D58_86 : decode (byt 58) 86 = .ok (.getfield 28, 3) := by decide +kernel
theorem D58_89 : decode (byt 58) 89 = .ok (.iload 4, 2) := by decide +kernel
theorem D58_91 : decode (byt 58) 91 = .ok (.aload_n 0, 1) := by decide +kernel
theorem D58_92 : decode (byt 58) 92 = .ok (.getfield 31, 3) := by decide +kernel
theorem D58_95 : decode (byt 58) 95 = .ok (.iastore, 1) := by decide +kernel
theorem D58_96 : decode (byt 58) 96 = .ok (.aload_n 0, 1) := by decide +kernel
theorem D58_97 : decode (byt 58) 97 = .ok (.dup, 1) := by decide +kernel
theorem D58_98 : decode (byt 58) 98 = .ok (.getfield 31, 3) := by decide +kernel
theorem D58_101 : decode (byt 58) 101 = .ok (.iconst 1, 1) := by decide +kernel
theorem D58_102 : decode (byt 58) 102 = .ok (.iadd, 1) := by decide +kernel
theorem D58_103 : decode (byt 58) 103 = .ok (.putfield 31, 3) := by decide +kernel
theorem D58_106 : decode (byt 58) 106 = .ok (.iconst 0, 1) := by decide +kernel
theorem D58_107 : decode (byt 58) 107 = .ok (.istore 5, 2) := by decide +kernel
theorem D58_109 : decode (byt 58) 109 = .ok (.iload 5, 2) := by decide +kernel
theorem D58_111 : decode (byt 58) 111 = .ok (.iload_n 2, 1) := by decide +kernel
theorem D58_112 : decode (byt 58) 112 = .ok (.if_icmp .ge 32, 3) := by decide +kernel
theorem D58_115 : decode (byt 58) 115 = .ok (.aload_n 0, 1) := by decide +kernel
theorem D58_116 : decode (byt 58) 116 = .ok (.getfield 10, 3) := by decide +kernel
theorem D58_119 : decode (byt 58) 119 = .ok (.aload_n 0, 1) := by decide +kernel
theorem D58_120 : decode (byt 58) 120 = .ok (.getfield 35, 3) := by decide +kernel
theorem D58_123 : decode (byt 58) 123 = .ok (.aload_n 1, 1) := by decide +kernel
theorem D58_124 : decode (byt 58) 124 = .ok (.iload 5, 2) := by decide +kernel
theorem D58_126 : decode (byt 58) 126 = .ok (.iaload, 1) := by decide +kernel
theorem D58_127 : decode (byt 58) 127 = .ok (.iastore, 1) := by decide +kernel
theorem D58_128 : decode (byt 58) 128 = .ok (.aload_n 0, 1) := by decide +kernel
theorem D58_129 : decode (byt 58) 129 = .ok (.dup, 1) := by decide +kernel
theorem D58_130 : decode (byt 58) 130 = .ok (.getfield 35, 3) := by decide +kernel
theorem D58_133 : decode (byt 58) 133 = .ok (.iconst 1, 1) := by decide +kernel
theorem D58_134 : decode (byt 58) 134 = .ok (.iadd, 1) := by decide +kernel
theorem D58_135 : decode (byt 58) 135 = .ok (.putfield 35, 3) := by decide +kernel
theorem D58_138 : decode (byt 58) 138 = .ok (.iinc 5 1, 3) := by decide +kernel
theorem D58_141 : decode (byt 58) 141 = .ok (.goto (-32), 3) := by decide +kernel
theorem D58_144 : decode (byt 58) 144 = .ok (.iconst 1, 1) := by decide +kernel
theorem D58_145 : decode (byt 58) 145 = .ok (.ireturn, 1) := by decide +kernel
theorem D59_0 : decode (byt 59) 0 = .ok (.aload_n 0, 1) := by decide +kernel
theorem D59_1 : decode (byt 59) 1 = .ok (.getfield 19, 3) := by decide +kernel
theorem D59_4 : decode (byt 59) 4 = .ok (.iload_n 1, 1) := by decide +kernel
theorem D59_5 : decode (byt 59) 5 = .ok (.iaload, 1) := by decide +kernel
theorem D59_6 : decode (byt 59) 6 = .ok (.iload_n 3, 1) := by decide +kernel
theorem D59_7 : decode (byt 59) 7 = .ok (.if_icmp .ne 9, 3) := by decide +kernel
theorem D59_10 : decode (byt 59) 10 = .ok (.iload_n 3, 1) := by decide +kernel
theorem D59_11 : decode (byt 59) 11 = .ok (.aload_n 2, 1) := by decide +kernel
theorem D59_12 : decode (byt 59) 12 = .ok (.arraylength, 1) := by decide +kernel
theorem D59_13 : decode (byt 59) 13 = .ok (.if_icmp .le 5, 3) := by decide +kernel
theorem D59_16 : decode (byt 59) 16 = .ok (.iconst 0, 1) := by decide +kernel
theorem D59_17 : decode (byt 59) 17 = .ok (.ireturn, 1) := by decide +kernel
theorem D59_18 : decode (byt 59) 18 = .ok (.iconst 0, 1) := by decide +kernel
theorem D59_19 : decode (byt 59) 19 = .ok (.istore 4, 2) := by decide +kernel
theorem D59_21 : decode (byt 59) 21 = .ok (.iload 4, 2) := by decide +kernel
theorem D59_23 : decode (byt 59) 23 = .ok (.iload_n 3, 1) := by decide +kernel
theorem D59_24 : decode (byt 59) 24 = .ok (.if_icmp .ge 32, 3) := by decide +kernel
theorem D59_27 : decode (byt 59) 27 = .ok (.aload_n 0, 1) := by decide +kernel
theorem D59_28 : decode (byt 59) 28 = .ok (.getfield 10, 3) := by decide +kernel
theorem D59_31 : decode (byt 59) 31 = .ok (.aload_n 0, 1) := by decide +kernel
theorem D59_32 : decode (byt 59) 32 = .ok (.getfield 16, 3) := by decide +kernel
theorem D59_35 : decode (byt 59) 35 = .ok (.iload_n 1, 1) := by decide +kernel
theorem D59_36 : decode (byt 59) 36 = .ok (.iaload, 1) := by decide +kernel
theorem D59_37 : decode (byt 59) 37 = .ok (.iload 4, 2) := by decide +kernel
theorem D59_39 : decode (byt 59) 39 = .ok (.iadd, 1) := by decide +kernel
theorem D59_40 : decode (byt 59) 40 = .ok (.iaload, 1) := by decide +kernel
theorem D59_41 : decode (byt 59) 41 = .ok (.aload_n 2, 1) := by decide +kernel
theorem D59_42 : decode (byt 59) 42 = .ok (.iload 4, 2) := by decide +kernel
theorem D59_44 : decode (byt 59) 44 = .ok (.iaload, 1) := by decide +kernel
theorem D59_45 : decode (byt 59) 45 = .ok (.if_icmp .eq 5, 3) := by decide +kernel
theorem D59_48 : decode (byt 59) 48 = .ok (.iconst 0, 1) := by decide +kernel
theorem D59_49 : decode (byt 59) 49 = .ok (.ireturn, 1) := by decide +kernel
theorem D59_50 : decode (byt 59) 50 = .ok (.iinc 4 1, 3) := by decide +kernel
theorem D59_53 : decode (byt 59) 53 = .ok (.goto (-32), 3) := by decide +kernel
theorem D59_56 : decode (byt 59) 56 = .ok (.iconst 1, 1) := by decide +kernel
theorem D59_57 : decode (byt 59) 57 = .ok (.ireturn, 1) := by decide +kernel
theorem D60_0 : decode (byt 60) 0 = .ok (.iload_n 1, 1) := by decide +kernel
theorem D60_1 : decode (byt 60) 1 = .ok (.istore_n 2, 1) := by decide +kernel
theorem D60_2 : decode (byt 60) 2 = .ok (.iconst 0, 1) := by decide +kernel
theorem D60_3 : decode (byt 60) 3 = .ok (.istore_n 3, 1) := by decide +kernel
theorem D60_4 : decode (byt 60) 4 = .ok (.iload_n 3, 1) := by decide +kernel
theorem D60_5 : decode (byt 60) 5 = .ok (.iload_n 1, 1) := by decide +kernel
theorem D60_6 : decode (byt 60) 6 = .ok (.if_icmp .ge 24, 3) := by decide +kernel
theorem D60_9 : decode (byt 60) 9 = .ok (.iload_n 3, 1) := by decide +kernel
theorem D60_10 : decode (byt 60) 10 = .ok (.aload_n 0, 1) := by decide +kernel
theorem D60_11 : decode (byt 60) 11 = .ok (.arraylength, 1) := by decide +kernel
theorem D60_12 : decode (byt 60) 12 = .ok (.if_icmp .ge 18, 3) := by decide +kernel
theorem D60_15 : decode (byt 60) 15 = .ok (.iload_n 2, 1) := by decide +kernel
theorem D60_16 : decode (byt 60) 16 = .ok (.bipush 31, 2) := by decide +kernel
theorem D60_18 : decode (byt 60) 18 = .ok (.imul, 1) := by decide +kernel
theorem D60_19 : decode (byt 60) 19 = .ok (.aload_n 0, 1) := by decide +kernel
theorem D60_20 : decode (byt 60) 20 = .ok (.iload_n 3, 1) := by decide +kernel
theorem D60_21 : decode (byt 60) 21 = .ok (.iaload, 1) := by decide +kernel
theorem D60_22 : decode (byt 60) 22 = .ok (.iadd, 1) := by decide +kernel
theorem D60_23 : decode (byt 60) 23 = .ok (.istore_n 2, 1) := by decide +kernel
theorem D60_24 : decode (byt 60) 24 = .ok (.iinc 3 1, 3) := by decide +kernel
theorem D60_27 : decode (byt 60) 27 = .ok (.goto (-23), 3) := by decide +kernel
theorem D60_30 : decode (byt 60) 30 = .ok (.iload_n 2, 1) := by decide +kernel
theorem D60_31 : decode (byt 60) 31 = .ok (.iload_n 2, 1) := by decide +kernel
theorem D60_32 : decode (byt 60) 32 = .ok (.bipush 16, 2) := by decide +kernel
theorem D60_34 : decode (byt 60) 34 = .ok (.iushr, 1) := by decide +kernel
theorem D60_35 : decode (byt 60) 35 = .ok (.ixor, 1) := by decide +kernel
theorem D60_36 : decode (byt 60) 36 = .ok (.istore_n 2, 1) := by decide +kernel
theorem D60_37 : decode (byt 60) 37 = .ok (.iload_n 2, 1) := by decide +kernel
theorem D60_38 : decode (byt 60) 38 = .ok (.iload_n 2, 1) := by decide +kernel
theorem D60_39 : decode (byt 60) 39 = .ok (.bipush 8, 2) := by decide +kernel
theorem D60_41 : decode (byt 60) 41 = .ok (.iushr, 1) := by decide +kernel
theorem D60_42 : decode (byt 60) 42 = .ok (.ixor, 1) := by decide +kernel
theorem D60_43 : decode (byt 60) 43 = .ok (.istore_n 2, 1) := by decide +kernel
theorem D60_44 : decode (byt 60) 44 = .ok (.iload_n 2, 1) := by decide +kernel
theorem D60_45 : decode (byt 60) 45 = .ok (.sipush 255, 3) := by decide +kernel
theorem D60_48 : decode (byt 60) 48 = .ok (.iand, 1) := by decide +kernel
theorem D60_49 : decode (byt 60) 49 = .ok (.ireturn, 1) := by decide +kernel
theorem D61_0 : decode (byt 61) 0 = .ok (.aload_n 0, 1) := by decide +kernel
theorem D61_1 : decode (byt 61) 1 = .ok (.invokespecial 3, 3) := by decide +kernel
theorem D61_4 : decode (byt 61) 4 = .ok (.aload_n 0, 1) := by decide +kernel
theorem D61_5 : decode (byt 61) 5 = .ok (.bipush 64, 2) := by decide +kernel
theorem D61_7 : decode (byt 61) 7 = .ok (.newarray .long, 2) := by decide +kernel
theorem D61_9 : decode (byt 61) 9 = .ok (.putfield 9, 3) := by decide +kernel
theorem D61_12 : decode (byt 61) 12 = .ok (.aload_n 0, 1) := by decide +kernel
theorem D61_13 : decode (byt 61) 13 = .ok (.iconst 0, 1) := by decide +kernel
theorem D61_14 : decode (byt 61) 14 = .ok (.putfield 15, 3) := by decide +kernel
theorem D61_17 : decode (byt 61) 17 = .ok (.aload_n 0, 1) := by decide +kernel
theorem D61_18 : decode (byt 61) 18 = .ok (.iconst 1, 1) := by decide +kernel
theorem D61_19 : decode (byt 61) 19 = .ok (.putfield 19, 3) := by decide +kernel
theorem D61_22 : decode (byt 61) 22 = .ok (.aload_n 0, 1) := by decide +kernel
theorem D61_23 : decode (byt 61) 23 = .ok (.iconst 1, 1) := by decide +kernel
theorem D61_24 : decode (byt 61) 24 = .ok (.putfield 22, 3) := by decide +kernel
theorem D61_27 : decode (byt 61) 27 = .ok (.return_, 1) := by decide +kernel
theorem D62_0 : decode (byt 62) 0 = .ok (.aload_n 0, 1) := by decide +kernel
theorem D62_1 : decode (byt 62) 1 = .ok (.iload_n 1, 1) := by decide +kernel
theorem D62_2 : decode (byt 62) 2 = .ok (.putfield 15, 3) := by decide +kernel
theorem D62_5 : decode (byt 62) 5 = .ok (.aload_n 0, 1) := by decide +kernel
theorem D62_6 : decode (byt 62) 6 = .ok (.iconst 1, 1) := by decide +kernel
theorem D62_7 : decode (byt 62) 7 = .ok (.iload_n 1, 1) := by decide +kernel
theorem D62_8 : decode (byt 62) 8 = .ok (.ishl, 1) := by decide +kernel
theorem D62_9 : decode (byt 62) 9 = .ok (.putfield 19, 3) := by decide +kernel
theorem D62_12 : decode (byt 62) 12 = .ok (.aload_n 0, 1) := by decide +kernel
theorem D62_13 : decode (byt 62) 13 = .ok (.bipush 64, 2) := by decide +kernel
theorem D62_15 : decode (byt 62) 15 = .ok (.iconst 1, 1) := by decide +kernel
theorem D62_16 : decode (byt 62) 16 = .ok (.aload_n 0, 1) := by decide +kernel
theorem D62_17 : decode (byt 62) 17 = .ok (.getfield 19, 3) := by decide +kernel
theorem D62_20 : decode (byt 62) 20 = .ok (.bipush 64, 2) := by decide +kernel
theorem D62_22 : decode (byt 62) 22 = .ok (.idiv, 1) := by decide +kernel
theorem D62_23 : decode (byt 62) 23 = .ok (.invokestatic 25, 3) := by decide +kernel
theorem D62_26 : decode (byt 62) 26 = .ok (.invokestatic 31, 3) := by decide +kernel
theorem D62_29 : decode (byt 62) 29 = .ok (.putfield 22, 3) := by decide +kernel
theorem D62_32 : decode (byt 62) 32 = .ok (.iconst 0, 1) := by decide +kernel
theorem D62_33 : decode (byt 62) 33 = .ok (.istore_n 2, 1) := by decide +kernel
theorem D62_34 : decode (byt 62) 34 = .ok (.iload_n 2, 1) := by decide +kernel
theorem D62_35 : decode (byt 62) 35 = .ok (.aload_n 0, 1) := by decide +kernel
theorem D62_36 : decode (byt 62) 36 = .ok (.getfield 22, 3) := by decide +kernel
theorem D62_39 : decode (byt 62) 39 = .ok (.if_icmp .ge 16, 3) := by decide +kernel
theorem D62_42 : decode (byt 62) 42 = .ok (.aload_n 0, 1) := by decide +kernel
theorem D62_43 : decode (byt 62) 43 = .ok (.getfield 9, 3) := by decide +kernel
theorem D62_46 : decode (byt 62) 46 = .ok (.iload_n 2, 1) := by decide +kernel
theorem D62_47 : decode (byt 62) 47 = .ok (.lconst 0, 1) := by decide +kernel
theorem D62_48 : decode (byt 62) 48 = .ok (.lastore, 1) := by decide +kernel
theorem D62_49 : decode (byt 62) 49 = .ok (.iinc 2 1, 3) := by decide +kernel
theorem D62_52 : decode (byt 62) 52 = .ok (.goto (-18), 3) := by decide +kernel
theorem D62_55 : decode (byt 62) 55 = .ok (.return_, 1) := by decide +kernel
theorem D63_0 : decode (byt 63) 0 = .ok (.aload_n 0, 1) := by decide +kernel
theorem D63_1 : decode (byt 63) 1 = .ok (.aload_n 1, 1) := by decide +kernel
theorem D63_2 : decode (byt 63) 2 = .ok (.getfield 15, 3) := by decide +kernel
theorem D63_5 : decode (byt 63) 5 = .ok (.invokevirtual 34, 3) := by decide +kernel
theorem D63_8 : decode (byt 63) 8 = .ok (.iconst 0, 1) := by decide +kernel
theorem D63_9 : decode (byt 63) 9 = .ok (.istore_n 2, 1) := by decide +kernel
theorem D63_10 : decode (byt 63) 10 = .ok (.iload_n 2, 1) := by decide +kernel
theorem D63_11 : decode (byt 63) 11 = .ok (.aload_n 0, 1) := by decide +kernel
theorem D63_12 : decode (byt 63) 12 = .ok (.getfield 22, 3) := by decide +kernel
theorem D63_15 : decode (byt 63) 15 = .ok (.if_icmp .ge 21, 3) := by decide +kernel
theorem D63_18 : decode (byt 63) 18 = .ok (.aload_n 0, 1) := by decide +kernel
theorem D63_19 : decode (byt 63) 19 = .ok (.getfield 9, 3) := by decide +kernel
theorem D63_22 : decode (byt 63) 22 = .ok (.iload_n 2, 1) := by decide +kernel
theorem D63_23 : decode (byt 63) 23 = .ok (.aload_n 1, 1) := by decide +kernel
theorem D63_24 : decode (byt 63) 24 = .ok (.getfield 9, 3) := by decide +kernel
theorem D63_27 : decode (byt 63) 27 = .ok (.iload_n 2, 1) := by decide +kernel
theorem D63_28 : decode (byt 63) 28 = .ok (.laload, 1) := by decide +kernel
theorem D63_29 : decode (byt 63) 29 = .ok (.lastore, 1) := by decide +kernel
theorem D63_30 : decode (byt 63) 30 = .ok (.iinc 2 1, 3) := by decide +kernel
theorem D63_33 : decode (byt 63) 33 = .ok (.goto (-23), 3) := by decide +kernel
theorem D63_36 : decode (byt 63) 36 = .ok (.return_, 1) := by decide +kernel
theorem D64_0 : decode (byt 64) 0 = .ok (.iload_n 1, 1) := by decide +kernel
theorem D64_1 : decode (byt 64) 1 = .ok (.ifCond .lt 40, 3) := by decide +kernel
theorem D64_4 : decode (byt 64) 4 = .ok (.iload_n 1, 1) := by decide +kernel
theorem D64_5 : decode (byt 64) 5 = .ok (.aload_n 0, 1) := by decide +kernel
theorem D64_6 : decode (byt 64) 6 = .ok (.getfield 22, 3) := by decide +kernel
theorem D64_9 : decode (byt 64) 9 = .ok (.if_icmp .ge 32, 3) := by decide +kernel
theorem D64_12 : decode (byt 64) 12 = .ok (.aload_n 0, 1) := by decide +kernel
theorem D64_13 : decode (byt 64) 13 = .ok (.getfield 9, 3) := by decide +kernel
theorem D64_16 : decode (byt 64) 16 = .ok (.iload_n 1, 1) := by decide +kernel
theorem D64_17 : decode (byt 64) 17 = .ok (.aload_n 0, 1) := by decide +kernel
theorem D64_18 : decode (byt 64) 18 = .ok (.getfield 19, 3) := by decide +kernel
theorem D64_21 : decode (byt 64) 21 = .ok (.bipush 64, 2) := by decide +kernel
theorem D64_23 : decode (byt 64) 23 = .ok (.if_icmp .ge 16, 3) := by decide +kernel
theorem D64_26 : decode (byt 64) 26 = .ok (.lload_n 2, 1) := by decide +kernel
theorem D64_27 : decode (byt 64) 27 = .ok (.lconst 1, 1) := by decide +kernel
theorem D64_28 : decode (byt 64) 28 = .ok (.aload_n 0, 1) := by decide +kernel
theorem D64_29 : decode (byt 64) 29 = .ok (.getfield 19, 3) := by decide +kernel
theorem D64_32 : decode (byt 64) 32 = .ok (.lshl, 1) := by decide +kernel
theorem D64_33 : decode (byt 64) 33 = .ok (.lconst 1, 1) := by decide +kernel
theorem D64_34 : decode (byt 64) 34 = .ok (.lsub, 1) := by decide +kernel
theorem D64_35 : decode (byt 64) 35 = .ok (.land, 1) := by decide +kernel
theorem D64_36 : decode (byt 64) 36 = .ok (.goto 4, 3) := by decide +kernel
theorem D64_39 : decode (byt 64) 39 = .ok (.lload_n 2, 1) := by decide +kernel
theorem D64_40 : decode (byt 64) 40 = .ok (.lastore, 1) := by decide +kernel
theorem D64_41 : decode (byt 64) 41 = .ok (.return_, 1) := by decide +kernel
theorem D65_0 : decode (byt 65) 0 = .ok (.iload_n 1, 1) := by decide +kernel
theorem D65_1 : decode (byt 65) 1 = .ok (.ifCond .lt 29, 3) := by decide +kernel
theorem D65_4 : decode (byt 65) 4 = .ok (.iload_n 1, 1) := by decide +kernel
theorem D65_5 : decode (byt 65) 5 = .ok (.aload_n 0, 1) := by decide +kernel
theorem D65_6 : decode (byt 65) 6 = .ok (.getfield 19, 3) := by decide +kernel
theorem D65_9 : decode (byt 65) 9 = .ok (.if_icmp .ge 21, 3) := by decide +kernel
theorem D65_12 : decode (byt 65) 12 = .ok (.aload_n 0, 1) := by decide +kernel
theorem D65_13 : decode (byt 65) 13 = .ok (.getfield 9, 3) := by decide +kernel
theorem D65_16 : decode (byt 65) 16 = .ok (.iload_n 1, 1) := by decide +kernel
theorem D65_17 : decode (byt 65) 17 = .ok (.bipush 6, 2) := by decide +kernel
theorem D65_19 : decode (byt 65) 19 = .ok (.ishr, 1) := by decide +kernel
theorem D65_20 : decode (byt 65) 20 = .ok (.dup2, 1) := by decide +kernel
theorem D65_21 : decode (byt 65) 21 = .ok (.laload, 1) := by decide +kernel
theorem D65_22 : decode (byt 65) 22 = .ok (.lconst 1, 1) := by decide +kernel
theorem D65_23 : decode (byt 65) 23 = .ok (.iload_n 1, 1) := by decide +kernel
theorem D65_24 : decode (byt 65) 24 = .ok (.bipush 63, 2) := by decide +kernel
theorem D65_26 : decode (byt 65) 26 = .ok (.iand, 1) := by decide +kernel
theorem D65_27 : decode (byt 65) 27 = .ok (.lshl, 1) := by decide +kernel
theorem D65_28 : decode (byt 65) 28 = .ok (.lor, 1) := by decide +kernel
theorem D65_29 : decode (byt 65) 29 = .ok (.lastore, 1) := by decide +kernel
theorem D65_30 : decode (byt 65) 30 = .ok (.return_, 1) := by decide +kernel
theorem D66_0 : decode (byt 66) 0 = .ok (.iload_n 1, 1) := by decide +kernel
theorem D66_1 : decode (byt 66) 1 = .ok (.ifCond .lt 36, 3) := by decide +kernel
theorem D66_4 : decode (byt 66) 4 = .ok (.iload_n 1, 1) := by decide +kernel
theorem D66_5 : decode (byt 66) 5 = .ok (.aload_n 0, 1) := by decide +kernel
theorem D66_6 : decode (byt 66) 6 = .ok (.getfield 19, 3) := by decide +kernel
theorem D66_9 : decode (byt 66) 9 = .ok (.if_icmp .ge 28, 3) := by decide +kernel
theorem D66_12 : decode (byt 66) 12 = .ok (.aload_n 0, 1) := by decide +kernel
theorem D66_13 : decode (byt 66) 13 = .ok (.getfield 9, 3) := by decide +kernel
theorem D66_16 : decode (byt 66) 16 = .ok (.iload_n 1, 1) := by decide +kernel
theorem D66_17 : decode (byt 66) 17 = .ok (.bipush 6, 2) := by decide +kernel
theorem D66_19 : decode (byt 66) 19 = .ok (.ishr, 1) := by decide +kernel
theorem D66_20 : decode (byt 66) 20 = .ok (.laload, 1) := by decide +kernel
theorem D66_21 : decode (byt 66) 21 = .ok (.iload_n 1, 1) := by decide +kernel
theorem D66_22 : decode (byt 66) 22 = .ok (.bipush 63, 2) := by decide +kernel
theorem D66_24 : decode (byt 66) 24 = .ok (.iand, 1) := by decide +kernel
theorem D66_25 : decode (byt 66) 25 = .ok (.lshr, 1) := by decide +kernel
theorem D66_26 : decode (byt 66) 26 = .ok (.lconst 1, 1) := by decide +kernel
theorem D66_27 : decode (byt 66) 27 = .ok (.land, 1) := by decide +kernel
theorem D66_28 : decode (byt 66) 28 = .ok (.lconst 0, 1) := by decide +kernel
theorem D66_29 : decode (byt 66) 29 = .ok (.lcmp, 1) := by decide +kernel
theorem D66_30 : decode (byt 66) 30 = .ok (.ifCond .eq 7, 3) := by decide +kernel
theorem D66_33 : decode (byt 66) 33 = .ok (.iconst 1, 1) := by decide +kernel
theorem D66_34 : decode (byt 66) 34 = .ok (.goto 4, 3) := by decide +kernel
theorem D66_37 : decode (byt 66) 37 = .ok (.iconst 0, 1) := by decide +kernel
theorem D66_38 : decode (byt 66) 38 = .ok (.ireturn, 1) := by decide +kernel
theorem D67_0 : decode (byt 67) 0 = .ok (.iconst 0, 1) := by decide +kernel
theorem D67_1 : decode (byt 67) 1 = .ok (.istore_n 2, 1) := by decide +kernel
theorem D67_2 : decode (byt 67) 2 = .ok (.iload_n 2, 1) := by decide +kernel
theorem D67_3 : decode (byt 67) 3 = .ok (.aload_n 0, 1) := by decide +kernel
theorem D67_4 : decode (byt 67) 4 = .ok (.getfield 22, 3) := by decide +kernel
theorem D67_7 : decode (byt 67) 7 = .ok (.if_icmp .ge 27, 3) := by decide +kernel
theorem D67_10 : decode (byt 67) 10 = .ok (.aload_n 0, 1) := by decide +kernel
theorem D67_11 : decode (byt 67) 11 = .ok (.getfield 9, 3) := by decide +kernel
theorem D67_14 : decode (byt 67) 14 = .ok (.iload_n 2, 1) := by decide +kernel
theorem D67_15 : decode (byt 67) 15 = .ok (.dup2, 1) := by decide +kernel
theorem D67_16 : decode (byt 67) 16 = .ok (.laload, 1) := by decide +kernel
theorem D67_17 : decode (byt 67) 17 = .ok (.iload_n 1, 1) := by decide +kernel
theorem D67_18 : decode (byt 67) 18 = .ok (.aload_n 0, 1) := by decide +kernel
theorem D67_19 : decode (byt 67) 19 = .ok (.getfield 15, 3) := by decide +kernel
theorem D67_22 : decode (byt 67) 22 = .ok (.iload_n 2, 1) := by decide +kernel
theorem D67_23 : decode (byt 67) 23 = .ok (.invokestatic 38, 3) := by decide +kernel
theorem D67_26 : decode (byt 67) 26 = .ok (.land, 1) := by decide +kernel
theorem D67_27 : decode (byt 67) 27 = .ok (.lastore, 1) := by decide +kernel
theorem D67_28 : decode (byt 67) 28 = .ok (.iinc 2 1, 3) := by decide +kernel
theorem D67_31 : decode (byt 67) 31 = .ok (.goto (-29), 3) := by decide +kernel
theorem D67_34 : decode (byt 67) 34 = .ok (.return_, 1) := by decide +kernel
theorem D68_0 : decode (byt 68) 0 = .ok (.aload_n 0, 1) := by decide +kernel
theorem D68_1 : decode (byt 68) 1 = .ok (.aload_n 0, 1) := by decide +kernel
theorem D68_2 : decode (byt 68) 2 = .ok (.getfield 19, 3) := by decide +kernel
theorem D68_5 : decode (byt 68) 5 = .ok (.invokevirtual 42, 3) := by decide +kernel
theorem D68_8 : decode (byt 68) 8 = .ok (.ireturn, 1) := by decide +kernel
theorem D69_0 : decode (byt 69) 0 = .ok (.aload_n 0, 1) := by decide +kernel
theorem D69_1 : decode (byt 69) 1 = .ok (.getfield 22, 3) := by decide +kernel
theorem D69_4 : decode (byt 69) 4 = .ok (.iload_n 1, 1) := by decide +kernel
theorem D69_5 : decode (byt 69) 5 = .ok (.bipush 6, 2) := by decide +kernel
theorem D69_7 : decode (byt 69) 7 = .ok (.ishr, 1) := by decide +kernel
theorem D69_8 : decode (byt 69) 8 = .ok (.invokestatic 31, 3) := by decide +kernel
theorem D69_11 : decode (byt 69) 11 = .ok (.istore_n 2, 1) := by decide +kernel
theorem D69_12 : decode (byt 69) 12 = .ok (.iconst 0, 1) := by decide +kernel
theorem D69_13 : decode (byt 69) 13 = .ok (.istore_n 3, 1) := by decide +kernel
theorem D69_14 : decode (byt 69) 14 = .ok (.iconst 0, 1) := by decide +kernel
theorem D69_15 : decode (byt 69) 15 = .ok (.istore 4, 2) := by decide +kernel
theorem D69_17 : decode (byt 69) 17 = .ok (.iload 4, 2) := by decide +kernel
theorem D69_19 : decode (byt 69) 19 = .ok (.iload_n 2, 1) := by decide +kernel
theorem D69_20 : decode (byt 69) 20 = .ok (.if_icmp .ge 22, 3) := by decide +kernel
theorem D69_23 : decode (byt 69) 23 = .ok (.iload_n 3, 1) := by decide +kernel
theorem D69_24 : decode (byt 69) 24 = .ok (.aload_n 0, 1) := by decide +kernel
theorem D69_25 : decode (byt 69) 25 = .ok (.getfield 9, 3) := by decide +kernel
theorem D69_28 : decode (byt 69) 28 = .ok (.iload 4, 2) := by decide +kernel
theorem D69_30 : decode (byt 69) 30 = .ok (.laload, 1) := by decide +kernel
theorem D69_31 : decode (byt 69) 31 = .ok (.invokestatic 46, 3) := by decide +kernel
theorem D69_34 : decode (byt 69) 34 = .ok (.iadd, 1) := by decide +kernel
theorem D69_35 : decode (byt 69) 35 = .ok (.istore_n 3, 1) := by decide +kernel
theorem D69_36 : decode (byt 69) 36 = .ok (.iinc 4 1, 3) := by decide +kernel
theorem D69_39 : decode (byt 69) 39 = .ok (.goto (-22), 3) := by decide +kernel
theorem D69_42 : decode (byt 69) 42 = .ok (.iload_n 2, 1) := by decide +kernel
theorem D69_43 : decode (byt 69) 43 = .ok (.aload_n 0, 1) := by decide +kernel
theorem D69_44 : decode (byt 69) 44 = .ok (.getfield 22, 3) := by decide +kernel
theorem D69_47 : decode (byt 69) 47 = .ok (.if_icmp .ge 24, 3) := by decide +kernel
theorem D69_50 : decode (byt 69) 50 = .ok (.iload_n 3, 1) := by decide +kernel
theorem D69_51 : decode (byt 69) 51 = .ok (.aload_n 0, 1) := by decide +kernel
theorem D69_52 : decode (byt 69) 52 = .ok (.getfield 9, 3) := by decide +kernel
theorem D69_55 : decode (byt 69) 55 = .ok (.iload_n 2, 1) := by decide +kernel
theorem D69_56 : decode (byt 69) 56 = .ok (.laload, 1) := by decide +kernel
theorem D69_57 : decode (byt 69) 57 = .ok (.lconst 1, 1) := by decide +kernel
theorem D69_58 : decode (byt 69) 58 = .ok (.iload_n 1, 1) := by decide +kernel
theorem D69_59 : decode (byt 69) 59 = .ok (.bipush 63, 2) := by decide +kernel
theorem D69_61 : decode (byt 69) 61 = .ok (.iand, 1) := by decide +kernel
theorem D69_62 : decode (byt 69) 62 = .ok (.lshl, 1) := by decide +kernel
theorem D69_63 : decode (byt 69) 63 = .ok (.lconst 1, 1) := by decide +kernel
theorem D69_64 : decode (byt 69) 64 = .ok (.lsub, 1) := by decide +kernel
theorem D69_65 : decode (byt 69) 65 = .ok (.land, 1) := by decide +kernel
theorem D69_66 : decode (byt 69) 66 = .ok (.invokestatic 46, 3) := by decide +kernel
theorem D69_69 : decode (byt 69) 69 = .ok (.iadd, 1) := by decide +kernel
theorem D69_70 : decode (byt 69) 70 = .ok (.istore_n 3, 1) := by decide +kernel
theorem D69_71 : decode (byt 69) 71 = .ok (.iload_n 3, 1) := by decide +kernel
theorem D69_72 : decode (byt 69) 72 = .ok (.ireturn, 1) := by decide +kernel
theorem D70_0 : decode (byt 70) 0 = .ok (.iconst 0, 1) := by decide +kernel
theorem D70_1 : decode (byt 70) 1 = .ok (.istore_n 2, 1) := by decide +kernel
theorem D70_2 : decode (byt 70) 2 = .ok (.iconst 0, 1) := by decide +kernel
theorem D70_3 : decode (byt 70) 3 = .ok (.istore_n 3, 1) := by decide +kernel
theorem D70_4 : decode (byt 70) 4 = .ok (.iload_n 3, 1) := by decide +kernel
theorem D70_5 : decode (byt 70) 5 = .ok (.aload_n 0, 1) := by decide +kernel
theorem D70_6 : decode (byt 70) 6 = .ok (.getfield 22, 3) := by decide +kernel
theorem D70_9 : decode (byt 70) 9 = .ok (.if_icmp .ge 32, 3) := by decide +kernel
theorem D70_12 : decode (byt 70) 12 = .ok (.iload_n 2, 1) := by decide +kernel
theorem D70_13 : decode (byt 70) 13 = .ok (.aload_n 0, 1) := by decide +kernel
theorem D70_14 : decode (byt 70) 14 = .ok (.getfield 9, 3) := by decide +kernel
theorem D70_17 : decode (byt 70) 17 = .ok (.iload_n 3, 1) := by decide +kernel
theorem D70_18 : decode (byt 70) 18 = .ok (.laload, 1) := by decide +kernel
theorem D70_19 : decode (byt 70) 19 = .ok (.aload_n 1, 1) := by decide +kernel
theorem D70_20 : decode (byt 70) 20 = .ok (.getfield 9, 3) := by decide +kernel
theorem D70_23 : decode (byt 70) 23 = .ok (.iload_n 3, 1) := by decide +kernel
theorem D70_24 : decode (byt 70) 24 = .ok (.laload, 1) := by decide +kernel
theorem D70_25 : decode (byt 70) 25 = .ok (.ldc2_w 52, 3) := by decide +kernel
theorem D70_28 : decode (byt 70) 28 = .ok (.lxor, 1) := by decide +kernel
theorem D70_29 : decode (byt 70) 29 = .ok (.land, 1) := by decide +kernel
theorem D70_30 : decode (byt 70) 30 = .ok (.invokestatic 46, 3) := by decide +kernel
theorem D70_33 : decode (byt 70) 33 = .ok (.iadd, 1) := by decide +kernel
theorem D70_34 : decode (byt 70) 34 = .ok (.istore_n 2, 1) := by decide +kernel
theorem D70_35 : decode (byt 70) 35 = .ok (.iinc 3 1, 3) := by decide +kernel
theorem D70_38 : decode (byt 70) 38 = .ok (.goto (-34), 3) := by decide +kernel
theorem D70_41 : decode (byt 70) 41 = .ok (.iload_n 2, 1) := by decide +kernel
theorem D70_42 : decode (byt 70) 42 = .ok (.ireturn, 1) := by decide +kernel
theorem D71_0 : decode (byt 71) 0 = .ok (.iconst 0, 1) := by decide +kernel
theorem D71_1 : decode (byt 71) 1 = .ok (.iload_n 1, 1) := by decide +kernel
theorem D71_2 : decode (byt 71) 2 = .ok (.invokestatic 25, 3) := by decide +kernel
theorem D71_5 : decode (byt 71) 5 = .ok (.istore_n 2, 1) := by decide +kernel
theorem D71_6 : decode (byt 71) 6 = .ok (.iload_n 2, 1) := by decide +kernel
theorem D71_7 : decode (byt 71) 7 = .ok (.aload_n 0, 1) := by decide +kernel
theorem D71_8 : decode (byt 71) 8 = .ok (.getfield 19, 3) := by decide +kernel
theorem D71_11 : decode (byt 71) 11 = .ok (.if_icmp .ge 19, 3) := by decide +kernel
theorem D71_14 : decode (byt 71) 14 = .ok (.aload_n 0, 1) := by decide +kernel
theorem D71_15 : decode (byt 71) 15 = .ok (.iload_n 2, 1) := by decide +kernel
theorem D71_16 : decode (byt 71) 16 = .ok (.invokevirtual 54, 3) := by decide +kernel
theorem D71_19 : decode (byt 71) 19 = .ok (.ifCond .eq 5, 3) := by decide +kernel
theorem D71_22 : decode (byt 71) 22 = .ok (.iload_n 2, 1) := by decide +kernel
theorem D71_23 : decode (byt 71) 23 = .ok (.ireturn, 1) := by decide +kernel
theorem D71_24 : decode (byt 71) 24 = .ok (.iinc 2 1, 3) := by decide +kernel
theorem D71_27 : decode (byt 71) 27 = .ok (.goto (-21), 3) := by decide +kernel
theorem D71_30 : decode (byt 71) 30 = .ok (.iconst (-1), 1) := by decide +kernel
theorem D71_31 : decode (byt 71) 31 = .ok (.ireturn, 1) := by decide +kernel
theorem D72_0 : decode (byt 72) 0 = .ok (.iload_n 1, 1) := by decide +kernel
theorem D72_1 : decode (byt 72) 1 = .ok (.istore_n 2, 1) := by decide +kernel
theorem D72_2 : decode (byt 72) 2 = .ok (.iconst 0, 1) := by decide +kernel
theorem D72_3 : decode (byt 72) 3 = .ok (.istore_n 3, 1) := by decide +kernel
theorem D72_4 : decode (byt 72) 4 = .ok (.iload_n 3, 1) := by decide +kernel
theorem D72_5 : decode (byt 72) 5 = .ok (.aload_n 0, 1) := by decide +kernel
theorem D72_6 : decode (byt 72) 6 = .ok (.getfield 22, 3) := by decide +kernel
theorem D72_9 : decode (byt 72) 9 = .ok (.if_icmp .ge 41, 3) := by decide +kernel
theorem D72_12 : decode (byt 72) 12 = .ok (.aload_n 0, 1) := by decide +kernel
theorem D72_13 : decode (byt 72) 13 = .ok (.getfield 9, 3) := by decide +kernel
theorem D72_16 : decode (byt 72) 16 = .ok (.iload_n 3, 1) := by decide +kernel
theorem D72_17 : decode (byt 72) 17 = .ok (.laload, 1) := by decide +kernel
theorem D72_18 : decode (byt 72) 18 = .ok (.invokestatic 46, 3) := by decide +kernel
theorem D72_21 : decode (byt 72) 21 = .ok (.istore 4, 2) := by decide +kernel
theorem D72_23 : decode (byt 72) 23 = .ok (.iload_n 2, 1) := by decide +kernel
theorem D72_24 : decode (byt 72) 24 = .ok (.iload 4, 2) := by decide +kernel
theorem D72_26 : decode (byt 72) 26 = .ok (.if_icmp .ge 13, 3) := by decide +kernel
theorem D72_29 : decode (byt 72) 29 = .ok (.aload_n 0, 1) := by decide +kernel
theorem D72_30 : decode (byt 72) 30 = .ok (.iload_n 3, 1) := by decide +kernel
theorem D72_31 : decode (byt 72) 31 = .ok (.bipush 6, 2) := by decide +kernel
theorem D72_33 : decode (byt 72) 33 = .ok (.ishl, 1) := by decide +kernel
theorem D72_34 : decode (byt 72) 34 = .ok (.iload_n 2, 1) := by decide +kernel
theorem D72_35 : decode (byt 72) 35 = .ok (.invokevirtual 58, 3) := by decide +kernel
theorem D72_38 : decode (byt 72) 38 = .ok (.ireturn, 1) := by decide +kernel
theorem D72_39 : decode (byt 72) 39 = .ok (.iload_n 2, 1) := by decide +kernel
theorem D72_40 : decode (byt 72) 40 = .ok (.iload 4, 2) := by decide +kernel
theorem D72_42 : decode (byt 72) 42 = .ok (.isub, 1) := by decide +kernel
theorem D72_43 : decode (byt 72) 43 = .ok (.istore_n 2, 1) := by decide +kernel
theorem D72_44 : decode (byt 72) 44 = .ok (.iinc 3 1, 3) := by decide +kernel
theorem D72_47 : decode (byt 72) 47 = .ok (.goto (-43), 3) := by decide +kernel
theorem D72_50 : decode (byt 72) 50 = .ok (.iconst (-1), 1) := by decide +kernel
theorem D72_51 : decode (byt 72) 51 = .ok (.ireturn, 1) := by decide +kernel
theorem D73_0 : decode (byt 73) 0 = .ok (.iload_n 2, 1) := by decide +kernel
theorem D73_1 : decode (byt 73) 1 = .ok (.istore_n 3, 1) := by decide +kernel
theorem D73_2 : decode (byt 73) 2 = .ok (.iload_n 1, 1) := by decide +kernel
theorem D73_3 : decode (byt 73) 3 = .ok (.istore 4, 2) := by decide +kernel
theorem D73_5 : decode (byt 73) 5 = .ok (.iload 4, 2) := by decide +kernel
theorem D73_7 : decode (byt 73) 7 = .ok (.aload_n 0, 1) := by decide +kernel
theorem D73_8 : decode (byt 73) 8 = .ok (.getfield 19, 3) := by decide +kernel
theorem D73_11 : decode (byt 73) 11 = .ok (.if_icmp .ge 28, 3) := by decide +kernel
theorem D73_14 : decode (byt 73) 14 = .ok (.aload_n 0, 1) := by decide +kernel
theorem D73_15 : decode (byt 73) 15 = .ok (.iload 4, 2) := by decide +kernel
theorem D73_17 : decode (byt 73) 17 = .ok (.invokevirtual 54, 3) := by decide +kernel
theorem D73_20 : decode (byt 73) 20 = .ok (.ifCond .eq 13, 3) := by decide +kernel
theorem D73_23 : decode (byt 73) 23 = .ok (.iload_n 3, 1) := by decide +kernel
theorem D73_24 : decode (byt 73) 24 = .ok (.ifCond .ne 6, 3) := by decide +kernel
theorem D73_27 : decode (byt 73) 27 = .ok (.iload 4, 2) := by decide +kernel
theorem D73_29 : decode (byt 73) 29 = .ok (.ireturn, 1) := by decide +kernel
theorem D73_30 : decode (byt 73) 30 = .ok (.iinc 3 (-1), 3) := by decide +kernel
theorem D73_33 : decode (byt 73) 33 = .ok (.iinc 4 1, 3) := by decide +kernel
theorem D73_36 : decode (byt 73) 36 = .ok (.goto (-31), 3) := by decide +kernel
theorem D73_39 : decode (byt 73) 39 = .ok (.iconst (-1), 1) := by decide +kernel
theorem D73_40 : decode (byt 73) 40 = .ok (.ireturn, 1) := by decide +kernel
theorem D74_0 : decode (byt 74) 0 = .ok (.aload_n 0, 1) := by decide +kernel
theorem D74_1 : decode (byt 74) 1 = .ok (.invokespecial 3, 3) := by decide +kernel
theorem D74_4 : decode (byt 74) 4 = .ok (.aload_n 0, 1) := by decide +kernel
theorem D74_5 : decode (byt 74) 5 = .ok (.new 9, 3) := by decide +kernel
theorem D74_8 : decode (byt 74) 8 = .ok (.dup, 1) := by decide +kernel
theorem D74_9 : decode (byt 74) 9 = .ok (.invokespecial 11, 3) := by decide +kernel
theorem D74_12 : decode (byt 74) 12 = .ok (.putfield 12, 3) := by decide +kernel
theorem D74_15 : decode (byt 74) 15 = .ok (.aload_n 0, 1) := by decide +kernel
theorem D74_16 : decode (byt 74) 16 = .ok (.new 9, 3) := by decide +kernel
theorem D74_19 : decode (byt 74) 19 = .ok (.dup, 1) := by decide +kernel
theorem D74_20 : decode (byt 74) 20 = .ok (.invokespecial 11, 3) := by decide +kernel
theorem D74_23 : decode (byt 74) 23 = .ok (.putfield 16, 3) := by decide +kernel
theorem D74_26 : decode (byt 74) 26 = .ok (.aload_n 0, 1) := by decide +kernel
theorem D74_27 : decode (byt 74) 27 = .ok (.new 19, 3) := by decide +kernel
theorem D74_30 : decode (byt 74) 30 = .ok (.dup, 1) := by decide +kernel
theorem D74_31 : decode (byt 74) 31 = .ok (.invokespecial 21, 3) := by decide +kernel
theorem D74_34 : decode (byt 74) 34 = .ok (.putfield 22, 3) := by decide +kernel
theorem D74_37 : decode (byt 74) 37 = .ok (.aload_n 0, 1) := by decide +kernel
theorem D74_38 : decode (byt 74) 38 = .ok (.sipush 4096, 3) := by decide +kernel
theorem D74_41 : decode (byt 74) 41 = .ok (.newarray .long, 2) := by decide +kernel
theorem D74_43 : decode (byt 74) 43 = .ok (.putfield 26, 3) := by decide +kernel
theorem D74_46 : decode (byt 74) 46 = .ok (.aload_n 0, 1) := by decide +kernel
theorem D74_47 : decode (byt 74) 47 = .ok (.new 30, 3) := by decide +kernel
theorem D74_50 : decode (byt 74) 50 = .ok (.dup, 1) := by decide +kernel
theorem D74_51 : decode (byt 74) 51 = .ok (.invokespecial 32, 3) := by decide +kernel
theorem D74_54 : decode (byt 74) 54 = .ok (.putfield 33, 3) := by decide +kernel
theorem D74_57 : decode (byt 74) 57 = .ok (.aload_n 0, 1) := by decide +kernel
theorem D74_58 : decode (byt 74) 58 = .ok (.iconst 5, 1) := by decide +kernel
theorem D74_59 : decode (byt 74) 59 = .ok (.newarray .int, 2) := by decide +kernel
theorem D74_61 : decode (byt 74) 61 = .ok (.putfield 37, 3) := by decide +kernel
theorem D74_64 : decode (byt 74) 64 = .ok (.aload_n 0, 1) := by decide +kernel
theorem D74_65 : decode (byt 74) 65 = .ok (.bipush 10, 2) := by decide +kernel
theorem D74_67 : decode (byt 74) 67 = .ok (.newarray .int, 2) := by decide +kernel
theorem D74_69 : decode (byt 74) 69 = .ok (.putfield 41, 3) := by decide +kernel
theorem D74_72 : decode (byt 74) 72 = .ok (.aload_n 0, 1) := by decide +kernel
theorem D74_73 : decode (byt 74) 73 = .ok (.iconst 0, 1) := by decide +kernel
theorem D74_74 : decode (byt 74) 74 = .ok (.putfield 44, 3) := by decide +kernel
theorem D74_77 : decode (byt 74) 77 = .ok (.aload_n 0, 1) := by decide +kernel
theorem D74_78 : decode (byt 74) 78 = .ok (.iconst 0, 1) := by decide +kernel
theorem D74_79 : decode (byt 74) 79 = .ok (.putfield 48, 3) := by decide +kernel
theorem D74_82 : decode (byt 74) 82 = .ok (.aload_n 0, 1) := by decide +kernel
theorem D74_83 : decode (byt 74) 83 = .ok (.iconst (-1), 1) := by decide +kernel
theorem D74_84 : decode (byt 74) 84 = .ok (.putfield 52, 3) := by decide +kernel
theorem D74_87 : decode (byt 74) 87 = .ok (.return_, 1) := by decide +kernel
theorem D75_0 : decode (byt 75) 0 = .ok (.aload_n 0, 1) := by decide +kernel
theorem D75_1 : decode (byt 75) 1 = .ok (.iload_n 1, 1) := by decide +kernel
theorem D75_2 : decode (byt 75) 2 = .ok (.invokevirtual 55, 3) := by decide +kernel
theorem D75_5 : decode (byt 75) 5 = .ok (.astore_n 3, 1) := by decide +kernel
theorem D75_6 : decode (byt 75) 6 = .ok (.aload_n 3, 1) := by decide +kernel
theorem D75_7 : decode (byt 75) 7 = .ok (.ifnonnull 10, 3) := by decide +kernel
theorem D75_10 : decode (byt 75) 10 = .ok (.aload_n 0, 1) := by decide +kernel
theorem D75_11 : decode (byt 75) 11 = .ok (.bipush (-3), 2) := by decide +kernel
theorem D75_13 : decode (byt 75) 13 = .ok (.invokevirtual 59, 3) := by decide +kernel
theorem D75_16 : decode (byt 75) 16 = .ok (.ireturn, 1) := by decide +kernel
theorem D75_17 : decode (byt 75) 17 = .ok (.iload_n 2, 1) := by decide +kernel
theorem D75_18 : decode (byt 75) 18 = .ok (.iconst 1, 1) := by decide +kernel
theorem D75_19 : decode (byt 75) 19 = .ok (.if_icmp .lt 9, 3) := by decide +kernel
theorem D75_22 : decode (byt 75) 22 = .ok (.iload_n 2, 1) := by decide +kernel
theorem D75_23 : decode (byt 75) 23 = .ok (.bipush 12, 2) := by decide +kernel
theorem D75_25 : decode (byt 75) 25 = .ok (.if_icmp .le 10, 3) := by decide +kernel
theorem D75_28 : decode (byt 75) 28 = .ok (.aload_n 0, 1) := by decide +kernel
theorem D75_29 : decode (byt 75) 29 = .ok (.bipush (-7), 2) := by decide +kernel
theorem D75_31 : decode (byt 75) 31 = .ok (.invokevirtual 59, 3) := by decide +kernel
theorem D75_34 : decode (byt 75) 34 = .ok (.ireturn, 1) := by decide +kernel
theorem D75_35 : decode (byt 75) 35 = .ok (.aload_n 3, 1) := by decide +kernel
theorem D75_36 : decode (byt 75) 36 = .ok (.getfield 63, 3) := by decide +kernel
theorem D75_39 : decode (byt 75) 39 = .ok (.istore 4, 2) := by decide +kernel
theorem D75_41 : decode (byt 75) 41 = .ok (.aload_n 3, 1) := by decide +kernel
theorem D75_42 : decode (byt 75) 42 = .ok (.iload_n 2, 1) := by decide +kernel
theorem D75_43 : decode (byt 75) 43 = .ok (.invokevirtual 66, 3) := by decide +kernel
theorem D75_46 : decode (byt 75) 46 = .ok (.iload 4, 2) := by decide +kernel
theorem D75_48 : decode (byt 75) 48 = .ok (.ireturn, 1) := by decide +kernel
theorem D76_0 : decode (byt 76) 0 = .ok (.aload_n 0, 1) := by decide +kernel
theorem D76_1 : decode (byt 76) 1 = .ok (.iload_n 1, 1) := by decide +kernel
theorem D76_2 : decode (byt 76) 2 = .ok (.invokevirtual 55, 3) := by decide +kernel
theorem D76_5 : decode (byt 76) 5 = .ok (.astore 6, 2) := by decide +kernel
theorem D76_7 : decode (byt 76) 7 = .ok (.aload 6, 2) := by decide +kernel
theorem D76_9 : decode (byt 76) 9 = .ok (.ifnonnull 10, 3) := by decide +kernel
theorem D76_12 : decode (byt 76) 12 = .ok (.aload_n 0, 1) := by decide +kernel
theorem D76_13 : decode (byt 76) 13 = .ok (.bipush (-3), 2) := by decide +kernel
theorem D76_15 : decode (byt 76) 15 = .ok (.invokevirtual 59, 3) := by decide +kernel
theorem D76_18 : decode (byt 76) 18 = .ok (.ireturn, 1) := by decide +kernel
theorem D76_19 : decode (byt 76) 19 = .ok (.aload 6, 2) := by decide +kernel
theorem D76_21 : decode (byt 76) 21 = .ok (.iload_n 2, 1) := by decide +kernel
theorem D76_22 : decode (byt 76) 22 = .ok (.invokevirtual 70, 3) := by decide +kernel
theorem D76_25 : decode (byt 76) 25 = .ok (.ifCond .eq 32, 3) := by decide +kernel
theorem D76_28 : decode (byt 76) 28 = .ok (.aload 6, 2) := by decide +kernel
theorem D76_30 : decode (byt 76) 30 = .ok (.iload_n 3, 1) := by decide +kernel
theorem D76_31 : decode (byt 76) 31 = .ok (.invokevirtual 70, 3) := by decide +kernel
theorem D76_34 : decode (byt 76) 34 = .ok (.ifCond .eq 23, 3) := by decide +kernel
theorem D76_37 : decode (byt 76) 37 = .ok (.aload 6, 2) := by decide +kernel
theorem D76_39 : decode (byt 76) 39 = .ok (.iload 4, 2) := by decide +kernel
theorem D76_41 : decode (byt 76) 41 = .ok (.invokevirtual 70, 3) := by decide +kernel
theorem D76_44 : decode (byt 76) 44 = .ok (.ifCond .eq 13, 3) := by decide +kernel
theorem D76_47 : decode (byt 76) 47 = .ok (.aload 6, 2) := by decide +kernel
theorem D76_49 : decode (byt 76) 49 = .ok (.iload 5, 2) := by decide +kernel
theorem D76_51 : decode (byt 76) 51 = .ok (.invokevirtual 70, 3) := by decide +kernel
theorem D76_54 : decode (byt 76) 54 = .ok (.ifCond .ne 10, 3) := by decide +kernel
theorem D76_57 : decode (byt 76) 57 = .ok (.aload_n 0, 1) := by decide +kernel
theorem D76_58 : decode (byt 76) 58 = .ok (.bipush (-3), 2) := by decide +kernel
theorem D76_60 : decode (byt 76) 60 = .ok (.invokevirtual 59, 3) := by decide +kernel
theorem D76_63 : decode (byt 76) 63 = .ok (.ireturn, 1) := by decide +kernel
theorem D76_64 : decode (byt 76) 64 = .ok (.aload_n 0, 1) := by decide +kernel
theorem D76_65 : decode (byt 76) 65 = .ok (.aload 6, 2) := by decide +kernel
theorem D76_67 : decode (byt 76) 67 = .ok (.iload_n 2, 1) := by decide +kernel
theorem D76_68 : decode (byt 76) 68 = .ok (.invokestatic 74, 3) := by decide +kernel
theorem D76_71 : decode (byt 76) 71 = .ok (.iload_n 3, 1) := by decide +kernel
theorem D76_72 : decode (byt 76) 72 = .ok (.invokestatic 74, 3) := by decide +kernel
theorem D76_75 : decode (byt 76) 75 = .ok (.ior, 1) := by decide +kernel
theorem D76_76 : decode (byt 76) 76 = .ok (.iload 4, 2) := by decide +kernel
theorem D76_78 : decode (byt 76) 78 = .ok (.invokestatic 74, 3) := by decide +kernel
theorem D76_81 : decode (byt 76) 81 = .ok (.ior, 1) := by decide +kernel
theorem D76_82 : decode (byt 76) 82 = .ok (.iload 5, 2) := by decide +kernel
theorem D76_84 : decode (byt 76) 84 = .ok (.invokestatic 74, 3) := by decide +kernel
theorem D76_87 : decode (byt 76) 87 = .ok (.ior, 1) := by decide +kernel
theorem D76_88 : decode (byt 76) 88 = .ok (.invokevirtual 77, 3) := by decide +kernel
theorem D76_91 : decode (byt 76) 91 = .ok (.ireturn, 1) := by decide +kernel
theorem D77_0 : decode (byt 77) 0 = .ok (.aload_n 0, 1) := by decide +kernel
theorem D77_1 : decode (byt 77) 1 = .ok (.iload_n 1, 1) := by decide +kernel
theorem D77_2 : decode (byt 77) 2 = .ok (.invokevirtual 55, 3) := by decide +kernel
theorem D77_5 : decode (byt 77) 5 = .ok (.astore_n 3, 1) := by decide +kernel
theorem D77_6 : decode (byt 77) 6 = .ok (.aload_n 3, 1) := by decide +kernel
theorem D77_7 : decode (byt 77) 7 = .ok (.ifnull 11, 3) := by decide +kernel
theorem D77_10 : decode (byt 77) 10 = .ok (.aload_n 3, 1) := by decide +kernel
theorem D77_11 : decode (byt 77) 11 = .ok (.iload_n 2, 1) := by decide +kernel
theorem D77_12 : decode (byt 77) 12 = .ok (.invokevirtual 81, 3) := by decide +kernel
theorem D77_15 : decode (byt 77) 15 = .ok (.ifCond .ne 10, 3) := by decide +kernel
theorem D77_18 : decode (byt 77) 18 = .ok (.aload_n 0, 1) := by decide +kernel
theorem D77_19 : decode (byt 77) 19 = .ok (.bipush (-3), 2) := by decide +kernel
theorem D77_21 : decode (byt 77) 21 = .ok (.invokevirtual 59, 3) := by decide +kernel
theorem D77_24 : decode (byt 77) 24 = .ok (.ireturn, 1) := by decide +kernel
theorem D77_25 : decode (byt 77) 25 = .ok (.aload_n 3, 1) := by decide +kernel
theorem D77_26 : decode (byt 77) 26 = .ok (.getfield 84, 3) := by decide +kernel
theorem D77_29 : decode (byt 77) 29 = .ok (.ifCond .ne 10, 3) := by decide +kernel
theorem D77_32 : decode (byt 77) 32 = .ok (.aload_n 0, 1) := by decide +kernel
theorem D77_33 : decode (byt 77) 33 = .ok (.bipush (-2), 2) := by decide +kernel
theorem D77_35 : decode (byt 77) 35 = .ok (.invokevirtual 59, 3) := by decide +kernel
theorem D77_38 : decode (byt 77) 38 = .ok (.ireturn, 1) := by decide +kernel
theorem D77_39 : decode (byt 77) 39 = .ok (.aload_n 3, 1) := by decide +kernel
theorem D77_40 : decode (byt 77) 40 = .ok (.aload_n 3, 1) := by decide +kernel
theorem D77_41 : decode (byt 77) 41 = .ok (.getfield 84, 3) := by decide +kernel
theorem D77_44 : decode (byt 77) 44 = .ok (.iconst 1, 1) := by decide +kernel
theorem D77_45 : decode (byt 77) 45 = .ok (.isub, 1) := by decide +kernel
theorem D77_46 : decode (byt 77) 46 = .ok (.invokevirtual 87, 3) := by decide +kernel
theorem D77_49 : decode (byt 77) 49 = .ok (.istore 4, 2) := by decide +kernel
theorem D77_51 : decode (byt 77) 51 = .ok (.iload 4, 2) := by decide +kernel
theorem D77_53 : decode (byt 77) 53 = .ok (.iload_n 2, 1) := by decide +kernel
theorem D77_54 : decode (byt 77) 54 = .ok (.invokestatic 74, 3) := by decide +kernel
theorem D77_57 : decode (byt 77) 57 = .ok (.iload_n 2, 1) := by decide +kernel
theorem D77_58 : decode (byt 77) 58 = .ok (.ineg, 1) := by decide +kernel
theorem D77_59 : decode (byt 77) 59 = .ok (.invokestatic 74, 3) := by decide +kernel
theorem D77_62 : decode (byt 77) 62 = .ok (.ior, 1) := by decide +kernel
theorem D77_63 : decode (byt 77) 63 = .ok (.iand, 1) := by decide +kernel
theorem D77_64 : decode (byt 77) 64 = .ok (.ifCond .eq 10, 3) := by decide +kernel
theorem D77_67 : decode (byt 77) 67 = .ok (.aload_n 0, 1) := by decide +kernel
theorem D77_68 : decode (byt 77) 68 = .ok (.bipush (-7), 2) := by decide +kernel
theorem D77_70 : decode (byt 77) 70 = .ok (.invokevirtual 59, 3) := by decide +kernel
theorem D77_73 : decode (byt 77) 73 = .ok (.ireturn, 1) := by decide +kernel
theorem D77_74 : decode (byt 77) 74 = .ok (.iload 4, 2) := by decide +kernel
theorem D77_76 : decode (byt 77) 76 = .ok (.invokestatic 90, 3) := by decide +kernel
theorem D77_79 : decode (byt 77) 79 = .ok (.iconst 5, 1) := by decide +kernel
theorem D77_80 : decode (byt 77) 80 = .ok (.if_icmp .lt 10, 3) := by decide +kernel
theorem D77_83 : decode (byt 77) 83 = .ok (.aload_n 0, 1) := by decide +kernel
theorem D77_84 : decode (byt 77) 84 = .ok (.bipush (-8), 2) := by decide +kernel
theorem D77_86 : decode (byt 77) 86 = .ok (.invokevirtual 59, 3) := by decide +kernel
theorem D77_89 : decode (byt 77) 89 = .ok (.ireturn, 1) := by decide +kernel
theorem D77_90 : decode (byt 77) 90 = .ok (.aload_n 3, 1) := by decide +kernel
theorem D77_91 : decode (byt 77) 91 = .ok (.iload_n 2, 1) := by decide +kernel
theorem D77_92 : decode (byt 77) 92 = .ok (.invokestatic 74, 3) := by decide +kernel
theorem D77_95 : decode (byt 77) 95 = .ok (.invokevirtual 95, 3) := by decide +kernel
theorem D77_98 : decode (byt 77) 98 = .ok (.iload 4, 2) := by decide +kernel
theorem D77_100 : decode (byt 77) 100 = .ok (.invokestatic 90, 3) := by decide +kernel
theorem D77_103 : decode (byt 77) 103 = .ok (.iconst 1, 1) := by decide +kernel
theorem D77_104 : decode (byt 77) 104 = .ok (.iadd, 1) := by decide +kernel
theorem D77_105 : decode (byt 77) 105 = .ok (.ireturn, 1) := by decide +kernel
theorem D78_0 : decode (byt 78) 0 = .ok (.aload_n 0, 1) := by decide +kernel
theorem D78_1 : decode (byt 78) 1 = .ok (.iload_n 1, 1) := by decide +kernel
theorem D78_2 : decode (byt 78) 2 = .ok (.invokevirtual 55, 3) := by decide +kernel
theorem D78_5 : decode (byt 78) 5 = .ok (.astore_n 2, 1) := by decide +kernel
theorem D78_6 : decode (byt 78) 6 = .ok (.aload_n 2, 1) := by decide +kernel
theorem D78_7 : decode (byt 78) 7 = .ok (.ifnonnull 10, 3) := by decide +kernel
theorem D78_10 : decode (byt 78) 10 = .ok (.aload_n 0, 1) := by decide +kernel
theorem D78_11 : decode (byt 78) 11 = .ok (.bipush (-3), 2) := by decide +kernel
theorem D78_13 : decode (byt 78) 13 = .ok (.invokevirtual 59, 3) := by decide +kernel
theorem D78_16 : decode (byt 78) 16 = .ok (.ireturn, 1) := by decide +kernel
theorem D78_17 : decode (byt 78) 17 = .ok (.aload_n 2, 1) := by decide +kernel
theorem D78_18 : decode (byt 78) 18 = .ok (.getfield 84, 3) := by decide +kernel
theorem D78_21 : decode (byt 78) 21 = .ok (.ifCond .ne 10, 3) := by decide +kernel
theorem D78_24 : decode (byt 78) 24 = .ok (.aload_n 0, 1) := by decide +kernel
theorem D78_25 : decode (byt 78) 25 = .ok (.bipush (-2), 2) := by decide +kernel
theorem D78_27 : decode (byt 78) 27 = .ok (.invokevirtual 59, 3) := by decide +kernel
theorem D78_30 : decode (byt 78) 30 = .ok (.ireturn, 1) := by decide +kernel
theorem D78_31 : decode (byt 78) 31 = .ok (.aload_n 2, 1) := by decide +kernel
theorem D78_32 : decode (byt 78) 32 = .ok (.invokevirtual 98, 3) := by decide +kernel
theorem D78_35 : decode (byt 78) 35 = .ok (.aload_n 2, 1) := by decide +kernel
theorem D78_36 : decode (byt 78) 36 = .ok (.getfield 84, 3) := by decide +kernel
theorem D78_39 : decode (byt 78) 39 = .ok (.ireturn, 1) := by decide +kernel
theorem D79_0 : decode (byt 79) 0 = .ok (.aload_n 0, 1) := by decide +kernel
theorem D79_1 : decode (byt 79) 1 = .ok (.iload_n 1, 1) := by decide +kernel
theorem D79_2 : decode (byt 79) 2 = .ok (.invokevirtual 55, 3) := by decide +kernel
theorem D79_5 : decode (byt 79) 5 = .ok (.astore 4, 2) := by decide +kernel
theorem D79_7 : decode (byt 79) 7 = .ok (.aload 4, 2) := by decide +kernel
theorem D79_9 : decode (byt 79) 9 = .ok (.ifnull 12, 3) := by decide +kernel
theorem D79_12 : decode (byt 79) 12 = .ok (.aload 4, 2) := by decide +kernel
theorem D79_14 : decode (byt 79) 14 = .ok (.iload_n 2, 1) := by decide +kernel
theorem D79_15 : decode (byt 79) 15 = .ok (.invokevirtual 101, 3) := by decide +kernel
theorem D79_18 : decode (byt 79) 18 = .ok (.ifCond .ne 10, 3) := by decide +kernel
theorem D79_21 : decode (byt 79) 21 = .ok (.aload_n 0, 1) := by decide +kernel
theorem D79_22 : decode (byt 79) 22 = .ok (.bipush (-3), 2) := by decide +kernel
theorem D79_24 : decode (byt 79) 24 = .ok (.invokevirtual 59, 3) := by decide +kernel
theorem D79_27 : decode (byt 79) 27 = .ok (.ireturn, 1) := by decide +kernel
theorem D79_28 : decode (byt 79) 28 = .ok (.iload_n 2, 1) := by decide +kernel
theorem D79_29 : decode (byt 79) 29 = .ok (.invokestatic 74, 3) := by decide +kernel
theorem D79_32 : decode (byt 79) 32 = .ok (.istore 5, 2) := by decide +kernel
theorem D79_34 : decode (byt 79) 34 = .ok (.aload 4, 2) := by decide +kernel
theorem D79_36 : decode (byt 79) 36 = .ok (.getfield 104, 3) := by decide +kernel
theorem D79_39 : decode (byt 79) 39 = .ok (.iload 5, 2) := by decide +kernel
theorem D79_41 : decode (byt 79) 41 = .ok (.iand, 1) := by decide +kernel
theorem D79_42 : decode (byt 79) 42 = .ok (.ifCond .eq 7, 3) := by decide +kernel
theorem D79_45 : decode (byt 79) 45 = .ok (.iconst 1, 1) := by decide +kernel
theorem D79_46 : decode (byt 79) 46 = .ok (.goto 4, 3) := by decide +kernel
theorem D79_49 : decode (byt 79) 49 = .ok (.iconst 0, 1) := by decide +kernel
theorem D79_50 : decode (byt 79) 50 = .ok (.istore 6, 2) := by decide +kernel
theorem D79_52 : decode (byt 79) 52 = .ok (.iload 6, 2) := by decide +kernel
theorem D79_54 : decode (byt 79) 54 = .ok (.iload_n 3, 1) := by decide +kernel
theorem D79_55 : decode (byt 79) 55 = .ok (.if_icmp .eq 21, 3) := by decide +kernel
theorem D79_58 : decode (byt 79) 58 = .ok (.aload 4, 2) := by decide +kernel
theorem D79_60 : decode (byt 79) 60 = .ok (.dup, 1) := by decide +kernel
theorem D79_61 : decode (byt 79) 61 = .ok (.getfield 104, 3) := by decide +kernel
theorem D79_64 : decode (byt 79) 64 = .ok (.iload 5, 2) := by decide +kernel
theorem D79_66 : decode (byt 79) 66 = .ok (.ixor, 1) := by decide +kernel
theorem D79_67 : decode (byt 79) 67 = .ok (.putfield 104, 3) := by decide +kernel
theorem D79_70 : decode (byt 79) 70 = .ok (.aload 4, 2) := by decide +kernel
theorem D79_72 : decode (byt 79) 72 = .ok (.iconst 0, 1) := by decide +kernel
theorem D79_73 : decode (byt 79) 73 = .ok (.putfield 107, 3) := by decide +kernel
theorem D79_76 : decode (byt 79) 76 = .ok (.iload 6, 2) := by decide +kernel
theorem D79_78 : decode (byt 79) 78 = .ok (.ifCond .eq 7, 3) := by decide +kernel
theorem D79_81 : decode (byt 79) 81 = .ok (.iconst 1, 1) := by decide +kernel
theorem D79_82 : decode (byt 79) 82 = .ok (.goto 4, 3) := by decide +kernel
theorem D79_85 : decode (byt 79) 85 = .ok (.iconst 0, 1) := by decide +kernel
theorem D79_86 : decode (byt 79) 86 = .ok (.ireturn, 1) := by decide +kernel
theorem D80_0 : decode (byt 80) 0 = .ok (.aload_n 0, 1) := by decide +kernel
theorem D80_1 : decode (byt 80) 1 = .ok (.iload_n 1, 1) := by decide +kernel
theorem D80_2 : decode (byt 80) 2 = .ok (.invokevirtual 55, 3) := by decide +kernel
theorem D80_5 : decode (byt 80) 5 = .ok (.astore_n 3, 1) := by decide +kernel
theorem D80_6 : decode (byt 80) 6 = .ok (.aload_n 3, 1) := by decide +kernel
theorem D80_7 : decode (byt 80) 7 = .ok (.ifnull 11, 3) := by decide +kernel
theorem D80_10 : decode (byt 80) 10 = .ok (.aload_n 3, 1) := by decide +kernel
theorem D80_11 : decode (byt 80) 11 = .ok (.iload_n 2, 1) := by decide +kernel
theorem D80_12 : decode (byt 80) 12 = .ok (.invokevirtual 81, 3) := by decide +kernel
theorem D80_15 : decode (byt 80) 15 = .ok (.ifCond .ne 10, 3) := by decide +kernel
theorem D80_18 : decode (byt 80) 18 = .ok (.aload_n 0, 1) := by decide +kernel
theorem D80_19 : decode (byt 80) 19 = .ok (.bipush (-3), 2) := by decide +kernel
theorem D80_21 : decode (byt 80) 21 = .ok (.invokevirtual 59, 3) := by decide +kernel
theorem D80_24 : decode (byt 80) 24 = .ok (.ireturn, 1) := by decide +kernel
theorem D80_25 : decode (byt 80) 25 = .ok (.iload_n 2, 1) := by decide +kernel
theorem D80_26 : decode (byt 80) 26 = .ok (.invokestatic 74, 3) := by decide +kernel
theorem D80_29 : decode (byt 80) 29 = .ok (.istore 4, 2) := by decide +kernel
theorem D80_31 : decode (byt 80) 31 = .ok (.iload_n 2, 1) := by decide +kernel
theorem D80_32 : decode (byt 80) 32 = .ok (.ineg, 1) := by decide +kernel
theorem D80_33 : decode (byt 80) 33 = .ok (.invokestatic 74, 3) := by decide +kernel
theorem D80_36 : decode (byt 80) 36 = .ok (.istore 5, 2) := by decide +kernel
theorem D80_38 : decode (byt 80) 38 = .ok (.aload_n 3, 1) := by decide +kernel
theorem D80_39 : decode (byt 80) 39 = .ok (.getfield 110, 3) := by decide +kernel
theorem D80_42 : decode (byt 80) 42 = .ok (.iload 4, 2) := by decide +kernel
theorem D80_44 : decode (byt 80) 44 = .ok (.iand, 1) := by decide +kernel
theorem D80_45 : decode (byt 80) 45 = .ok (.ifCond .eq 5, 3) := by decide +kernel
theorem D80_48 : decode (byt 80) 48 = .ok (.iconst 0, 1) := by decide +kernel
theorem D80_49 : decode (byt 80) 49 = .ok (.ireturn, 1) := by decide +kernel
theorem D80_50 : decode (byt 80) 50 = .ok (.aload_n 3, 1) := by decide +kernel
theorem D80_51 : decode (byt 80) 51 = .ok (.getfield 110, 3) := by decide +kernel
theorem D80_54 : decode (byt 80) 54 = .ok (.iload 5, 2) := by decide +kernel
theorem D80_56 : decode (byt 80) 56 = .ok (.iand, 1) := by decide +kernel
theorem D80_57 : decode (byt 80) 57 = .ok (.ifCond .eq 7, 3) := by decide +kernel
theorem D80_60 : decode (byt 80) 60 = .ok (.iconst 1, 1) := by decide +kernel
theorem D80_61 : decode (byt 80) 61 = .ok (.goto 4, 3) := by decide +kernel
theorem D80_64 : decode (byt 80) 64 = .ok (.iconst 0, 1) := by decide +kernel
theorem D80_65 : decode (byt 80) 65 = .ok (.istore 6, 2) := by decide +kernel
theorem D80_67 : decode (byt 80) 67 = .ok (.aload_n 3, 1) := by decide +kernel
theorem D80_68 : decode (byt 80) 68 = .ok (.aload_n 3, 1) := by decide +kernel
theorem D80_69 : decode (byt 80) 69 = .ok (.getfield 110, 3) := by decide +kernel
theorem D80_72 : decode (byt 80) 72 = .ok (.iload 5, 2) := by decide +kernel
theorem D80_74 : decode (byt 80) 74 = .ok (.iconst (-1), 1) := by decide +kernel
theorem D80_75 : decode (byt 80) 75 = .ok (.ixor, 1) := by decide +kernel
theorem D80_76 : decode (byt 80) 76 = .ok (.iand, 1) := by decide +kernel
theorem D80_77 : decode (byt 80) 77 = .ok (.iload 4, 2) := by decide +kernel
theorem D80_79 : decode (byt 80) 79 = .ok (.ior, 1) := by decide +kernel
theorem D80_80 : decode (byt 80) 80 = .ok (.putfield 110, 3) := by decide +kernel
theorem D80_83 : decode (byt 80) 83 = .ok (.iload 6, 2) := by decide +kernel
theorem D80_85 : decode (byt 80) 85 = .ok (.ifCond .eq 7, 3) := by decide +kernel
theorem D80_88 : decode (byt 80) 88 = .ok (.iconst 2, 1) := by decide +kernel
theorem D80_89 : decode (byt 80) 89 = .ok (.goto 4, 3) := by decide +kernel
theorem D80_92 : decode (byt 80) 92 = .ok (.iconst 1, 1) := by decide +kernel
theorem D80_93 : decode (byt 80) 93 = .ok (.ireturn, 1) := by decide +kernel
theorem D81_0 : decode (byt 81) 0 = .ok (.aload_n 0, 1) := by decide +kernel
theorem D81_1 : decode (byt 81) 1 = .ok (.iload_n 1, 1) := by decide +kernel
theorem D81_2 : decode (byt 81) 2 = .ok (.invokevirtual 55, 3) := by decide +kernel
theorem D81_5 : decode (byt 81) 5 = .ok (.astore_n 3, 1) := by decide +kernel
theorem D81_6 : decode (byt 81) 6 = .ok (.aload_n 3, 1) := by decide +kernel
theorem D81_7 : decode (byt 81) 7 = .ok (.ifnull 11, 3) := by decide +kernel
theorem D81_10 : decode (byt 81) 10 = .ok (.aload_n 3, 1) := by decide +kernel
theorem D81_11 : decode (byt 81) 11 = .ok (.iload_n 2, 1) := by decide +kernel
theorem D81_12 : decode (byt 81) 12 = .ok (.invokevirtual 101, 3) := by decide +kernel
theorem D81_15 : decode (byt 81) 15 = .ok (.ifCond .ne 10, 3) := by decide +kernel
theorem D81_18 : decode (byt 81) 18 = .ok (.aload_n 0, 1) := by decide +kernel
theorem D81_19 : decode (byt 81) 19 = .ok (.bipush (-3), 2) := by decide +kernel
theorem D81_21 : decode (byt 81) 21 = .ok (.invokevirtual 59, 3) := by decide +kernel
theorem D81_24 : decode (byt 81) 24 = .ok (.ireturn, 1) := by decide +kernel
theorem D81_25 : decode (byt 81) 25 = .ok (.iload_n 2, 1) := by decide +kernel
theorem D81_26 : decode (byt 81) 26 = .ok (.invokestatic 74, 3) := by decide +kernel
theorem D81_29 : decode (byt 81) 29 = .ok (.iload_n 2, 1) := by decide +kernel
theorem D81_30 : decode (byt 81) 30 = .ok (.ineg, 1) := by decide +kernel
theorem D81_31 : decode (byt 81) 31 = .ok (.invokestatic 74, 3) := by decide +kernel
theorem D81_34 : decode (byt 81) 34 = .ok (.ior, 1) := by decide +kernel
theorem D81_35 : decode (byt 81) 35 = .ok (.istore 4, 2) := by decide +kernel
theorem D81_37 : decode (byt 81) 37 = .ok (.aload_n 3, 1) := by decide +kernel
theorem D81_38 : decode (byt 81) 38 = .ok (.getfield 110, 3) := by decide +kernel
theorem D81_41 : decode (byt 81) 41 = .ok (.iload 4, 2) := by decide +kernel
theorem D81_43 : decode (byt 81) 43 = .ok (.iand, 1) := by decide +kernel
theorem D81_44 : decode (byt 81) 44 = .ok (.ifCond .eq 7, 3) := by decide +kernel
theorem D81_47 : decode (byt 81) 47 = .ok (.iconst 1, 1) := by decide +kernel
theorem D81_48 : decode (byt 81) 48 = .ok (.goto 4, 3) := by decide +kernel
theorem D81_51 : decode (byt 81) 51 = .ok (.iconst 0, 1) := by decide +kernel
theorem D81_52 : decode (byt 81) 52 = .ok (.istore 5, 2) := by decide +kernel
theorem D81_54 : decode (byt 81) 54 = .ok (.aload_n 3, 1) := by decide +kernel
theorem D81_55 : decode (byt 81) 55 = .ok (.dup, 1) := by decide +kernel
theorem D81_56 : decode (byt 81) 56 = .ok (.getfield 110, 3) := by decide +kernel
theorem D81_59 : decode (byt 81) 59 = .ok (.iload 4, 2) := by decide +kernel
theorem D81_61 : decode (byt 81) 61 = .ok (.iconst (-1), 1) := by decide +kernel
theorem D81_62 : decode (byt 81) 62 = .ok (.ixor, 1) := by decide +kernel
theorem D81_63 : decode (byt 81) 63 = .ok (.iand, 1) := by decide +kernel
theorem D81_64 : decode (byt 81) 64 = .ok (.putfield 110, 3) := by decide +kernel
theorem D81_67 : decode (byt 81) 67 = .ok (.iload 5, 2) := by decide +kernel
theorem D81_69 : decode (byt 81) 69 = .ok (.ifCond .eq 7, 3) := by decide +kernel
theorem D81_72 : decode (byt 81) 72 = .ok (.iconst 1, 1) := by decide +kernel
theorem D81_73 : decode (byt 81) 73 = .ok (.goto 4, 3) := by decide +kernel
theorem D81_76 : decode (byt 81) 76 = .ok (.iconst 0, 1) := by decide +kernel
theorem D81_77 : decode (byt 81) 77 = .ok (.ireturn, 1) := by decide +kernel
theorem D82_0 : decode (byt 82) 0 = .ok (.aload_n 0, 1) := by decide +kernel
theorem D82_1 : decode (byt 82) 1 = .ok (.iload_n 1, 1) := by decide +kernel
theorem D82_2 : decode (byt 82) 2 = .ok (.invokevirtual 55, 3) := by decide +kernel
theorem D82_5 : decode (byt 82) 5 = .ok (.astore 4, 2) := by decide +kernel
theorem D82_7 : decode (byt 82) 7 = .ok (.aload 4, 2) := by decide +kernel
theorem D82_9 : decode (byt 82) 9 = .ok (.ifnull 12, 3) := by decide +kernel
theorem D82_12 : decode (byt 82) 12 = .ok (.aload 4, 2) := by decide +kernel
theorem D82_14 : decode (byt 82) 14 = .ok (.iload_n 2, 1) := by decide +kernel
theorem D82_15 : decode (byt 82) 15 = .ok (.invokevirtual 81, 3) := by decide +kernel
theorem D82_18 : decode (byt 82) 18 = .ok (.ifCond .ne 10, 3) := by decide +kernel
theorem D82_21 : decode (byt 82) 21 = .ok (.aload_n 0, 1) := by decide +kernel
theorem D82_22 : decode (byt 82) 22 = .ok (.bipush (-3), 2) := by decide +kernel
theorem D82_24 : decode (byt 82) 24 = .ok (.invokevirtual 59, 3) := by decide +kernel
theorem D82_27 : decode (byt 82) 27 = .ok (.ireturn, 1) := by decide +kernel
theorem D82_28 : decode (byt 82) 28 = .ok (.iload_n 3, 1) := by decide +kernel
theorem D82_29 : decode (byt 82) 29 = .ok (.ifCond .lt 9, 3) := by decide +kernel
theorem D82_32 : decode (byt 82) 32 = .ok (.iload_n 3, 1) := by decide +kernel
theorem D82_33 : decode (byt 82) 33 = .ok (.bipush 7, 2) := by decide +kernel
theorem D82_35 : decode (byt 82) 35 = .ok (.if_icmp .le 10, 3) := by decide +kernel
theorem D82_38 : decode (byt 82) 38 = .ok (.aload_n 0, 1) := by decide +kernel
theorem D82_39 : decode (byt 82) 39 = .ok (.bipush (-7), 2) := by decide +kernel
theorem D82_41 : decode (byt 82) 41 = .ok (.invokevirtual 59, 3) := by decide +kernel
theorem D82_44 : decode (byt 82) 44 = .ok (.ireturn, 1) := by decide +kernel
theorem D82_45 : decode (byt 82) 45 = .ok (.aload 4, 2) := by decide +kernel
theorem D82_47 : decode (byt 82) 47 = .ok (.iload_n 2, 1) := by decide +kernel
theorem D82_48 : decode (byt 82) 48 = .ok (.invokevirtual 113, 3) := by decide +kernel
theorem D82_51 : decode (byt 82) 51 = .ok (.istore 5, 2) := by decide +kernel
theorem D82_53 : decode (byt 82) 53 = .ok (.aload 4, 2) := by decide +kernel
theorem D82_55 : decode (byt 82) 55 = .ok (.iload_n 2, 1) := by decide +kernel
theorem D82_56 : decode (byt 82) 56 = .ok (.iload_n 3, 1) := by decide +kernel
theorem D82_57 : decode (byt 82) 57 = .ok (.invokevirtual 116, 3) := by decide +kernel
theorem D82_60 : decode (byt 82) 60 = .ok (.iload 5, 2) := by decide +kernel
theorem D82_62 : decode (byt 82) 62 = .ok (.ireturn, 1) := by decide +kernel
theorem D83_0 : decode (byt 83) 0 = .ok (.aload_n 0, 1) := by decide +kernel
theorem D83_1 : decode (byt 83) 1 = .ok (.iload_n 1, 1) := by decide +kernel
theorem D83_2 : decode (byt 83) 2 = .ok (.invokevirtual 55, 3) := by decide +kernel
theorem D83_5 : decode (byt 83) 5 = .ok (.astore_n 3, 1) := by decide +kernel
theorem D83_6 : decode (byt 83) 6 = .ok (.aload_n 3, 1) := by decide +kernel
theorem D83_7 : decode (byt 83) 7 = .ok (.ifnonnull 10, 3) := by decide +kernel
theorem D83_10 : decode (byt 83) 10 = .ok (.aload_n 0, 1) := by decide +kernel
theorem D83_11 : decode (byt 83) 11 = .ok (.bipush (-3), 2) := by decide +kernel
theorem D83_13 : decode (byt 83) 13 = .ok (.invokevirtual 59, 3) := by decide +kernel
theorem D83_16 : decode (byt 83) 16 = .ok (.ireturn, 1) := by decide +kernel
theorem D83_17 : decode (byt 83) 17 = .ok (.iload_n 2, 1) := by decide +kernel
theorem D83_18 : decode (byt 83) 18 = .ok (.tableswitch 102 0 5 #[38, 43, 48, 67, 86, 94], 38) := by decide +kernel
theorem D83_56 : decode (byt 83) 56 = .ok (.aload_n 3, 1) := by decide +kernel
theorem D83_57 : decode (byt 83) 57 = .ok (.getfield 63, 3) := by decide +kernel
theorem D83_60 : decode (byt 83) 60 = .ok (.ireturn, 1) := by decide +kernel
theorem D83_61 : decode (byt 83) 61 = .ok (.aload_n 3, 1) := by decide +kernel
theorem D83_62 : decode (byt 83) 62 = .ok (.getfield 84, 3) := by decide +kernel
theorem D83_65 : decode (byt 83) 65 = .ok (.ireturn, 1) := by decide +kernel
theorem D83_66 : decode (byt 83) 66 = .ok (.aload_n 3, 1) := by decide +kernel
theorem D83_67 : decode (byt 83) 67 = .ok (.getfield 107, 3) := by decide +kernel
theorem D83_70 : decode (byt 83) 70 = .ok (.ifCond .eq 13, 3) := by decide +kernel
theorem D83_73 : decode (byt 83) 73 = .ok (.aload_n 3, 1) := by decide +kernel
theorem D83_74 : decode (byt 83) 74 = .ok (.getfield 120, 3) := by decide +kernel
theorem D83_77 : decode (byt 83) 77 = .ok (.getfield 124, 3) := by decide +kernel
theorem D83_80 : decode (byt 83) 80 = .ok (.goto 4, 3) := by decide +kernel
theorem D83_83 : decode (byt 83) 83 = .ok (.iconst 0, 1) := by decide +kernel
theorem D83_84 : decode (byt 83) 84 = .ok (.ireturn, 1) := by decide +kernel
theorem D83_85 : decode (byt 83) 85 = .ok (.aload_n 3, 1) := by decide +kernel
theorem D83_86 : decode (byt 83) 86 = .ok (.getfield 107, 3) := by decide +kernel
theorem D83_89 : decode (byt 83) 89 = .ok (.ifCond .eq 13, 3) := by decide +kernel
theorem D83_92 : decode (byt 83) 92 = .ok (.aload_n 3, 1) := by decide +kernel
theorem D83_93 : decode (byt 83) 93 = .ok (.getfield 120, 3) := by decide +kernel
theorem D83_96 : decode (byt 83) 96 = .ok (.getfield 129, 3) := by decide +kernel
theorem D83_99 : decode (byt 83) 99 = .ok (.goto 4, 3) := by decide +kernel
theorem D83_102 : decode (byt 83) 102 = .ok (.iconst 0, 1) := by decide +kernel
theorem D83_103 : decode (byt 83) 103 = .ok (.ireturn, 1) := by decide +kernel
theorem D83_104 : decode (byt 83) 104 = .ok (.aload_n 3, 1) := by decide +kernel
theorem D83_105 : decode (byt 83) 105 = .ok (.getfield 104, 3) := by decide +kernel
theorem D83_108 : decode (byt 83) 108 = .ok (.invokestatic 90, 3) := by decide +kernel
theorem D83_111 : decode (byt 83) 111 = .ok (.ireturn, 1) := by decide +kernel
theorem D83_112 : decode (byt 83) 112 = .ok (.aload_n 3, 1) := by decide +kernel
theorem D83_113 : decode (byt 83) 113 = .ok (.getfield 110, 3) := by decide +kernel
theorem D83_116 : decode (byt 83) 116 = .ok (.invokestatic 90, 3) := by decide +kernel
theorem D83_119 : decode (byt 83) 119 = .ok (.ireturn, 1) := by decide +kernel
theorem D83_120 : decode (byt 83) 120 = .ok (.aload_n 0, 1) := by decide +kernel
theorem D83_121 : decode (byt 83) 121 = .ok (.bipush (-7), 2) := by decide +kernel
theorem D83_123 : decode (byt 83) 123 = .ok (.invokevirtual 59, 3) := by decide +kernel
theorem D83_126 : decode (byt 83) 126 = .ok (.ireturn, 1) := by decide +kernel
theorem D84_0 : decode (byt 84) 0 = .ok (.aload_n 0, 1) := by decide +kernel
theorem D84_1 : decode (byt 84) 1 = .ok (.iload_n 1, 1) := by decide +kernel
theorem D84_2 : decode (byt 84) 2 = .ok (.invokevirtual 55, 3) := by decide +kernel
theorem D84_5 : decode (byt 84) 5 = .ok (.astore_n 2, 1) := by decide +kernel
theorem D84_6 : decode (byt 84) 6 = .ok (.aload_n 2, 1) := by decide +kernel
theorem D84_7 : decode (byt 84) 7 = .ok (.ifnonnull 10, 3) := by decide +kernel
theorem D84_10 : decode (byt 84) 10 = .ok (.aload_n 0, 1) := by decide +kernel
theorem D84_11 : decode (byt 84) 11 = .ok (.bipush (-3), 2) := by decide +kernel
theorem D84_13 : decode (byt 84) 13 = .ok (.invokevirtual 59, 3) := by decide +kernel
theorem D84_16 : decode (byt 84) 16 = .ok (.ireturn, 1) := by decide +kernel
theorem D84_17 : decode (byt 84) 17 = .ok (.aload_n 2, 1) := by decide +kernel
theorem D84_18 : decode (byt 84) 18 = .ok (.aload_n 0, 1) := by decide +kernel
theorem D84_19 : decode (byt 84) 19 = .ok (.getfield 22, 3) := by decide +kernel
theorem D84_22 : decode (byt 84) 22 = .ok (.aload_n 2, 1) := by decide +kernel
theorem D84_23 : decode (byt 84) 23 = .ok (.invokevirtual 132, 3) := by decide +kernel
theorem D84_26 : decode (byt 84) 26 = .ok (.putfield 107, 3) := by decide +kernel
theorem D84_29 : decode (byt 84) 29 = .ok (.aload_n 2, 1) := by decide +kernel
theorem D84_30 : decode (byt 84) 30 = .ok (.getfield 107, 3) := by decide +kernel
theorem D84_33 : decode (byt 84) 33 = .ok (.ifCond .ne 10, 3) := by decide +kernel
theorem D84_36 : decode (byt 84) 36 = .ok (.aload_n 0, 1) := by decide +kernel
theorem D84_37 : decode (byt 84) 37 = .ok (.bipush (-9), 2) := by decide +kernel
theorem D84_39 : decode (byt 84) 39 = .ok (.invokevirtual 59, 3) := by decide +kernel
theorem D84_42 : decode (byt 84) 42 = .ok (.ireturn, 1) := by decide +kernel
theorem D84_43 : decode (byt 84) 43 = .ok (.aload_n 2, 1) := by decide +kernel
theorem D84_44 : decode (byt 84) 44 = .ok (.getfield 120, 3) := by decide +kernel
theorem D84_47 : decode (byt 84) 47 = .ok (.getfield 124, 3) := by decide +kernel
theorem D84_50 : decode (byt 84) 50 = .ok (.ireturn, 1) := by decide +kernel
theorem D85_0 : decode (byt 85) 0 = .ok (.aload_n 0, 1) := by decide +kernel
theorem D85_1 : decode (byt 85) 1 = .ok (.iload_n 1, 1) := by decide +kernel
theorem D85_2 : decode (byt 85) 2 = .ok (.invokevirtual 55, 3) := by decide +kernel
theorem D85_5 : decode (byt 85) 5 = .ok (.astore_n 2, 1) := by decide +kernel
theorem D85_6 : decode (byt 85) 6 = .ok (.aload_n 2, 1) := by decide +kernel
theorem D85_7 : decode (byt 85) 7 = .ok (.ifnonnull 10, 3) := by decide +kernel
theorem D85_10 : decode (byt 85) 10 = .ok (.aload_n 0, 1) := by decide +kernel
theorem D85_11 : decode (byt 85) 11 = .ok (.bipush (-3), 2) := by decide +kernel
theorem D85_13 : decode (byt 85) 13 = .ok (.invokevirtual 59, 3) := by decide +kernel
theorem D85_16 : decode (byt 85) 16 = .ok (.ireturn, 1) := by decide +kernel
theorem D85_17 : decode (byt 85) 17 = .ok (.aload_n 2, 1) := by decide +kernel
theorem D85_18 : decode (byt 85) 18 = .ok (.getfield 107, 3) := by decide +kernel
theorem D85_21 : decode (byt 85) 21 = .ok (.ifCond .ne 10, 3) := by decide +kernel
theorem D85_24 : decode (byt 85) 24 = .ok (.aload_n 0, 1) := by decide +kernel
theorem D85_25 : decode (byt 85) 25 = .ok (.bipush (-2), 2) := by decide +kernel
theorem D85_27 : decode (byt 85) 27 = .ok (.invokevirtual 59, 3) := by decide +kernel
theorem D85_30 : decode (byt 85) 30 = .ok (.ireturn, 1) := by decide +kernel
theorem D85_31 : decode (byt 85) 31 = .ok (.aload_n 2, 1) := by decide +kernel
theorem D85_32 : decode (byt 85) 32 = .ok (.getfield 120, 3) := by decide +kernel
theorem D85_35 : decode (byt 85) 35 = .ok (.getfield 136, 3) := by decide +kernel
theorem D85_38 : decode (byt 85) 38 = .ok (.ireturn, 1) := by decide +kernel
theorem D86_0 : decode (byt 86) 0 = .ok (.aload_n 0, 1) := by decide +kernel
theorem D86_1 : decode (byt 86) 1 = .ok (.iload_n 1, 1) := by decide +kernel
theorem D86_2 : decode (byt 86) 2 = .ok (.invokevirtual 55, 3) := by decide +kernel
theorem D86_5 : decode (byt 86) 5 = .ok (.astore 4, 2) := by decide +kernel
theorem D86_7 : decode (byt 86) 7 = .ok (.aload 4, 2) := by decide +kernel
theorem D86_9 : decode (byt 86) 9 = .ok (.ifnonnull 10, 3) := by decide +kernel
theorem D86_12 : decode (byt 86) 12 = .ok (.aload_n 0, 1) := by decide +kernel
theorem D86_13 : decode (byt 86) 13 = .ok (.bipush (-3), 2) := by decide +kernel
theorem D86_15 : decode (byt 86) 15 = .ok (.invokevirtual 59, 3) := by decide +kernel
theorem D86_18 : decode (byt 86) 18 = .ok (.ireturn, 1) := by decide +kernel
theorem D86_19 : decode (byt 86) 19 = .ok (.aload 4, 2) := by decide +kernel
theorem D86_21 : decode (byt 86) 21 = .ok (.getfield 107, 3) := by decide +kernel
theorem D86_24 : decode (byt 86) 24 = .ok (.ifCond .ne 10, 3) := by decide +kernel
theorem D86_27 : decode (byt 86) 27 = .ok (.aload_n 0, 1) := by decide +kernel
theorem D86_28 : decode (byt 86) 28 = .ok (.bipush (-2), 2) := by decide +kernel
theorem D86_30 : decode (byt 86) 30 = .ok (.invokevirtual 59, 3) := by decide +kernel
theorem D86_33 : decode (byt 86) 33 = .ok (.ireturn, 1) := by decide +kernel
theorem D86_34 : decode (byt 86) 34 = .ok (.aload 4, 2) := by decide +kernel
theorem D86_36 : decode (byt 86) 36 = .ok (.getfield 120, 3) := by decide +kernel
theorem D86_39 : decode (byt 86) 39 = .ok (.iload_n 2, 1) := by decide +kernel
theorem D86_40 : decode (byt 86) 40 = .ok (.invokevirtual 139, 3) := by decide +kernel
theorem D86_43 : decode (byt 86) 43 = .ok (.ifCond .ne 10, 3) := by decide +kernel
theorem D86_46 : decode (byt 86) 46 = .ok (.aload_n 0, 1) := by decide +kernel
theorem D86_47 : decode (byt 86) 47 = .ok (.bipush (-3), 2) := by decide +kernel
theorem D86_49 : decode (byt 86) 49 = .ok (.invokevirtual 59, 3) := by decide +kernel
theorem D86_52 : decode (byt 86) 52 = .ok (.ireturn, 1) := by decide +kernel
theorem D86_53 : decode (byt 86) 53 = .ok (.iload_n 3, 1) := by decide +kernel
theorem D86_54 : decode (byt 86) 54 = .ok (.tableswitch 74 0 3 #[30, 41, 52, 63], 30) := by decide +kernel
theorem D86_84 : decode (byt 86) 84 = .ok (.aload 4, 2) := by decide +kernel
theorem D86_86 : decode (byt 86) 86 = .ok (.getfield 120, 3) := by decide +kernel
theorem D86_89 : decode (byt 86) 89 = .ok (.getfield 142, 3) := by decide +kernel
theorem D86_92 : decode (byt 86) 92 = .ok (.iload_n 2, 1) := by decide +kernel
theorem D86_93 : decode (byt 86) 93 = .ok (.iaload, 1) := by decide +kernel
theorem D86_94 : decode (byt 86) 94 = .ok (.ireturn, 1) := by decide +kernel
theorem D86_95 : decode (byt 86) 95 = .ok (.aload 4, 2) := by decide +kernel
theorem D86_97 : decode (byt 86) 97 = .ok (.getfield 120, 3) := by decide +kernel
theorem D86_100 : decode (byt 86) 100 = .ok (.getfield 145, 3) := by decide +kernel
theorem D86_103 : decode (byt 86) 103 = .ok (.iload_n 2, 1) := by decide +kernel
theorem D86_104 : decode (byt 86) 104 = .ok (.iaload, 1) := by decide +kernel
theorem D86_105 : decode (byt 86) 105 = .ok (.ireturn, 1) := by decide +kernel
theorem D86_106 : decode (byt 86) 106 = .ok (.aload 4, 2) := by decide +kernel
theorem D86_108 : decode (byt 86) 108 = .ok (.getfield 120, 3) := by decide +kernel
theorem D86_111 : decode (byt 86) 111 = .ok (.getfield 148, 3) := by decide +kernel
theorem D86_114 : decode (byt 86) 114 = .ok (.iload_n 2, 1) := by decide +kernel
theorem D86_115 : decode (byt 86) 115 = .ok (.iaload, 1) := by decide +kernel
theorem D86_116 : decode (byt 86) 116 = .ok (.ireturn, 1) := by decide +kernel
theorem D86_117 : decode (byt 86) 117 = .ok (.aload 4, 2) := by decide +kernel
theorem D86_119 : decode (byt 86) 119 = .ok (.getfield 120, 3) := by decide +kernel
theorem D86_122 : decode (byt 86) 122 = .ok (.getfield 151, 3) := by decide +kernel
theorem D86_125 : decode (byt 86) 125 = .ok (.iload_n 2, 1) := by decide +kernel
theorem D86_126 : decode (byt 86) 126 = .ok (.iaload, 1) := by decide +kernel
theorem D86_127 : decode (byt 86) 127 = .ok (.ireturn, 1) := by decide +kernel
theorem D86_128 : decode (byt 86) 128 = .ok (.aload_n 0, 1) := by decide +kernel
theorem D86_129 : decode (byt 86) 129 = .ok (.bipush (-7), 2) := by decide +kernel
theorem D86_131 : decode (byt 86) 131 = .ok (.invokevirtual 59, 3) := by decide +kernel
theorem D86_134 : decode (byt 86) 134 = .ok (.ireturn, 1) := by decide +kernel
theorem D87_0 : decode (byt 87) 0 = .ok (.aload_n 0, 1) := by decide +kernel
theorem D87_1 : decode (byt 87) 1 = .ok (.iload_n 1, 1) := by decide +kernel
theorem D87_2 : decode (byt 87) 2 = .ok (.invokevirtual 55, 3) := by decide +kernel
theorem D87_5 : decode (byt 87) 5 = .ok (.astore 4, 2) := by decide +kernel
theorem D87_7 : decode (byt 87) 7 = .ok (.aload 4, 2) := by decide +kernel
theorem D87_9 : decode (byt 87) 9 = .ok (.ifnonnull 10, 3) := by decide +kernel
theorem D87_12 : decode (byt 87) 12 = .ok (.aload_n 0, 1) := by decide +kernel
theorem D87_13 : decode (byt 87) 13 = .ok (.bipush (-3), 2) := by decide +kernel
theorem D87_15 : decode (byt 87) 15 = .ok (.invokevirtual 59, 3) := by decide +kernel
theorem D87_18 : decode (byt 87) 18 = .ok (.ireturn, 1) := by decide +kernel
theorem D87_19 : decode (byt 87) 19 = .ok (.aload 4, 2) := by decide +kernel
theorem D87_21 : decode (byt 87) 21 = .ok (.getfield 107, 3) := by decide +kernel
theorem D87_24 : decode (byt 87) 24 = .ok (.ifCond .ne 10, 3) := by decide +kernel
theorem D87_27 : decode (byt 87) 27 = .ok (.aload_n 0, 1) := by decide +kernel
theorem D87_28 : decode (byt 87) 28 = .ok (.bipush (-2), 2) := by decide +kernel
theorem D87_30 : decode (byt 87) 30 = .ok (.invokevirtual 59, 3) := by decide +kernel
theorem D87_33 : decode (byt 87) 33 = .ok (.ireturn, 1) := by decide +kernel
theorem D87_34 : decode (byt 87) 34 = .ok (.aload 4, 2) := by decide +kernel
theorem D87_36 : decode (byt 87) 36 = .ok (.getfield 120, 3) := by decide +kernel
theorem D87_39 : decode (byt 87) 39 = .ok (.iload_n 2, 1) := by decide +kernel
theorem D87_40 : decode (byt 87) 40 = .ok (.invokevirtual 139, 3) := by decide +kernel
theorem D87_43 : decode (byt 87) 43 = .ok (.ifCond .ne 10, 3) := by decide +kernel
theorem D87_46 : decode (byt 87) 46 = .ok (.aload_n 0, 1) := by decide +kernel
theorem D87_47 : decode (byt 87) 47 = .ok (.bipush (-3), 2) := by decide +kernel
theorem D87_49 : decode (byt 87) 49 = .ok (.invokevirtual 59, 3) := by decide +kernel
theorem D87_52 : decode (byt 87) 52 = .ok (.ireturn, 1) := by decide +kernel
theorem D87_53 : decode (byt 87) 53 = .ok (.aload 4, 2) := by decide +kernel
theorem D87_55 : decode (byt 87) 55 = .ok (.getfield 120, 3) := by decide +kernel
theorem D87_58 : decode (byt 87) 58 = .ok (.getfield 148, 3) := by decide +kernel
theorem D87_61 : decode (byt 87) 61 = .ok (.iload_n 2, 1) := by decide +kernel
theorem D87_62 : decode (byt 87) 62 = .ok (.iaload, 1) := by decide +kernel
theorem D87_63 : decode (byt 87) 63 = .ok (.ifCond .ne 10, 3) := by decide +kernel
theorem D87_66 : decode (byt 87) 66 = .ok (.aload_n 0, 1) := by decide +kernel
theorem D87_67 : decode (byt 87) 67 = .ok (.bipush (-5), 2) := by decide +kernel
theorem D87_69 : decode (byt 87) 69 = .ok (.invokevirtual 59, 3) := by decide +kernel
theorem D87_72 : decode (byt 87) 72 = .ok (.ireturn, 1) := by decide +kernel
theorem D87_73 : decode (byt 87) 73 = .ok (.iload_n 3, 1) := by decide +kernel
theorem D87_74 : decode (byt 87) 74 = .ok (.ifCond .lt 17, 3) := by decide +kernel
theorem D87_77 : decode (byt 87) 77 = .ok (.iload_n 3, 1) := by decide +kernel
theorem D87_78 : decode (byt 87) 78 = .ok (.aload 4, 2) := by decide +kernel
theorem D87_80 : decode (byt 87) 80 = .ok (.getfield 120, 3) := by decide +kernel
theorem D87_83 : decode (byt 87) 83 = .ok (.getfield 148, 3) := by decide +kernel
theorem D87_86 : decode (byt 87) 86 = .ok (.iload_n 2, 1) := by decide +kernel
theorem D87_87 : decode (byt 87) 87 = .ok (.iaload, 1) := by decide +kernel
theorem D87_88 : decode (byt 87) 88 = .ok (.if_icmp .lt 10, 3) := by decide +kernel
theorem D87_91 : decode (byt 87) 91 = .ok (.aload_n 0, 1) := by decide +kernel
theorem D87_92 : decode (byt 87) 92 = .ok (.bipush (-3), 2) := by decide +kernel
theorem D87_94 : decode (byt 87) 94 = .ok (.invokevirtual 59, 3) := by decide +kernel
theorem D87_97 : decode (byt 87) 97 = .ok (.ireturn, 1) := by decide +kernel
theorem D87_98 : decode (byt 87) 98 = .ok (.aload 4, 2) := by decide +kernel
theorem D87_100 : decode (byt 87) 100 = .ok (.getfield 120, 3) := by decide +kernel
theorem D87_103 : decode (byt 87) 103 = .ok (.iload_n 2, 1) := by decide +kernel
theorem D87_104 : decode (byt 87) 104 = .ok (.iload_n 3, 1) := by decide +kernel
theorem D87_105 : decode (byt 87) 105 = .ok (.invokevirtual 154, 3) := by decide +kernel
theorem D87_108 : decode (byt 87) 108 = .ok (.ireturn, 1) := by decide +kernel
theorem D88_0 : decode (byt 88) 0 = .ok (.aload_n 0, 1) := by decide +kernel
theorem D88_1 : decode (byt 88) 1 = .ok (.iload_n 1, 1) := by decide +kernel
theorem D88_2 : decode (byt 88) 2 = .ok (.invokevirtual 55, 3) := by decide +kernel
theorem D88_5 : decode (byt 88) 5 = .ok (.astore 5, 2) := by decide +kernel
theorem D88_7 : decode (byt 88) 7 = .ok (.aload 5, 2) := by decide +kernel
theorem D88_9 : decode (byt 88) 9 = .ok (.ifnonnull 10, 3) := by decide +kernel
theorem D88_12 : decode (byt 88) 12 = .ok (.aload_n 0, 1) := by decide +kernel
theorem D88_13 : decode (byt 88) 13 = .ok (.bipush (-3), 2) := by decide +kernel
theorem D88_15 : decode (byt 88) 15 = .ok (.invokevirtual 59, 3) := by decide +kernel
theorem D88_18 : decode (byt 88) 18 = .ok (.ireturn, 1) := by decide +kernel
theorem D88_19 : decode (byt 88) 19 = .ok (.aload 5, 2) := by decide +kernel
theorem D88_21 : decode (byt 88) 21 = .ok (.getfield 107, 3) := by decide +kernel
theorem D88_24 : decode (byt 88) 24 = .ok (.ifCond .ne 10, 3) := by decide +kernel
theorem D88_27 : decode (byt 88) 27 = .ok (.aload_n 0, 1) := by decide +kernel
theorem D88_28 : decode (byt 88) 28 = .ok (.bipush (-2), 2) := by decide +kernel
theorem D88_30 : decode (byt 88) 30 = .ok (.invokevirtual 59, 3) := by decide +kernel
theorem D88_33 : decode (byt 88) 33 = .ok (.ireturn, 1) := by decide +kernel
theorem D88_34 : decode (byt 88) 34 = .ok (.aload 5, 2) := by decide +kernel
theorem D88_36 : decode (byt 88) 36 = .ok (.getfield 120, 3) := by decide +kernel
theorem D88_39 : decode (byt 88) 39 = .ok (.iload_n 2, 1) := by decide +kernel
theorem D88_40 : decode (byt 88) 40 = .ok (.invokevirtual 139, 3) := by decide +kernel
theorem D88_43 : decode (byt 88) 43 = .ok (.ifCond .ne 10, 3) := by decide +kernel
theorem D88_46 : decode (byt 88) 46 = .ok (.aload_n 0, 1) := by decide +kernel
theorem D88_47 : decode (byt 88) 47 = .ok (.bipush (-3), 2) := by decide +kernel
theorem D88_49 : decode (byt 88) 49 = .ok (.invokevirtual 59, 3) := by decide +kernel
theorem D88_52 : decode (byt 88) 52 = .ok (.ireturn, 1) := by decide +kernel
theorem D88_53 : decode (byt 88) 53 = .ok (.aload 5, 2) := by decide +kernel
theorem D88_55 : decode (byt 88) 55 = .ok (.getfield 120, 3) := by decide +kernel
theorem D88_58 : decode (byt 88) 58 = .ok (.getfield 148, 3) := by decide +kernel
theorem D88_61 : decode (byt 88) 61 = .ok (.iload_n 2, 1) := by decide +kernel
theorem D88_62 : decode (byt 88) 62 = .ok (.iaload, 1) := by decide +kernel
theorem D88_63 : decode (byt 88) 63 = .ok (.ifCond .ne 10, 3) := by decide +kernel
theorem D88_66 : decode (byt 88) 66 = .ok (.aload_n 0, 1) := by decide +kernel
theorem D88_67 : decode (byt 88) 67 = .ok (.bipush (-5), 2) := by decide +kernel
theorem D88_69 : decode (byt 88) 69 = .ok (.invokevirtual 59, 3) := by decide +kernel
theorem D88_72 : decode (byt 88) 72 = .ok (.ireturn, 1) := by decide +kernel
theorem D88_73 : decode (byt 88) 73 = .ok (.iload_n 3, 1) := by decide +kernel
theorem D88_74 : decode (byt 88) 74 = .ok (.ifCond .lt 28, 3) := by decide +kernel
theorem D88_77 : decode (byt 88) 77 = .ok (.iload_n 3, 1) := by decide +kernel
theorem D88_78 : decode (byt 88) 78 = .ok (.aload 5, 2) := by decide +kernel
theorem D88_80 : decode (byt 88) 80 = .ok (.getfield 120, 3) := by decide +kernel
theorem D88_83 : decode (byt 88) 83 = .ok (.getfield 148, 3) := by decide +kernel
theorem D88_86 : decode (byt 88) 86 = .ok (.iload_n 2, 1) := by decide +kernel
theorem D88_87 : decode (byt 88) 87 = .ok (.iaload, 1) := by decide +kernel
theorem D88_88 : decode (byt 88) 88 = .ok (.if_icmp .ge 14, 3) := by decide +kernel
theorem D88_91 : decode (byt 88) 91 = .ok (.iload 4, 2) := by decide +kernel
theorem D88_93 : decode (byt 88) 93 = .ok (.ifCond .lt 9, 3) := by decide +kernel
theorem D88_96 : decode (byt 88) 96 = .ok (.iload 4, 2) := by decide +kernel
theorem D88_98 : decode (byt 88) 98 = .ok (.iload_n 2, 1) := by decide +kernel
theorem D88_99 : decode (byt 88) 99 = .ok (.if_icmp .lt 10, 3) := by decide +kernel
theorem D88_102 : decode (byt 88) 102 = .ok (.aload_n 0, 1) := by decide +kernel
theorem D88_103 : decode (byt 88) 103 = .ok (.bipush (-3), 2) := by decide +kernel
theorem D88_105 : decode (byt 88) 105 = .ok (.invokevirtual 59, 3) := by decide +kernel
theorem D88_108 : decode (byt 88) 108 = .ok (.ireturn, 1) := by decide +kernel
theorem D88_109 : decode (byt 88) 109 = .ok (.aload 5, 2) := by decide +kernel
theorem D88_111 : decode (byt 88) 111 = .ok (.getfield 120, 3) := by decide +kernel
theorem D88_114 : decode (byt 88) 114 = .ok (.iload_n 2, 1) := by decide +kernel
theorem D88_115 : decode (byt 88) 115 = .ok (.iload_n 3, 1) := by decide +kernel
theorem D88_116 : decode (byt 88) 116 = .ok (.invokevirtual 154, 3) := by decide +kernel
theorem D88_119 : decode (byt 88) 119 = .ok (.istore 6, 2) := by decide +kernel
theorem D88_121 : decode (byt 88) 121 = .ok (.aload 5, 2) := by decide +kernel
theorem D88_123 : decode (byt 88) 123 = .ok (.getfield 120, 3) := by decide +kernel
theorem D88_126 : decode (byt 88) 126 = .ok (.iload_n 2, 1) := by decide +kernel
theorem D88_127 : decode (byt 88) 127 = .ok (.iload_n 3, 1) := by decide +kernel
theorem D88_128 : decode (byt 88) 128 = .ok (.iload 4, 2) := by decide +kernel
theorem D88_130 : decode (byt 88) 130 = .ok (.invokevirtual 158, 3) := by decide +kernel
theorem D88_133 : decode (byt 88) 133 = .ok (.iload 6, 2) := by decide +kernel
theorem D88_135 : decode (byt 88) 135 = .ok (.ireturn, 1) := by decide +kernel
theorem D89_0 : decode (byt 89) 0 = .ok (.aload_n 0, 1) := by decide +kernel
theorem D89_1 : decode (byt 89) 1 = .ok (.iload_n 1, 1) := by decide +kernel
theorem D89_2 : decode (byt 89) 2 = .ok (.invokevirtual 55, 3) := by decide +kernel
theorem D89_5 : decode (byt 89) 5 = .ok (.astore_n 2, 1) := by decide +kernel
theorem D89_6 : decode (byt 89) 6 = .ok (.aload_n 2, 1) := by decide +kernel
theorem D89_7 : decode (byt 89) 7 = .ok (.ifnonnull 10, 3) := by decide +kernel
theorem D89_10 : decode (byt 89) 10 = .ok (.aload_n 0, 1) := by decide +kernel
theorem D89_11 : decode (byt 89) 11 = .ok (.bipush (-3), 2) := by decide +kernel
theorem D89_13 : decode (byt 89) 13 = .ok (.invokevirtual 59, 3) := by decide +kernel
theorem D89_16 : decode (byt 89) 16 = .ok (.ireturn, 1) := by decide +kernel
theorem D89_17 : decode (byt 89) 17 = .ok (.aload_n 2, 1) := by decide +kernel
theorem D89_18 : decode (byt 89) 18 = .ok (.getfield 107, 3) := by decide +kernel
theorem D89_21 : decode (byt 89) 21 = .ok (.ifCond .ne 10, 3) := by decide +kernel
theorem D89_24 : decode (byt 89) 24 = .ok (.aload_n 0, 1) := by decide +kernel
theorem D89_25 : decode (byt 89) 25 = .ok (.bipush (-2), 2) := by decide +kernel
theorem D89_27 : decode (byt 89) 27 = .ok (.invokevirtual 59, 3) := by decide +kernel
theorem D89_30 : decode (byt 89) 30 = .ok (.ireturn, 1) := by decide +kernel
theorem D89_31 : decode (byt 89) 31 = .ok (.aload_n 0, 1) := by decide +kernel
theorem D89_32 : decode (byt 89) 32 = .ok (.aload_n 2, 1) := by decide +kernel
theorem D89_33 : decode (byt 89) 33 = .ok (.getfield 120, 3) := by decide +kernel
theorem D89_36 : decode (byt 89) 36 = .ok (.invokevirtual 162, 3) := by decide +kernel
theorem D89_39 : decode (byt 89) 39 = .ok (.putfield 52, 3) := by decide +kernel
theorem D89_42 : decode (byt 89) 42 = .ok (.aload_n 0, 1) := by decide +kernel
theorem D89_43 : decode (byt 89) 43 = .ok (.getfield 52, 3) := by decide +kernel
theorem D89_46 : decode (byt 89) 46 = .ok (.iconst (-1), 1) := by decide +kernel
theorem D89_47 : decode (byt 89) 47 = .ok (.if_icmp .eq 5, 3) := by decide +kernel
theorem D89_50 : decode (byt 89) 50 = .ok (.iconst 1, 1) := by decide +kernel
theorem D89_51 : decode (byt 89) 51 = .ok (.ireturn, 1) := by decide +kernel
theorem D89_52 : decode (byt 89) 52 = .ok (.aload_n 0, 1) := by decide +kernel
theorem D89_53 : decode (byt 89) 53 = .ok (.aload_n 2, 1) := by decide +kernel
theorem D89_54 : decode (byt 89) 54 = .ok (.getfield 120, 3) := by decide +kernel
theorem D89_57 : decode (byt 89) 57 = .ok (.invokevirtual 166, 3) := by decide +kernel
theorem D89_60 : decode (byt 89) 60 = .ok (.putfield 52, 3) := by decide +kernel
theorem D89_63 : decode (byt 89) 63 = .ok (.aload_n 0, 1) := by decide +kernel
theorem D89_64 : decode (byt 89) 64 = .ok (.getfield 52, 3) := by decide +kernel
theorem D89_67 : decode (byt 89) 67 = .ok (.iconst (-1), 1) := by decide +kernel
theorem D89_68 : decode (byt 89) 68 = .ok (.if_icmp .eq 5, 3) := by decide +kernel
theorem D89_71 : decode (byt 89) 71 = .ok (.iconst 2, 1) := by decide +kernel
theorem D89_72 : decode (byt 89) 72 = .ok (.ireturn, 1) := by decide +kernel
theorem D89_73 : decode (byt 89) 73 = .ok (.aload_n 0, 1) := by decide +kernel
theorem D89_74 : decode (byt 89) 74 = .ok (.aload_n 2, 1) := by decide +kernel
theorem D89_75 : decode (byt 89) 75 = .ok (.invokevirtual 169, 3) := by decide +kernel
theorem D89_78 : decode (byt 89) 78 = .ok (.putfield 52, 3) := by decide +kernel
theorem D89_81 : decode (byt 89) 81 = .ok (.aload_n 0, 1) := by decide +kernel
theorem D89_82 : decode (byt 89) 82 = .ok (.getfield 52, 3) := by decide +kernel
theorem D89_85 : decode (byt 89) 85 = .ok (.iconst (-1), 1) := by decide +kernel
theorem D89_86 : decode (byt 89) 86 = .ok (.if_icmp .ne 7, 3) := by decide +kernel
theorem D89_89 : decode (byt 89) 89 = .ok (.iconst 0, 1) := by decide +kernel
theorem D89_90 : decode (byt 89) 90 = .ok (.goto 4, 3) := by decide +kernel
theorem D89_93 : decode (byt 89) 93 = .ok (.iconst 3, 1) := by decide +kernel
theorem D89_94 : decode (byt 89) 94 = .ok (.ireturn, 1) := by decide +kernel
theorem D90_0 : decode (byt 90) 0 = .ok (.aload_n 0, 1) := by decide +kernel
theorem D90_1 : decode (byt 90) 1 = .ok (.getfield 52, 3) := by decide +kernel
theorem D90_4 : decode (byt 90) 4 = .ok (.ireturn, 1) := by decide +kernel
theorem D91_0 : decode (byt 91) 0 = .ok (.aload_n 0, 1) := by decide +kernel
theorem D91_1 : decode (byt 91) 1 = .ok (.iload_n 1, 1) := by decide +kernel
theorem D91_2 : decode (byt 91) 2 = .ok (.invokevirtual 55, 3) := by decide +kernel
theorem D91_5 : decode (byt 91) 5 = .ok (.astore_n 2, 1) := by decide +kernel
theorem D91_6 : decode (byt 91) 6 = .ok (.aload_n 2, 1) := by decide +kernel
theorem D91_7 : decode (byt 91) 7 = .ok (.ifnonnull 10, 3) := by decide +kernel
theorem D91_10 : decode (byt 91) 10 = .ok (.aload_n 0, 1) := by decide +kernel
theorem D91_11 : decode (byt 91) 11 = .ok (.bipush (-3), 2) := by decide +kernel
theorem D91_13 : decode (byt 91) 13 = .ok (.invokevirtual 59, 3) := by decide +kernel
theorem D91_16 : decode (byt 91) 16 = .ok (.ireturn, 1) := by decide +kernel
theorem D91_17 : decode (byt 91) 17 = .ok (.aload_n 2, 1) := by decide +kernel
theorem D91_18 : decode (byt 91) 18 = .ok (.getfield 107, 3) := by decide +kernel
theorem D91_21 : decode (byt 91) 21 = .ok (.ifCond .ne 10, 3) := by decide +kernel
theorem D91_24 : decode (byt 91) 24 = .ok (.aload_n 0, 1) := by decide +kernel
theorem D91_25 : decode (byt 91) 25 = .ok (.bipush (-2), 2) := by decide +kernel
theorem D91_27 : decode (byt 91) 27 = .ok (.invokevirtual 59, 3) := by decide +kernel
theorem D91_30 : decode (byt 91) 30 = .ok (.ireturn, 1) := by decide +kernel
theorem D91_31 : decode (byt 91) 31 = .ok (.aload_n 2, 1) := by decide +kernel
theorem D91_32 : decode (byt 91) 32 = .ok (.invokevirtual 172, 3) := by decide +kernel
theorem D91_35 : decode (byt 91) 35 = .ok (.invokevirtual 176, 3) := by decide +kernel
theorem D91_38 : decode (byt 91) 38 = .ok (.ireturn, 1) := by decide +kernel
theorem D92_0 : decode (byt 92) 0 = .ok (.aload_n 0, 1) := by decide +kernel
theorem D92_1 : decode (byt 92) 1 = .ok (.iload_n 1, 1) := by decide +kernel
theorem D92_2 : decode (byt 92) 2 = .ok (.invokevirtual 55, 3) := by decide +kernel
theorem D92_5 : decode (byt 92) 5 = .ok (.astore_n 3, 1) := by decide +kernel
theorem D92_6 : decode (byt 92) 6 = .ok (.aload_n 3, 1) := by decide +kernel
theorem D92_7 : decode (byt 92) 7 = .ok (.ifnonnull 10, 3) := by decide +kernel
theorem D92_10 : decode (byt 92) 10 = .ok (.aload_n 0, 1) := by decide +kernel
theorem D92_11 : decode (byt 92) 11 = .ok (.bipush (-3), 2) := by decide +kernel
theorem D92_13 : decode (byt 92) 13 = .ok (.invokevirtual 59, 3) := by decide +kernel
theorem D92_16 : decode (byt 92) 16 = .ok (.ireturn, 1) := by decide +kernel
theorem D92_17 : decode (byt 92) 17 = .ok (.aload_n 3, 1) := by decide +kernel
theorem D92_18 : decode (byt 92) 18 = .ok (.getfield 107, 3) := by decide +kernel
theorem D92_21 : decode (byt 92) 21 = .ok (.ifCond .ne 10, 3) := by decide +kernel
theorem D92_24 : decode (byt 92) 24 = .ok (.aload_n 0, 1) := by decide +kernel
theorem D92_25 : decode (byt 92) 25 = .ok (.bipush (-2), 2) := by decide +kernel
theorem D92_27 : decode (byt 92) 27 = .ok (.invokevirtual 59, 3) := by decide +kernel
theorem D92_30 : decode (byt 92) 30 = .ok (.ireturn, 1) := by decide +kernel
theorem D92_31 : decode (byt 92) 31 = .ok (.iload_n 2, 1) := by decide +kernel
theorem D92_32 : decode (byt 92) 32 = .ok (.ifCond .lt 11, 3) := by decide +kernel
theorem D92_35 : decode (byt 92) 35 = .ok (.iload_n 2, 1) := by decide +kernel
theorem D92_36 : decode (byt 92) 36 = .ok (.aload_n 3, 1) := by decide +kernel
theorem D92_37 : decode (byt 92) 37 = .ok (.invokevirtual 179, 3) := by decide +kernel
theorem D92_40 : decode (byt 92) 40 = .ok (.if_icmp .lt 10, 3) := by decide +kernel
theorem D92_43 : decode (byt 92) 43 = .ok (.aload_n 0, 1) := by decide +kernel
theorem D92_44 : decode (byt 92) 44 = .ok (.bipush (-3), 2) := by decide +kernel
theorem D92_46 : decode (byt 92) 46 = .ok (.invokevirtual 59, 3) := by decide +kernel
theorem D92_49 : decode (byt 92) 49 = .ok (.ireturn, 1) := by decide +kernel
theorem D92_50 : decode (byt 92) 50 = .ok (.aload_n 3, 1) := by decide +kernel
theorem D92_51 : decode (byt 92) 51 = .ok (.invokevirtual 172, 3) := by decide +kernel
theorem D92_54 : decode (byt 92) 54 = .ok (.iload_n 2, 1) := by decide +kernel
theorem D92_55 : decode (byt 92) 55 = .ok (.invokevirtual 182, 3) := by decide +kernel
theorem D92_58 : decode (byt 92) 58 = .ok (.ifCond .eq 7, 3) := by decide +kernel
theorem D92_61 : decode (byt 92) 61 = .ok (.iconst 1, 1) := by decide +kernel
theorem D92_62 : decode (byt 92) 62 = .ok (.goto 4, 3) := by decide +kernel
theorem D92_65 : decode (byt 92) 65 = .ok (.iconst 0, 1) := by decide +kernel
theorem D92_66 : decode (byt 92) 66 = .ok (.ireturn, 1) := by decide +kernel
theorem D93_0 : decode (byt 93) 0 = .ok (.aload_n 0, 1) := by decide +kernel
theorem D93_1 : decode (byt 93) 1 = .ok (.iload_n 1, 1) := by decide +kernel
theorem D93_2 : decode (byt 93) 2 = .ok (.invokevirtual 55, 3) := by decide +kernel
theorem D93_5 : decode (byt 93) 5 = .ok (.astore_n 2, 1) := by decide +kernel
theorem D93_6 : decode (byt 93) 6 = .ok (.aload_n 2, 1) := by decide +kernel
theorem D93_7 : decode (byt 93) 7 = .ok (.ifnonnull 10, 3) := by decide +kernel
theorem D93_10 : decode (byt 93) 10 = .ok (.aload_n 0, 1) := by decide +kernel
theorem D93_11 : decode (byt 93) 11 = .ok (.bipush (-3), 2) := by decide +kernel
theorem D93_13 : decode (byt 93) 13 = .ok (.invokevirtual 185, 3) := by decide +kernel
theorem D93_16 : decode (byt 93) 16 = .ok (.lreturn, 1) := by decide +kernel
theorem D93_17 : decode (byt 93) 17 = .ok (.aload_n 2, 1) := by decide +kernel
theorem D93_18 : decode (byt 93) 18 = .ok (.getfield 107, 3) := by decide +kernel
theorem D93_21 : decode (byt 93) 21 = .ok (.ifCond .ne 10, 3) := by decide +kernel
theorem D93_24 : decode (byt 93) 24 = .ok (.aload_n 0, 1) := by decide +kernel
theorem D93_25 : decode (byt 93) 25 = .ok (.bipush (-2), 2) := by decide +kernel
theorem D93_27 : decode (byt 93) 27 = .ok (.invokevirtual 185, 3) := by decide +kernel
theorem D93_30 : decode (byt 93) 30 = .ok (.lreturn, 1) := by decide +kernel
theorem D93_31 : decode (byt 93) 31 = .ok (.aload_n 2, 1) := by decide +kernel
theorem D93_32 : decode (byt 93) 32 = .ok (.aload_n 0, 1) := by decide +kernel
theorem D93_33 : decode (byt 93) 33 = .ok (.getfield 26, 3) := by decide +kernel
theorem D93_36 : decode (byt 93) 36 = .ok (.invokevirtual 189, 3) := by decide +kernel
theorem D93_39 : decode (byt 93) 39 = .ok (.aload_n 0, 1) := by decide +kernel
theorem D93_40 : decode (byt 93) 40 = .ok (.aload_n 2, 1) := by decide +kernel
theorem D93_41 : decode (byt 93) 41 = .ok (.invokevirtual 172, 3) := by decide +kernel
theorem D93_44 : decode (byt 93) 44 = .ok (.invokevirtual 193, 3) := by decide +kernel
theorem D93_47 : decode (byt 93) 47 = .ok (.lreturn, 1) := by decide +kernel
theorem D94_0 : decode (byt 94) 0 = .ok (.aload_n 0, 1) := by decide +kernel
theorem D94_1 : decode (byt 94) 1 = .ok (.iload_n 1, 1) := by decide +kernel
theorem D94_2 : decode (byt 94) 2 = .ok (.invokevirtual 55, 3) := by decide +kernel
theorem D94_5 : decode (byt 94) 5 = .ok (.astore 4, 2) := by decide +kernel
theorem D94_7 : decode (byt 94) 7 = .ok (.aload 4, 2) := by decide +kernel
theorem D94_9 : decode (byt 94) 9 = .ok (.ifnull 12, 3) := by decide +kernel
theorem D94_12 : decode (byt 94) 12 = .ok (.aload 4, 2) := by decide +kernel
theorem D94_14 : decode (byt 94) 14 = .ok (.iload_n 2, 1) := by decide +kernel
theorem D94_15 : decode (byt 94) 15 = .ok (.invokevirtual 81, 3) := by decide +kernel
theorem D94_18 : decode (byt 94) 18 = .ok (.ifCond .ne 10, 3) := by decide +kernel
theorem D94_21 : decode (byt 94) 21 = .ok (.aload_n 0, 1) := by decide +kernel
theorem D94_22 : decode (byt 94) 22 = .ok (.bipush (-3), 2) := by decide +kernel
theorem D94_24 : decode (byt 94) 24 = .ok (.invokevirtual 185, 3) := by decide +kernel
theorem D94_27 : decode (byt 94) 27 = .ok (.lreturn, 1) := by decide +kernel
theorem D94_28 : decode (byt 94) 28 = .ok (.aload 4, 2) := by decide +kernel
theorem D94_30 : decode (byt 94) 30 = .ok (.getfield 107, 3) := by decide +kernel
theorem D94_33 : decode (byt 94) 33 = .ok (.ifCond .ne 10, 3) := by decide +kernel
theorem D94_36 : decode (byt 94) 36 = .ok (.aload_n 0, 1) := by decide +kernel
theorem D94_37 : decode (byt 94) 37 = .ok (.bipush (-2), 2) := by decide +kernel
theorem D94_39 : decode (byt 94) 39 = .ok (.invokevirtual 185, 3) := by decide +kernel
theorem D94_42 : decode (byt 94) 42 = .ok (.lreturn, 1) := by decide +kernel
theorem D94_43 : decode (byt 94) 43 = .ok (.aload 4, 2) := by decide +kernel
theorem D94_45 : decode (byt 94) 45 = .ok (.aload_n 0, 1) := by decide +kernel
theorem D94_46 : decode (byt 94) 46 = .ok (.getfield 26, 3) := by decide +kernel
theorem D94_49 : decode (byt 94) 49 = .ok (.invokevirtual 189, 3) := by decide +kernel
theorem D94_52 : decode (byt 94) 52 = .ok (.aload 4, 2) := by decide +kernel
theorem D94_54 : decode (byt 94) 54 = .ok (.invokevirtual 172, 3) := by decide +kernel
theorem D94_57 : decode (byt 94) 57 = .ok (.astore 5, 2) := by decide +kernel
theorem D94_59 : decode (byt 94) 59 = .ok (.aload_n 0, 1) := by decide +kernel
theorem D94_60 : decode (byt 94) 60 = .ok (.aload 5, 2) := by decide +kernel
theorem D94_62 : decode (byt 94) 62 = .ok (.invokevirtual 193, 3) := by decide +kernel
theorem D94_65 : decode (byt 94) 65 = .ok (.lstore 6, 2) := by decide +kernel
theorem D94_67 : decode (byt 94) 67 = .ok (.lload 6, 2) := by decide +kernel
theorem D94_69 : decode (byt 94) 69 = .ok (.lconst 0, 1) := by decide +kernel
theorem D94_70 : decode (byt 94) 70 = .ok (.lcmp, 1) := by decide +kernel
theorem D94_71 : decode (byt 94) 71 = .ok (.ifCond .ne 10, 3) := by decide +kernel
theorem D94_74 : decode (byt 94) 74 = .ok (.aload_n 0, 1) := by decide +kernel
theorem D94_75 : decode (byt 94) 75 = .ok (.bipush (-7), 2) := by decide +kernel
theorem D94_77 : decode (byt 94) 77 = .ok (.invokevirtual 185, 3) := by decide +kernel
theorem D94_80 : decode (byt 94) 80 = .ok (.lreturn, 1) := by decide +kernel
theorem D94_81 : decode (byt 94) 81 = .ok (.aload 5, 2) := by decide +kernel
theorem D94_83 : decode (byt 94) 83 = .ok (.iload_n 2, 1) := by decide +kernel
theorem D94_84 : decode (byt 94) 84 = .ok (.invokevirtual 197, 3) := by decide +kernel
theorem D94_87 : decode (byt 94) 87 = .ok (.aload_n 0, 1) := by decide +kernel
theorem D94_88 : decode (byt 94) 88 = .ok (.aload 5, 2) := by decide +kernel
theorem D94_90 : decode (byt 94) 90 = .ok (.invokevirtual 193, 3) := by decide +kernel
theorem D94_93 : decode (byt 94) 93 = .ok (.lstore 8, 2) := by decide +kernel
theorem D94_95 : decode (byt 94) 95 = .ok (.lload 6, 2) := by decide +kernel
theorem D94_97 : decode (byt 94) 97 = .ok (.lload 8, 2) := by decide +kernel
theorem D94_99 : decode (byt 94) 99 = .ok (.invokestatic 200, 3) := by decide +kernel
theorem D94_102 : decode (byt 94) 102 = .ok (.lstore 10, 2) := by decide +kernel
theorem D94_104 : decode (byt 94) 104 = .ok (.lload 10, 2) := by decide +kernel
theorem D94_106 : decode (byt 94) 106 = .ok (.lconst 0, 1) := by decide +kernel
theorem D94_107 : decode (byt 94) 107 = .ok (.lcmp, 1) := by decide +kernel
theorem D94_108 : decode (byt 94) 108 = .ok (.ifCond .ne 5, 3) := by decide +kernel
theorem D94_111 : decode (byt 94) 111 = .ok (.lconst 0, 1) := by decide +kernel
theorem D94_112 : decode (byt 94) 112 = .ok (.lreturn, 1) := by decide +kernel
theorem D94_113 : decode (byt 94) 113 = .ok (.iload_n 3, 1) := by decide +kernel
theorem D94_114 : decode (byt 94) 114 = .ok (.ifCond .eq 8, 3) := by decide +kernel
theorem D94_117 : decode (byt 94) 117 = .ok (.lload 6, 2) := by decide +kernel
theorem D94_119 : decode (byt 94) 119 = .ok (.goto 5, 3) := by decide +kernel
theorem D94_122 : decode (byt 94) 122 = .ok (.lload 8, 2) := by decide +kernel
theorem D94_124 : decode (byt 94) 124 = .ok (.lload 10, 2) := by decide +kernel
theorem D94_126 : decode (byt 94) 126 = .ok (.ldiv, 1) := by decide +kernel
theorem D94_127 : decode (byt 94) 127 = .ok (.lreturn, 1) := by decide +kernel
theorem D95_0 : decode (byt 95) 0 = .ok (.aload_n 0, 1) := by decide +kernel
theorem D95_1 : decode (byt 95) 1 = .ok (.iload_n 1, 1) := by decide +kernel
theorem D95_2 : decode (byt 95) 2 = .ok (.invokevirtual 55, 3) := by decide +kernel
theorem D95_5 : decode (byt 95) 5 = .ok (.astore_n 3, 1) := by decide +kernel
theorem D95_6 : decode (byt 95) 6 = .ok (.aload_n 3, 1) := by decide +kernel
theorem D95_7 : decode (byt 95) 7 = .ok (.ifnull 11, 3) := by decide +kernel
theorem D95_10 : decode (byt 95) 10 = .ok (.aload_n 3, 1) := by decide +kernel
theorem D95_11 : decode (byt 95) 11 = .ok (.iload_n 2, 1) := by decide +kernel
theorem D95_12 : decode (byt 95) 12 = .ok (.invokevirtual 81, 3) := by decide +kernel
theorem D95_15 : decode (byt 95) 15 = .ok (.ifCond .ne 10, 3) := by decide +kernel
theorem D95_18 : decode (byt 95) 18 = .ok (.aload_n 0, 1) := by decide +kernel
theorem D95_19 : decode (byt 95) 19 = .ok (.bipush (-3), 2) := by decide +kernel
theorem D95_21 : decode (byt 95) 21 = .ok (.invokevirtual 59, 3) := by decide +kernel
theorem D95_24 : decode (byt 95) 24 = .ok (.ireturn, 1) := by decide +kernel
theorem D95_25 : decode (byt 95) 25 = .ok (.aload_n 3, 1) := by decide +kernel
theorem D95_26 : decode (byt 95) 26 = .ok (.getfield 107, 3) := by decide +kernel
theorem D95_29 : decode (byt 95) 29 = .ok (.ifCond .ne 10, 3) := by decide +kernel
theorem D95_32 : decode (byt 95) 32 = .ok (.aload_n 0, 1) := by decide +kernel
theorem D95_33 : decode (byt 95) 33 = .ok (.bipush (-2), 2) := by decide +kernel
theorem D95_35 : decode (byt 95) 35 = .ok (.invokevirtual 59, 3) := by decide +kernel
theorem D95_38 : decode (byt 95) 38 = .ok (.ireturn, 1) := by decide +kernel
theorem D95_39 : decode (byt 95) 39 = .ok (.aload_n 3, 1) := by decide +kernel
theorem D95_40 : decode (byt 95) 40 = .ok (.invokevirtual 172, 3) := by decide +kernel
theorem D95_43 : decode (byt 95) 43 = .ok (.astore 4, 2) := by decide +kernel
theorem D95_45 : decode (byt 95) 45 = .ok (.aload 4, 2) := by decide +kernel
theorem D95_47 : decode (byt 95) 47 = .ok (.invokevirtual 176, 3) := by decide +kernel
theorem D95_50 : decode (byt 95) 50 = .ok (.istore 5, 2) := by decide +kernel
theorem D95_52 : decode (byt 95) 52 = .ok (.iload 5, 2) := by decide +kernel
theorem D95_54 : decode (byt 95) 54 = .ok (.ifCond .ne 5, 3) := by decide +kernel
theorem D95_57 : decode (byt 95) 57 = .ok (.iconst 3, 1) := by decide +kernel
theorem D95_58 : decode (byt 95) 58 = .ok (.ireturn, 1) := by decide +kernel
theorem D95_59 : decode (byt 95) 59 = .ok (.aload 4, 2) := by decide +kernel
theorem D95_61 : decode (byt 95) 61 = .ok (.iload_n 2, 1) := by decide +kernel
theorem D95_62 : decode (byt 95) 62 = .ok (.invokevirtual 197, 3) := by decide +kernel
theorem D95_65 : decode (byt 95) 65 = .ok (.aload 4, 2) := by decide +kernel
theorem D95_67 : decode (byt 95) 67 = .ok (.invokevirtual 176, 3) := by decide +kernel
theorem D95_70 : decode (byt 95) 70 = .ok (.istore 6, 2) := by decide +kernel
theorem D95_72 : decode (byt 95) 72 = .ok (.iload 6, 2) := by decide +kernel
theorem D95_74 : decode (byt 95) 74 = .ok (.iload 5, 2) := by decide +kernel
theorem D95_76 : decode (byt 95) 76 = .ok (.if_icmp .ne 5, 3) := by decide +kernel
theorem D95_79 : decode (byt 95) 79 = .ok (.iconst 1, 1) := by decide +kernel
theorem D95_80 : decode (byt 95) 80 = .ok (.ireturn, 1) := by decide +kernel
theorem D95_81 : decode (byt 95) 81 = .ok (.iload 6, 2) := by decide +kernel
theorem D95_83 : decode (byt 95) 83 = .ok (.ifCond .ne 7, 3) := by decide +kernel
theorem D95_86 : decode (byt 95) 86 = .ok (.iconst 2, 1) := by decide +kernel
theorem D95_87 : decode (byt 95) 87 = .ok (.goto 4, 3) := by decide +kernel
theorem D95_90 : decode (byt 95) 90 = .ok (.iconst 0, 1) := by decide +kernel
theorem D95_91 : decode (byt 95) 91 = .ok (.ireturn, 1) := by decide +kernel
theorem D96_0 : decode (byt 96) 0 = .ok (.aload_n 0, 1) := by decide +kernel
theorem D96_1 : decode (byt 96) 1 = .ok (.iload_n 1, 1) := by decide +kernel
theorem D96_2 : decode (byt 96) 2 = .ok (.invokevirtual 55, 3) := by decide +kernel
theorem D96_5 : decode (byt 96) 5 = .ok (.astore_n 3, 1) := by decide +kernel
theorem D96_6 : decode (byt 96) 6 = .ok (.aload_n 3, 1) := by decide +kernel
theorem D96_7 : decode (byt 96) 7 = .ok (.ifnonnull 10, 3) := by decide +kernel
theorem D96_10 : decode (byt 96) 10 = .ok (.aload_n 0, 1) := by decide +kernel
theorem D96_11 : decode (byt 96) 11 = .ok (.bipush (-3), 2) := by decide +kernel
theorem D96_13 : decode (byt 96) 13 = .ok (.invokevirtual 59, 3) := by decide +kernel
theorem D96_16 : decode (byt 96) 16 = .ok (.ireturn, 1) := by decide +kernel
theorem D96_17 : decode (byt 96) 17 = .ok (.aload_n 3, 1) := by decide +kernel
theorem D96_18 : decode (byt 96) 18 = .ok (.getfield 107, 3) := by decide +kernel
theorem D96_21 : decode (byt 96) 21 = .ok (.ifCond .ne 10, 3) := by decide +kernel
theorem D96_24 : decode (byt 96) 24 = .ok (.aload_n 0, 1) := by decide +kernel
theorem D96_25 : decode (byt 96) 25 = .ok (.bipush (-2), 2) := by decide +kernel
theorem D96_27 : decode (byt 96) 27 = .ok (.invokevirtual 59, 3) := by decide +kernel
theorem D96_30 : decode (byt 96) 30 = .ok (.ireturn, 1) := by decide +kernel
theorem D96_31 : decode (byt 96) 31 = .ok (.iload_n 2, 1) := by decide +kernel
theorem D96_32 : decode (byt 96) 32 = .ok (.ifCond .ge 10, 3) := by decide +kernel
theorem D96_35 : decode (byt 96) 35 = .ok (.aload_n 0, 1) := by decide +kernel
theorem D96_36 : decode (byt 96) 36 = .ok (.bipush (-4), 2) := by decide +kernel
theorem D96_38 : decode (byt 96) 38 = .ok (.invokevirtual 59, 3) := by decide +kernel
theorem D96_41 : decode (byt 96) 41 = .ok (.ireturn, 1) := by decide +kernel
theorem D96_42 : decode (byt 96) 42 = .ok (.aload_n 3, 1) := by decide +kernel
theorem D96_43 : decode (byt 96) 43 = .ok (.invokevirtual 172, 3) := by decide +kernel
theorem D96_46 : decode (byt 96) 46 = .ok (.iload_n 2, 1) := by decide +kernel
theorem D96_47 : decode (byt 96) 47 = .ok (.invokevirtual 204, 3) := by decide +kernel
theorem D96_50 : decode (byt 96) 50 = .ok (.istore 4, 2) := by decide +kernel
theorem D96_52 : decode (byt 96) 52 = .ok (.iload 4, 2) := by decide +kernel
theorem D96_54 : decode (byt 96) 54 = .ok (.iconst (-1), 1) := by decide +kernel
theorem D96_55 : decode (byt 96) 55 = .ok (.if_icmp .ne 12, 3) := by decide +kernel
theorem D96_58 : decode (byt 96) 58 = .ok (.aload_n 0, 1) := by decide +kernel
theorem D96_59 : decode (byt 96) 59 = .ok (.bipush (-7), 2) := by decide +kernel
theorem D96_61 : decode (byt 96) 61 = .ok (.invokevirtual 59, 3) := by decide +kernel
theorem D96_64 : decode (byt 96) 64 = .ok (.goto 5, 3) := by decide +kernel
theorem D96_67 : decode (byt 96) 67 = .ok (.iload 4, 2) := by decide +kernel
theorem D96_69 : decode (byt 96) 69 = .ok (.ireturn, 1) := by decide +kernel
theorem D97_0 : decode (byt 97) 0 = .ok (.aload_n 0, 1) := by decide +kernel
theorem D97_1 : decode (byt 97) 1 = .ok (.iload_n 1, 1) := by decide +kernel
theorem D97_2 : decode (byt 97) 2 = .ok (.invokevirtual 55, 3) := by decide +kernel
theorem D97_5 : decode (byt 97) 5 = .ok (.astore_n 3, 1) := by decide +kernel
theorem D97_6 : decode (byt 97) 6 = .ok (.aload_n 3, 1) := by decide +kernel
theorem D97_7 : decode (byt 97) 7 = .ok (.ifnonnull 10, 3) := by decide +kernel
theorem D97_10 : decode (byt 97) 10 = .ok (.aload_n 0, 1) := by decide +kernel
theorem D97_11 : decode (byt 97) 11 = .ok (.bipush (-3), 2) := by decide +kernel
theorem D97_13 : decode (byt 97) 13 = .ok (.invokevirtual 59, 3) := by decide +kernel
theorem D97_16 : decode (byt 97) 16 = .ok (.ireturn, 1) := by decide +kernel
theorem D97_17 : decode (byt 97) 17 = .ok (.aload_n 3, 1) := by decide +kernel
theorem D97_18 : decode (byt 97) 18 = .ok (.getfield 107, 3) := by decide +kernel
theorem D97_21 : decode (byt 97) 21 = .ok (.ifCond .ne 10, 3) := by decide +kernel
theorem D97_24 : decode (byt 97) 24 = .ok (.aload_n 0, 1) := by decide +kernel
theorem D97_25 : decode (byt 97) 25 = .ok (.bipush (-2), 2) := by decide +kernel
theorem D97_27 : decode (byt 97) 27 = .ok (.invokevirtual 59, 3) := by decide +kernel
theorem D97_30 : decode (byt 97) 30 = .ok (.ireturn, 1) := by decide +kernel
theorem D97_31 : decode (byt 97) 31 = .ok (.iload_n 2, 1) := by decide +kernel
theorem D97_32 : decode (byt 97) 32 = .ok (.ifCond .lt 11, 3) := by decide +kernel
theorem D97_35 : decode (byt 97) 35 = .ok (.iload_n 2, 1) := by decide +kernel
theorem D97_36 : decode (byt 97) 36 = .ok (.aload_n 3, 1) := by decide +kernel
theorem D97_37 : decode (byt 97) 37 = .ok (.invokevirtual 179, 3) := by decide +kernel
theorem D97_40 : decode (byt 97) 40 = .ok (.if_icmp .le 10, 3) := by decide +kernel
theorem D97_43 : decode (byt 97) 43 = .ok (.aload_n 0, 1) := by decide +kernel
theorem D97_44 : decode (byt 97) 44 = .ok (.bipush (-3), 2) := by decide +kernel
theorem D97_46 : decode (byt 97) 46 = .ok (.invokevirtual 59, 3) := by decide +kernel
theorem D97_49 : decode (byt 97) 49 = .ok (.ireturn, 1) := by decide +kernel
theorem D97_50 : decode (byt 97) 50 = .ok (.aload_n 3, 1) := by decide +kernel
theorem D97_51 : decode (byt 97) 51 = .ok (.invokevirtual 172, 3) := by decide +kernel
theorem D97_54 : decode (byt 97) 54 = .ok (.iload_n 2, 1) := by decide +kernel
theorem D97_55 : decode (byt 97) 55 = .ok (.invokevirtual 207, 3) := by decide +kernel
theorem D97_58 : decode (byt 97) 58 = .ok (.ireturn, 1) := by decide +kernel
theorem D98_0 : decode (byt 98) 0 = .ok (.aload_n 0, 1) := by decide +kernel
theorem D98_1 : decode (byt 98) 1 = .ok (.iload_n 1, 1) := by decide +kernel
theorem D98_2 : decode (byt 98) 2 = .ok (.invokevirtual 55, 3) := by decide +kernel
theorem D98_5 : decode (byt 98) 5 = .ok (.astore_n 3, 1) := by decide +kernel
theorem D98_6 : decode (byt 98) 6 = .ok (.aload_n 3, 1) := by decide +kernel
theorem D98_7 : decode (byt 98) 7 = .ok (.ifnonnull 10, 3) := by decide +kernel
theorem D98_10 : decode (byt 98) 10 = .ok (.aload_n 0, 1) := by decide +kernel
theorem D98_11 : decode (byt 98) 11 = .ok (.bipush (-3), 2) := by decide +kernel
theorem D98_13 : decode (byt 98) 13 = .ok (.invokevirtual 59, 3) := by decide +kernel
theorem D98_16 : decode (byt 98) 16 = .ok (.ireturn, 1) := by decide +kernel
theorem D98_17 : decode (byt 98) 17 = .ok (.aload_n 3, 1) := by decide +kernel
theorem D98_18 : decode (byt 98) 18 = .ok (.getfield 107, 3) := by decide +kernel
theorem D98_21 : decode (byt 98) 21 = .ok (.ifCond .ne 10, 3) := by decide +kernel
theorem D98_24 : decode (byt 98) 24 = .ok (.aload_n 0, 1) := by decide +kernel
theorem D98_25 : decode (byt 98) 25 = .ok (.bipush (-2), 2) := by decide +kernel
theorem D98_27 : decode (byt 98) 27 = .ok (.invokevirtual 59, 3) := by decide +kernel
theorem D98_30 : decode (byt 98) 30 = .ok (.ireturn, 1) := by decide +kernel
theorem D98_31 : decode (byt 98) 31 = .ok (.iload_n 2, 1) := by decide +kernel
theorem D98_32 : decode (byt 98) 32 = .ok (.iconst (-1), 1) := by decide +kernel
theorem D98_33 : decode (byt 98) 33 = .ok (.if_icmp .lt 11, 3) := by decide +kernel
theorem D98_36 : decode (byt 98) 36 = .ok (.iload_n 2, 1) := by decide +kernel
theorem D98_37 : decode (byt 98) 37 = .ok (.aload_n 3, 1) := by decide +kernel
theorem D98_38 : decode (byt 98) 38 = .ok (.invokevirtual 179, 3) := by decide +kernel
theorem D98_41 : decode (byt 98) 41 = .ok (.if_icmp .lt 10, 3) := by decide +kernel
theorem D98_44 : decode (byt 98) 44 = .ok (.aload_n 0, 1) := by decide +kernel
theorem D98_45 : decode (byt 98) 45 = .ok (.bipush (-3), 2) := by decide +kernel
theorem D98_47 : decode (byt 98) 47 = .ok (.invokevirtual 59, 3) := by decide +kernel
theorem D98_50 : decode (byt 98) 50 = .ok (.ireturn, 1) := by decide +kernel
theorem D98_51 : decode (byt 98) 51 = .ok (.aload_n 3, 1) := by decide +kernel
theorem D98_52 : decode (byt 98) 52 = .ok (.invokevirtual 172, 3) := by decide +kernel
theorem D98_55 : decode (byt 98) 55 = .ok (.iload_n 2, 1) := by decide +kernel
theorem D98_56 : decode (byt 98) 56 = .ok (.iconst 1, 1) := by decide +kernel
theorem D98_57 : decode (byt 98) 57 = .ok (.iadd, 1) := by decide +kernel
theorem D98_58 : decode (byt 98) 58 = .ok (.invokevirtual 210, 3) := by decide +kernel
theorem D98_61 : decode (byt 98) 61 = .ok (.ireturn, 1) := by decide +kernel
theorem D99_0 : decode (byt 99) 0 = .ok (.aload_n 0, 1) := by decide +kernel
theorem D99_1 : decode (byt 99) 1 = .ok (.iload_n 1, 1) := by decide +kernel
theorem D99_2 : decode (byt 99) 2 = .ok (.invokevirtual 55, 3) := by decide +kernel
theorem D99_5 : decode (byt 99) 5 = .ok (.astore_n 3, 1) := by decide +kernel
theorem D99_6 : decode (byt 99) 6 = .ok (.aload_n 3, 1) := by decide +kernel
theorem D99_7 : decode (byt 99) 7 = .ok (.ifnonnull 10, 3) := by decide +kernel
theorem D99_10 : decode (byt 99) 10 = .ok (.aload_n 0, 1) := by decide +kernel
theorem D99_11 : decode (byt 99) 11 = .ok (.bipush (-3), 2) := by decide +kernel
theorem D99_13 : decode (byt 99) 13 = .ok (.invokevirtual 59, 3) := by decide +kernel
theorem D99_16 : decode (byt 99) 16 = .ok (.ireturn, 1) := by decide +kernel
theorem D99_17 : decode (byt 99) 17 = .ok (.aload_n 3, 1) := by decide +kernel
theorem D99_18 : decode (byt 99) 18 = .ok (.getfield 107, 3) := by decide +kernel
theorem D99_21 : decode (byt 99) 21 = .ok (.ifCond .ne 10, 3) := by decide +kernel
theorem D99_24 : decode (byt 99) 24 = .ok (.aload_n 0, 1) := by decide +kernel
theorem D99_25 : decode (byt 99) 25 = .ok (.bipush (-2), 2) := by decide +kernel
theorem D99_27 : decode (byt 99) 27 = .ok (.invokevirtual 59, 3) := by decide +kernel
theorem D99_30 : decode (byt 99) 30 = .ok (.ireturn, 1) := by decide +kernel
theorem D99_31 : decode (byt 99) 31 = .ok (.aload_n 3, 1) := by decide +kernel
theorem D99_32 : decode (byt 99) 32 = .ok (.aload_n 0, 1) := by decide +kernel
theorem D99_33 : decode (byt 99) 33 = .ok (.getfield 26, 3) := by decide +kernel
theorem D99_36 : decode (byt 99) 36 = .ok (.invokevirtual 189, 3) := by decide +kernel
theorem D99_39 : decode (byt 99) 39 = .ok (.aload_n 0, 1) := by decide +kernel
theorem D99_40 : decode (byt 99) 40 = .ok (.aload_n 3, 1) := by decide +kernel
theorem D99_41 : decode (byt 99) 41 = .ok (.invokevirtual 172, 3) := by decide +kernel
theorem D99_44 : decode (byt 99) 44 = .ok (.iload_n 2, 1) := by decide +kernel
theorem D99_45 : decode (byt 99) 45 = .ok (.invokevirtual 213, 3) := by decide +kernel
theorem D99_48 : decode (byt 99) 48 = .ok (.istore 4, 2) := by decide +kernel
theorem D99_50 : decode (byt 99) 50 = .ok (.iload 4, 2) := by decide +kernel
theorem D99_52 : decode (byt 99) 52 = .ok (.iconst (-1), 1) := by decide +kernel
theorem D99_53 : decode (byt 99) 53 = .ok (.if_icmp .ne 12, 3) := by decide +kernel
theorem D99_56 : decode (byt 99) 56 = .ok (.aload_n 0, 1) := by decide +kernel
theorem D99_57 : decode (byt 99) 57 = .ok (.bipush (-7), 2) := by decide +kernel
theorem D99_59 : decode (byt 99) 59 = .ok (.invokevirtual 59, 3) := by decide +kernel
theorem D99_62 : decode (byt 99) 62 = .ok (.goto 5, 3) := by decide +kernel
theorem D99_65 : decode (byt 99) 65 = .ok (.iload 4, 2) := by decide +kernel
theorem D99_67 : decode (byt 99) 67 = .ok (.ireturn, 1) := by decide +kernel
theorem D100_0 : decode (byt 100) 0 = .ok (.aload_n 0, 1) := by decide +kernel
theorem D100_1 : decode (byt 100) 1 = .ok (.iload_n 1, 1) := by decide +kernel
theorem D100_2 : decode (byt 100) 2 = .ok (.invokevirtual 55, 3) := by decide +kernel
theorem D100_5 : decode (byt 100) 5 = .ok (.astore_n 3, 1) := by decide +kernel
theorem D100_6 : decode (byt 100) 6 = .ok (.aload_n 3, 1) := by decide +kernel
theorem D100_7 : decode (byt 100) 7 = .ok (.ifnonnull 10, 3) := by decide +kernel
theorem D100_10 : decode (byt 100) 10 = .ok (.aload_n 0, 1) := by decide +kernel
theorem D100_11 : decode (byt 100) 11 = .ok (.bipush (-3), 2) := by decide +kernel
theorem D100_13 : decode (byt 100) 13 = .ok (.invokevirtual 185, 3) := by decide +kernel
theorem D100_16 : decode (byt 100) 16 = .ok (.lreturn, 1) := by decide +kernel
theorem D100_17 : decode (byt 100) 17 = .ok (.iload_n 2, 1) := by decide +kernel
theorem D100_18 : decode (byt 100) 18 = .ok (.ifCond .lt 11, 3) := by decide +kernel
theorem D100_21 : decode (byt 100) 21 = .ok (.iload_n 2, 1) := by decide +kernel
theorem D100_22 : decode (byt 100) 22 = .ok (.aload_n 3, 1) := by decide +kernel
theorem D100_23 : decode (byt 100) 23 = .ok (.invokevirtual 179, 3) := by decide +kernel
theorem D100_26 : decode (byt 100) 26 = .ok (.if_icmp .lt 10, 3) := by decide +kernel
theorem D100_29 : decode (byt 100) 29 = .ok (.aload_n 0, 1) := by decide +kernel
theorem D100_30 : decode (byt 100) 30 = .ok (.bipush (-3), 2) := by decide +kernel
theorem D100_32 : decode (byt 100) 32 = .ok (.invokevirtual 185, 3) := by decide +kernel
theorem D100_35 : decode (byt 100) 35 = .ok (.lreturn, 1) := by decide +kernel
theorem D100_36 : decode (byt 100) 36 = .ok (.aload_n 3, 1) := by decide +kernel
theorem D100_37 : decode (byt 100) 37 = .ok (.iload_n 2, 1) := by decide +kernel
theorem D100_38 : decode (byt 100) 38 = .ok (.invokevirtual 217, 3) := by decide +kernel
theorem D100_41 : decode (byt 100) 41 = .ok (.lreturn, 1) := by decide +kernel
theorem D101_0 : decode (byt 101) 0 = .ok (.aload_n 0, 1) := by decide +kernel
theorem D101_1 : decode (byt 101) 1 = .ok (.iload_n 1, 1) := by decide +kernel
theorem D101_2 : decode (byt 101) 2 = .ok (.invokevirtual 55, 3) := by decide +kernel
theorem D101_5 : decode (byt 101) 5 = .ok (.astore_n 2, 1) := by decide +kernel
theorem D101_6 : decode (byt 101) 6 = .ok (.aload_n 2, 1) := by decide +kernel
theorem D101_7 : decode (byt 101) 7 = .ok (.ifnonnull 10, 3) := by decide +kernel
theorem D101_10 : decode (byt 101) 10 = .ok (.aload_n 0, 1) := by decide +kernel
theorem D101_11 : decode (byt 101) 11 = .ok (.bipush (-3), 2) := by decide +kernel
theorem D101_13 : decode (byt 101) 13 = .ok (.invokevirtual 59, 3) := by decide +kernel
theorem D101_16 : decode (byt 101) 16 = .ok (.ireturn, 1) := by decide +kernel
theorem D101_17 : decode (byt 101) 17 = .ok (.aload_n 2, 1) := by decide +kernel
theorem D101_18 : decode (byt 101) 18 = .ok (.getfield 107, 3) := by decide +kernel
theorem D101_21 : decode (byt 101) 21 = .ok (.ifCond .ne 10, 3) := by decide +kernel
theorem D101_24 : decode (byt 101) 24 = .ok (.aload_n 0, 1) := by decide +kernel
theorem D101_25 : decode (byt 101) 25 = .ok (.bipush (-2), 2) := by decide +kernel
theorem D101_27 : decode (byt 101) 27 = .ok (.invokevirtual 59, 3) := by decide +kernel
theorem D101_30 : decode (byt 101) 30 = .ok (.ireturn, 1) := by decide +kernel
theorem D101_31 : decode (byt 101) 31 = .ok (.aload_n 2, 1) := by decide +kernel
theorem D101_32 : decode (byt 101) 32 = .ok (.invokevirtual 172, 3) := by decide +kernel
theorem D101_35 : decode (byt 101) 35 = .ok (.astore_n 3, 1) := by decide +kernel
theorem D101_36 : decode (byt 101) 36 = .ok (.aload_n 2, 1) := by decide +kernel
theorem D101_37 : decode (byt 101) 37 = .ok (.invokevirtual 220, 3) := by decide +kernel
theorem D101_40 : decode (byt 101) 40 = .ok (.istore 4, 2) := by decide +kernel
theorem D101_42 : decode (byt 101) 42 = .ok (.aload_n 0, 1) := by decide +kernel
theorem D101_43 : decode (byt 101) 43 = .ok (.getfield 33, 3) := by decide +kernel
theorem D101_46 : decode (byt 101) 46 = .ok (.aload_n 2, 1) := by decide +kernel
theorem D101_47 : decode (byt 101) 47 = .ok (.getfield 63, 3) := by decide +kernel
theorem D101_50 : decode (byt 101) 50 = .ok (.invokevirtual 223, 3) := by decide +kernel
theorem D101_53 : decode (byt 101) 53 = .ok (.iconst 0, 1) := by decide +kernel
theorem D101_54 : decode (byt 101) 54 = .ok (.istore 5, 2) := by decide +kernel
theorem D101_56 : decode (byt 101) 56 = .ok (.iload 5, 2) := by decide +kernel
theorem D101_58 : decode (byt 101) 58 = .ok (.aload_n 2, 1) := by decide +kernel
theorem D101_59 : decode (byt 101) 59 = .ok (.invokevirtual 179, 3) := by decide +kernel
theorem D101_62 : decode (byt 101) 62 = .ok (.if_icmp .ge 30, 3) := by decide +kernel
theorem D101_65 : decode (byt 101) 65 = .ok (.aload_n 3, 1) := by decide +kernel
theorem D101_66 : decode (byt 101) 66 = .ok (.iload 5, 2) := by decide +kernel
theorem D101_68 : decode (byt 101) 68 = .ok (.invokevirtual 182, 3) := by decide +kernel
theorem D101_71 : decode (byt 101) 71 = .ok (.ifCond .eq 15, 3) := by decide +kernel
theorem D101_74 : decode (byt 101) 74 = .ok (.aload_n 0, 1) := by decide +kernel
theorem D101_75 : decode (byt 101) 75 = .ok (.getfield 33, 3) := by decide +kernel
theorem D101_78 : decode (byt 101) 78 = .ok (.iload 5, 2) := by decide +kernel
theorem D101_80 : decode (byt 101) 80 = .ok (.iload 4, 2) := by decide +kernel
theorem D101_82 : decode (byt 101) 82 = .ok (.iand, 1) := by decide +kernel
theorem D101_83 : decode (byt 101) 83 = .ok (.invokevirtual 226, 3) := by decide +kernel
theorem D101_86 : decode (byt 101) 86 = .ok (.iinc 5 1, 3) := by decide +kernel
theorem D101_89 : decode (byt 101) 89 = .ok (.goto (-33), 3) := by decide +kernel
theorem D101_92 : decode (byt 101) 92 = .ok (.aload_n 0, 1) := by decide +kernel
theorem D101_93 : decode (byt 101) 93 = .ok (.getfield 33, 3) := by decide +kernel
theorem D101_96 : decode (byt 101) 96 = .ok (.invokevirtual 176, 3) := by decide +kernel
theorem D101_99 : decode (byt 101) 99 = .ok (.ireturn, 1) := by decide +kernel
theorem D102_0 : decode (byt 102) 0 = .ok (.aload_n 0, 1) := by decide +kernel
theorem D102_1 : decode (byt 102) 1 = .ok (.getfield 12, 3) := by decide +kernel
theorem D102_4 : decode (byt 102) 4 = .ok (.getfield 107, 3) := by decide +kernel
theorem D102_7 : decode (byt 102) 7 = .ok (.ifCond .eq 13, 3) := by decide +kernel
theorem D102_10 : decode (byt 102) 10 = .ok (.aload_n 0, 1) := by decide +kernel
theorem D102_11 : decode (byt 102) 11 = .ok (.getfield 16, 3) := by decide +kernel
theorem D102_14 : decode (byt 102) 14 = .ok (.getfield 107, 3) := by decide +kernel
theorem D102_17 : decode (byt 102) 17 = .ok (.ifCond .ne 10, 3) := by decide +kernel
theorem D102_20 : decode (byt 102) 20 = .ok (.aload_n 0, 1) := by decide +kernel
theorem D102_21 : decode (byt 102) 21 = .ok (.bipush (-2), 2) := by decide +kernel
theorem D102_23 : decode (byt 102) 23 = .ok (.invokevirtual 59, 3) := by decide +kernel
theorem D102_26 : decode (byt 102) 26 = .ok (.ireturn, 1) := by decide +kernel
theorem D102_27 : decode (byt 102) 27 = .ok (.aload_n 0, 1) := by decide +kernel
theorem D102_28 : decode (byt 102) 28 = .ok (.getfield 12, 3) := by decide +kernel
theorem D102_31 : decode (byt 102) 31 = .ok (.getfield 63, 3) := by decide +kernel
theorem D102_34 : decode (byt 102) 34 = .ok (.aload_n 0, 1) := by decide +kernel
theorem D102_35 : decode (byt 102) 35 = .ok (.getfield 16, 3) := by decide +kernel
theorem D102_38 : decode (byt 102) 38 = .ok (.getfield 63, 3) := by decide +kernel
theorem D102_41 : decode (byt 102) 41 = .ok (.if_icmp .eq 10, 3) := by decide +kernel
theorem D102_44 : decode (byt 102) 44 = .ok (.aload_n 0, 1) := by decide +kernel
theorem D102_45 : decode (byt 102) 45 = .ok (.bipush (-7), 2) := by decide +kernel
theorem D102_47 : decode (byt 102) 47 = .ok (.invokevirtual 59, 3) := by decide +kernel
theorem D102_50 : decode (byt 102) 50 = .ok (.ireturn, 1) := by decide +kernel
theorem D102_51 : decode (byt 102) 51 = .ok (.aload_n 0, 1) := by decide +kernel
theorem D102_52 : decode (byt 102) 52 = .ok (.getfield 12, 3) := by decide +kernel
theorem D102_55 : decode (byt 102) 55 = .ok (.invokevirtual 172, 3) := by decide +kernel
theorem D102_58 : decode (byt 102) 58 = .ok (.astore_n 2, 1) := by decide +kernel
theorem D102_59 : decode (byt 102) 59 = .ok (.aload_n 0, 1) := by decide +kernel
theorem D102_60 : decode (byt 102) 60 = .ok (.getfield 16, 3) := by decide +kernel
theorem D102_63 : decode (byt 102) 63 = .ok (.invokevirtual 172, 3) := by decide +kernel
theorem D102_66 : decode (byt 102) 66 = .ok (.astore_n 3, 1) := by decide +kernel
theorem D102_67 : decode (byt 102) 67 = .ok (.iload_n 1, 1) := by decide +kernel
theorem D102_68 : decode (byt 102) 68 = .ok (.ifCond .eq 11, 3) := by decide +kernel
theorem D102_71 : decode (byt 102) 71 = .ok (.aload_n 3, 1) := by decide +kernel
theorem D102_72 : decode (byt 102) 72 = .ok (.aload_n 2, 1) := by decide +kernel
theorem D102_73 : decode (byt 102) 73 = .ok (.invokevirtual 229, 3) := by decide +kernel
theorem D102_76 : decode (byt 102) 76 = .ok (.goto 8, 3) := by decide +kernel
theorem D102_79 : decode (byt 102) 79 = .ok (.aload_n 2, 1) := by decide +kernel
theorem D102_80 : decode (byt 102) 80 = .ok (.aload_n 3, 1) := by decide +kernel
theorem D102_81 : decode (byt 102) 81 = .ok (.invokevirtual 229, 3) := by decide +kernel
theorem D102_84 : decode (byt 102) 84 = .ok (.ireturn, 1) := by decide +kernel
theorem D103_0 : decode (byt 103) 0 = .ok (.aload_n 0, 1) := by decide +kernel
theorem D103_1 : decode (byt 103) 1 = .ok (.getfield 12, 3) := by decide +kernel
theorem D103_4 : decode (byt 103) 4 = .ok (.getfield 63, 3) := by decide +kernel
theorem D103_7 : decode (byt 103) 7 = .ok (.aload_n 0, 1) := by decide +kernel
theorem D103_8 : decode (byt 103) 8 = .ok (.getfield 16, 3) := by decide +kernel
theorem D103_11 : decode (byt 103) 11 = .ok (.getfield 63, 3) := by decide +kernel
theorem D103_14 : decode (byt 103) 14 = .ok (.if_icmp .eq 10, 3) := by decide +kernel
theorem D103_17 : decode (byt 103) 17 = .ok (.aload_n 0, 1) := by decide +kernel
theorem D103_18 : decode (byt 103) 18 = .ok (.bipush (-7), 2) := by decide +kernel
theorem D103_20 : decode (byt 103) 20 = .ok (.invokevirtual 59, 3) := by decide +kernel
theorem D103_23 : decode (byt 103) 23 = .ok (.ireturn, 1) := by decide +kernel
theorem D103_24 : decode (byt 103) 24 = .ok (.aload_n 0, 1) := by decide +kernel
theorem D103_25 : decode (byt 103) 25 = .ok (.getfield 12, 3) := by decide +kernel
theorem D103_28 : decode (byt 103) 28 = .ok (.getfield 84, 3) := by decide +kernel
theorem D103_31 : decode (byt 103) 31 = .ok (.aload_n 0, 1) := by decide +kernel
theorem D103_32 : decode (byt 103) 32 = .ok (.getfield 16, 3) := by decide +kernel
theorem D103_35 : decode (byt 103) 35 = .ok (.getfield 84, 3) := by decide +kernel
theorem D103_38 : decode (byt 103) 38 = .ok (.iadd, 1) := by decide +kernel
theorem D103_39 : decode (byt 103) 39 = .ok (.bipush 40, 2) := by decide +kernel
theorem D103_41 : decode (byt 103) 41 = .ok (.if_icmp .le 10, 3) := by decide +kernel
theorem D103_44 : decode (byt 103) 44 = .ok (.aload_n 0, 1) := by decide +kernel
theorem D103_45 : decode (byt 103) 45 = .ok (.bipush (-8), 2) := by decide +kernel
theorem D103_47 : decode (byt 103) 47 = .ok (.invokevirtual 59, 3) := by decide +kernel
theorem D103_50 : decode (byt 103) 50 = .ok (.ireturn, 1) := by decide +kernel
theorem D103_51 : decode (byt 103) 51 = .ok (.iconst 0, 1) := by decide +kernel
theorem D103_52 : decode (byt 103) 52 = .ok (.istore_n 1, 1) := by decide +kernel
theorem D103_53 : decode (byt 103) 53 = .ok (.iload_n 1, 1) := by decide +kernel
theorem D103_54 : decode (byt 103) 54 = .ok (.aload_n 0, 1) := by decide +kernel
theorem D103_55 : decode (byt 103) 55 = .ok (.getfield 16, 3) := by decide +kernel
theorem D103_58 : decode (byt 103) 58 = .ok (.getfield 84, 3) := by decide +kernel
theorem D103_61 : decode (byt 103) 61 = .ok (.if_icmp .ge 24, 3) := by decide +kernel
theorem D103_64 : decode (byt 103) 64 = .ok (.aload_n 0, 1) := by decide +kernel
theorem D103_65 : decode (byt 103) 65 = .ok (.getfield 12, 3) := by decide +kernel
theorem D103_68 : decode (byt 103) 68 = .ok (.aload_n 0, 1) := by decide +kernel
theorem D103_69 : decode (byt 103) 69 = .ok (.getfield 16, 3) := by decide +kernel
theorem D103_72 : decode (byt 103) 72 = .ok (.iload_n 1, 1) := by decide +kernel
theorem D103_73 : decode (byt 103) 73 = .ok (.invokevirtual 87, 3) := by decide +kernel
theorem D103_76 : decode (byt 103) 76 = .ok (.invokevirtual 233, 3) := by decide +kernel
theorem D103_79 : decode (byt 103) 79 = .ok (.iinc 1 1, 3) := by decide +kernel
theorem D103_82 : decode (byt 103) 82 = .ok (.goto (-29), 3) := by decide +kernel
theorem D103_85 : decode (byt 103) 85 = .ok (.aload_n 0, 1) := by decide +kernel
theorem D103_86 : decode (byt 103) 86 = .ok (.getfield 12, 3) := by decide +kernel
theorem D103_89 : decode (byt 103) 89 = .ok (.getfield 84, 3) := by decide +kernel
theorem D103_92 : decode (byt 103) 92 = .ok (.ireturn, 1) := by decide +kernel
theorem D104_0 : decode (byt 104) 0 = .ok (.aload_n 0, 1) := by decide +kernel
theorem D104_1 : decode (byt 104) 1 = .ok (.iload_n 1, 1) := by decide +kernel
theorem D104_2 : decode (byt 104) 2 = .ok (.invokevirtual 55, 3) := by decide +kernel
theorem D104_5 : decode (byt 104) 5 = .ok (.astore_n 3, 1) := by decide +kernel
theorem D104_6 : decode (byt 104) 6 = .ok (.aload_n 3, 1) := by decide +kernel
theorem D104_7 : decode (byt 104) 7 = .ok (.ifnull 15, 3) := by decide +kernel
theorem D104_10 : decode (byt 104) 10 = .ok (.iload_n 2, 1) := by decide +kernel
theorem D104_11 : decode (byt 104) 11 = .ok (.ifCond .lt 11, 3) := by decide +kernel
theorem D104_14 : decode (byt 104) 14 = .ok (.iload_n 2, 1) := by decide +kernel
theorem D104_15 : decode (byt 104) 15 = .ok (.aload_n 3, 1) := by decide +kernel
theorem D104_16 : decode (byt 104) 16 = .ok (.getfield 84, 3) := by decide +kernel
theorem D104_19 : decode (byt 104) 19 = .ok (.if_icmp .lt 10, 3) := by decide +kernel
theorem D104_22 : decode (byt 104) 22 = .ok (.aload_n 0, 1) := by decide +kernel
theorem D104_23 : decode (byt 104) 23 = .ok (.bipush (-3), 2) := by decide +kernel
theorem D104_25 : decode (byt 104) 25 = .ok (.invokevirtual 59, 3) := by decide +kernel
theorem D104_28 : decode (byt 104) 28 = .ok (.ireturn, 1) := by decide +kernel
theorem D104_29 : decode (byt 104) 29 = .ok (.aload_n 3, 1) := by decide +kernel
theorem D104_30 : decode (byt 104) 30 = .ok (.iload_n 2, 1) := by decide +kernel
theorem D104_31 : decode (byt 104) 31 = .ok (.invokevirtual 87, 3) := by decide +kernel
theorem D104_34 : decode (byt 104) 34 = .ok (.istore 4, 2) := by decide +kernel
theorem D104_36 : decode (byt 104) 36 = .ok (.aload_n 0, 1) := by decide +kernel
theorem D104_37 : decode (byt 104) 37 = .ok (.iconst 0, 1) := by decide +kernel
theorem D104_38 : decode (byt 104) 38 = .ok (.putfield 44, 3) := by decide +kernel
theorem D104_41 : decode (byt 104) 41 = .ok (.aload_n 0, 1) := by decide +kernel
theorem D104_42 : decode (byt 104) 42 = .ok (.iconst 1, 1) := by decide +kernel
theorem D104_43 : decode (byt 104) 43 = .ok (.putfield 48, 3) := by decide +kernel
theorem D104_46 : decode (byt 104) 46 = .ok (.iconst 1, 1) := by decide +kernel
theorem D104_47 : decode (byt 104) 47 = .ok (.istore 5, 2) := by decide +kernel
theorem D104_49 : decode (byt 104) 49 = .ok (.iload 5, 2) := by decide +kernel
theorem D104_51 : decode (byt 104) 51 = .ok (.bipush 12, 2) := by decide +kernel
theorem D104_53 : decode (byt 104) 53 = .ok (.if_icmp .gt 48, 3) := by decide +kernel
theorem D104_56 : decode (byt 104) 56 = .ok (.iload 4, 2) := by decide +kernel
theorem D104_58 : decode (byt 104) 58 = .ok (.iload 5, 2) := by decide +kernel
theorem D104_60 : decode (byt 104) 60 = .ok (.invokestatic 74, 3) := by decide +kernel
theorem D104_63 : decode (byt 104) 63 = .ok (.iand, 1) := by decide +kernel
theorem D104_64 : decode (byt 104) 64 = .ok (.ifCond .eq 12, 3) := by decide +kernel
theorem D104_67 : decode (byt 104) 67 = .ok (.aload_n 0, 1) := by decide +kernel
theorem D104_68 : decode (byt 104) 68 = .ok (.iload 5, 2) := by decide +kernel
theorem D104_70 : decode (byt 104) 70 = .ok (.invokevirtual 236, 3) := by decide +kernel
theorem D104_73 : decode (byt 104) 73 = .ok (.goto 22, 3) := by decide +kernel
theorem D104_76 : decode (byt 104) 76 = .ok (.iload 4, 2) := by decide +kernel
theorem D104_78 : decode (byt 104) 78 = .ok (.iload 5, 2) := by decide +kernel
theorem D104_80 : decode (byt 104) 80 = .ok (.ineg, 1) := by decide +kernel
theorem D104_81 : decode (byt 104) 81 = .ok (.invokestatic 74, 3) := by decide +kernel
theorem D104_84 : decode (byt 104) 84 = .ok (.iand, 1) := by decide +kernel
theorem D104_85 : decode (byt 104) 85 = .ok (.ifCond .eq 10, 3) := by decide +kernel
theorem D104_88 : decode (byt 104) 88 = .ok (.aload_n 0, 1) := by decide +kernel
theorem D104_89 : decode (byt 104) 89 = .ok (.iload 5, 2) := by decide +kernel
theorem D104_91 : decode (byt 104) 91 = .ok (.ineg, 1) := by decide +kernel
theorem D104_92 : decode (byt 104) 92 = .ok (.invokevirtual 236, 3) := by decide +kernel
theorem D104_95 : decode (byt 104) 95 = .ok (.iinc 5 1, 3) := by decide +kernel
theorem D104_98 : decode (byt 104) 98 = .ok (.goto (-49), 3) := by decide +kernel
theorem D104_101 : decode (byt 104) 101 = .ok (.aload_n 0, 1) := by decide +kernel
theorem D104_102 : decode (byt 104) 102 = .ok (.getfield 44, 3) := by decide +kernel
theorem D104_105 : decode (byt 104) 105 = .ok (.ireturn, 1) := by decide +kernel
theorem D105_0 : decode (byt 105) 0 = .ok (.aload_n 0, 1) := by decide +kernel
theorem D105_1 : decode (byt 105) 1 = .ok (.getfield 48, 3) := by decide +kernel
theorem D105_4 : decode (byt 105) 4 = .ok (.istore_n 1, 1) := by decide +kernel
theorem D105_5 : decode (byt 105) 5 = .ok (.aload_n 0, 1) := by decide +kernel
theorem D105_6 : decode (byt 105) 6 = .ok (.iconst 0, 1) := by decide +kernel
theorem D105_7 : decode (byt 105) 7 = .ok (.putfield 48, 3) := by decide +kernel
theorem D105_10 : decode (byt 105) 10 = .ok (.iload_n 1, 1) := by decide +kernel
theorem D105_11 : decode (byt 105) 11 = .ok (.ifCond .eq 7, 3) := by decide +kernel
theorem D105_14 : decode (byt 105) 14 = .ok (.iconst 1, 1) := by decide +kernel
theorem D105_15 : decode (byt 105) 15 = .ok (.goto 4, 3) := by decide +kernel
theorem D105_18 : decode (byt 105) 18 = .ok (.iconst 0, 1) := by decide +kernel
theorem D105_19 : decode (byt 105) 19 = .ok (.ireturn, 1) := by decide +kernel
theorem D106_0 : decode (byt 106) 0 = .ok (.aload_n 0, 1) := by decide +kernel
theorem D106_1 : decode (byt 106) 1 = .ok (.getfield 48, 3) := by decide +kernel
theorem D106_4 : decode (byt 106) 4 = .ok (.ifCond .ne 12, 3) := by decide +kernel
theorem D106_7 : decode (byt 106) 7 = .ok (.aload_n 0, 1) := by decide +kernel
theorem D106_8 : decode (byt 106) 8 = .ok (.bipush (-2), 2) := by decide +kernel
theorem D106_10 : decode (byt 106) 10 = .ok (.invokevirtual 59, 3) := by decide +kernel
theorem D106_13 : decode (byt 106) 13 = .ok (.pop, 1) := by decide +kernel
theorem D106_14 : decode (byt 106) 14 = .ok (.iconst 0, 1) := by decide +kernel
theorem D106_15 : decode (byt 106) 15 = .ok (.ireturn, 1) := by decide +kernel
theorem D106_16 : decode (byt 106) 16 = .ok (.iload_n 1, 1) := by decide +kernel
theorem D106_17 : decode (byt 106) 17 = .ok (.ifCond .lt 11, 3) := by decide +kernel
theorem D106_20 : decode (byt 106) 20 = .ok (.iload_n 1, 1) := by decide +kernel
theorem D106_21 : decode (byt 106) 21 = .ok (.aload_n 0, 1) := by decide +kernel
theorem D106_22 : decode (byt 106) 22 = .ok (.getfield 44, 3) := by decide +kernel
theorem D106_25 : decode (byt 106) 25 = .ok (.if_icmp .lt 12, 3) := by decide +kernel
theorem D106_28 : decode (byt 106) 28 = .ok (.aload_n 0, 1) := by decide +kernel
theorem D106_29 : decode (byt 106) 29 = .ok (.bipush (-3), 2) := by decide +kernel
theorem D106_31 : decode (byt 106) 31 = .ok (.invokevirtual 59, 3) := by decide +kernel
theorem D106_34 : decode (byt 106) 34 = .ok (.pop, 1) := by decide +kernel
theorem D106_35 : decode (byt 106) 35 = .ok (.iconst 0, 1) := by decide +kernel
theorem D106_36 : decode (byt 106) 36 = .ok (.ireturn, 1) := by decide +kernel
theorem D106_37 : decode (byt 106) 37 = .ok (.aload_n 0, 1) := by decide +kernel
theorem D106_38 : decode (byt 106) 38 = .ok (.getfield 37, 3) := by decide +kernel
theorem D106_41 : decode (byt 106) 41 = .ok (.iload_n 1, 1) := by decide +kernel
theorem D106_42 : decode (byt 106) 42 = .ok (.iaload, 1) := by decide +kernel
theorem D106_43 : decode (byt 106) 43 = .ok (.ireturn, 1) := by decide +kernel
theorem D107_0 : decode (byt 107) 0 = .ok (.aload_n 0, 1) := by decide +kernel
theorem D107_1 : decode (byt 107) 1 = .ok (.getfield 48, 3) := by decide +kernel
theorem D107_4 : decode (byt 107) 4 = .ok (.ifCond .ne 10, 3) := by decide +kernel
theorem D107_7 : decode (byt 107) 7 = .ok (.aload_n 0, 1) := by decide +kernel
theorem D107_8 : decode (byt 107) 8 = .ok (.bipush (-2), 2) := by decide +kernel
theorem D107_10 : decode (byt 107) 10 = .ok (.invokevirtual 59, 3) := by decide +kernel
theorem D107_13 : decode (byt 107) 13 = .ok (.ireturn, 1) := by decide +kernel
theorem D107_14 : decode (byt 107) 14 = .ok (.iload_n 3, 1) := by decide +kernel
theorem D107_15 : decode (byt 107) 15 = .ok (.ifCond .ge 10, 3) := by decide +kernel
theorem D107_18 : decode (byt 107) 18 = .ok (.aload_n 0, 1) := by decide +kernel
theorem D107_19 : decode (byt 107) 19 = .ok (.bipush (-4), 2) := by decide +kernel
theorem D107_21 : decode (byt 107) 21 = .ok (.invokevirtual 59, 3) := by decide +kernel
theorem D107_24 : decode (byt 107) 24 = .ok (.ireturn, 1) := by decide +kernel
theorem D107_25 : decode (byt 107) 25 = .ok (.iload_n 3, 1) := by decide +kernel
theorem D107_26 : decode (byt 107) 26 = .ok (.aload_n 0, 1) := by decide +kernel
theorem D107_27 : decode (byt 107) 27 = .ok (.getfield 44, 3) := by decide +kernel
theorem D107_30 : decode (byt 107) 30 = .ok (.if_icmp .gt 31, 3) := by decide +kernel
theorem D107_33 : decode (byt 107) 33 = .ok (.iload_n 1, 1) := by decide +kernel
theorem D107_34 : decode (byt 107) 34 = .ok (.ifCond .lt 27, 3) := by decide +kernel
theorem D107_37 : decode (byt 107) 37 = .ok (.iload_n 2, 1) := by decide +kernel
theorem D107_38 : decode (byt 107) 38 = .ok (.ifCond .lt 23, 3) := by decide +kernel
theorem D107_41 : decode (byt 107) 41 = .ok (.iload_n 1, 1) := by decide +kernel
theorem D107_42 : decode (byt 107) 42 = .ok (.aload_n 0, 1) := by decide +kernel
theorem D107_43 : decode (byt 107) 43 = .ok (.getfield 44, 3) := by decide +kernel
theorem D107_46 : decode (byt 107) 46 = .ok (.iload_n 3, 1) := by decide +kernel
theorem D107_47 : decode (byt 107) 47 = .ok (.isub, 1) := by decide +kernel
theorem D107_48 : decode (byt 107) 48 = .ok (.if_icmp .gt 13, 3) := by decide +kernel
theorem D107_51 : decode (byt 107) 51 = .ok (.iload_n 2, 1) := by decide +kernel
theorem D107_52 : decode (byt 107) 52 = .ok (.aload_n 0, 1) := by decide +kernel
theorem D107_53 : decode (byt 107) 53 = .ok (.getfield 44, 3) := by decide +kernel
theorem D107_56 : decode (byt 107) 56 = .ok (.iload_n 3, 1) := by decide +kernel
theorem D107_57 : decode (byt 107) 57 = .ok (.isub, 1) := by decide +kernel
theorem D107_58 : decode (byt 107) 58 = .ok (.if_icmp .le 10, 3) := by decide +kernel
theorem D107_61 : decode (byt 107) 61 = .ok (.aload_n 0, 1) := by decide +kernel
theorem D107_62 : decode (byt 107) 62 = .ok (.bipush (-6), 2) := by decide +kernel
theorem D107_64 : decode (byt 107) 64 = .ok (.invokevirtual 59, 3) := by decide +kernel
theorem D107_67 : decode (byt 107) 67 = .ok (.ireturn, 1) := by decide +kernel
theorem D107_68 : decode (byt 107) 68 = .ok (.aload_n 0, 1) := by decide +kernel
theorem D107_69 : decode (byt 107) 69 = .ok (.getfield 37, 3) := by decide +kernel
theorem D107_72 : decode (byt 107) 72 = .ok (.iload_n 1, 1) := by decide +kernel
theorem D107_73 : decode (byt 107) 73 = .ok (.aload_n 0, 1) := by decide +kernel
theorem D107_74 : decode (byt 107) 74 = .ok (.getfield 37, 3) := by decide +kernel
theorem D107_77 : decode (byt 107) 77 = .ok (.iload_n 2, 1) := by decide +kernel
theorem D107_78 : decode (byt 107) 78 = .ok (.iload_n 3, 1) := by decide +kernel
theorem D107_79 : decode (byt 107) 79 = .ok (.invokestatic 239, 3) := by decide +kernel
theorem D107_82 : decode (byt 107) 82 = .ok (.iload_n 3, 1) := by decide +kernel
theorem D107_83 : decode (byt 107) 83 = .ok (.ireturn, 1) := by decide +kernel
theorem D108_0 : decode (byt 108) 0 = .ok (.aload_n 0, 1) := by decide +kernel
theorem D108_1 : decode (byt 108) 1 = .ok (.iload_n 1, 1) := by decide +kernel
theorem D108_2 : decode (byt 108) 2 = .ok (.invokevirtual 55, 3) := by decide +kernel
theorem D108_5 : decode (byt 108) 5 = .ok (.astore_n 2, 1) := by decide +kernel
theorem D108_6 : decode (byt 108) 6 = .ok (.aload_n 2, 1) := by decide +kernel
theorem D108_7 : decode (byt 108) 7 = .ok (.ifnonnull 10, 3) := by decide +kernel
theorem D108_10 : decode (byt 108) 10 = .ok (.aload_n 0, 1) := by decide +kernel
theorem D108_11 : decode (byt 108) 11 = .ok (.bipush (-3), 2) := by decide +kernel
theorem D108_13 : decode (byt 108) 13 = .ok (.invokevirtual 59, 3) := by decide +kernel
theorem D108_16 : decode (byt 108) 16 = .ok (.ireturn, 1) := by decide +kernel
theorem D108_17 : decode (byt 108) 17 = .ok (.aload_n 0, 1) := by decide +kernel
theorem D108_18 : decode (byt 108) 18 = .ok (.getfield 48, 3) := by decide +kernel
theorem D108_21 : decode (byt 108) 21 = .ok (.ifCond .ne 10, 3) := by decide +kernel
theorem D108_24 : decode (byt 108) 24 = .ok (.aload_n 0, 1) := by decide +kernel
theorem D108_25 : decode (byt 108) 25 = .ok (.bipush (-2), 2) := by decide +kernel
theorem D108_27 : decode (byt 108) 27 = .ok (.invokevirtual 59, 3) := by decide +kernel
theorem D108_30 : decode (byt 108) 30 = .ok (.ireturn, 1) := by decide +kernel
theorem D108_31 : decode (byt 108) 31 = .ok (.iconst 0, 1) := by decide +kernel
theorem D108_32 : decode (byt 108) 32 = .ok (.istore_n 3, 1) := by decide +kernel
theorem D108_33 : decode (byt 108) 33 = .ok (.iconst 0, 1) := by decide +kernel
theorem D108_34 : decode (byt 108) 34 = .ok (.istore 4, 2) := by decide +kernel
theorem D108_36 : decode (byt 108) 36 = .ok (.iload 4, 2) := by decide +kernel
theorem D108_38 : decode (byt 108) 38 = .ok (.aload_n 0, 1) := by decide +kernel
theorem D108_39 : decode (byt 108) 39 = .ok (.getfield 44, 3) := by decide +kernel
theorem D108_42 : decode (byt 108) 42 = .ok (.if_icmp .ge 43, 3) := by decide +kernel
theorem D108_45 : decode (byt 108) 45 = .ok (.aload_n 2, 1) := by decide +kernel
theorem D108_46 : decode (byt 108) 46 = .ok (.aload_n 0, 1) := by decide +kernel
theorem D108_47 : decode (byt 108) 47 = .ok (.getfield 37, 3) := by decide +kernel
theorem D108_50 : decode (byt 108) 50 = .ok (.iload 4, 2) := by decide +kernel
theorem D108_52 : decode (byt 108) 52 = .ok (.iaload, 1) := by decide +kernel
theorem D108_53 : decode (byt 108) 53 = .ok (.invokevirtual 81, 3) := by decide +kernel
theorem D108_56 : decode (byt 108) 56 = .ok (.ifCond .ne 10, 3) := by decide +kernel
theorem D108_59 : decode (byt 108) 59 = .ok (.aload_n 0, 1) := by decide +kernel
theorem D108_60 : decode (byt 108) 60 = .ok (.bipush (-3), 2) := by decide +kernel
theorem D108_62 : decode (byt 108) 62 = .ok (.invokevirtual 59, 3) := by decide +kernel
theorem D108_65 : decode (byt 108) 65 = .ok (.ireturn, 1) := by decide +kernel
theorem D108_66 : decode (byt 108) 66 = .ok (.iload_n 3, 1) := by decide +kernel
theorem D108_67 : decode (byt 108) 67 = .ok (.aload_n 0, 1) := by decide +kernel
theorem D108_68 : decode (byt 108) 68 = .ok (.getfield 37, 3) := by decide +kernel
theorem D108_71 : decode (byt 108) 71 = .ok (.iload 4, 2) := by decide +kernel
theorem D108_73 : decode (byt 108) 73 = .ok (.iaload, 1) := by decide +kernel
theorem D108_74 : decode (byt 108) 74 = .ok (.invokestatic 74, 3) := by decide +kernel
theorem D108_77 : decode (byt 108) 77 = .ok (.ior, 1) := by decide +kernel
theorem D108_78 : decode (byt 108) 78 = .ok (.istore_n 3, 1) := by decide +kernel
theorem D108_79 : decode (byt 108) 79 = .ok (.iinc 4 1, 3) := by decide +kernel
theorem D108_82 : decode (byt 108) 82 = .ok (.goto (-46), 3) := by decide +kernel
theorem D108_85 : decode (byt 108) 85 = .ok (.aload_n 0, 1) := by decide +kernel
theorem D108_86 : decode (byt 108) 86 = .ok (.aload_n 2, 1) := by decide +kernel
theorem D108_87 : decode (byt 108) 87 = .ok (.iload_n 3, 1) := by decide +kernel
theorem D108_88 : decode (byt 108) 88 = .ok (.invokevirtual 77, 3) := by decide +kernel
theorem D108_91 : decode (byt 108) 91 = .ok (.ireturn, 1) := by decide +kernel
theorem D109_0 : decode (byt 109) 0 = .ok (.iload_n 1, 1) := by decide +kernel
theorem D109_1 : decode (byt 109) 1 = .ok (.bipush (-2), 2) := by decide +kernel
theorem D109_3 : decode (byt 109) 3 = .ok (.if_icmp .gt 9, 3) := by decide +kernel
theorem D109_6 : decode (byt 109) 6 = .ok (.iload_n 1, 1) := by decide +kernel
theorem D109_7 : decode (byt 109) 7 = .ok (.bipush (-9), 2) := by decide +kernel
theorem D109_9 : decode (byt 109) 9 = .ok (.if_icmp .ge 10, 3) := by decide +kernel
theorem D109_12 : decode (byt 109) 12 = .ok (.aload_n 0, 1) := by decide +kernel
theorem D109_13 : decode (byt 109) 13 = .ok (.bipush (-7), 2) := by decide +kernel
theorem D109_15 : decode (byt 109) 15 = .ok (.invokevirtual 59, 3) := by decide +kernel
theorem D109_18 : decode (byt 109) 18 = .ok (.ireturn, 1) := by decide +kernel
theorem D109_19 : decode (byt 109) 19 = .ok (.aload_n 0, 1) := by decide +kernel
theorem D109_20 : decode (byt 109) 20 = .ok (.getfield 41, 3) := by decide +kernel
theorem D109_23 : decode (byt 109) 23 = .ok (.iload_n 1, 1) := by decide +kernel
theorem D109_24 : decode (byt 109) 24 = .ok (.ineg, 1) := by decide +kernel
theorem D109_25 : decode (byt 109) 25 = .ok (.iaload, 1) := by decide +kernel
theorem D109_26 : decode (byt 109) 26 = .ok (.ireturn, 1) := by decide +kernel
theorem D110_0 : decode (byt 110) 0 = .ok (.iload_n 1, 1) := by decide +kernel
theorem D110_1 : decode (byt 110) 1 = .ok (.ifCond .ne 8, 3) := by decide +kernel
theorem D110_4 : decode (byt 110) 4 = .ok (.aload_n 0, 1) := by decide +kernel
theorem D110_5 : decode (byt 110) 5 = .ok (.getfield 12, 3) := by decide +kernel
theorem D110_8 : decode (byt 110) 8 = .ok (.areturn, 1) := by decide +kernel
theorem D110_9 : decode (byt 110) 9 = .ok (.iload_n 1, 1) := by decide +kernel
theorem D110_10 : decode (byt 110) 10 = .ok (.iconst 1, 1) := by decide +kernel
theorem D110_11 : decode (byt 110) 11 = .ok (.if_icmp .ne 10, 3) := by decide +kernel
theorem D110_14 : decode (byt 110) 14 = .ok (.aload_n 0, 1) := by decide +kernel
theorem D110_15 : decode (byt 110) 15 = .ok (.getfield 16, 3) := by decide +kernel
theorem D110_18 : decode (byt 110) 18 = .ok (.goto 4, 3) := by decide +kernel
theorem D110_21 : decode (byt 110) 21 = .ok (.aconst_null, 1) := by decide +kernel
theorem D110_22 : decode (byt 110) 22 = .ok (.areturn, 1) := by decide +kernel
theorem D111_0 : decode (byt 111) 0 = .ok (.iload_n 1, 1) := by decide +kernel
theorem D111_1 : decode (byt 111) 1 = .ok (.bipush (-2), 2) := by decide +kernel
theorem D111_3 : decode (byt 111) 3 = .ok (.if_icmp .gt 20, 3) := by decide +kernel
theorem D111_6 : decode (byt 111) 6 = .ok (.iload_n 1, 1) := by decide +kernel
theorem D111_7 : decode (byt 111) 7 = .ok (.bipush (-9), 2) := by decide +kernel
theorem D111_9 : decode (byt 111) 9 = .ok (.if_icmp .lt 14, 3) := by decide +kernel
theorem D111_12 : decode (byt 111) 12 = .ok (.aload_n 0, 1) := by decide +kernel
theorem D111_13 : decode (byt 111) 13 = .ok (.getfield 41, 3) := by decide +kernel
theorem D111_16 : decode (byt 111) 16 = .ok (.iload_n 1, 1) := by decide +kernel
theorem D111_17 : decode (byt 111) 17 = .ok (.ineg, 1) := by decide +kernel
theorem D111_18 : decode (byt 111) 18 = .ok (.dup2, 1) := by decide +kernel
theorem D111_19 : decode (byt 111) 19 = .ok (.iaload, 1) := by decide +kernel
theorem D111_20 : decode (byt 111) 20 = .ok (.iconst 1, 1) := by decide +kernel
theorem D111_21 : decode (byt 111) 21 = .ok (.iadd, 1) := by decide +kernel
theorem D111_22 : decode (byt 111) 22 = .ok (.iastore, 1) := by decide +kernel
theorem D111_23 : decode (byt 111) 23 = .ok (.iload_n 1, 1) := by decide +kernel
theorem D111_24 : decode (byt 111) 24 = .ok (.ireturn, 1) := by decide +kernel
theorem D112_0 : decode (byt 112) 0 = .ok (.aload_n 0, 1) := by decide +kernel
theorem D112_1 : decode (byt 112) 1 = .ok (.iload_n 1, 1) := by decide +kernel
theorem D112_2 : decode (byt 112) 2 = .ok (.invokevirtual 59, 3) := by decide +kernel
theorem D112_5 : decode (byt 112) 5 = .ok (.pop, 1) := by decide +kernel
theorem D112_6 : decode (byt 112) 6 = .ok (.lconst 0, 1) := by decide +kernel
theorem D112_7 : decode (byt 112) 7 = .ok (.lreturn, 1) := by decide +kernel
theorem D113_0 : decode (byt 113) 0 = .ok (.iload_n 2, 1) := by decide +kernel
theorem D113_1 : decode (byt 113) 1 = .ok (.ifCond .eq 16, 3) := by decide +kernel
theorem D113_4 : decode (byt 113) 4 = .ok (.iload_n 2, 1) := by decide +kernel
theorem D113_5 : decode (byt 113) 5 = .ok (.iload_n 2, 1) := by decide +kernel
theorem D113_6 : decode (byt 113) 6 = .ok (.bipush 12, 2) := by decide +kernel
theorem D113_8 : decode (byt 113) 8 = .ok (.ishr, 1) := by decide +kernel
theorem D113_9 : decode (byt 113) 9 = .ok (.iand, 1) := by decide +kernel
theorem D113_10 : decode (byt 113) 10 = .ok (.sipush 4095, 3) := by decide +kernel
theorem D113_13 : decode (byt 113) 13 = .ok (.iand, 1) := by decide +kernel
theorem D113_14 : decode (byt 113) 14 = .ok (.ifCond .eq 10, 3) := by decide +kernel
theorem D113_17 : decode (byt 113) 17 = .ok (.aload_n 0, 1) := by decide +kernel
theorem D113_18 : decode (byt 113) 18 = .ok (.bipush (-7), 2) := by decide +kernel
theorem D113_20 : decode (byt 113) 20 = .ok (.invokevirtual 59, 3) := by decide +kernel
theorem D113_23 : decode (byt 113) 23 = .ok (.ireturn, 1) := by decide +kernel
theorem D113_24 : decode (byt 113) 24 = .ok (.aload_n 1, 1) := by decide +kernel
theorem D113_25 : decode (byt 113) 25 = .ok (.getfield 84, 3) := by decide +kernel
theorem D113_28 : decode (byt 113) 28 = .ok (.bipush 40, 2) := by decide +kernel
theorem D113_30 : decode (byt 113) 30 = .ok (.if_icmp .lt 10, 3) := by decide +kernel
theorem D113_33 : decode (byt 113) 33 = .ok (.aload_n 0, 1) := by decide +kernel
theorem D113_34 : decode (byt 113) 34 = .ok (.bipush (-8), 2) := by decide +kernel
theorem D113_36 : decode (byt 113) 36 = .ok (.invokevirtual 59, 3) := by decide +kernel
theorem D113_39 : decode (byt 113) 39 = .ok (.ireturn, 1) := by decide +kernel
theorem D113_40 : decode (byt 113) 40 = .ok (.aload_n 1, 1) := by decide +kernel
theorem D113_41 : decode (byt 113) 41 = .ok (.iload_n 2, 1) := by decide +kernel
theorem D113_42 : decode (byt 113) 42 = .ok (.invokevirtual 233, 3) := by decide +kernel
theorem D113_45 : decode (byt 113) 45 = .ok (.aload_n 1, 1) := by decide +kernel
theorem D113_46 : decode (byt 113) 46 = .ok (.getfield 84, 3) := by decide +kernel
theorem D113_49 : decode (byt 113) 49 = .ok (.iconst 1, 1) := by decide +kernel
theorem D113_50 : decode (byt 113) 50 = .ok (.isub, 1) := by decide +kernel
theorem D113_51 : decode (byt 113) 51 = .ok (.ireturn, 1) := by decide +kernel
theorem D114_0 : decode (byt 114) 0 = .ok (.aload_n 0, 1) := by decide +kernel
theorem D114_1 : decode (byt 114) 1 = .ok (.getfield 44, 3) := by decide +kernel
theorem D114_4 : decode (byt 114) 4 = .ok (.aload_n 0, 1) := by decide +kernel
theorem D114_5 : decode (byt 114) 5 = .ok (.getfield 37, 3) := by decide +kernel
theorem D114_8 : decode (byt 114) 8 = .ok (.arraylength, 1) := by decide +kernel
theorem D114_9 : decode (byt 114) 9 = .ok (.if_icmp .ge 23, 3) := by decide +kernel
theorem D114_12 : decode (byt 114) 12 = .ok (.aload_n 0, 1) := by decide +kernel
theorem D114_13 : decode (byt 114) 13 = .ok (.getfield 37, 3) := by decide +kernel
theorem D114_16 : decode (byt 114) 16 = .ok (.aload_n 0, 1) := by decide +kernel
theorem D114_17 : decode (byt 114) 17 = .ok (.getfield 44, 3) := by decide +kernel
theorem D114_20 : decode (byt 114) 20 = .ok (.iload_n 1, 1) := by decide +kernel
theorem D114_21 : decode (byt 114) 21 = .ok (.iastore, 1) := by decide +kernel
theorem D114_22 : decode (byt 114) 22 = .ok (.aload_n 0, 1) := by decide +kernel
theorem D114_23 : decode (byt 114) 23 = .ok (.dup, 1) := by decide +kernel
theorem D114_24 : decode (byt 114) 24 = .ok (.getfield 44, 3) := by decide +kernel
theorem D114_27 : decode (byt 114) 27 = .ok (.iconst 1, 1) := by decide +kernel
theorem D114_28 : decode (byt 114) 28 = .ok (.iadd, 1) := by decide +kernel
theorem D114_29 : decode (byt 114) 29 = .ok (.putfield 44, 3) := by decide +kernel
theorem D114_32 : decode (byt 114) 32 = .ok (.return_, 1) := by decide +kernel
theorem D115_0 : decode (byt 115) 0 = .ok (.lconst 0, 1) := by decide +kernel
theorem D115_1 : decode (byt 115) 1 = .ok (.lstore_n 2, 1) := by decide +kernel
theorem D115_2 : decode (byt 115) 2 = .ok (.iconst 0, 1) := by decide +kernel
theorem D115_3 : decode (byt 115) 3 = .ok (.istore 4, 2) := by decide +kernel
theorem D115_5 : decode (byt 115) 5 = .ok (.iload 4, 2) := by decide +kernel
theorem D115_7 : decode (byt 115) 7 = .ok (.aload_n 0, 1) := by decide +kernel
theorem D115_8 : decode (byt 115) 8 = .ok (.getfield 26, 3) := by decide +kernel
theorem D115_11 : decode (byt 115) 11 = .ok (.arraylength, 1) := by decide +kernel
theorem D115_12 : decode (byt 115) 12 = .ok (.if_icmp .ge 37, 3) := by decide +kernel
theorem D115_15 : decode (byt 115) 15 = .ok (.iload 4, 2) := by decide +kernel
theorem D115_17 : decode (byt 115) 17 = .ok (.aload_n 1, 1) := by decide +kernel
theorem D115_18 : decode (byt 115) 18 = .ok (.getfield 245, 3) := by decide +kernel
theorem D115_21 : decode (byt 115) 21 = .ok (.if_icmp .ge 28, 3) := by decide +kernel
theorem D115_24 : decode (byt 115) 24 = .ok (.aload_n 1, 1) := by decide +kernel
theorem D115_25 : decode (byt 115) 25 = .ok (.iload 4, 2) := by decide +kernel
theorem D115_27 : decode (byt 115) 27 = .ok (.invokevirtual 182, 3) := by decide +kernel
theorem D115_30 : decode (byt 115) 30 = .ok (.ifCond .eq 13, 3) := by decide +kernel
theorem D115_33 : decode (byt 115) 33 = .ok (.lload_n 2, 1) := by decide +kernel
theorem D115_34 : decode (byt 115) 34 = .ok (.aload_n 0, 1) := by decide +kernel
theorem D115_35 : decode (byt 115) 35 = .ok (.getfield 26, 3) := by decide +kernel
theorem D115_38 : decode (byt 115) 38 = .ok (.iload 4, 2) := by decide +kernel
theorem D115_40 : decode (byt 115) 40 = .ok (.laload, 1) := by decide +kernel
theorem D115_41 : decode (byt 115) 41 = .ok (.ladd, 1) := by decide +kernel
theorem D115_42 : decode (byt 115) 42 = .ok (.lstore_n 2, 1) := by decide +kernel
theorem D115_43 : decode (byt 115) 43 = .ok (.iinc 4 1, 3) := by decide +kernel
theorem D115_46 : decode (byt 115) 46 = .ok (.goto (-41), 3) := by decide +kernel
theorem D115_49 : decode (byt 115) 49 = .ok (.lload_n 2, 1) := by decide +kernel
theorem D115_50 : decode (byt 115) 50 = .ok (.lreturn, 1) := by decide +kernel
theorem D116_0 : decode (byt 116) 0 = .ok (.iconst (-1), 1) := by decide +kernel
theorem D116_1 : decode (byt 116) 1 = .ok (.istore_n 3, 1) := by decide +kernel
theorem D116_2 : decode (byt 116) 2 = .ok (.lconst 0, 1) := by decide +kernel
theorem D116_3 : decode (byt 116) 3 = .ok (.lstore 4, 2) := by decide +kernel
theorem D116_5 : decode (byt 116) 5 = .ok (.iconst 0, 1) := by decide +kernel
theorem D116_6 : decode (byt 116) 6 = .ok (.istore 6, 2) := by decide +kernel
theorem D116_8 : decode (byt 116) 8 = .ok (.iload 6, 2) := by decide +kernel
theorem D116_10 : decode (byt 116) 10 = .ok (.aload_n 0, 1) := by decide +kernel
theorem D116_11 : decode (byt 116) 11 = .ok (.getfield 26, 3) := by decide +kernel
theorem D116_14 : decode (byt 116) 14 = .ok (.arraylength, 1) := by decide +kernel
theorem D116_15 : decode (byt 116) 15 = .ok (.if_icmp .ge 88, 3) := by decide +kernel
theorem D116_18 : decode (byt 116) 18 = .ok (.iload 6, 2) := by decide +kernel
theorem D116_20 : decode (byt 116) 20 = .ok (.aload_n 1, 1) := by decide +kernel
theorem D116_21 : decode (byt 116) 21 = .ok (.getfield 245, 3) := by decide +kernel
theorem D116_24 : decode (byt 116) 24 = .ok (.if_icmp .ge 79, 3) := by decide +kernel
theorem D116_27 : decode (byt 116) 27 = .ok (.aload_n 0, 1) := by decide +kernel
theorem D116_28 : decode (byt 116) 28 = .ok (.getfield 26, 3) := by decide +kernel
theorem D116_31 : decode (byt 116) 31 = .ok (.iload 6, 2) := by decide +kernel
theorem D116_33 : decode (byt 116) 33 = .ok (.laload, 1) := by decide +kernel
theorem D116_34 : decode (byt 116) 34 = .ok (.lstore 7, 2) := by decide +kernel
theorem D116_36 : decode (byt 116) 36 = .ok (.iload_n 2, 1) := by decide +kernel
theorem D116_37 : decode (byt 116) 37 = .ok (.ifCond .eq 19, 3) := by decide +kernel
theorem D116_40 : decode (byt 116) 40 = .ok (.lload 7, 2) := by decide +kernel
theorem D116_42 : decode (byt 116) 42 = .ok (.lload 4, 2) := by decide +kernel
theorem D116_44 : decode (byt 116) 44 = .ok (.lcmp, 1) := by decide +kernel
theorem D116_45 : decode (byt 116) 45 = .ok (.ifCond .ge 7, 3) := by decide +kernel
theorem D116_48 : decode (byt 116) 48 = .ok (.iconst 1, 1) := by decide +kernel
theorem D116_49 : decode (byt 116) 49 = .ok (.goto 20, 3) := by decide +kernel
theorem D116_52 : decode (byt 116) 52 = .ok (.iconst 0, 1) := by decide +kernel
theorem D116_53 : decode (byt 116) 53 = .ok (.goto 16, 3) := by decide +kernel
theorem D116_56 : decode (byt 116) 56 = .ok (.lload 7, 2) := by decide +kernel
theorem D116_58 : decode (byt 116) 58 = .ok (.lload 4, 2) := by decide +kernel
theorem D116_60 : decode (byt 116) 60 = .ok (.lcmp, 1) := by decide +kernel
theorem D116_61 : decode (byt 116) 61 = .ok (.ifCond .le 7, 3) := by decide +kernel
theorem D116_64 : decode (byt 116) 64 = .ok (.iconst 1, 1) := by decide +kernel
theorem D116_65 : decode (byt 116) 65 = .ok (.goto 4, 3) := by decide +kernel
theorem D116_68 : decode (byt 116) 68 = .ok (.iconst 0, 1) := by decide +kernel
theorem D116_69 : decode (byt 116) 69 = .ok (.istore 9, 2) := by decide +kernel
theorem D116_71 : decode (byt 116) 71 = .ok (.aload_n 1, 1) := by decide +kernel
theorem D116_72 : decode (byt 116) 72 = .ok (.iload 6, 2) := by decide +kernel
theorem D116_74 : decode (byt 116) 74 = .ok (.invokevirtual 182, 3) := by decide +kernel
theorem D116_77 : decode (byt 116) 77 = .ok (.ifCond .eq 20, 3) := by decide +kernel
theorem D116_80 : decode (byt 116) 80 = .ok (.iload_n 3, 1) := by decide +kernel
theorem D116_81 : decode (byt 116) 81 = .ok (.iconst (-1), 1) := by decide +kernel
theorem D116_82 : decode (byt 116) 82 = .ok (.if_icmp .eq 8, 3) := by decide +kernel
theorem D116_85 : decode (byt 116) 85 = .ok (.iload 9, 2) := by decide +kernel
theorem D116_87 : decode (byt 116) 87 = .ok (.ifCond .eq 10, 3) := by decide +kernel
theorem D116_90 : decode (byt 116) 90 = .ok (.iload 6, 2) := by decide +kernel
theorem D116_92 : decode (byt 116) 92 = .ok (.istore_n 3, 1) := by decide +kernel
theorem D116_93 : decode (byt 116) 93 = .ok (.lload 7, 2) := by decide +kernel
theorem D116_95 : decode (byt 116) 95 = .ok (.lstore 4, 2) := by decide +kernel
theorem D116_97 : decode (byt 116) 97 = .ok (.iinc 6 1, 3) := by decide +kernel
theorem D116_100 : decode (byt 116) 100 = .ok (.goto (-92), 3) := by decide +kernel
theorem D116_103 : decode (byt 116) 103 = .ok (.iload_n 3, 1) := by decide +kernel
theorem D116_104 : decode (byt 116) 104 = .ok (.ireturn, 1) := by decide +kernel
theorem D117_0 : decode (byt 117) 0 = .ok (.lload_n 0, 1) := by decide +kernel
theorem D117_1 : decode (byt 117) 1 = .ok (.lstore 4, 2) := by decide +kernel
theorem D117_3 : decode (byt 117) 3 = .ok (.lload_n 2, 1) := by decide +kernel
theorem D117_4 : decode (byt 117) 4 = .ok (.lstore 6, 2) := by decide +kernel
theorem D117_6 : decode (byt 117) 6 = .ok (.iconst 0, 1) := by decide +kernel
theorem D117_7 : decode (byt 117) 7 = .ok (.istore 8, 2) := by decide +kernel
theorem D117_9 : decode (byt 117) 9 = .ok (.iload 8, 2) := by decide +kernel
theorem D117_11 : decode (byt 117) 11 = .ok (.sipush 200, 3) := by decide +kernel
theorem D117_14 : decode (byt 117) 14 = .ok (.if_icmp .ge 31, 3) := by decide +kernel
theorem D117_17 : decode (byt 117) 17 = .ok (.lload 6, 2) := by decide +kernel
theorem D117_19 : decode (byt 117) 19 = .ok (.lconst 0, 1) := by decide +kernel
theorem D117_20 : decode (byt 117) 20 = .ok (.lcmp, 1) := by decide +kernel
theorem D117_21 : decode (byt 117) 21 = .ok (.ifCond .eq 24, 3) := by decide +kernel
theorem D117_24 : decode (byt 117) 24 = .ok (.lload 4, 2) := by decide +kernel
theorem D117_26 : decode (byt 117) 26 = .ok (.lload 6, 2) := by decide +kernel
theorem D117_28 : decode (byt 117) 28 = .ok (.lrem, 1) := by decide +kernel
theorem D117_29 : decode (byt 117) 29 = .ok (.lstore 9, 2) := by decide +kernel
theorem D117_31 : decode (byt 117) 31 = .ok (.lload 6, 2) := by decide +kernel
theorem D117_33 : decode (byt 117) 33 = .ok (.lstore 4, 2) := by decide +kernel
theorem D117_35 : decode (byt 117) 35 = .ok (.lload 9, 2) := by decide +kernel
theorem D117_37 : decode (byt 117) 37 = .ok (.lstore 6, 2) := by decide +kernel
theorem D117_39 : decode (byt 117) 39 = .ok (.iinc 8 1, 3) := by decide +kernel
theorem D117_42 : decode (byt 117) 42 = .ok (.goto (-33), 3) := by decide +kernel
theorem D117_45 : decode (byt 117) 45 = .ok (.lload 4, 2) := by decide +kernel
theorem D117_47 : decode (byt 117) 47 = .ok (.lreturn, 1) := by decide +kernel
theorem D118_0 : decode (byt 118) 0 = .ok (.iload_n 0, 1) := by decide +kernel
theorem D118_1 : decode (byt 118) 1 = .ok (.ifCond .le 9, 3) := by decide +kernel
theorem D118_4 : decode (byt 118) 4 = .ok (.iload_n 0, 1) := by decide +kernel
theorem D118_5 : decode (byt 118) 5 = .ok (.iconst 1, 1) := by decide +kernel
theorem D118_6 : decode (byt 118) 6 = .ok (.isub, 1) := by decide +kernel
theorem D118_7 : decode (byt 118) 7 = .ok (.goto 7, 3) := by decide +kernel
theorem D118_10 : decode (byt 118) 10 = .ok (.bipush 11, 2) := by decide +kernel
theorem D118_12 : decode (byt 118) 12 = .ok (.iload_n 0, 1) := by decide +kernel
theorem D118_13 : decode (byt 118) 13 = .ok (.isub, 1) := by decide +kernel
theorem D118_14 : decode (byt 118) 14 = .ok (.ireturn, 1) := by decide +kernel
theorem D119_0 : decode (byt 119) 0 = .ok (.iload_n 0, 1) := by decide +kernel
theorem D119_1 : decode (byt 119) 1 = .ok (.ifCond .ne 7, 3) := by decide +kernel
theorem D119_4 : decode (byt 119) 4 = .ok (.iconst 0, 1) := by decide +kernel
theorem D119_5 : decode (byt 119) 5 = .ok (.goto 9, 3) := by decide +kernel
theorem D119_8 : decode (byt 119) 8 = .ok (.iconst 1, 1) := by decide +kernel
theorem D119_9 : decode (byt 119) 9 = .ok (.iload_n 0, 1) := by decide +kernel
theorem D119_10 : decode (byt 119) 10 = .ok (.invokestatic 248, 3) := by decide +kernel
theorem D119_13 : decode (byt 119) 13 = .ok (.ishl, 1) := by decide +kernel
theorem D119_14 : decode (byt 119) 14 = .ok (.ireturn, 1) := by decide +kernel
theorem D120_0 : decode (byt 120) 0 = .ok (.iload_n 0, 1) := by decide +kernel
theorem D120_1 : decode (byt 120) 1 = .ok (.sipush 4095, 3) := by decide +kernel
theorem D120_4 : decode (byt 120) 4 = .ok (.if_icmp .gt 10, 3) := by decide +kernel
theorem D120_7 : decode (byt 120) 7 = .ok (.iload_n 0, 1) := by decide +kernel
theorem D120_8 : decode (byt 120) 8 = .ok (.bipush 12, 2) := by decide +kernel
theorem D120_10 : decode (byt 120) 10 = .ok (.ishl, 1) := by decide +kernel
theorem D120_11 : decode (byt 120) 11 = .ok (.goto 7, 3) := by decide +kernel
theorem D120_14 : decode (byt 120) 14 = .ok (.iload_n 0, 1) := by decide +kernel
theorem D120_15 : decode (byt 120) 15 = .ok (.bipush 12, 2) := by decide +kernel
theorem D120_17 : decode (byt 120) 17 = .ok (.ishr, 1) := by decide +kernel
theorem D120_18 : decode (byt 120) 18 = .ok (.ireturn, 1) := by decide +kernel
theorem D121_0 : decode (byt 121) 0 = .ok (.iload_n 0, 1) := by decide +kernel
theorem D121_1 : decode (byt 121) 1 = .ok (.iload_n 0, 1) := by decide +kernel
theorem D121_2 : decode (byt 121) 2 = .ok (.bipush 12, 2) := by decide +kernel
theorem D121_4 : decode (byt 121) 4 = .ok (.ishr, 1) := by decide +kernel
theorem D121_5 : decode (byt 121) 5 = .ok (.ior, 1) := by decide +kernel
theorem D121_6 : decode (byt 121) 6 = .ok (.sipush 4095, 3) := by decide +kernel
theorem D121_9 : decode (byt 121) 9 = .ok (.iand, 1) := by decide +kernel
theorem D121_10 : decode (byt 121) 10 = .ok (.ireturn, 1) := by decide +kernel
theorem D122_0 : decode (byt 122) 0 = .ok (.iload_n 1, 1) := by decide +kernel
theorem D122_1 : decode (byt 122) 1 = .ok (.iload_n 0, 1) := by decide +kernel
theorem D122_2 : decode (byt 122) 2 = .ok (.invokestatic 251, 3) := by decide +kernel
theorem D122_5 : decode (byt 122) 5 = .ok (.isub, 1) := by decide +kernel
theorem D122_6 : decode (byt 122) 6 = .ok (.istore_n 3, 1) := by decide +kernel
theorem D122_7 : decode (byt 122) 7 = .ok (.lconst 0, 1) := by decide +kernel
theorem D122_8 : decode (byt 122) 8 = .ok (.lstore 4, 2) := by decide +kernel
theorem D122_10 : decode (byt 122) 10 = .ok (.iload_n 3, 1) := by decide +kernel
theorem D122_11 : decode (byt 122) 11 = .ok (.ifCond .lt 21, 3) := by decide +kernel
theorem D122_14 : decode (byt 122) 14 = .ok (.iload_n 3, 1) := by decide +kernel
theorem D122_15 : decode (byt 122) 15 = .ok (.getstatic 256, 3) := by decide +kernel
theorem D122_18 : decode (byt 122) 18 = .ok (.arraylength, 1) := by decide +kernel
theorem D122_19 : decode (byt 122) 19 = .ok (.if_icmp .ge 13, 3) := by decide +kernel
theorem D122_22 : decode (byt 122) 22 = .ok (.getstatic 256, 3) := by decide +kernel
theorem D122_25 : decode (byt 122) 25 = .ok (.iload_n 3, 1) := by decide +kernel
theorem D122_26 : decode (byt 122) 26 = .ok (.laload, 1) := by decide +kernel
theorem D122_27 : decode (byt 122) 27 = .ok (.lstore 4, 2) := by decide +kernel
theorem D122_29 : decode (byt 122) 29 = .ok (.goto 21, 3) := by decide +kernel
theorem D122_32 : decode (byt 122) 32 = .ok (.iload_n 2, 1) := by decide +kernel
theorem D122_33 : decode (byt 122) 33 = .ok (.iload_n 3, 1) := by decide +kernel
theorem D122_34 : decode (byt 122) 34 = .ok (.getstatic 256, 3) := by decide +kernel
theorem D122_37 : decode (byt 122) 37 = .ok (.arraylength, 1) := by decide +kernel
theorem D122_38 : decode (byt 122) 38 = .ok (.isub, 1) := by decide +kernel
theorem D122_39 : decode (byt 122) 39 = .ok (.ishr, 1) := by decide +kernel
theorem D122_40 : decode (byt 122) 40 = .ok (.iconst 1, 1) := by decide +kernel
theorem D122_41 : decode (byt 122) 41 = .ok (.iand, 1) := by decide +kernel
theorem D122_42 : decode (byt 122) 42 = .ok (.ifCond .eq 8, 3) := by decide +kernel
theorem D122_45 : decode (byt 122) 45 = .ok (.ldc2_w 259, 3) := by decide +kernel
theorem D122_48 : decode (byt 122) 48 = .ok (.lstore 4, 2) := by decide +kernel
theorem D122_50 : decode (byt 122) 50 = .ok (.iload_n 0, 1) := by decide +kernel
theorem D122_51 : decode (byt 122) 51 = .ok (.ifCond .le 8, 3) := by decide +kernel
theorem D122_54 : decode (byt 122) 54 = .ok (.lload 4, 2) := by decide +kernel
theorem D122_56 : decode (byt 122) 56 = .ok (.goto 9, 3) := by decide +kernel
theorem D122_59 : decode (byt 122) 59 = .ok (.lload 4, 2) := by decide +kernel
theorem D122_61 : decode (byt 122) 61 = .ok (.ldc2_w 259, 3) := by decide +kernel
theorem D122_64 : decode (byt 122) 64 = .ok (.lxor, 1) := by decide +kernel
theorem D122_65 : decode (byt 122) 65 = .ok (.lreturn, 1) := by decide +kernel
theorem D203_0 : decode (byt 203) 0 = .ok (.iload_n 0, 1) := by decide +kernel
theorem D203_1 : decode (byt 203) 1 = .ok (.iload_n 0, 1) := by decide +kernel
theorem D203_2 : decode (byt 203) 2 = .ok (.iconst 1, 1) := by decide +kernel
theorem D203_3 : decode (byt 203) 3 = .ok (.iushr, 1) := by decide +kernel
theorem D203_4 : decode (byt 203) 4 = .ok (.ldc_w 265, 3) := by decide +kernel
theorem D203_7 : decode (byt 203) 7 = .ok (.iand, 1) := by decide +kernel
theorem D203_8 : decode (byt 203) 8 = .ok (.isub, 1) := by decide +kernel
theorem D203_9 : decode (byt 203) 9 = .ok (.istore_n 0, 1) := by decide +kernel
theorem D203_10 : decode (byt 203) 10 = .ok (.iload_n 0, 1) := by decide +kernel
theorem D203_11 : decode (byt 203) 11 = .ok (.ldc_w 266, 3) := by decide +kernel
theorem D203_14 : decode (byt 203) 14 = .ok (.iand, 1) := by decide +kernel
theorem D203_15 : decode (byt 203) 15 = .ok (.iload_n 0, 1) := by decide +kernel
theorem D203_16 : decode (byt 203) 16 = .ok (.iconst 2, 1) := by decide +kernel
theorem D203_17 : decode (byt 203) 17 = .ok (.iushr, 1) := by decide +kernel
theorem D203_18 : decode (byt 203) 18 = .ok (.ldc_w 266, 3) := by decide +kernel
theorem D203_21 : decode (byt 203) 21 = .ok (.iand, 1) := by decide +kernel
theorem D203_22 : decode (byt 203) 22 = .ok (.iadd, 1) := by decide +kernel
theorem D203_23 : decode (byt 203) 23 = .ok (.istore_n 0, 1) := by decide +kernel
theorem D203_24 : decode (byt 203) 24 = .ok (.iload_n 0, 1) := by decide +kernel
theorem D203_25 : decode (byt 203) 25 = .ok (.iload_n 0, 1) := by decide +kernel
theorem D203_26 : decode (byt 203) 26 = .ok (.iconst 4, 1) := by decide +kernel
theorem D203_27 : decode (byt 203) 27 = .ok (.iushr, 1) := by decide +kernel
theorem D203_28 : decode (byt 203) 28 = .ok (.iadd, 1) := by decide +kernel
theorem D203_29 : decode (byt 203) 29 = .ok (.ldc_w 267, 3) := by decide +kernel
theorem D203_32 : decode (byt 203) 32 = .ok (.iand, 1) := by decide +kernel
theorem D203_33 : decode (byt 203) 33 = .ok (.istore_n 0, 1) := by decide +kernel
theorem D203_34 : decode (byt 203) 34 = .ok (.iload_n 0, 1) := by decide +kernel
theorem D203_35 : decode (byt 203) 35 = .ok (.iload_n 0, 1) := by decide +kernel
theorem D203_36 : decode (byt 203) 36 = .ok (.bipush 8, 2) := by decide +kernel
theorem D203_38 : decode (byt 203) 38 = .ok (.iushr, 1) := by decide +kernel
theorem D203_39 : decode (byt 203) 39 = .ok (.iadd, 1) := by decide +kernel
theorem D203_40 : decode (byt 203) 40 = .ok (.istore_n 0, 1) := by decide +kernel
theorem D203_41 : decode (byt 203) 41 = .ok (.iload_n 0, 1) := by decide +kernel
theorem D203_42 : decode (byt 203) 42 = .ok (.iload_n 0, 1) := by decide +kernel
theorem D203_43 : decode (byt 203) 43 = .ok (.bipush 16, 2) := by decide +kernel
theorem D203_45 : decode (byt 203) 45 = .ok (.iushr, 1) := by decide +kernel
theorem D203_46 : decode (byt 203) 46 = .ok (.iadd, 1) := by decide +kernel
theorem D203_47 : decode (byt 203) 47 = .ok (.istore_n 0, 1) := by decide +kernel
theorem D203_48 : decode (byt 203) 48 = .ok (.iload_n 0, 1) := by decide +kernel
theorem D203_49 : decode (byt 203) 49 = .ok (.bipush 63, 2) := by decide +kernel
theorem D203_51 : decode (byt 203) 51 = .ok (.iand, 1) := by decide +kernel
theorem D203_52 : decode (byt 203) 52 = .ok (.ireturn, 1) := by decide +kernel
theorem D204_0 : decode (byt 204) 0 = .ok (.lload_n 0, 1) := by decide +kernel
theorem D204_1 : decode (byt 204) 1 = .ok (.lload_n 0, 1) := by decide +kernel
theorem D204_2 : decode (byt 204) 2 = .ok (.iconst 1, 1) := by decide +kernel
theorem D204_3 : decode (byt 204) 3 = .ok (.lushr, 1) := by decide +kernel
theorem D204_4 : decode (byt 204) 4 = .ok (.ldc2_w 314, 3) := by decide +kernel
theorem D204_7 : decode (byt 204) 7 = .ok (.land, 1) := by decide +kernel
theorem D204_8 : decode (byt 204) 8 = .ok (.lsub, 1) := by decide +kernel
theorem D204_9 : decode (byt 204) 9 = .ok (.lstore_n 0, 1) := by decide +kernel
theorem D204_10 : decode (byt 204) 10 = .ok (.lload_n 0, 1) := by decide +kernel
theorem D204_11 : decode (byt 204) 11 = .ok (.ldc2_w 316, 3) := by decide +kernel
theorem D204_14 : decode (byt 204) 14 = .ok (.land, 1) := by decide +kernel
theorem D204_15 : decode (byt 204) 15 = .ok (.lload_n 0, 1) := by decide +kernel
theorem D204_16 : decode (byt 204) 16 = .ok (.iconst 2, 1) := by decide +kernel
theorem D204_17 : decode (byt 204) 17 = .ok (.lushr, 1) := by decide +kernel
theorem D204_18 : decode (byt 204) 18 = .ok (.ldc2_w 316, 3) := by decide +kernel
theorem D204_21 : decode (byt 204) 21 = .ok (.land, 1) := by decide +kernel
theorem D204_22 : decode (byt 204) 22 = .ok (.ladd, 1) := by decide +kernel
theorem D204_23 : decode (byt 204) 23 = .ok (.lstore_n 0, 1) := by decide +kernel
theorem D204_24 : decode (byt 204) 24 = .ok (.lload_n 0, 1) := by decide +kernel
theorem D204_25 : decode (byt 204) 25 = .ok (.lload_n 0, 1) := by decide +kernel
theorem D204_26 : decode (byt 204) 26 = .ok (.iconst 4, 1) := by decide +kernel
theorem D204_27 : decode (byt 204) 27 = .ok (.lushr, 1) := by decide +kernel
theorem D204_28 : decode (byt 204) 28 = .ok (.ladd, 1) := by decide +kernel
theorem D204_29 : decode (byt 204) 29 = .ok (.ldc2_w 318, 3) := by decide +kernel
theorem D204_32 : decode (byt 204) 32 = .ok (.land, 1) := by decide +kernel
theorem D204_33 : decode (byt 204) 33 = .ok (.lstore_n 0, 1) := by decide +kernel
theorem D204_34 : decode (byt 204) 34 = .ok (.lload_n 0, 1) := by decide +kernel
theorem D204_35 : decode (byt 204) 35 = .ok (.lload_n 0, 1) := by decide +kernel
theorem D204_36 : decode (byt 204) 36 = .ok (.bipush 8, 2) := by decide +kernel
theorem D204_38 : decode (byt 204) 38 = .ok (.lushr, 1) := by decide +kernel
theorem D204_39 : decode (byt 204) 39 = .ok (.ladd, 1) := by decide +kernel
theorem D204_40 : decode (byt 204) 40 = .ok (.lstore_n 0, 1) := by decide +kernel
theorem D204_41 : decode (byt 204) 41 = .ok (.lload_n 0, 1) := by decide +kernel
theorem D204_42 : decode (byt 204) 42 = .ok (.lload_n 0, 1) := by decide +kernel
theorem D204_43 : decode (byt 204) 43 = .ok (.bipush 16, 2) := by decide +kernel
theorem D204_45 : decode (byt 204) 45 = .ok (.lushr, 1) := by decide +kernel
theorem D204_46 : decode (byt 204) 46 = .ok (.ladd, 1) := by decide +kernel
theorem D204_47 : decode (byt 204) 47 = .ok (.lstore_n 0, 1) := by decide +kernel
theorem D204_48 : decode (byt 204) 48 = .ok (.lload_n 0, 1) := by decide +kernel
theorem D204_49 : decode (byt 204) 49 = .ok (.lload_n 0, 1) := by decide +kernel
theorem D204_50 : decode (byt 204) 50 = .ok (.bipush 32, 2) := by decide +kernel
theorem D204_52 : decode (byt 204) 52 = .ok (.lushr, 1) := by decide +kernel
theorem D204_53 : decode (byt 204) 53 = .ok (.ladd, 1) := by decide +kernel
theorem D204_54 : decode (byt 204) 54 = .ok (.lstore_n 0, 1) := by decide +kernel
theorem D204_55 : decode (byt 204) 55 = .ok (.lload_n 0, 1) := by decide +kernel
theorem D204_56 : decode (byt 204) 56 = .ok (.l2i, 1) := by decide +kernel
theorem D204_57 : decode (byt 204) 57 = .ok (.bipush 127, 2) := by decide +kernel
theorem D204_59 : decode (byt 204) 59 = .ok (.iand, 1) := by decide +kernel
theorem D204_60 : decode (byt 204) 60 = .ok (.ireturn, 1) := by decide +kernel
theorem D205_0 : decode (byt 205) 0 = .ok (.aload_n 0, 1) := by decide +kernel
theorem D205_1 : decode (byt 205) 1 = .ok (.iload_n 1, 1) := by decide +kernel
theorem D205_2 : decode (byt 205) 2 = .ok (.iload_n 2, 1) := by decide +kernel
theorem D205_3 : decode (byt 205) 3 = .ok (.invokevirtual 78, 3) := by decide +kernel
theorem D205_6 : decode (byt 205) 6 = .ok (.istore_n 3, 1) := by decide +kernel
theorem D205_7 : decode (byt 205) 7 = .ok (.aload_n 0, 1) := by decide +kernel
theorem D205_8 : decode (byt 205) 8 = .ok (.iload_n 3, 1) := by decide +kernel
theorem D205_9 : decode (byt 205) 9 = .ok (.invokevirtual 59, 3) := by decide +kernel
theorem D205_12 : decode (byt 205) 12 = .ok (.ifCond .eq 12, 3) := by decide +kernel
theorem D205_15 : decode (byt 205) 15 = .ok (.aload_n 0, 1) := by decide +kernel
theorem D205_16 : decode (byt 205) 16 = .ok (.getfield 21, 3) := by decide +kernel
theorem D205_19 : decode (byt 205) 19 = .ok (.iload_n 3, 1) := by decide +kernel
theorem D205_20 : decode (byt 205) 20 = .ok (.iaload, 1) := by decide +kernel
theorem D205_21 : decode (byt 205) 21 = .ok (.goto 4, 3) := by decide +kernel
theorem D205_24 : decode (byt 205) 24 = .ok (.iconst 0, 1) := by decide +kernel
theorem D205_25 : decode (byt 205) 25 = .ok (.ireturn, 1) := by decide +kernel
theorem D206_0 : decode (byt 206) 0 = .ok (.iload_n 0, 1) := by decide +kernel
theorem D206_1 : decode (byt 206) 1 = .ok (.ifCond .ge 8, 3) := by decide +kernel
theorem D206_4 : decode (byt 206) 4 = .ok (.iload_n 0, 1) := by decide +kernel
theorem D206_5 : decode (byt 206) 5 = .ok (.ineg, 1) := by decide +kernel
theorem D206_6 : decode (byt 206) 6 = .ok (.goto 4, 3) := by decide +kernel
theorem D206_9 : decode (byt 206) 9 = .ok (.iload_n 0, 1) := by decide +kernel
theorem D206_10 : decode (byt 206) 10 = .ok (.ireturn, 1) := by decide +kernel
theorem D207_0 : decode (byt 207) 0 = .ok (.iload_n 0, 1) := by decide +kernel
theorem D207_1 : decode (byt 207) 1 = .ok (.iload_n 1, 1) := by decide +kernel
theorem D207_2 : decode (byt 207) 2 = .ok (.if_icmp .lt 7, 3) := by decide +kernel
theorem D207_5 : decode (byt 207) 5 = .ok (.iload_n 0, 1) := by decide +kernel
theorem D207_6 : decode (byt 207) 6 = .ok (.goto 4, 3) := by decide +kernel
theorem D207_9 : decode (byt 207) 9 = .ok (.iload_n 1, 1) := by decide +kernel
theorem D207_10 : decode (byt 207) 10 = .ok (.ireturn, 1) := by decide +kernel
theorem D208_0 : decode (byt 208) 0 = .ok (.iload_n 0, 1) := by decide +kernel
theorem D208_1 : decode (byt 208) 1 = .ok (.iload_n 1, 1) := by decide +kernel
theorem D208_2 : decode (byt 208) 2 = .ok (.if_icmp .gt 7, 3) := by decide +kernel
theorem D208_5 : decode (byt 208) 5 = .ok (.iload_n 0, 1) := by decide +kernel
theorem D208_6 : decode (byt 208) 6 = .ok (.goto 4, 3) := by decide +kernel
theorem D208_9 : decode (byt 208) 9 = .ok (.iload_n 1, 1) := by decide +kernel
theorem D208_10 : decode (byt 208) 10 = .ok (.ireturn, 1) := by decide +kernel
