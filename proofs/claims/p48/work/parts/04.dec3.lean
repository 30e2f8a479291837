theorem dJ2_putChar_b72d1_6 : decode cJ2_putChar_b72d1 6 = .ok (.iload_n 1, 1) := by decide +kernel
theorem dJ2_putChar_b72d1_7 : decode cJ2_putChar_b72d1 7 = .ok (.ifCond .lt 11, 3) := by decide +kernel
theorem dJ2_putChar_b72d1_10 : decode cJ2_putChar_b72d1 10 = .ok (.iload_n 1, 1) := by decide +kernel
theorem dJ2_putChar_b72d1_11 : decode cJ2_putChar_b72d1 11 = .ok (.aload_n 0, 1) := by decide +kernel
theorem dJ2_putChar_b72d1_12 : decode cJ2_putChar_b72d1 12 = .ok (.invokestatic 48, 3) := by decide +kernel
theorem dJ2_putChar_b72d1_15 : decode cJ2_putChar_b72d1 15 = .ok (.if_icmp .lt 13, 3) := by decide +kernel
theorem dJ2_putChar_b72d1_18 : decode cJ2_putChar_b72d1 18 = .ok (.new 52, 3) := by decide +kernel
theorem dJ2_putChar_b72d1_21 : decode cJ2_putChar_b72d1 21 = .ok (.dup, 1) := by decide +kernel
theorem dJ2_putChar_b72d1_22 : decode cJ2_putChar_b72d1 22 = .ok (.ldc 54, 2) := by decide +kernel
theorem dJ2_putChar_b72d1_24 : decode cJ2_putChar_b72d1 24 = .ok (.invokespecial 56, 3) := by decide +kernel
theorem dJ2_putChar_b72d1_27 : decode cJ2_putChar_b72d1 27 = .ok (.athrow, 1) := by decide +kernel
theorem dJ2_putChar_b72d1_28 : decode cJ2_putChar_b72d1 28 = .ok (.iload_n 1, 1) := by decide +kernel
theorem dJ2_putChar_b72d1_29 : decode cJ2_putChar_b72d1 29 = .ok (.iconst 1, 1) := by decide +kernel
theorem dJ2_putChar_b72d1_30 : decode cJ2_putChar_b72d1 30 = .ok (.ishl, 1) := by decide +kernel
theorem dJ2_putChar_b72d1_31 : decode cJ2_putChar_b72d1 31 = .ok (.istore_n 1, 1) := by decide +kernel
theorem dJ2_putChar_b72d1_32 : decode cJ2_putChar_b72d1 32 = .ok (.aload_n 0, 1) := by decide +kernel
theorem dJ2_putChar_b72d1_33 : decode cJ2_putChar_b72d1 33 = .ok (.iload_n 1, 1) := by decide +kernel
theorem dJ2_putChar_b72d1_34 : decode cJ2_putChar_b72d1 34 = .ok (.iinc 1 1, 3) := by decide +kernel
theorem dJ2_putChar_b72d1_37 : decode cJ2_putChar_b72d1 37 = .ok (.iload_n 2, 1) := by decide +kernel
theorem dJ2_putChar_b72d1_38 : decode cJ2_putChar_b72d1 38 = .ok (.getstatic 59, 3) := by decide +kernel
theorem dJ2_putChar_b72d1_41 : decode cJ2_putChar_b72d1 41 = .ok (.ishr, 1) := by decide +kernel
theorem dJ2_putChar_b72d1_42 : decode cJ2_putChar_b72d1 42 = .ok (.i2b, 1) := by decide +kernel
theorem dJ2_putChar_b72d1_43 : decode cJ2_putChar_b72d1 43 = .ok (.bastore, 1) := by decide +kernel
theorem dJ2_putChar_b72d1_44 : decode cJ2_putChar_b72d1 44 = .ok (.aload_n 0, 1) := by decide +kernel
theorem dJ2_putChar_b72d1_45 : decode cJ2_putChar_b72d1 45 = .ok (.iload_n 1, 1) := by decide +kernel
theorem dJ2_putChar_b72d1_46 : decode cJ2_putChar_b72d1 46 = .ok (.iload_n 2, 1) := by decide +kernel
theorem dJ2_putChar_b72d1_47 : decode cJ2_putChar_b72d1 47 = .ok (.getstatic 63, 3) := by decide +kernel
theorem dJ2_putChar_b72d1_50 : decode cJ2_putChar_b72d1 50 = .ok (.ishr, 1) := by decide +kernel
theorem dJ2_putChar_b72d1_51 : decode cJ2_putChar_b72d1 51 = .ok (.i2b, 1) := by decide +kernel
theorem dJ2_putChar_b72d1_52 : decode cJ2_putChar_b72d1 52 = .ok (.bastore, 1) := by decide +kernel
theorem dJ2_putChar_b72d1_53 : decode cJ2_putChar_b72d1 53 = .ok (.return_, 1) := by decide +kernel
theorem dJ2_getChar_3b067_0 : decode cJ2_getChar_3b067 0 = .ok (.getstatic 44, 3) := by decide +kernel
theorem dJ2_getChar_3b067_3 : decode cJ2_getChar_3b067 3 = .ok (.ifCond .ne 25, 3) := by decide +kernel
theorem dJ2_getChar_3b067_6 : decode cJ2_getChar_3b067 6 = .ok (.iload_n 1, 1) := by decide +kernel
theorem dJ2_getChar_3b067_7 : decode cJ2_getChar_3b067 7 = .ok (.ifCond .lt 11, 3) := by decide +kernel
theorem dJ2_getChar_3b067_10 : decode cJ2_getChar_3b067 10 = .ok (.iload_n 1, 1) := by decide +kernel
theorem dJ2_getChar_3b067_11 : decode cJ2_getChar_3b067 11 = .ok (.aload_n 0, 1) := by decide +kernel
theorem dJ2_getChar_3b067_12 : decode cJ2_getChar_3b067 12 = .ok (.invokestatic 48, 3) := by decide +kernel
theorem dJ2_getChar_3b067_15 : decode cJ2_getChar_3b067 15 = .ok (.if_icmp .lt 13, 3) := by decide +kernel
theorem dJ2_getChar_3b067_18 : decode cJ2_getChar_3b067 18 = .ok (.new 52, 3) := by decide +kernel
theorem dJ2_getChar_3b067_21 : decode cJ2_getChar_3b067 21 = .ok (.dup, 1) := by decide +kernel
theorem dJ2_getChar_3b067_22 : decode cJ2_getChar_3b067 22 = .ok (.ldc 54, 2) := by decide +kernel
theorem dJ2_getChar_3b067_24 : decode cJ2_getChar_3b067 24 = .ok (.invokespecial 56, 3) := by decide +kernel
theorem dJ2_getChar_3b067_27 : decode cJ2_getChar_3b067 27 = .ok (.athrow, 1) := by decide +kernel
theorem dJ2_getChar_3b067_28 : decode cJ2_getChar_3b067 28 = .ok (.iload_n 1, 1) := by decide +kernel
theorem dJ2_getChar_3b067_29 : decode cJ2_getChar_3b067 29 = .ok (.iconst 1, 1) := by decide +kernel
theorem dJ2_getChar_3b067_30 : decode cJ2_getChar_3b067 30 = .ok (.ishl, 1) := by decide +kernel
theorem dJ2_getChar_3b067_31 : decode cJ2_getChar_3b067 31 = .ok (.istore_n 1, 1) := by decide +kernel
theorem dJ2_getChar_3b067_32 : decode cJ2_getChar_3b067 32 = .ok (.aload_n 0, 1) := by decide +kernel
theorem dJ2_getChar_3b067_33 : decode cJ2_getChar_3b067 33 = .ok (.iload_n 1, 1) := by decide +kernel
theorem dJ2_getChar_3b067_34 : decode cJ2_getChar_3b067 34 = .ok (.iinc 1 1, 3) := by decide +kernel
theorem dJ2_getChar_3b067_37 : decode cJ2_getChar_3b067 37 = .ok (.baload, 1) := by decide +kernel
theorem dJ2_getChar_3b067_38 : decode cJ2_getChar_3b067 38 = .ok (.sipush 255, 3) := by decide +kernel
theorem dJ2_getChar_3b067_41 : decode cJ2_getChar_3b067 41 = .ok (.iand, 1) := by decide +kernel
theorem dJ2_getChar_3b067_42 : decode cJ2_getChar_3b067 42 = .ok (.getstatic 59, 3) := by decide +kernel
theorem dJ2_getChar_3b067_45 : decode cJ2_getChar_3b067 45 = .ok (.ishl, 1) := by decide +kernel
theorem dJ2_getChar_3b067_46 : decode cJ2_getChar_3b067 46 = .ok (.aload_n 0, 1) := by decide +kernel
theorem dJ2_getChar_3b067_47 : decode cJ2_getChar_3b067 47 = .ok (.iload_n 1, 1) := by decide +kernel
theorem dJ2_getChar_3b067_48 : decode cJ2_getChar_3b067 48 = .ok (.baload, 1) := by decide +kernel
theorem dJ2_getChar_3b067_49 : decode cJ2_getChar_3b067 49 = .ok (.sipush 255, 3) := by decide +kernel
theorem dJ2_getChar_3b067_52 : decode cJ2_getChar_3b067 52 = .ok (.iand, 1) := by decide +kernel
theorem dJ2_getChar_3b067_53 : decode cJ2_getChar_3b067 53 = .ok (.getstatic 63, 3) := by decide +kernel
theorem dJ2_getChar_3b067_56 : decode cJ2_getChar_3b067 56 = .ok (.ishl, 1) := by decide +kernel
theorem dJ2_getChar_3b067_57 : decode cJ2_getChar_3b067 57 = .ok (.ior, 1) := by decide +kernel
theorem dJ2_getChar_3b067_58 : decode cJ2_getChar_3b067 58 = .ok (.i2c, 1) := by decide +kernel
theorem dJ2_getChar_3b067_59 : decode cJ2_getChar_3b067 59 = .ok (.ireturn, 1) := by decide +kernel
theorem dJ2_length_9d52b_0 : decode cJ2_length_9d52b 0 = .ok (.aload_n 0, 1) := by decide +kernel
theorem dJ2_length_9d52b_1 : decode cJ2_length_9d52b 1 = .ok (.arraylength, 1) := by decide +kernel
theorem dJ2_length_9d52b_2 : decode cJ2_length_9d52b 2 = .ok (.iconst 1, 1) := by decide +kernel
theorem dJ2_length_9d52b_3 : decode cJ2_length_9d52b 3 = .ok (.ishr, 1) := by decide +kernel
theorem dJ2_length_9d52b_4 : decode cJ2_length_9d52b 4 = .ok (.ireturn, 1) := by decide +kernel
theorem dJ2_coderFromArrayLen_85cad_0 : decode cJ2_coderFromArrayLen_85cad 0 = .ok (.iload_n 1, 1) := by decide +kernel
theorem dJ2_coderFromArrayLen_85cad_1 : decode cJ2_coderFromArrayLen_85cad 1 = .ok (.aload_n 0, 1) := by decide +kernel
theorem dJ2_coderFromArrayLen_85cad_2 : decode cJ2_coderFromArrayLen_85cad 2 = .ok (.arraylength, 1) := by decide +kernel
theorem dJ2_coderFromArrayLen_85cad_3 : decode cJ2_coderFromArrayLen_85cad 3 = .ok (.isub, 1) := by decide +kernel
theorem dJ2_coderFromArrayLen_85cad_4 : decode cJ2_coderFromArrayLen_85cad 4 = .ok (.bipush 31, 2) := by decide +kernel
theorem dJ2_coderFromArrayLen_85cad_6 : decode cJ2_coderFromArrayLen_85cad 6 = .ok (.iushr, 1) := by decide +kernel
theorem dJ2_coderFromArrayLen_85cad_7 : decode cJ2_coderFromArrayLen_85cad 7 = .ok (.i2b, 1) := by decide +kernel
theorem dJ2_coderFromArrayLen_85cad_8 : decode cJ2_coderFromArrayLen_85cad 8 = .ok (.ireturn, 1) := by decide +kernel
theorem dJ2_compress_39247_0 : decode cJ2_compress_39247 0 = .ok (.iload_n 2, 1) := by decide +kernel
theorem dJ2_compress_39247_1 : decode cJ2_compress_39247 1 = .ok (.newarray .byte, 2) := by decide +kernel
theorem dJ2_compress_39247_3 : decode cJ2_compress_39247 3 = .ok (.astore_n 3, 1) := by decide +kernel
theorem dJ2_compress_39247_4 : decode cJ2_compress_39247 4 = .ok (.aload_n 0, 1) := by decide +kernel
theorem dJ2_compress_39247_5 : decode cJ2_compress_39247 5 = .ok (.iload_n 1, 1) := by decide +kernel
theorem dJ2_compress_39247_6 : decode cJ2_compress_39247 6 = .ok (.aload_n 3, 1) := by decide +kernel
theorem dJ2_compress_39247_7 : decode cJ2_compress_39247 7 = .ok (.iconst 0, 1) := by decide +kernel
theorem dJ2_compress_39247_8 : decode cJ2_compress_39247 8 = .ok (.iload_n 2, 1) := by decide +kernel
theorem dJ2_compress_39247_9 : decode cJ2_compress_39247 9 = .ok (.invokestatic 123, 3) := by decide +kernel
theorem dJ2_compress_39247_12 : decode cJ2_compress_39247 12 = .ok (.istore 4, 2) := by decide +kernel
theorem dJ2_compress_39247_14 : decode cJ2_compress_39247 14 = .ok (.iload 4, 2) := by decide +kernel
theorem dJ2_compress_39247_16 : decode cJ2_compress_39247 16 = .ok (.iload_n 2, 1) := by decide +kernel
theorem dJ2_compress_39247_17 : decode cJ2_compress_39247 17 = .ok (.if_icmp .eq 47, 3) := by decide +kernel
theorem dJ2_compress_39247_20 : decode cJ2_compress_39247 20 = .ok (.aload_n 0, 1) := by decide +kernel
theorem dJ2_compress_39247_21 : decode cJ2_compress_39247 21 = .ok (.iload_n 1, 1) := by decide +kernel
theorem dJ2_compress_39247_22 : decode cJ2_compress_39247 22 = .ok (.iconst 1, 1) := by decide +kernel
theorem dJ2_compress_39247_23 : decode cJ2_compress_39247 23 = .ok (.ishl, 1) := by decide +kernel
theorem dJ2_compress_39247_24 : decode cJ2_compress_39247 24 = .ok (.iload_n 1, 1) := by decide +kernel
theorem dJ2_compress_39247_25 : decode cJ2_compress_39247 25 = .ok (.iload_n 2, 1) := by decide +kernel
theorem dJ2_compress_39247_26 : decode cJ2_compress_39247 26 = .ok (.iadd, 1) := by decide +kernel
theorem dJ2_compress_39247_27 : decode cJ2_compress_39247 27 = .ok (.invokestatic 11, 3) := by decide +kernel
theorem dJ2_compress_39247_30 : decode cJ2_compress_39247 30 = .ok (.invokestatic 126, 3) := by decide +kernel
theorem dJ2_compress_39247_33 : decode cJ2_compress_39247 33 = .ok (.astore 5, 2) := by decide +kernel
theorem dJ2_compress_39247_35 : decode cJ2_compress_39247 35 = .ok (.aload 5, 2) := by decide +kernel
theorem dJ2_compress_39247_37 : decode cJ2_compress_39247 37 = .ok (.iload 4, 2) := by decide +kernel
theorem dJ2_compress_39247_39 : decode cJ2_compress_39247 39 = .ok (.invokestatic 71, 3) := by decide +kernel
theorem dJ2_compress_39247_42 : decode cJ2_compress_39247 42 = .ok (.sipush 255, 3) := by decide +kernel
theorem dJ2_compress_39247_45 : decode cJ2_compress_39247 45 = .ok (.if_icmp .gt 16, 3) := by decide +kernel
theorem dJ2_compress_39247_48 : decode cJ2_compress_39247 48 = .ok (.aload 5, 2) := by decide +kernel
theorem dJ2_compress_39247_50 : decode cJ2_compress_39247 50 = .ok (.iconst 0, 1) := by decide +kernel
theorem dJ2_compress_39247_51 : decode cJ2_compress_39247 51 = .ok (.aload_n 3, 1) := by decide +kernel
theorem dJ2_compress_39247_52 : decode cJ2_compress_39247 52 = .ok (.iconst 0, 1) := by decide +kernel
theorem dJ2_compress_39247_53 : decode cJ2_compress_39247 53 = .ok (.iload_n 2, 1) := by decide +kernel
theorem dJ2_compress_39247_54 : decode cJ2_compress_39247 54 = .ok (.invokestatic 123, 3) := by decide +kernel
theorem dJ2_compress_39247_57 : decode cJ2_compress_39247 57 = .ok (.iload_n 2, 1) := by decide +kernel
theorem dJ2_compress_39247_58 : decode cJ2_compress_39247 58 = .ok (.if_icmp .eq 6, 3) := by decide +kernel
theorem dJ2_compress_39247_61 : decode cJ2_compress_39247 61 = .ok (.aload 5, 2) := by decide +kernel
theorem dJ2_compress_39247_63 : decode cJ2_compress_39247 63 = .ok (.areturn, 1) := by decide +kernel
theorem dJ2_compress_39247_64 : decode cJ2_compress_39247 64 = .ok (.aload_n 3, 1) := by decide +kernel
theorem dJ2_compress_39247_65 : decode cJ2_compress_39247 65 = .ok (.areturn, 1) := by decide +kernel
theorem dJ2_compress_5af95_0 : decode cJ2_compress_5af95 0 = .ok (.iload_n 1, 1) := by decide +kernel
theorem dJ2_compress_5af95_1 : decode cJ2_compress_5af95 1 = .ok (.iload 4, 2) := by decide +kernel
theorem dJ2_compress_5af95_3 : decode cJ2_compress_5af95 3 = .ok (.aload_n 0, 1) := by decide +kernel
theorem dJ2_compress_5af95_4 : decode cJ2_compress_5af95 4 = .ok (.invokestatic 173, 3) := by decide +kernel
theorem dJ2_compress_5af95_7 : decode cJ2_compress_5af95 7 = .ok (.iconst 0, 1) := by decide +kernel
theorem dJ2_compress_5af95_8 : decode cJ2_compress_5af95 8 = .ok (.istore 5, 2) := by decide +kernel
theorem dJ2_compress_5af95_10 : decode cJ2_compress_5af95 10 = .ok (.iload 5, 2) := by decide +kernel
theorem dJ2_compress_5af95_12 : decode cJ2_compress_5af95 12 = .ok (.iload 4, 2) := by decide +kernel
theorem dJ2_compress_5af95_14 : decode cJ2_compress_5af95 14 = .ok (.if_icmp .ge 39, 3) := by decide +kernel
theorem dJ2_compress_5af95_17 : decode cJ2_compress_5af95 17 = .ok (.aload_n 0, 1) := by decide +kernel
theorem dJ2_compress_5af95_18 : decode cJ2_compress_5af95 18 = .ok (.iload_n 1, 1) := by decide +kernel
theorem dJ2_compress_5af95_19 : decode cJ2_compress_5af95 19 = .ok (.invokestatic 71, 3) := by decide +kernel
theorem dJ2_compress_5af95_22 : decode cJ2_compress_5af95 22 = .ok (.istore 6, 2) := by decide +kernel
theorem dJ2_compress_5af95_24 : decode cJ2_compress_5af95 24 = .ok (.iload 6, 2) := by decide +kernel
theorem dJ2_compress_5af95_26 : decode cJ2_compress_5af95 26 = .ok (.sipush 255, 3) := by decide +kernel
theorem dJ2_compress_5af95_29 : decode cJ2_compress_5af95 29 = .ok (.if_icmp .le 6, 3) := by decide +kernel
theorem dJ2_compress_5af95_32 : decode cJ2_compress_5af95 32 = .ok (.iload 5, 2) := by decide +kernel
theorem dJ2_compress_5af95_34 : decode cJ2_compress_5af95 34 = .ok (.ireturn, 1) := by decide +kernel
theorem dJ2_compress_5af95_35 : decode cJ2_compress_5af95 35 = .ok (.aload_n 2, 1) := by decide +kernel
theorem dJ2_compress_5af95_36 : decode cJ2_compress_5af95 36 = .ok (.iload_n 3, 1) := by decide +kernel
theorem dJ2_compress_5af95_37 : decode cJ2_compress_5af95 37 = .ok (.iload 6, 2) := by decide +kernel
theorem dJ2_compress_5af95_39 : decode cJ2_compress_5af95 39 = .ok (.i2b, 1) := by decide +kernel
theorem dJ2_compress_5af95_40 : decode cJ2_compress_5af95 40 = .ok (.bastore, 1) := by decide +kernel
theorem dJ2_compress_5af95_41 : decode cJ2_compress_5af95 41 = .ok (.iinc 1 1, 3) := by decide +kernel
theorem dJ2_compress_5af95_44 : decode cJ2_compress_5af95 44 = .ok (.iinc 3 1, 3) := by decide +kernel
theorem dJ2_compress_5af95_47 : decode cJ2_compress_5af95 47 = .ok (.iinc 5 1, 3) := by decide +kernel
theorem dJ2_compress_5af95_50 : decode cJ2_compress_5af95 50 = .ok (.goto (-40), 3) := by decide +kernel
theorem dJ2_compress_5af95_53 : decode cJ2_compress_5af95 53 = .ok (.iload 4, 2) := by decide +kernel
theorem dJ2_compress_5af95_55 : decode cJ2_compress_5af95 55 = .ok (.ireturn, 1) := by decide +kernel
theorem dJ2_putCharSB_b72d1_0 : decode cJ2_putCharSB_b72d1 0 = .ok (.iload_n 1, 1) := by decide +kernel
theorem dJ2_putCharSB_b72d1_1 : decode cJ2_putCharSB_b72d1 1 = .ok (.aload_n 0, 1) := by decide +kernel
theorem dJ2_putCharSB_b72d1_2 : decode cJ2_putCharSB_b72d1 2 = .ok (.invokestatic 67, 3) := by decide +kernel
theorem dJ2_putCharSB_b72d1_5 : decode cJ2_putCharSB_b72d1 5 = .ok (.aload_n 0, 1) := by decide +kernel
theorem dJ2_putCharSB_b72d1_6 : decode cJ2_putCharSB_b72d1 6 = .ok (.iload_n 1, 1) := by decide +kernel
theorem dJ2_putCharSB_b72d1_7 : decode cJ2_putCharSB_b72d1 7 = .ok (.iload_n 2, 1) := by decide +kernel
theorem dJ2_putCharSB_b72d1_8 : decode cJ2_putCharSB_b72d1 8 = .ok (.invokestatic 111, 3) := by decide +kernel
theorem dJ2_putCharSB_b72d1_11 : decode cJ2_putCharSB_b72d1 11 = .ok (.return_, 1) := by decide +kernel
theorem dJ2_getChars_46870_0 : decode cJ2_getChars_46870 0 = .ok (.iload_n 1, 1) := by decide +kernel
theorem dJ2_getChars_46870_1 : decode cJ2_getChars_46870 1 = .ok (.iload_n 2, 1) := by decide +kernel
theorem dJ2_getChars_46870_2 : decode cJ2_getChars_46870 2 = .ok (.aload_n 3, 1) := by decide +kernel
theorem dJ2_getChars_46870_3 : decode cJ2_getChars_46870 3 = .ok (.invokestatic 96, 3) := by decide +kernel
theorem dJ2_getChars_46870_6 : decode cJ2_getChars_46870 6 = .ok (.iload_n 0, 1) := by decide +kernel
theorem dJ2_getChars_46870_7 : decode cJ2_getChars_46870 7 = .ok (.iload_n 2, 1) := by decide +kernel
theorem dJ2_getChars_46870_8 : decode cJ2_getChars_46870 8 = .ok (.aload_n 3, 1) := by decide +kernel
theorem dJ2_getChars_46870_9 : decode cJ2_getChars_46870 9 = .ok (.invokestatic 393, 3) := by decide +kernel
theorem dJ2_getChars_46870_12 : decode cJ2_getChars_46870 12 = .ok (.istore 4, 2) := by decide +kernel
theorem dJ2_getChars_46870_14 : decode cJ2_getChars_46870 14 = .ok (.getstatic 44, 3) := by decide +kernel
theorem dJ2_getChars_46870_17 : decode cJ2_getChars_46870 17 = .ok (.ifCond .ne 17, 3) := by decide +kernel
theorem dJ2_getChars_46870_20 : decode cJ2_getChars_46870 20 = .ok (.iload_n 1, 1) := by decide +kernel
theorem dJ2_getChars_46870_21 : decode cJ2_getChars_46870 21 = .ok (.iload 4, 2) := by decide +kernel
theorem dJ2_getChars_46870_23 : decode cJ2_getChars_46870 23 = .ok (.if_icmp .eq 11, 3) := by decide +kernel
theorem dJ2_getChars_46870_26 : decode cJ2_getChars_46870 26 = .ok (.new 52, 3) := by decide +kernel
theorem dJ2_getChars_46870_29 : decode cJ2_getChars_46870 29 = .ok (.dup, 1) := by decide +kernel
theorem dJ2_getChars_46870_30 : decode cJ2_getChars_46870 30 = .ok (.invokespecial 66, 3) := by decide +kernel
theorem dJ2_getChars_46870_33 : decode cJ2_getChars_46870 33 = .ok (.athrow, 1) := by decide +kernel
theorem dJ2_getChars_46870_34 : decode cJ2_getChars_46870 34 = .ok (.iload 4, 2) := by decide +kernel
theorem dJ2_getChars_46870_36 : decode cJ2_getChars_46870 36 = .ok (.ireturn, 1) := by decide +kernel
theorem dJ2_putCharsAt_cd4e5_0 : decode cJ2_putCharsAt_cd4e5 0 = .ok (.iload_n 1, 1) := by decide +kernel
theorem dJ2_putCharsAt_cd4e5_1 : decode cJ2_putCharsAt_cd4e5 1 = .ok (.iconst 4, 1) := by decide +kernel
theorem dJ2_putCharsAt_cd4e5_2 : decode cJ2_putCharsAt_cd4e5 2 = .ok (.iadd, 1) := by decide +kernel
theorem dJ2_putCharsAt_cd4e5_3 : decode cJ2_putCharsAt_cd4e5 3 = .ok (.istore 6, 2) := by decide +kernel
theorem dJ2_putCharsAt_cd4e5_5 : decode cJ2_putCharsAt_cd4e5 5 = .ok (.iload_n 1, 1) := by decide +kernel
theorem dJ2_putCharsAt_cd4e5_6 : decode cJ2_putCharsAt_cd4e5 6 = .ok (.iload 6, 2) := by decide +kernel
theorem dJ2_putCharsAt_cd4e5_8 : decode cJ2_putCharsAt_cd4e5 8 = .ok (.aload_n 0, 1) := by decide +kernel
theorem dJ2_putCharsAt_cd4e5_9 : decode cJ2_putCharsAt_cd4e5 9 = .ok (.invokestatic 96, 3) := by decide +kernel
theorem dJ2_putCharsAt_cd4e5_12 : decode cJ2_putCharsAt_cd4e5 12 = .ok (.aload_n 0, 1) := by decide +kernel
theorem dJ2_putCharsAt_cd4e5_13 : decode cJ2_putCharsAt_cd4e5 13 = .ok (.iload_n 1, 1) := by decide +kernel
theorem dJ2_putCharsAt_cd4e5_14 : decode cJ2_putCharsAt_cd4e5 14 = .ok (.iinc 1 1, 3) := by decide +kernel
theorem dJ2_putCharsAt_cd4e5_17 : decode cJ2_putCharsAt_cd4e5 17 = .ok (.iload_n 2, 1) := by decide +kernel
theorem dJ2_putCharsAt_cd4e5_18 : decode cJ2_putCharsAt_cd4e5 18 = .ok (.invokestatic 111, 3) := by decide +kernel
theorem dJ2_putCharsAt_cd4e5_21 : decode cJ2_putCharsAt_cd4e5 21 = .ok (.aload_n 0, 1) := by decide +kernel
theorem dJ2_putCharsAt_cd4e5_22 : decode cJ2_putCharsAt_cd4e5 22 = .ok (.iload_n 1, 1) := by decide +kernel
theorem dJ2_putCharsAt_cd4e5_23 : decode cJ2_putCharsAt_cd4e5 23 = .ok (.iinc 1 1, 3) := by decide +kernel
theorem dJ2_putCharsAt_cd4e5_26 : decode cJ2_putCharsAt_cd4e5 26 = .ok (.iload_n 3, 1) := by decide +kernel
theorem dJ2_putCharsAt_cd4e5_27 : decode cJ2_putCharsAt_cd4e5 27 = .ok (.invokestatic 111, 3) := by decide +kernel
theorem dJ2_putCharsAt_cd4e5_30 : decode cJ2_putCharsAt_cd4e5 30 = .ok (.aload_n 0, 1) := by decide +kernel
theorem dJ2_putCharsAt_cd4e5_31 : decode cJ2_putCharsAt_cd4e5 31 = .ok (.iload_n 1, 1) := by decide +kernel
theorem dJ2_putCharsAt_cd4e5_32 : decode cJ2_putCharsAt_cd4e5 32 = .ok (.iinc 1 1, 3) := by decide +kernel
theorem dJ2_putCharsAt_cd4e5_35 : decode cJ2_putCharsAt_cd4e5 35 = .ok (.iload 4, 2) := by decide +kernel
theorem dJ2_putCharsAt_cd4e5_37 : decode cJ2_putCharsAt_cd4e5 37 = .ok (.invokestatic 111, 3) := by decide +kernel
theorem dJ2_putCharsAt_cd4e5_40 : decode cJ2_putCharsAt_cd4e5 40 = .ok (.aload_n 0, 1) := by decide +kernel
theorem dJ2_putCharsAt_cd4e5_41 : decode cJ2_putCharsAt_cd4e5 41 = .ok (.iload_n 1, 1) := by decide +kernel
theorem dJ2_putCharsAt_cd4e5_42 : decode cJ2_putCharsAt_cd4e5 42 = .ok (.iinc 1 1, 3) := by decide +kernel
theorem dJ2_putCharsAt_cd4e5_45 : decode cJ2_putCharsAt_cd4e5 45 = .ok (.iload 5, 2) := by decide +kernel
theorem dJ2_putCharsAt_cd4e5_47 : decode cJ2_putCharsAt_cd4e5 47 = .ok (.invokestatic 111, 3) := by decide +kernel
theorem dJ2_putCharsAt_cd4e5_50 : decode cJ2_putCharsAt_cd4e5 50 = .ok (.getstatic 44, 3) := by decide +kernel
theorem dJ2_putCharsAt_cd4e5_53 : decode cJ2_putCharsAt_cd4e5 53 = .ok (.ifCond .ne 17, 3) := by decide +kernel
theorem dJ2_putCharsAt_cd4e5_56 : decode cJ2_putCharsAt_cd4e5 56 = .ok (.iload_n 1, 1) := by decide +kernel
theorem dJ2_putCharsAt_cd4e5_57 : decode cJ2_putCharsAt_cd4e5 57 = .ok (.iload 6, 2) := by decide +kernel
theorem dJ2_putCharsAt_cd4e5_59 : decode cJ2_putCharsAt_cd4e5 59 = .ok (.if_icmp .eq 11, 3) := by decide +kernel
theorem dJ2_putCharsAt_cd4e5_62 : decode cJ2_putCharsAt_cd4e5 62 = .ok (.new 52, 3) := by decide +kernel
theorem dJ2_putCharsAt_cd4e5_65 : decode cJ2_putCharsAt_cd4e5 65 = .ok (.dup, 1) := by decide +kernel
theorem dJ2_putCharsAt_cd4e5_66 : decode cJ2_putCharsAt_cd4e5 66 = .ok (.invokespecial 66, 3) := by decide +kernel
theorem dJ2_putCharsAt_cd4e5_69 : decode cJ2_putCharsAt_cd4e5 69 = .ok (.athrow, 1) := by decide +kernel
theorem dJ2_putCharsAt_cd4e5_70 : decode cJ2_putCharsAt_cd4e5 70 = .ok (.iload 6, 2) := by decide +kernel
theorem dJ2_putCharsAt_cd4e5_72 : decode cJ2_putCharsAt_cd4e5 72 = .ok (.ireturn, 1) := by decide +kernel
theorem dJ2_charAt_3b067_0 : decode cJ2_charAt_3b067 0 = .ok (.iload_n 1, 1) := by decide +kernel
theorem dJ2_charAt_3b067_1 : decode cJ2_charAt_3b067 1 = .ok (.aload_n 0, 1) := by decide +kernel
theorem dJ2_charAt_3b067_2 : decode cJ2_charAt_3b067 2 = .ok (.invokestatic 67, 3) := by decide +kernel
theorem dJ2_charAt_3b067_5 : decode cJ2_charAt_3b067 5 = .ok (.aload_n 0, 1) := by decide +kernel
theorem dJ2_charAt_3b067_6 : decode cJ2_charAt_3b067 6 = .ok (.iload_n 1, 1) := by decide +kernel
theorem dJ2_charAt_3b067_7 : decode cJ2_charAt_3b067 7 = .ok (.invokestatic 71, 3) := by decide +kernel
theorem dJ2_charAt_3b067_10 : decode cJ2_charAt_3b067 10 = .ok (.ireturn, 1) := by decide +kernel
theorem dJ2_inflate_0e8fd_0 : decode cJ2_inflate_0e8fd 0 = .ok (.iload_n 3, 1) := by decide +kernel
theorem dJ2_inflate_0e8fd_1 : decode cJ2_inflate_0e8fd 1 = .ok (.iload 4, 2) := by decide +kernel
theorem dJ2_inflate_0e8fd_3 : decode cJ2_inflate_0e8fd 3 = .ok (.aload_n 2, 1) := by decide +kernel
theorem dJ2_inflate_0e8fd_4 : decode cJ2_inflate_0e8fd 4 = .ok (.invokestatic 173, 3) := by decide +kernel
theorem dJ2_inflate_0e8fd_7 : decode cJ2_inflate_0e8fd 7 = .ok (.iconst 0, 1) := by decide +kernel
theorem dJ2_inflate_0e8fd_8 : decode cJ2_inflate_0e8fd 8 = .ok (.istore 5, 2) := by decide +kernel
theorem dJ2_inflate_0e8fd_10 : decode cJ2_inflate_0e8fd 10 = .ok (.iload 5, 2) := by decide +kernel
theorem dJ2_inflate_0e8fd_12 : decode cJ2_inflate_0e8fd 12 = .ok (.iload 4, 2) := by decide +kernel
theorem dJ2_inflate_0e8fd_14 : decode cJ2_inflate_0e8fd 14 = .ok (.if_icmp .ge 27, 3) := by decide +kernel
theorem dJ2_inflate_0e8fd_17 : decode cJ2_inflate_0e8fd 17 = .ok (.aload_n 2, 1) := by decide +kernel
theorem dJ2_inflate_0e8fd_18 : decode cJ2_inflate_0e8fd 18 = .ok (.iload_n 3, 1) := by decide +kernel
theorem dJ2_inflate_0e8fd_19 : decode cJ2_inflate_0e8fd 19 = .ok (.iinc 3 1, 3) := by decide +kernel
theorem dJ2_inflate_0e8fd_22 : decode cJ2_inflate_0e8fd 22 = .ok (.aload_n 0, 1) := by decide +kernel
theorem dJ2_inflate_0e8fd_23 : decode cJ2_inflate_0e8fd 23 = .ok (.iload_n 1, 1) := by decide +kernel
theorem dJ2_inflate_0e8fd_24 : decode cJ2_inflate_0e8fd 24 = .ok (.iinc 1 1, 3) := by decide +kernel
theorem dJ2_inflate_0e8fd_27 : decode cJ2_inflate_0e8fd 27 = .ok (.baload, 1) := by decide +kernel
theorem dJ2_inflate_0e8fd_28 : decode cJ2_inflate_0e8fd 28 = .ok (.sipush 255, 3) := by decide +kernel
theorem dJ2_inflate_0e8fd_31 : decode cJ2_inflate_0e8fd 31 = .ok (.iand, 1) := by decide +kernel
theorem dJ2_inflate_0e8fd_32 : decode cJ2_inflate_0e8fd 32 = .ok (.invokestatic 111, 3) := by decide +kernel
theorem dJ2_inflate_0e8fd_35 : decode cJ2_inflate_0e8fd 35 = .ok (.iinc 5 1, 3) := by decide +kernel
theorem dJ2_inflate_0e8fd_38 : decode cJ2_inflate_0e8fd 38 = .ok (.goto (-28), 3) := by decide +kernel
theorem dJ2_inflate_0e8fd_41 : decode cJ2_inflate_0e8fd 41 = .ok (.return_, 1) := by decide +kernel
theorem dJ2_getChars_ba4f3_0 : decode cJ2_getChars_ba4f3 0 = .ok (.iload_n 1, 1) := by decide +kernel
theorem dJ2_getChars_ba4f3_1 : decode cJ2_getChars_ba4f3 1 = .ok (.istore 5, 2) := by decide +kernel
theorem dJ2_getChars_ba4f3_3 : decode cJ2_getChars_ba4f3 3 = .ok (.iload_n 0, 1) := by decide +kernel
theorem dJ2_getChars_ba4f3_4 : decode cJ2_getChars_ba4f3 4 = .ok (.ifCond .ge 7, 3) := by decide +kernel
theorem dJ2_getChars_ba4f3_7 : decode cJ2_getChars_ba4f3 7 = .ok (.iconst 1, 1) := by decide +kernel
theorem dJ2_getChars_ba4f3_8 : decode cJ2_getChars_ba4f3 8 = .ok (.goto 4, 3) := by decide +kernel
theorem dJ2_getChars_ba4f3_11 : decode cJ2_getChars_ba4f3 11 = .ok (.iconst 0, 1) := by decide +kernel
theorem dJ2_getChars_ba4f3_12 : decode cJ2_getChars_ba4f3 12 = .ok (.istore 6, 2) := by decide +kernel
theorem dJ2_getChars_ba4f3_14 : decode cJ2_getChars_ba4f3 14 = .ok (.iload 6, 2) := by decide +kernel
theorem dJ2_getChars_ba4f3_16 : decode cJ2_getChars_ba4f3 16 = .ok (.ifCond .ne 6, 3) := by decide +kernel
theorem dJ2_getChars_ba4f3_19 : decode cJ2_getChars_ba4f3 19 = .ok (.iload_n 0, 1) := by decide +kernel
theorem dJ2_getChars_ba4f3_20 : decode cJ2_getChars_ba4f3 20 = .ok (.ineg, 1) := by decide +kernel
theorem dJ2_getChars_ba4f3_21 : decode cJ2_getChars_ba4f3 21 = .ok (.istore_n 0, 1) := by decide +kernel
theorem dJ2_getChars_ba4f3_22 : decode cJ2_getChars_ba4f3 22 = .ok (.iload_n 0, 1) := by decide +kernel
theorem dJ2_getChars_ba4f3_23 : decode cJ2_getChars_ba4f3 23 = .ok (.bipush (-100), 2) := by decide +kernel
theorem dJ2_getChars_ba4f3_25 : decode cJ2_getChars_ba4f3 25 = .ok (.if_icmp .gt 51, 3) := by decide +kernel
theorem dJ2_getChars_ba4f3_28 : decode cJ2_getChars_ba4f3 28 = .ok (.iload_n 0, 1) := by decide +kernel
theorem dJ2_getChars_ba4f3_29 : decode cJ2_getChars_ba4f3 29 = .ok (.bipush 100, 2) := by decide +kernel
theorem dJ2_getChars_ba4f3_31 : decode cJ2_getChars_ba4f3 31 = .ok (.idiv, 1) := by decide +kernel
theorem dJ2_getChars_ba4f3_32 : decode cJ2_getChars_ba4f3 32 = .ok (.istore_n 3, 1) := by decide +kernel
theorem dJ2_getChars_ba4f3_33 : decode cJ2_getChars_ba4f3 33 = .ok (.iload_n 3, 1) := by decide +kernel
theorem dJ2_getChars_ba4f3_34 : decode cJ2_getChars_ba4f3 34 = .ok (.bipush 100, 2) := by decide +kernel
theorem dJ2_getChars_ba4f3_36 : decode cJ2_getChars_ba4f3 36 = .ok (.imul, 1) := by decide +kernel
theorem dJ2_getChars_ba4f3_37 : decode cJ2_getChars_ba4f3 37 = .ok (.iload_n 0, 1) := by decide +kernel
theorem dJ2_getChars_ba4f3_38 : decode cJ2_getChars_ba4f3 38 = .ok (.isub, 1) := by decide +kernel
theorem dJ2_getChars_ba4f3_39 : decode cJ2_getChars_ba4f3 39 = .ok (.istore 4, 2) := by decide +kernel
theorem dJ2_getChars_ba4f3_41 : decode cJ2_getChars_ba4f3 41 = .ok (.iload_n 3, 1) := by decide +kernel
theorem dJ2_getChars_ba4f3_42 : decode cJ2_getChars_ba4f3 42 = .ok (.istore_n 0, 1) := by decide +kernel
theorem dJ2_getChars_ba4f3_43 : decode cJ2_getChars_ba4f3 43 = .ok (.aload_n 2, 1) := by decide +kernel
theorem dJ2_getChars_ba4f3_44 : decode cJ2_getChars_ba4f3 44 = .ok (.iinc 5 (-1), 3) := by decide +kernel
theorem dJ2_getChars_ba4f3_47 : decode cJ2_getChars_ba4f3 47 = .ok (.iload 5, 2) := by decide +kernel
theorem dJ2_getChars_ba4f3_49 : decode cJ2_getChars_ba4f3 49 = .ok (.getstatic 403, 3) := by decide +kernel
theorem dJ2_getChars_ba4f3_52 : decode cJ2_getChars_ba4f3 52 = .ok (.iload 4, 2) := by decide +kernel
theorem dJ2_getChars_ba4f3_54 : decode cJ2_getChars_ba4f3 54 = .ok (.baload, 1) := by decide +kernel
theorem dJ2_getChars_ba4f3_55 : decode cJ2_getChars_ba4f3 55 = .ok (.invokestatic 111, 3) := by decide +kernel
theorem dJ2_getChars_ba4f3_58 : decode cJ2_getChars_ba4f3 58 = .ok (.aload_n 2, 1) := by decide +kernel
theorem dJ2_getChars_ba4f3_59 : decode cJ2_getChars_ba4f3 59 = .ok (.iinc 5 (-1), 3) := by decide +kernel
theorem dJ2_getChars_ba4f3_62 : decode cJ2_getChars_ba4f3 62 = .ok (.iload 5, 2) := by decide +kernel
theorem dJ2_getChars_ba4f3_64 : decode cJ2_getChars_ba4f3 64 = .ok (.getstatic 407, 3) := by decide +kernel
theorem dJ2_getChars_ba4f3_67 : decode cJ2_getChars_ba4f3 67 = .ok (.iload 4, 2) := by decide +kernel
theorem dJ2_getChars_ba4f3_69 : decode cJ2_getChars_ba4f3 69 = .ok (.baload, 1) := by decide +kernel
theorem dJ2_getChars_ba4f3_70 : decode cJ2_getChars_ba4f3 70 = .ok (.invokestatic 111, 3) := by decide +kernel
theorem dJ2_getChars_ba4f3_73 : decode cJ2_getChars_ba4f3 73 = .ok (.goto (-51), 3) := by decide +kernel
theorem dJ2_getChars_ba4f3_76 : decode cJ2_getChars_ba4f3 76 = .ok (.aload_n 2, 1) := by decide +kernel
theorem dJ2_getChars_ba4f3_77 : decode cJ2_getChars_ba4f3 77 = .ok (.iinc 5 (-1), 3) := by decide +kernel
theorem dJ2_getChars_ba4f3_80 : decode cJ2_getChars_ba4f3 80 = .ok (.iload 5, 2) := by decide +kernel
theorem dJ2_getChars_ba4f3_82 : decode cJ2_getChars_ba4f3 82 = .ok (.getstatic 403, 3) := by decide +kernel
theorem dJ2_getChars_ba4f3_85 : decode cJ2_getChars_ba4f3 85 = .ok (.iload_n 0, 1) := by decide +kernel
theorem dJ2_getChars_ba4f3_86 : decode cJ2_getChars_ba4f3 86 = .ok (.ineg, 1) := by decide +kernel
theorem dJ2_getChars_ba4f3_87 : decode cJ2_getChars_ba4f3 87 = .ok (.baload, 1) := by decide +kernel
theorem dJ2_getChars_ba4f3_88 : decode cJ2_getChars_ba4f3 88 = .ok (.invokestatic 111, 3) := by decide +kernel
theorem dJ2_getChars_ba4f3_91 : decode cJ2_getChars_ba4f3 91 = .ok (.iload_n 0, 1) := by decide +kernel
theorem dJ2_getChars_ba4f3_92 : decode cJ2_getChars_ba4f3 92 = .ok (.bipush (-9), 2) := by decide +kernel
theorem dJ2_getChars_ba4f3_94 : decode cJ2_getChars_ba4f3 94 = .ok (.if_icmp .ge 18, 3) := by decide +kernel
theorem dJ2_getChars_ba4f3_97 : decode cJ2_getChars_ba4f3 97 = .ok (.aload_n 2, 1) := by decide +kernel
theorem dJ2_getChars_ba4f3_98 : decode cJ2_getChars_ba4f3 98 = .ok (.iinc 5 (-1), 3) := by decide +kernel
theorem dJ2_getChars_ba4f3_101 : decode cJ2_getChars_ba4f3 101 = .ok (.iload 5, 2) := by decide +kernel
theorem dJ2_getChars_ba4f3_103 : decode cJ2_getChars_ba4f3 103 = .ok (.getstatic 407, 3) := by decide +kernel
theorem dJ2_getChars_ba4f3_106 : decode cJ2_getChars_ba4f3 106 = .ok (.iload_n 0, 1) := by decide +kernel
theorem dJ2_getChars_ba4f3_107 : decode cJ2_getChars_ba4f3 107 = .ok (.ineg, 1) := by decide +kernel
theorem dJ2_getChars_ba4f3_108 : decode cJ2_getChars_ba4f3 108 = .ok (.baload, 1) := by decide +kernel
theorem dJ2_getChars_ba4f3_109 : decode cJ2_getChars_ba4f3 109 = .ok (.invokestatic 111, 3) := by decide +kernel
theorem dJ2_getChars_ba4f3_112 : decode cJ2_getChars_ba4f3 112 = .ok (.iload 6, 2) := by decide +kernel
theorem dJ2_getChars_ba4f3_114 : decode cJ2_getChars_ba4f3 114 = .ok (.ifCond .eq 14, 3) := by decide +kernel
theorem dJ2_getChars_ba4f3_117 : decode cJ2_getChars_ba4f3 117 = .ok (.aload_n 2, 1) := by decide +kernel
theorem dJ2_getChars_ba4f3_118 : decode cJ2_getChars_ba4f3 118 = .ok (.iinc 5 (-1), 3) := by decide +kernel
theorem dJ2_getChars_ba4f3_121 : decode cJ2_getChars_ba4f3 121 = .ok (.iload 5, 2) := by decide +kernel
theorem dJ2_getChars_ba4f3_123 : decode cJ2_getChars_ba4f3 123 = .ok (.bipush 45, 2) := by decide +kernel
theorem dJ2_getChars_ba4f3_125 : decode cJ2_getChars_ba4f3 125 = .ok (.invokestatic 111, 3) := by decide +kernel
theorem dJ2_getChars_ba4f3_128 : decode cJ2_getChars_ba4f3 128 = .ok (.iload 5, 2) := by decide +kernel
theorem dJ2_getChars_ba4f3_130 : decode cJ2_getChars_ba4f3 130 = .ok (.ireturn, 1) := by decide +kernel
theorem dJ2_checkIndex_2214a_0 : decode cJ2_checkIndex_2214a 0 = .ok (.iload_n 0, 1) := by decide +kernel
theorem dJ2_checkIndex_2214a_1 : decode cJ2_checkIndex_2214a 1 = .ok (.aload_n 1, 1) := by decide +kernel
theorem dJ2_checkIndex_2214a_2 : decode cJ2_checkIndex_2214a 2 = .ok (.invokestatic 48, 3) := by decide +kernel
theorem dJ2_checkIndex_2214a_5 : decode cJ2_checkIndex_2214a 5 = .ok (.invokestatic 414, 3) := by decide +kernel
theorem dJ2_checkIndex_2214a_8 : decode cJ2_checkIndex_2214a 8 = .ok (.return_, 1) := by decide +kernel
theorem dJ2_checkBoundsBeginEnd_d044e_0 : decode cJ2_checkBoundsBeginEnd_d044e 0 = .ok (.iload_n 0, 1) := by decide +kernel
theorem dJ2_checkBoundsBeginEnd_d044e_1 : decode cJ2_checkBoundsBeginEnd_d044e 1 = .ok (.iload_n 1, 1) := by decide +kernel
theorem dJ2_checkBoundsBeginEnd_d044e_2 : decode cJ2_checkBoundsBeginEnd_d044e 2 = .ok (.aload_n 2, 1) := by decide +kernel
theorem dJ2_checkBoundsBeginEnd_d044e_3 : decode cJ2_checkBoundsBeginEnd_d044e 3 = .ok (.invokestatic 48, 3) := by decide +kernel
theorem dJ2_checkBoundsBeginEnd_d044e_6 : decode cJ2_checkBoundsBeginEnd_d044e 6 = .ok (.invokestatic 241, 3) := by decide +kernel
theorem dJ2_checkBoundsBeginEnd_d044e_9 : decode cJ2_checkBoundsBeginEnd_d044e 9 = .ok (.return_, 1) := by decide +kernel
theorem dJ2_checkBoundsOffCount_d044e_0 : decode cJ2_checkBoundsOffCount_d044e 0 = .ok (.iload_n 0, 1) := by decide +kernel
theorem dJ2_checkBoundsOffCount_d044e_1 : decode cJ2_checkBoundsOffCount_d044e 1 = .ok (.iload_n 1, 1) := by decide +kernel
theorem dJ2_checkBoundsOffCount_d044e_2 : decode cJ2_checkBoundsOffCount_d044e 2 = .ok (.aload_n 2, 1) := by decide +kernel
theorem dJ2_checkBoundsOffCount_d044e_3 : decode cJ2_checkBoundsOffCount_d044e 3 = .ok (.invokestatic 48, 3) := by decide +kernel
theorem dJ2_checkBoundsOffCount_d044e_6 : decode cJ2_checkBoundsOffCount_d044e 6 = .ok (.invokestatic 419, 3) := by decide +kernel
theorem dJ2_checkBoundsOffCount_d044e_9 : decode cJ2_checkBoundsOffCount_d044e 9 = .ok (.pop, 1) := by decide +kernel
theorem dJ2_checkBoundsOffCount_d044e_10 : decode cJ2_checkBoundsOffCount_d044e 10 = .ok (.return_, 1) := by decide +kernel
theorem dJxa1e45_init_da8c8_0 : decode cJxa1e45_init_da8c8 0 = .ok (.aload_n 0, 1) := by decide +kernel
theorem dJxa1e45_init_da8c8_1 : decode cJxa1e45_init_da8c8 1 = .ok (.invokespecial 1, 3) := by decide +kernel
theorem dJxa1e45_init_da8c8_4 : decode cJxa1e45_init_da8c8 4 = .ok (.return_, 1) := by decide +kernel
theorem dJxc12de_init_da8c8_0 : decode cJxc12de_init_da8c8 0 = .ok (.aload_n 0, 1) := by decide +kernel
theorem dJxc12de_init_da8c8_1 : decode cJxc12de_init_da8c8 1 = .ok (.invokespecial 1, 3) := by decide +kernel
theorem dJxc12de_init_da8c8_4 : decode cJxc12de_init_da8c8 4 = .ok (.aload_n 0, 1) := by decide +kernel
theorem dJxc12de_init_da8c8_5 : decode cJxc12de_init_da8c8 5 = .ok (.iconst 0, 1) := by decide +kernel
theorem dJxc12de_init_da8c8_6 : decode cJxc12de_init_da8c8 6 = .ok (.putfield 7, 3) := by decide +kernel
theorem dJxc12de_init_da8c8_9 : decode cJxc12de_init_da8c8 9 = .ok (.return_, 1) := by decide +kernel
theorem dJx35411_init_45d68_0 : decode cJx35411_init_45d68 0 = .ok (.aload_n 0, 1) := by decide +kernel
theorem dJx35411_init_45d68_1 : decode cJx35411_init_45d68 1 = .ok (.aload_n 1, 1) := by decide +kernel
theorem dJx35411_init_45d68_2 : decode cJx35411_init_45d68 2 = .ok (.putfield 1, 3) := by decide +kernel
theorem dJx35411_init_45d68_5 : decode cJx35411_init_45d68 5 = .ok (.aload_n 0, 1) := by decide +kernel
theorem dJx35411_init_45d68_6 : decode cJx35411_init_45d68 6 = .ok (.invokespecial 7, 3) := by decide +kernel
theorem dJx35411_init_45d68_9 : decode cJx35411_init_45d68 9 = .ok (.aload_n 0, 1) := by decide +kernel
theorem dJx35411_init_45d68_10 : decode cJx35411_init_45d68 10 = .ok (.iconst (-1), 1) := by decide +kernel
theorem dJx35411_init_45d68_11 : decode cJx35411_init_45d68 11 = .ok (.putfield 13, 3) := by decide +kernel
theorem dJx35411_init_45d68_14 : decode cJx35411_init_45d68 14 = .ok (.aload_n 0, 1) := by decide +kernel
theorem dJx35411_init_45d68_15 : decode cJx35411_init_45d68 15 = .ok (.aload_n 0, 1) := by decide +kernel
theorem dJx35411_init_45d68_16 : decode cJx35411_init_45d68 16 = .ok (.getfield 1, 3) := by decide +kernel
theorem dJx35411_init_45d68_19 : decode cJx35411_init_45d68 19 = .ok (.getfield 17, 3) := by decide +kernel
theorem dJx35411_init_45d68_22 : decode cJx35411_init_45d68 22 = .ok (.putfield 22, 3) := by decide +kernel
theorem dJx35411_init_45d68_25 : decode cJx35411_init_45d68 25 = .ok (.return_, 1) := by decide +kernel
theorem dJx35411_hasNext_aae02_0 : decode cJx35411_hasNext_aae02 0 = .ok (.aload_n 0, 1) := by decide +kernel
theorem dJx35411_hasNext_aae02_1 : decode cJx35411_hasNext_aae02 1 = .ok (.getfield 25, 3) := by decide +kernel
theorem dJx35411_hasNext_aae02_4 : decode cJx35411_hasNext_aae02 4 = .ok (.aload_n 0, 1) := by decide +kernel
theorem dJx35411_hasNext_aae02_5 : decode cJx35411_hasNext_aae02 5 = .ok (.getfield 1, 3) := by decide +kernel
theorem dJx35411_hasNext_aae02_8 : decode cJx35411_hasNext_aae02 8 = .ok (.getfield 28, 3) := by decide +kernel
theorem dJx35411_hasNext_aae02_11 : decode cJx35411_hasNext_aae02 11 = .ok (.if_icmp .eq 7, 3) := by decide +kernel
theorem dJx35411_hasNext_aae02_14 : decode cJx35411_hasNext_aae02 14 = .ok (.iconst 1, 1) := by decide +kernel
theorem dJx35411_hasNext_aae02_15 : decode cJx35411_hasNext_aae02 15 = .ok (.goto 4, 3) := by decide +kernel
theorem dJx35411_hasNext_aae02_18 : decode cJx35411_hasNext_aae02 18 = .ok (.iconst 0, 1) := by decide +kernel
theorem dJx35411_hasNext_aae02_19 : decode cJx35411_hasNext_aae02 19 = .ok (.ireturn, 1) := by decide +kernel
theorem dJx35411_next_0502b_0 : decode cJx35411_next_0502b 0 = .ok (.aload_n 0, 1) := by decide +kernel
theorem dJx35411_next_0502b_1 : decode cJx35411_next_0502b 1 = .ok (.invokevirtual 31, 3) := by decide +kernel
theorem dJx35411_next_0502b_4 : decode cJx35411_next_0502b 4 = .ok (.aload_n 0, 1) := by decide +kernel
theorem dJx35411_next_0502b_5 : decode cJx35411_next_0502b 5 = .ok (.getfield 25, 3) := by decide +kernel
theorem dJx35411_next_0502b_8 : decode cJx35411_next_0502b 8 = .ok (.istore_n 1, 1) := by decide +kernel
theorem dJx35411_next_0502b_9 : decode cJx35411_next_0502b 9 = .ok (.iload_n 1, 1) := by decide +kernel
theorem dJx35411_next_0502b_10 : decode cJx35411_next_0502b 10 = .ok (.aload_n 0, 1) := by decide +kernel
theorem dJx35411_next_0502b_11 : decode cJx35411_next_0502b 11 = .ok (.getfield 1, 3) := by decide +kernel
theorem dJx35411_next_0502b_14 : decode cJx35411_next_0502b 14 = .ok (.getfield 28, 3) := by decide +kernel
theorem dJx35411_next_0502b_17 : decode cJx35411_next_0502b 17 = .ok (.if_icmp .lt 11, 3) := by decide +kernel
theorem dJx35411_next_0502b_20 : decode cJx35411_next_0502b 20 = .ok (.new 34, 3) := by decide +kernel
theorem dJx35411_next_0502b_23 : decode cJx35411_next_0502b 23 = .ok (.dup, 1) := by decide +kernel
theorem dJx35411_next_0502b_24 : decode cJx35411_next_0502b 24 = .ok (.invokespecial 36, 3) := by decide +kernel
theorem dJx35411_next_0502b_27 : decode cJx35411_next_0502b 27 = .ok (.athrow, 1) := by decide +kernel
theorem dJx35411_next_0502b_28 : decode cJx35411_next_0502b 28 = .ok (.aload_n 0, 1) := by decide +kernel
theorem dJx35411_next_0502b_29 : decode cJx35411_next_0502b 29 = .ok (.getfield 1, 3) := by decide +kernel
theorem dJx35411_next_0502b_32 : decode cJx35411_next_0502b 32 = .ok (.getfield 37, 3) := by decide +kernel
theorem dJx35411_next_0502b_35 : decode cJx35411_next_0502b 35 = .ok (.astore_n 2, 1) := by decide +kernel
theorem dJx35411_next_0502b_36 : decode cJx35411_next_0502b 36 = .ok (.iload_n 1, 1) := by decide +kernel
theorem dJx35411_next_0502b_37 : decode cJx35411_next_0502b 37 = .ok (.aload_n 2, 1) := by decide +kernel
theorem dJx35411_next_0502b_38 : decode cJx35411_next_0502b 38 = .ok (.arraylength, 1) := by decide +kernel
theorem dJx35411_next_0502b_39 : decode cJx35411_next_0502b 39 = .ok (.if_icmp .lt 11, 3) := by decide +kernel
theorem dJx35411_next_0502b_42 : decode cJx35411_next_0502b 42 = .ok (.new 41, 3) := by decide +kernel
theorem dJx35411_next_0502b_45 : decode cJx35411_next_0502b 45 = .ok (.dup, 1) := by decide +kernel
theorem dJx35411_next_0502b_46 : decode cJx35411_next_0502b 46 = .ok (.invokespecial 43, 3) := by decide +kernel
theorem dJx35411_next_0502b_49 : decode cJx35411_next_0502b 49 = .ok (.athrow, 1) := by decide +kernel
theorem dJx35411_next_0502b_50 : decode cJx35411_next_0502b 50 = .ok (.aload_n 0, 1) := by decide +kernel
theorem dJx35411_next_0502b_51 : decode cJx35411_next_0502b 51 = .ok (.iload_n 1, 1) := by decide +kernel
theorem dJx35411_next_0502b_52 : decode cJx35411_next_0502b 52 = .ok (.iconst 1, 1) := by decide +kernel
theorem dJx35411_next_0502b_53 : decode cJx35411_next_0502b 53 = .ok (.iadd, 1) := by decide +kernel
theorem dJx35411_next_0502b_54 : decode cJx35411_next_0502b 54 = .ok (.putfield 25, 3) := by decide +kernel
theorem dJx35411_next_0502b_57 : decode cJx35411_next_0502b 57 = .ok (.aload_n 2, 1) := by decide +kernel
theorem dJx35411_next_0502b_58 : decode cJx35411_next_0502b 58 = .ok (.aload_n 0, 1) := by decide +kernel
theorem dJx35411_next_0502b_59 : decode cJx35411_next_0502b 59 = .ok (.iload_n 1, 1) := by decide +kernel
theorem dJx35411_next_0502b_60 : decode cJx35411_next_0502b 60 = .ok (.dup_x1, 1) := by decide +kernel
theorem dJx35411_next_0502b_61 : decode cJx35411_next_0502b 61 = .ok (.putfield 13, 3) := by decide +kernel
theorem dJx35411_next_0502b_64 : decode cJx35411_next_0502b 64 = .ok (.aaload, 1) := by decide +kernel
theorem dJx35411_next_0502b_65 : decode cJx35411_next_0502b 65 = .ok (.areturn, 1) := by decide +kernel
theorem dJx35411_checkForComodification_da8c8_0 : decode cJx35411_checkForComodification_da8c8 0 = .ok (.aload_n 0, 1) := by decide +kernel
theorem dJx35411_checkForComodification_da8c8_1 : decode cJx35411_checkForComodification_da8c8 1 = .ok (.getfield 1, 3) := by decide +kernel
theorem dJx35411_checkForComodification_da8c8_4 : decode cJx35411_checkForComodification_da8c8 4 = .ok (.getfield 17, 3) := by decide +kernel
theorem dJx35411_checkForComodification_da8c8_7 : decode cJx35411_checkForComodification_da8c8 7 = .ok (.aload_n 0, 1) := by decide +kernel
theorem dJx35411_checkForComodification_da8c8_8 : decode cJx35411_checkForComodification_da8c8 8 = .ok (.getfield 22, 3) := by decide +kernel
theorem dJx35411_checkForComodification_da8c8_11 : decode cJx35411_checkForComodification_da8c8 11 = .ok (.if_icmp .eq 11, 3) := by decide +kernel
theorem dJx35411_checkForComodification_da8c8_14 : decode cJx35411_checkForComodification_da8c8 14 = .ok (.new 41, 3) := by decide +kernel
theorem dJx35411_checkForComodification_da8c8_17 : decode cJx35411_checkForComodification_da8c8 17 = .ok (.dup, 1) := by decide +kernel
theorem dJx35411_checkForComodification_da8c8_18 : decode cJx35411_checkForComodification_da8c8 18 = .ok (.invokespecial 43, 3) := by decide +kernel
theorem dJx35411_checkForComodification_da8c8_21 : decode cJx35411_checkForComodification_da8c8 21 = .ok (.athrow, 1) := by decide +kernel
theorem dJx35411_checkForComodification_da8c8_22 : decode cJx35411_checkForComodification_da8c8 22 = .ok (.return_, 1) := by decide +kernel
theorem dJx4a65c_init_da8c8_0 : decode cJx4a65c_init_da8c8 0 = .ok (.aload_n 0, 1) := by decide +kernel
theorem dJx4a65c_init_da8c8_1 : decode cJx4a65c_init_da8c8 1 = .ok (.invokespecial 1, 3) := by decide +kernel
theorem dJx4a65c_init_da8c8_4 : decode cJx4a65c_init_da8c8 4 = .ok (.aload_n 0, 1) := by decide +kernel
theorem dJx4a65c_init_da8c8_5 : decode cJx4a65c_init_da8c8 5 = .ok (.getstatic 39, 3) := by decide +kernel
theorem dJx4a65c_init_da8c8_8 : decode cJx4a65c_init_da8c8 8 = .ok (.putfield 9, 3) := by decide +kernel
theorem dJx4a65c_init_da8c8_11 : decode cJx4a65c_init_da8c8 11 = .ok (.return_, 1) := by decide +kernel
theorem dJx4a65c_grow_92f84_0 : decode cJx4a65c_grow_92f84 0 = .ok (.aload_n 0, 1) := by decide +kernel
theorem dJx4a65c_grow_92f84_1 : decode cJx4a65c_grow_92f84 1 = .ok (.getfield 9, 3) := by decide +kernel
theorem dJx4a65c_grow_92f84_4 : decode cJx4a65c_grow_92f84 4 = .ok (.arraylength, 1) := by decide +kernel
theorem dJx4a65c_grow_92f84_5 : decode cJx4a65c_grow_92f84 5 = .ok (.istore_n 2, 1) := by decide +kernel
theorem dJx4a65c_grow_92f84_6 : decode cJx4a65c_grow_92f84 6 = .ok (.iload_n 2, 1) := by decide +kernel
theorem dJx4a65c_grow_92f84_7 : decode cJx4a65c_grow_92f84 7 = .ok (.ifCond .gt 13, 3) := by decide +kernel
theorem dJx4a65c_grow_92f84_10 : decode cJx4a65c_grow_92f84 10 = .ok (.aload_n 0, 1) := by decide +kernel
theorem dJx4a65c_grow_92f84_11 : decode cJx4a65c_grow_92f84 11 = .ok (.getfield 9, 3) := by decide +kernel
theorem dJx4a65c_grow_92f84_14 : decode cJx4a65c_grow_92f84 14 = .ok (.getstatic 39, 3) := by decide +kernel
theorem dJx4a65c_grow_92f84_17 : decode cJx4a65c_grow_92f84 17 = .ok (.if_acmp .eq 28, 3) := by decide +kernel
theorem dJx4a65c_grow_92f84_20 : decode cJx4a65c_grow_92f84 20 = .ok (.iload_n 2, 1) := by decide +kernel
theorem dJx4a65c_grow_92f84_21 : decode cJx4a65c_grow_92f84 21 = .ok (.iload_n 1, 1) := by decide +kernel
theorem dJx4a65c_grow_92f84_22 : decode cJx4a65c_grow_92f84 22 = .ok (.iload_n 2, 1) := by decide +kernel
theorem dJx4a65c_grow_92f84_23 : decode cJx4a65c_grow_92f84 23 = .ok (.isub, 1) := by decide +kernel
theorem dJx4a65c_grow_92f84_24 : decode cJx4a65c_grow_92f84 24 = .ok (.iload_n 2, 1) := by decide +kernel
theorem dJx4a65c_grow_92f84_25 : decode cJx4a65c_grow_92f84 25 = .ok (.iconst 1, 1) := by decide +kernel
theorem dJx4a65c_grow_92f84_26 : decode cJx4a65c_grow_92f84 26 = .ok (.ishr, 1) := by decide +kernel
theorem dJx4a65c_grow_92f84_27 : decode cJx4a65c_grow_92f84 27 = .ok (.invokestatic 73, 3) := by decide +kernel
theorem dJx4a65c_grow_92f84_30 : decode cJx4a65c_grow_92f84 30 = .ok (.istore_n 3, 1) := by decide +kernel
theorem dJx4a65c_grow_92f84_31 : decode cJx4a65c_grow_92f84 31 = .ok (.aload_n 0, 1) := by decide +kernel
theorem dJx4a65c_grow_92f84_32 : decode cJx4a65c_grow_92f84 32 = .ok (.aload_n 0, 1) := by decide +kernel
theorem dJx4a65c_grow_92f84_33 : decode cJx4a65c_grow_92f84 33 = .ok (.getfield 9, 3) := by decide +kernel
theorem dJx4a65c_grow_92f84_36 : decode cJx4a65c_grow_92f84 36 = .ok (.iload_n 3, 1) := by decide +kernel
theorem dJx4a65c_grow_92f84_37 : decode cJx4a65c_grow_92f84 37 = .ok (.invokestatic 66, 3) := by decide +kernel
theorem dJx4a65c_grow_92f84_40 : decode cJx4a65c_grow_92f84 40 = .ok (.dup_x1, 1) := by decide +kernel
theorem dJx4a65c_grow_92f84_41 : decode cJx4a65c_grow_92f84 41 = .ok (.putfield 9, 3) := by decide +kernel
theorem dJx4a65c_grow_92f84_44 : decode cJx4a65c_grow_92f84 44 = .ok (.areturn, 1) := by decide +kernel
theorem dJx4a65c_grow_92f84_45 : decode cJx4a65c_grow_92f84 45 = .ok (.aload_n 0, 1) := by decide +kernel
theorem dJx4a65c_grow_92f84_46 : decode cJx4a65c_grow_92f84 46 = .ok (.bipush 10, 2) := by decide +kernel
theorem dJx4a65c_grow_92f84_48 : decode cJx4a65c_grow_92f84 48 = .ok (.iload_n 1, 1) := by decide +kernel
theorem dJx4a65c_grow_92f84_49 : decode cJx4a65c_grow_92f84 49 = .ok (.invokestatic 79, 3) := by decide +kernel
theorem dJx4a65c_grow_92f84_52 : decode cJx4a65c_grow_92f84 52 = .ok (.anewarray 7, 3) := by decide +kernel
theorem dJx4a65c_grow_92f84_55 : decode cJx4a65c_grow_92f84 55 = .ok (.dup_x1, 1) := by decide +kernel
theorem dJx4a65c_grow_92f84_56 : decode cJx4a65c_grow_92f84 56 = .ok (.putfield 9, 3) := by decide +kernel
theorem dJx4a65c_grow_92f84_59 : decode cJx4a65c_grow_92f84 59 = .ok (.areturn, 1) := by decide +kernel
theorem dJx4a65c_grow_d5877_0 : decode cJx4a65c_grow_d5877 0 = .ok (.aload_n 0, 1) := by decide +kernel
theorem dJx4a65c_grow_d5877_1 : decode cJx4a65c_grow_d5877 1 = .ok (.aload_n 0, 1) := by decide +kernel
theorem dJx4a65c_grow_d5877_2 : decode cJx4a65c_grow_d5877 2 = .ok (.getfield 48, 3) := by decide +kernel
theorem dJx4a65c_grow_d5877_5 : decode cJx4a65c_grow_d5877 5 = .ok (.iconst 1, 1) := by decide +kernel
theorem dJx4a65c_grow_d5877_6 : decode cJx4a65c_grow_d5877 6 = .ok (.iadd, 1) := by decide +kernel
theorem dJx4a65c_grow_d5877_7 : decode cJx4a65c_grow_d5877 7 = .ok (.invokevirtual 69, 3) := by decide +kernel
theorem dJx4a65c_grow_d5877_10 : decode cJx4a65c_grow_d5877 10 = .ok (.areturn, 1) := by decide +kernel
theorem dJx4a65c_size_8abf5_0 : decode cJx4a65c_size_8abf5 0 = .ok (.aload_n 0, 1) := by decide +kernel
theorem dJx4a65c_size_8abf5_1 : decode cJx4a65c_size_8abf5 1 = .ok (.getfield 48, 3) := by decide +kernel
theorem dJx4a65c_size_8abf5_4 : decode cJx4a65c_size_8abf5 4 = .ok (.ireturn, 1) := by decide +kernel
theorem dJx4a65c_isEmpty_aae02_0 : decode cJx4a65c_isEmpty_aae02 0 = .ok (.aload_n 0, 1) := by decide +kernel
theorem dJx4a65c_isEmpty_aae02_1 : decode cJx4a65c_isEmpty_aae02 1 = .ok (.getfield 48, 3) := by decide +kernel
theorem dJx4a65c_isEmpty_aae02_4 : decode cJx4a65c_isEmpty_aae02 4 = .ok (.ifCond .ne 7, 3) := by decide +kernel
theorem dJx4a65c_isEmpty_aae02_7 : decode cJx4a65c_isEmpty_aae02 7 = .ok (.iconst 1, 1) := by decide +kernel
theorem dJx4a65c_isEmpty_aae02_8 : decode cJx4a65c_isEmpty_aae02 8 = .ok (.goto 4, 3) := by decide +kernel
theorem dJx4a65c_isEmpty_aae02_11 : decode cJx4a65c_isEmpty_aae02 11 = .ok (.iconst 0, 1) := by decide +kernel
theorem dJx4a65c_isEmpty_aae02_12 : decode cJx4a65c_isEmpty_aae02 12 = .ok (.ireturn, 1) := by decide +kernel
theorem dJx4a65c_toArray_d5877_0 : decode cJx4a65c_toArray_d5877 0 = .ok (.aload_n 0, 1) := by decide +kernel
theorem dJx4a65c_toArray_d5877_1 : decode cJx4a65c_toArray_d5877 1 = .ok (.getfield 9, 3) := by decide +kernel
theorem dJx4a65c_toArray_d5877_4 : decode cJx4a65c_toArray_d5877 4 = .ok (.aload_n 0, 1) := by decide +kernel
theorem dJx4a65c_toArray_d5877_5 : decode cJx4a65c_toArray_d5877 5 = .ok (.getfield 48, 3) := by decide +kernel
theorem dJx4a65c_toArray_d5877_8 : decode cJx4a65c_toArray_d5877 8 = .ok (.invokestatic 66, 3) := by decide +kernel
theorem dJx4a65c_toArray_d5877_11 : decode cJx4a65c_toArray_d5877 11 = .ok (.areturn, 1) := by decide +kernel
theorem dJx4a65c_elementData_915e3_0 : decode cJx4a65c_elementData_915e3 0 = .ok (.aload_n 0, 1) := by decide +kernel
theorem dJx4a65c_elementData_915e3_1 : decode cJx4a65c_elementData_915e3 1 = .ok (.getfield 9, 3) := by decide +kernel
theorem dJx4a65c_elementData_915e3_4 : decode cJx4a65c_elementData_915e3 4 = .ok (.iload_n 1, 1) := by decide +kernel
theorem dJx4a65c_elementData_915e3_5 : decode cJx4a65c_elementData_915e3 5 = .ok (.aaload, 1) := by decide +kernel
theorem dJx4a65c_elementData_915e3_6 : decode cJx4a65c_elementData_915e3 6 = .ok (.areturn, 1) := by decide +kernel
theorem dJx4a65c_get_915e3_0 : decode cJx4a65c_get_915e3 0 = .ok (.iload_n 1, 1) := by decide +kernel
theorem dJx4a65c_get_915e3_1 : decode cJx4a65c_get_915e3 1 = .ok (.aload_n 0, 1) := by decide +kernel
theorem dJx4a65c_get_915e3_2 : decode cJx4a65c_get_915e3 2 = .ok (.getfield 48, 3) := by decide +kernel
theorem dJx4a65c_get_915e3_5 : decode cJx4a65c_get_915e3 5 = .ok (.invokestatic 118, 3) := by decide +kernel
theorem dJx4a65c_get_915e3_8 : decode cJx4a65c_get_915e3 8 = .ok (.pop, 1) := by decide +kernel
theorem dJx4a65c_get_915e3_9 : decode cJx4a65c_get_915e3 9 = .ok (.aload_n 0, 1) := by decide +kernel
theorem dJx4a65c_get_915e3_10 : decode cJx4a65c_get_915e3 10 = .ok (.iload_n 1, 1) := by decide +kernel
theorem dJx4a65c_get_915e3_11 : decode cJx4a65c_get_915e3 11 = .ok (.invokevirtual 123, 3) := by decide +kernel
theorem dJx4a65c_get_915e3_14 : decode cJx4a65c_get_915e3 14 = .ok (.areturn, 1) := by decide +kernel
theorem dJx4a65c_add_72be8_0 : decode cJx4a65c_add_72be8 0 = .ok (.iload_n 3, 1) := by decide +kernel
theorem dJx4a65c_add_72be8_1 : decode cJx4a65c_add_72be8 1 = .ok (.aload_n 2, 1) := by decide +kernel
theorem dJx4a65c_add_72be8_2 : decode cJx4a65c_add_72be8 2 = .ok (.arraylength, 1) := by decide +kernel
theorem dJx4a65c_add_72be8_3 : decode cJx4a65c_add_72be8 3 = .ok (.if_icmp .ne 8, 3) := by decide +kernel
theorem dJx4a65c_add_72be8_6 : decode cJx4a65c_add_72be8 6 = .ok (.aload_n 0, 1) := by decide +kernel
theorem dJx4a65c_add_72be8_7 : decode cJx4a65c_add_72be8 7 = .ok (.invokevirtual 129, 3) := by decide +kernel
theorem dJx4a65c_add_72be8_10 : decode cJx4a65c_add_72be8 10 = .ok (.astore_n 2, 1) := by decide +kernel
theorem dJx4a65c_add_72be8_11 : decode cJx4a65c_add_72be8 11 = .ok (.aload_n 2, 1) := by decide +kernel
theorem dJx4a65c_add_72be8_12 : decode cJx4a65c_add_72be8 12 = .ok (.iload_n 3, 1) := by decide +kernel
theorem dJx4a65c_add_72be8_13 : decode cJx4a65c_add_72be8 13 = .ok (.aload_n 1, 1) := by decide +kernel
theorem dJx4a65c_add_72be8_14 : decode cJx4a65c_add_72be8 14 = .ok (.aastore, 1) := by decide +kernel
theorem dJx4a65c_add_72be8_15 : decode cJx4a65c_add_72be8 15 = .ok (.aload_n 0, 1) := by decide +kernel
theorem dJx4a65c_add_72be8_16 : decode cJx4a65c_add_72be8 16 = .ok (.iload_n 3, 1) := by decide +kernel
theorem dJx4a65c_add_72be8_17 : decode cJx4a65c_add_72be8 17 = .ok (.iconst 1, 1) := by decide +kernel
theorem dJx4a65c_add_72be8_18 : decode cJx4a65c_add_72be8 18 = .ok (.iadd, 1) := by decide +kernel
theorem dJx4a65c_add_72be8_19 : decode cJx4a65c_add_72be8 19 = .ok (.putfield 48, 3) := by decide +kernel
theorem dJx4a65c_add_72be8_22 : decode cJx4a65c_add_72be8 22 = .ok (.return_, 1) := by decide +kernel
theorem dJx4a65c_add_9ea2d_0 : decode cJx4a65c_add_9ea2d 0 = .ok (.aload_n 0, 1) := by decide +kernel
theorem dJx4a65c_add_9ea2d_1 : decode cJx4a65c_add_9ea2d 1 = .ok (.dup, 1) := by decide +kernel
theorem dJx4a65c_add_9ea2d_2 : decode cJx4a65c_add_9ea2d 2 = .ok (.getfield 63, 3) := by decide +kernel
theorem dJx4a65c_add_9ea2d_5 : decode cJx4a65c_add_9ea2d 5 = .ok (.iconst 1, 1) := by decide +kernel
theorem dJx4a65c_add_9ea2d_6 : decode cJx4a65c_add_9ea2d 6 = .ok (.iadd, 1) := by decide +kernel
theorem dJx4a65c_add_9ea2d_7 : decode cJx4a65c_add_9ea2d 7 = .ok (.putfield 63, 3) := by decide +kernel
theorem dJx4a65c_add_9ea2d_10 : decode cJx4a65c_add_9ea2d 10 = .ok (.aload_n 0, 1) := by decide +kernel
theorem dJx4a65c_add_9ea2d_11 : decode cJx4a65c_add_9ea2d 11 = .ok (.aload_n 1, 1) := by decide +kernel
theorem dJx4a65c_add_9ea2d_12 : decode cJx4a65c_add_9ea2d 12 = .ok (.aload_n 0, 1) := by decide +kernel
theorem dJx4a65c_add_9ea2d_13 : decode cJx4a65c_add_9ea2d 13 = .ok (.getfield 9, 3) := by decide +kernel
theorem dJx4a65c_add_9ea2d_16 : decode cJx4a65c_add_9ea2d 16 = .ok (.aload_n 0, 1) := by decide +kernel
theorem dJx4a65c_add_9ea2d_17 : decode cJx4a65c_add_9ea2d 17 = .ok (.getfield 48, 3) := by decide +kernel
theorem dJx4a65c_add_9ea2d_20 : decode cJx4a65c_add_9ea2d 20 = .ok (.invokevirtual 131, 3) := by decide +kernel
theorem dJx4a65c_add_9ea2d_23 : decode cJx4a65c_add_9ea2d 23 = .ok (.iconst 1, 1) := by decide +kernel
theorem dJx4a65c_add_9ea2d_24 : decode cJx4a65c_add_9ea2d 24 = .ok (.ireturn, 1) := by decide +kernel
theorem dJx4a65c_remove_915e3_0 : decode cJx4a65c_remove_915e3 0 = .ok (.iload_n 1, 1) := by decide +kernel
theorem dJx4a65c_remove_915e3_1 : decode cJx4a65c_remove_915e3 1 = .ok (.aload_n 0, 1) := by decide +kernel
theorem dJx4a65c_remove_915e3_2 : decode cJx4a65c_remove_915e3 2 = .ok (.getfield 48, 3) := by decide +kernel
theorem dJx4a65c_remove_915e3_5 : decode cJx4a65c_remove_915e3 5 = .ok (.invokestatic 118, 3) := by decide +kernel
theorem dJx4a65c_remove_915e3_8 : decode cJx4a65c_remove_915e3 8 = .ok (.pop, 1) := by decide +kernel
theorem dJx4a65c_remove_915e3_9 : decode cJx4a65c_remove_915e3 9 = .ok (.aload_n 0, 1) := by decide +kernel
theorem dJx4a65c_remove_915e3_10 : decode cJx4a65c_remove_915e3 10 = .ok (.getfield 9, 3) := by decide +kernel
theorem dJx4a65c_remove_915e3_13 : decode cJx4a65c_remove_915e3 13 = .ok (.astore_n 2, 1) := by decide +kernel
theorem dJx4a65c_remove_915e3_14 : decode cJx4a65c_remove_915e3 14 = .ok (.aload_n 2, 1) := by decide +kernel
theorem dJx4a65c_remove_915e3_15 : decode cJx4a65c_remove_915e3 15 = .ok (.iload_n 1, 1) := by decide +kernel
theorem dJx4a65c_remove_915e3_16 : decode cJx4a65c_remove_915e3 16 = .ok (.aaload, 1) := by decide +kernel
theorem dJx4a65c_remove_915e3_17 : decode cJx4a65c_remove_915e3 17 = .ok (.astore_n 3, 1) := by decide +kernel
theorem dJx4a65c_remove_915e3_18 : decode cJx4a65c_remove_915e3 18 = .ok (.aload_n 0, 1) := by decide +kernel
theorem dJx4a65c_remove_915e3_19 : decode cJx4a65c_remove_915e3 19 = .ok (.aload_n 2, 1) := by decide +kernel
theorem dJx4a65c_remove_915e3_20 : decode cJx4a65c_remove_915e3 20 = .ok (.iload_n 1, 1) := by decide +kernel
theorem dJx4a65c_remove_915e3_21 : decode cJx4a65c_remove_915e3 21 = .ok (.invokevirtual 144, 3) := by decide +kernel
theorem dJx4a65c_remove_915e3_24 : decode cJx4a65c_remove_915e3 24 = .ok (.aload_n 3, 1) := by decide +kernel
theorem dJx4a65c_remove_915e3_25 : decode cJx4a65c_remove_915e3 25 = .ok (.areturn, 1) := by decide +kernel
theorem dJx4a65c_fastRemove_b59b0_0 : decode cJx4a65c_fastRemove_b59b0 0 = .ok (.aload_n 0, 1) := by decide +kernel
theorem dJx4a65c_fastRemove_b59b0_1 : decode cJx4a65c_fastRemove_b59b0 1 = .ok (.dup, 1) := by decide +kernel
theorem dJx4a65c_fastRemove_b59b0_2 : decode cJx4a65c_fastRemove_b59b0 2 = .ok (.getfield 63, 3) := by decide +kernel
theorem dJx4a65c_fastRemove_b59b0_5 : decode cJx4a65c_fastRemove_b59b0 5 = .ok (.iconst 1, 1) := by decide +kernel
theorem dJx4a65c_fastRemove_b59b0_6 : decode cJx4a65c_fastRemove_b59b0 6 = .ok (.iadd, 1) := by decide +kernel
theorem dJx4a65c_fastRemove_b59b0_7 : decode cJx4a65c_fastRemove_b59b0 7 = .ok (.putfield 63, 3) := by decide +kernel
theorem dJx4a65c_fastRemove_b59b0_10 : decode cJx4a65c_fastRemove_b59b0 10 = .ok (.aload_n 0, 1) := by decide +kernel
theorem dJx4a65c_fastRemove_b59b0_11 : decode cJx4a65c_fastRemove_b59b0 11 = .ok (.getfield 48, 3) := by decide +kernel
theorem dJx4a65c_fastRemove_b59b0_14 : decode cJx4a65c_fastRemove_b59b0 14 = .ok (.iconst 1, 1) := by decide +kernel
theorem dJx4a65c_fastRemove_b59b0_15 : decode cJx4a65c_fastRemove_b59b0 15 = .ok (.isub, 1) := by decide +kernel
theorem dJx4a65c_fastRemove_b59b0_16 : decode cJx4a65c_fastRemove_b59b0 16 = .ok (.dup, 1) := by decide +kernel
theorem dJx4a65c_fastRemove_b59b0_17 : decode cJx4a65c_fastRemove_b59b0 17 = .ok (.istore_n 3, 1) := by decide +kernel
theorem dJx4a65c_fastRemove_b59b0_18 : decode cJx4a65c_fastRemove_b59b0 18 = .ok (.iload_n 2, 1) := by decide +kernel
theorem dJx4a65c_fastRemove_b59b0_19 : decode cJx4a65c_fastRemove_b59b0 19 = .ok (.if_icmp .le 15, 3) := by decide +kernel
theorem dJx4a65c_fastRemove_b59b0_22 : decode cJx4a65c_fastRemove_b59b0 22 = .ok (.aload_n 1, 1) := by decide +kernel
theorem dJx4a65c_fastRemove_b59b0_23 : decode cJx4a65c_fastRemove_b59b0 23 = .ok (.iload_n 2, 1) := by decide +kernel
theorem dJx4a65c_fastRemove_b59b0_24 : decode cJx4a65c_fastRemove_b59b0 24 = .ok (.iconst 1, 1) := by decide +kernel
theorem dJx4a65c_fastRemove_b59b0_25 : decode cJx4a65c_fastRemove_b59b0 25 = .ok (.iadd, 1) := by decide +kernel
theorem dJx4a65c_fastRemove_b59b0_26 : decode cJx4a65c_fastRemove_b59b0 26 = .ok (.aload_n 1, 1) := by decide +kernel
theorem dJx4a65c_fastRemove_b59b0_27 : decode cJx4a65c_fastRemove_b59b0 27 = .ok (.iload_n 2, 1) := by decide +kernel
theorem dJx4a65c_fastRemove_b59b0_28 : decode cJx4a65c_fastRemove_b59b0 28 = .ok (.iload_n 3, 1) := by decide +kernel
theorem dJx4a65c_fastRemove_b59b0_29 : decode cJx4a65c_fastRemove_b59b0 29 = .ok (.iload_n 2, 1) := by decide +kernel
theorem dJx4a65c_fastRemove_b59b0_30 : decode cJx4a65c_fastRemove_b59b0 30 = .ok (.isub, 1) := by decide +kernel
theorem dJx4a65c_fastRemove_b59b0_31 : decode cJx4a65c_fastRemove_b59b0 31 = .ok (.invokestatic 112, 3) := by decide +kernel
theorem dJx4a65c_fastRemove_b59b0_34 : decode cJx4a65c_fastRemove_b59b0 34 = .ok (.aload_n 1, 1) := by decide +kernel
theorem dJx4a65c_fastRemove_b59b0_35 : decode cJx4a65c_fastRemove_b59b0 35 = .ok (.aload_n 0, 1) := by decide +kernel
theorem dJx4a65c_fastRemove_b59b0_36 : decode cJx4a65c_fastRemove_b59b0 36 = .ok (.iload_n 3, 1) := by decide +kernel
theorem dJx4a65c_fastRemove_b59b0_37 : decode cJx4a65c_fastRemove_b59b0 37 = .ok (.dup_x1, 1) := by decide +kernel
theorem dJx4a65c_fastRemove_b59b0_38 : decode cJx4a65c_fastRemove_b59b0 38 = .ok (.putfield 48, 3) := by decide +kernel
theorem dJx4a65c_fastRemove_b59b0_41 : decode cJx4a65c_fastRemove_b59b0 41 = .ok (.aconst_null, 1) := by decide +kernel
theorem dJx4a65c_fastRemove_b59b0_42 : decode cJx4a65c_fastRemove_b59b0 42 = .ok (.aastore, 1) := by decide +kernel
theorem dJx4a65c_fastRemove_b59b0_43 : decode cJx4a65c_fastRemove_b59b0 43 = .ok (.return_, 1) := by decide +kernel
theorem dJx4a65c_addAll_f0b43_0 : decode cJx4a65c_addAll_f0b43 0 = .ok (.aload_n 1, 1) := by decide +kernel
theorem dJx4a65c_addAll_f0b43_1 : decode cJx4a65c_addAll_f0b43 1 = .ok (.invokeinterface 42 1, 5) := by decide +kernel
theorem dJx4a65c_addAll_f0b43_6 : decode cJx4a65c_addAll_f0b43 6 = .ok (.astore_n 2, 1) := by decide +kernel
theorem dJx4a65c_addAll_f0b43_7 : decode cJx4a65c_addAll_f0b43 7 = .ok (.aload_n 0, 1) := by decide +kernel
theorem dJx4a65c_addAll_f0b43_8 : decode cJx4a65c_addAll_f0b43 8 = .ok (.dup, 1) := by decide +kernel
theorem dJx4a65c_addAll_f0b43_9 : decode cJx4a65c_addAll_f0b43 9 = .ok (.getfield 63, 3) := by decide +kernel
theorem dJx4a65c_addAll_f0b43_12 : decode cJx4a65c_addAll_f0b43 12 = .ok (.iconst 1, 1) := by decide +kernel
theorem dJx4a65c_addAll_f0b43_13 : decode cJx4a65c_addAll_f0b43 13 = .ok (.iadd, 1) := by decide +kernel
theorem dJx4a65c_addAll_f0b43_14 : decode cJx4a65c_addAll_f0b43 14 = .ok (.putfield 63, 3) := by decide +kernel
theorem dJx4a65c_addAll_f0b43_17 : decode cJx4a65c_addAll_f0b43 17 = .ok (.aload_n 2, 1) := by decide +kernel
theorem dJx4a65c_addAll_f0b43_18 : decode cJx4a65c_addAll_f0b43 18 = .ok (.arraylength, 1) := by decide +kernel
theorem dJx4a65c_addAll_f0b43_19 : decode cJx4a65c_addAll_f0b43 19 = .ok (.istore_n 3, 1) := by decide +kernel
theorem dJx4a65c_addAll_f0b43_20 : decode cJx4a65c_addAll_f0b43 20 = .ok (.iload_n 3, 1) := by decide +kernel
theorem dJx4a65c_addAll_f0b43_21 : decode cJx4a65c_addAll_f0b43 21 = .ok (.ifCond .ne 5, 3) := by decide +kernel
theorem dJx4a65c_addAll_f0b43_24 : decode cJx4a65c_addAll_f0b43 24 = .ok (.iconst 0, 1) := by decide +kernel
theorem dJx4a65c_addAll_f0b43_25 : decode cJx4a65c_addAll_f0b43 25 = .ok (.ireturn, 1) := by decide +kernel
theorem dJx4a65c_addAll_f0b43_26 : decode cJx4a65c_addAll_f0b43 26 = .ok (.iload_n 3, 1) := by decide +kernel
theorem dJx4a65c_addAll_f0b43_27 : decode cJx4a65c_addAll_f0b43 27 = .ok (.aload_n 0, 1) := by decide +kernel
theorem dJx4a65c_addAll_f0b43_28 : decode cJx4a65c_addAll_f0b43 28 = .ok (.getfield 9, 3) := by decide +kernel
theorem dJx4a65c_addAll_f0b43_31 : decode cJx4a65c_addAll_f0b43 31 = .ok (.dup, 1) := by decide +kernel
theorem dJx4a65c_addAll_f0b43_32 : decode cJx4a65c_addAll_f0b43 32 = .ok (.astore 4, 2) := by decide +kernel
theorem dJx4a65c_addAll_f0b43_34 : decode cJx4a65c_addAll_f0b43 34 = .ok (.arraylength, 1) := by decide +kernel
theorem dJx4a65c_addAll_f0b43_35 : decode cJx4a65c_addAll_f0b43 35 = .ok (.aload_n 0, 1) := by decide +kernel
theorem dJx4a65c_addAll_f0b43_36 : decode cJx4a65c_addAll_f0b43 36 = .ok (.getfield 48, 3) := by decide +kernel
theorem dJx4a65c_addAll_f0b43_39 : decode cJx4a65c_addAll_f0b43 39 = .ok (.dup, 1) := by decide +kernel
theorem dJx4a65c_addAll_f0b43_40 : decode cJx4a65c_addAll_f0b43 40 = .ok (.istore 5, 2) := by decide +kernel
theorem dJx4a65c_addAll_f0b43_42 : decode cJx4a65c_addAll_f0b43 42 = .ok (.isub, 1) := by decide +kernel
theorem dJx4a65c_addAll_f0b43_43 : decode cJx4a65c_addAll_f0b43 43 = .ok (.if_icmp .le 13, 3) := by decide +kernel
theorem dJx4a65c_addAll_f0b43_46 : decode cJx4a65c_addAll_f0b43 46 = .ok (.aload_n 0, 1) := by decide +kernel
theorem dJx4a65c_addAll_f0b43_47 : decode cJx4a65c_addAll_f0b43 47 = .ok (.iload 5, 2) := by decide +kernel
theorem dJx4a65c_addAll_f0b43_49 : decode cJx4a65c_addAll_f0b43 49 = .ok (.iload_n 3, 1) := by decide +kernel
theorem dJx4a65c_addAll_f0b43_50 : decode cJx4a65c_addAll_f0b43 50 = .ok (.iadd, 1) := by decide +kernel
theorem dJx4a65c_addAll_f0b43_51 : decode cJx4a65c_addAll_f0b43 51 = .ok (.invokevirtual 69, 3) := by decide +kernel
theorem dJx4a65c_addAll_f0b43_54 : decode cJx4a65c_addAll_f0b43 54 = .ok (.astore 4, 2) := by decide +kernel
theorem dJx4a65c_addAll_f0b43_56 : decode cJx4a65c_addAll_f0b43 56 = .ok (.aload_n 2, 1) := by decide +kernel
theorem dJx4a65c_addAll_f0b43_57 : decode cJx4a65c_addAll_f0b43 57 = .ok (.iconst 0, 1) := by decide +kernel
theorem dJx4a65c_addAll_f0b43_58 : decode cJx4a65c_addAll_f0b43 58 = .ok (.aload 4, 2) := by decide +kernel
theorem dJx4a65c_addAll_f0b43_60 : decode cJx4a65c_addAll_f0b43 60 = .ok (.iload 5, 2) := by decide +kernel
theorem dJx4a65c_addAll_f0b43_62 : decode cJx4a65c_addAll_f0b43 62 = .ok (.iload_n 3, 1) := by decide +kernel
theorem dJx4a65c_addAll_f0b43_63 : decode cJx4a65c_addAll_f0b43 63 = .ok (.invokestatic 112, 3) := by decide +kernel
theorem dJx4a65c_addAll_f0b43_66 : decode cJx4a65c_addAll_f0b43 66 = .ok (.aload_n 0, 1) := by decide +kernel
theorem dJx4a65c_addAll_f0b43_67 : decode cJx4a65c_addAll_f0b43 67 = .ok (.iload 5, 2) := by decide +kernel
theorem dJx4a65c_addAll_f0b43_69 : decode cJx4a65c_addAll_f0b43 69 = .ok (.iload_n 3, 1) := by decide +kernel
theorem dJx4a65c_addAll_f0b43_70 : decode cJx4a65c_addAll_f0b43 70 = .ok (.iadd, 1) := by decide +kernel
theorem dJx4a65c_addAll_f0b43_71 : decode cJx4a65c_addAll_f0b43 71 = .ok (.putfield 48, 3) := by decide +kernel
theorem dJx4a65c_addAll_f0b43_74 : decode cJx4a65c_addAll_f0b43 74 = .ok (.iconst 1, 1) := by decide +kernel
theorem dJx4a65c_addAll_f0b43_75 : decode cJx4a65c_addAll_f0b43 75 = .ok (.ireturn, 1) := by decide +kernel
theorem dJx4a65c_iterator_32c93_0 : decode cJx4a65c_iterator_32c93 0 = .ok (.new 267, 3) := by decide +kernel
theorem dJx4a65c_iterator_32c93_3 : decode cJx4a65c_iterator_32c93 3 = .ok (.dup, 1) := by decide +kernel
theorem dJx4a65c_iterator_32c93_4 : decode cJx4a65c_iterator_32c93 4 = .ok (.aload_n 0, 1) := by decide +kernel
theorem dJx4a65c_iterator_32c93_5 : decode cJx4a65c_iterator_32c93 5 = .ok (.invokespecial 269, 3) := by decide +kernel
theorem dJx4a65c_iterator_32c93_8 : decode cJx4a65c_iterator_32c93 8 = .ok (.areturn, 1) := by decide +kernel
theorem dJ7_fill_53178_0 : decode cJ7_fill_53178 0 = .ok (.iconst 0, 1) := by decide +kernel
theorem dJ7_fill_53178_1 : decode cJ7_fill_53178 1 = .ok (.istore_n 2, 1) := by decide +kernel
theorem dJ7_fill_53178_2 : decode cJ7_fill_53178 2 = .ok (.aload_n 0, 1) := by decide +kernel
theorem dJ7_fill_53178_3 : decode cJ7_fill_53178 3 = .ok (.arraylength, 1) := by decide +kernel
theorem dJ7_fill_53178_4 : decode cJ7_fill_53178 4 = .ok (.istore_n 3, 1) := by decide +kernel
theorem dJ7_fill_53178_5 : decode cJ7_fill_53178 5 = .ok (.iload_n 2, 1) := by decide +kernel
theorem dJ7_fill_53178_6 : decode cJ7_fill_53178 6 = .ok (.iload_n 3, 1) := by decide +kernel
theorem dJ7_fill_53178_7 : decode cJ7_fill_53178 7 = .ok (.if_icmp .ge 13, 3) := by decide +kernel
theorem dJ7_fill_53178_10 : decode cJ7_fill_53178 10 = .ok (.aload_n 0, 1) := by decide +kernel
theorem dJ7_fill_53178_11 : decode cJ7_fill_53178 11 = .ok (.iload_n 2, 1) := by decide +kernel
theorem dJ7_fill_53178_12 : decode cJ7_fill_53178 12 = .ok (.iload_n 1, 1) := by decide +kernel
theorem dJ7_fill_53178_13 : decode cJ7_fill_53178 13 = .ok (.iastore, 1) := by decide +kernel
theorem dJ7_fill_53178_14 : decode cJ7_fill_53178 14 = .ok (.iinc 2 1, 3) := by decide +kernel
theorem dJ7_fill_53178_17 : decode cJ7_fill_53178 17 = .ok (.goto (-12), 3) := by decide +kernel
theorem dJ7_fill_53178_20 : decode cJ7_fill_53178 20 = .ok (.return_, 1) := by decide +kernel
theorem dJ7_copyOf_1904c_0 : decode cJ7_copyOf_1904c 0 = .ok (.aload_n 0, 1) := by decide +kernel
theorem dJ7_copyOf_1904c_1 : decode cJ7_copyOf_1904c 1 = .ok (.iload_n 1, 1) := by decide +kernel
theorem dJ7_copyOf_1904c_2 : decode cJ7_copyOf_1904c 2 = .ok (.aload_n 0, 1) := by decide +kernel
theorem dJ7_copyOf_1904c_3 : decode cJ7_copyOf_1904c 3 = .ok (.invokevirtual 86, 3) := by decide +kernel
theorem dJ7_copyOf_1904c_6 : decode cJ7_copyOf_1904c 6 = .ok (.invokestatic 300, 3) := by decide +kernel
theorem dJ7_copyOf_1904c_9 : decode cJ7_copyOf_1904c 9 = .ok (.areturn, 1) := by decide +kernel
theorem dJ7_copyOf_6403c_0 : decode cJ7_copyOf_6403c 0 = .ok (.aload_n 2, 1) := by decide +kernel
theorem dJ7_copyOf_6403c_1 : decode cJ7_copyOf_6403c 1 = .ok (.ldc 110, 2) := by decide +kernel
theorem dJ7_copyOf_6403c_3 : decode cJ7_copyOf_6403c 3 = .ok (.if_acmp .ne 10, 3) := by decide +kernel
theorem dJ7_copyOf_6403c_6 : decode cJ7_copyOf_6403c 6 = .ok (.iload_n 1, 1) := by decide +kernel
theorem dJ7_copyOf_6403c_7 : decode cJ7_copyOf_6403c 7 = .ok (.anewarray 2, 3) := by decide +kernel
theorem dJ7_copyOf_6403c_10 : decode cJ7_copyOf_6403c 10 = .ok (.goto 14, 3) := by decide +kernel
theorem dJ7_copyOf_6403c_13 : decode cJ7_copyOf_6403c 13 = .ok (.aload_n 2, 1) := by decide +kernel
theorem dJ7_copyOf_6403c_14 : decode cJ7_copyOf_6403c 14 = .ok (.invokevirtual 90, 3) := by decide +kernel
theorem dJ7_copyOf_6403c_17 : decode cJ7_copyOf_6403c 17 = .ok (.iload_n 1, 1) := by decide +kernel
theorem dJ7_copyOf_6403c_18 : decode cJ7_copyOf_6403c 18 = .ok (.invokestatic 95, 3) := by decide +kernel
theorem dJ7_copyOf_6403c_21 : decode cJ7_copyOf_6403c 21 = .ok (.checkcast 110, 3) := by decide +kernel
theorem dJ7_copyOf_6403c_24 : decode cJ7_copyOf_6403c 24 = .ok (.astore_n 3, 1) := by decide +kernel
theorem dJ7_copyOf_6403c_25 : decode cJ7_copyOf_6403c 25 = .ok (.aload_n 0, 1) := by decide +kernel
theorem dJ7_copyOf_6403c_26 : decode cJ7_copyOf_6403c 26 = .ok (.iconst 0, 1) := by decide +kernel
theorem dJ7_copyOf_6403c_27 : decode cJ7_copyOf_6403c 27 = .ok (.aload_n 3, 1) := by decide +kernel
theorem dJ7_copyOf_6403c_28 : decode cJ7_copyOf_6403c 28 = .ok (.iconst 0, 1) := by decide +kernel
theorem dJ7_copyOf_6403c_29 : decode cJ7_copyOf_6403c 29 = .ok (.aload_n 0, 1) := by decide +kernel
theorem dJ7_copyOf_6403c_30 : decode cJ7_copyOf_6403c 30 = .ok (.arraylength, 1) := by decide +kernel
theorem dJ7_copyOf_6403c_31 : decode cJ7_copyOf_6403c 31 = .ok (.iload_n 1, 1) := by decide +kernel
theorem dJ7_copyOf_6403c_32 : decode cJ7_copyOf_6403c 32 = .ok (.invokestatic 304, 3) := by decide +kernel
theorem dJ7_copyOf_6403c_35 : decode cJ7_copyOf_6403c 35 = .ok (.invokestatic 150, 3) := by decide +kernel
theorem dJ7_copyOf_6403c_38 : decode cJ7_copyOf_6403c 38 = .ok (.aload_n 3, 1) := by decide +kernel
theorem dJ7_copyOf_6403c_39 : decode cJ7_copyOf_6403c 39 = .ok (.areturn, 1) := by decide +kernel
theorem dJ7_copyOf_9075b_0 : decode cJ7_copyOf_9075b 0 = .ok (.iload_n 1, 1) := by decide +kernel
theorem dJ7_copyOf_9075b_1 : decode cJ7_copyOf_9075b 1 = .ok (.aload_n 0, 1) := by decide +kernel
theorem dJ7_copyOf_9075b_2 : decode cJ7_copyOf_9075b 2 = .ok (.arraylength, 1) := by decide +kernel
theorem dJ7_copyOf_9075b_3 : decode cJ7_copyOf_9075b 3 = .ok (.if_icmp .ne 11, 3) := by decide +kernel
theorem dJ7_copyOf_9075b_6 : decode cJ7_copyOf_9075b 6 = .ok (.aload_n 0, 1) := by decide +kernel
theorem dJ7_copyOf_9075b_7 : decode cJ7_copyOf_9075b 7 = .ok (.invokevirtual 310, 3) := by decide +kernel
theorem dJ7_copyOf_9075b_10 : decode cJ7_copyOf_9075b 10 = .ok (.checkcast 311, 3) := by decide +kernel
theorem dJ7_copyOf_9075b_13 : decode cJ7_copyOf_9075b 13 = .ok (.areturn, 1) := by decide +kernel
theorem dJ7_copyOf_9075b_14 : decode cJ7_copyOf_9075b 14 = .ok (.iload_n 1, 1) := by decide +kernel
theorem dJ7_copyOf_9075b_15 : decode cJ7_copyOf_9075b 15 = .ok (.newarray .byte, 2) := by decide +kernel
theorem dJ7_copyOf_9075b_17 : decode cJ7_copyOf_9075b 17 = .ok (.astore_n 2, 1) := by decide +kernel
theorem dJ7_copyOf_9075b_18 : decode cJ7_copyOf_9075b 18 = .ok (.aload_n 0, 1) := by decide +kernel
theorem dJ7_copyOf_9075b_19 : decode cJ7_copyOf_9075b 19 = .ok (.iconst 0, 1) := by decide +kernel
theorem dJ7_copyOf_9075b_20 : decode cJ7_copyOf_9075b 20 = .ok (.aload_n 2, 1) := by decide +kernel
theorem dJ7_copyOf_9075b_21 : decode cJ7_copyOf_9075b 21 = .ok (.iconst 0, 1) := by decide +kernel
theorem dJ7_copyOf_9075b_22 : decode cJ7_copyOf_9075b 22 = .ok (.aload_n 0, 1) := by decide +kernel
theorem dJ7_copyOf_9075b_23 : decode cJ7_copyOf_9075b 23 = .ok (.arraylength, 1) := by decide +kernel
theorem dJ7_copyOf_9075b_24 : decode cJ7_copyOf_9075b 24 = .ok (.iload_n 1, 1) := by decide +kernel
theorem dJ7_copyOf_9075b_25 : decode cJ7_copyOf_9075b 25 = .ok (.invokestatic 304, 3) := by decide +kernel
theorem dJ7_copyOf_9075b_28 : decode cJ7_copyOf_9075b 28 = .ok (.invokestatic 150, 3) := by decide +kernel
theorem dJ7_copyOf_9075b_31 : decode cJ7_copyOf_9075b 31 = .ok (.aload_n 2, 1) := by decide +kernel
theorem dJ7_copyOf_9075b_32 : decode cJ7_copyOf_9075b 32 = .ok (.areturn, 1) := by decide +kernel
theorem dJ7_checkLength_df160_0 : decode cJ7_checkLength_df160 0 = .ok (.iload_n 1, 1) := by decide +kernel
theorem dJ7_checkLength_df160_1 : decode cJ7_checkLength_df160 1 = .ok (.iload_n 0, 1) := by decide +kernel
theorem dJ7_checkLength_df160_2 : decode cJ7_checkLength_df160 2 = .ok (.if_icmp .ge 35, 3) := by decide +kernel
theorem dJ7_checkLength_df160_5 : decode cJ7_checkLength_df160 5 = .ok (.new 43, 3) := by decide +kernel
theorem dJ7_checkLength_df160_8 : decode cJ7_checkLength_df160 8 = .ok (.dup, 1) := by decide +kernel
theorem dJ7_checkLength_df160_9 : decode cJ7_checkLength_df160 9 = .ok (.new 45, 3) := by decide +kernel
theorem dJ7_checkLength_df160_12 : decode cJ7_checkLength_df160 12 = .ok (.dup, 1) := by decide +kernel
theorem dJ7_checkLength_df160_13 : decode cJ7_checkLength_df160 13 = .ok (.invokespecial 47, 3) := by decide +kernel
theorem dJ7_checkLength_df160_16 : decode cJ7_checkLength_df160 16 = .ok (.iload_n 0, 1) := by decide +kernel
theorem dJ7_checkLength_df160_17 : decode cJ7_checkLength_df160 17 = .ok (.invokevirtual 54, 3) := by decide +kernel
theorem dJ7_checkLength_df160_20 : decode cJ7_checkLength_df160 20 = .ok (.ldc_w 337, 3) := by decide +kernel
theorem dJ7_checkLength_df160_23 : decode cJ7_checkLength_df160 23 = .ok (.invokevirtual 50, 3) := by decide +kernel
theorem dJ7_checkLength_df160_26 : decode cJ7_checkLength_df160 26 = .ok (.iload_n 1, 1) := by decide +kernel
theorem dJ7_checkLength_df160_27 : decode cJ7_checkLength_df160 27 = .ok (.invokevirtual 54, 3) := by decide +kernel
theorem dJ7_checkLength_df160_30 : decode cJ7_checkLength_df160 30 = .ok (.invokevirtual 61, 3) := by decide +kernel
theorem dJ7_checkLength_df160_33 : decode cJ7_checkLength_df160 33 = .ok (.invokespecial 65, 3) := by decide +kernel
theorem dJ7_checkLength_df160_36 : decode cJ7_checkLength_df160 36 = .ok (.athrow, 1) := by decide +kernel
theorem dJ7_checkLength_df160_37 : decode cJ7_checkLength_df160 37 = .ok (.return_, 1) := by decide +kernel
theorem dJ7_copyOfRange_39247_0 : decode cJ7_copyOfRange_39247 0 = .ok (.iload_n 1, 1) := by decide +kernel
theorem dJ7_copyOfRange_39247_1 : decode cJ7_copyOfRange_39247 1 = .ok (.ifCond .ne 9, 3) := by decide +kernel
theorem dJ7_copyOfRange_39247_4 : decode cJ7_copyOfRange_39247 4 = .ok (.iload_n 2, 1) := by decide +kernel
theorem dJ7_copyOfRange_39247_5 : decode cJ7_copyOfRange_39247 5 = .ok (.aload_n 0, 1) := by decide +kernel
theorem dJ7_copyOfRange_39247_6 : decode cJ7_copyOfRange_39247 6 = .ok (.arraylength, 1) := by decide +kernel
theorem dJ7_copyOfRange_39247_7 : decode cJ7_copyOfRange_39247 7 = .ok (.if_icmp .eq 10, 3) := by decide +kernel
theorem dJ7_copyOfRange_39247_10 : decode cJ7_copyOfRange_39247 10 = .ok (.aload_n 0, 1) := by decide +kernel
theorem dJ7_copyOfRange_39247_11 : decode cJ7_copyOfRange_39247 11 = .ok (.iload_n 1, 1) := by decide +kernel
theorem dJ7_copyOfRange_39247_12 : decode cJ7_copyOfRange_39247 12 = .ok (.iload_n 2, 1) := by decide +kernel
theorem dJ7_copyOfRange_39247_13 : decode cJ7_copyOfRange_39247 13 = .ok (.invokestatic 339, 3) := by decide +kernel
theorem dJ7_copyOfRange_39247_16 : decode cJ7_copyOfRange_39247 16 = .ok (.areturn, 1) := by decide +kernel
theorem dJ7_copyOfRange_39247_17 : decode cJ7_copyOfRange_39247 17 = .ok (.aload_n 0, 1) := by decide +kernel
theorem dJ7_copyOfRange_39247_18 : decode cJ7_copyOfRange_39247 18 = .ok (.invokevirtual 310, 3) := by decide +kernel
theorem dJ7_copyOfRange_39247_21 : decode cJ7_copyOfRange_39247 21 = .ok (.checkcast 311, 3) := by decide +kernel
theorem dJ7_copyOfRange_39247_24 : decode cJ7_copyOfRange_39247 24 = .ok (.areturn, 1) := by decide +kernel
theorem dJ7_copyOfRangeByte_39247_0 : decode cJ7_copyOfRangeByte_39247 0 = .ok (.iload_n 1, 1) := by decide +kernel
theorem dJ7_copyOfRangeByte_39247_1 : decode cJ7_copyOfRangeByte_39247 1 = .ok (.iload_n 2, 1) := by decide +kernel
theorem dJ7_copyOfRangeByte_39247_2 : decode cJ7_copyOfRangeByte_39247 2 = .ok (.invokestatic 343, 3) := by decide +kernel
theorem dJ7_copyOfRangeByte_39247_5 : decode cJ7_copyOfRangeByte_39247 5 = .ok (.iload_n 2, 1) := by decide +kernel
theorem dJ7_copyOfRangeByte_39247_6 : decode cJ7_copyOfRangeByte_39247 6 = .ok (.iload_n 1, 1) := by decide +kernel
theorem dJ7_copyOfRangeByte_39247_7 : decode cJ7_copyOfRangeByte_39247 7 = .ok (.isub, 1) := by decide +kernel
theorem dJ7_copyOfRangeByte_39247_8 : decode cJ7_copyOfRangeByte_39247 8 = .ok (.istore_n 3, 1) := by decide +kernel
theorem dJ7_copyOfRangeByte_39247_9 : decode cJ7_copyOfRangeByte_39247 9 = .ok (.iload_n 3, 1) := by decide +kernel
theorem dJ7_copyOfRangeByte_39247_10 : decode cJ7_copyOfRangeByte_39247 10 = .ok (.newarray .byte, 2) := by decide +kernel
theorem dJ7_copyOfRangeByte_39247_12 : decode cJ7_copyOfRangeByte_39247 12 = .ok (.astore 4, 2) := by decide +kernel
theorem dJ7_copyOfRangeByte_39247_14 : decode cJ7_copyOfRangeByte_39247 14 = .ok (.aload_n 0, 1) := by decide +kernel
theorem dJ7_copyOfRangeByte_39247_15 : decode cJ7_copyOfRangeByte_39247 15 = .ok (.iload_n 1, 1) := by decide +kernel
theorem dJ7_copyOfRangeByte_39247_16 : decode cJ7_copyOfRangeByte_39247 16 = .ok (.aload 4, 2) := by decide +kernel
theorem dJ7_copyOfRangeByte_39247_18 : decode cJ7_copyOfRangeByte_39247 18 = .ok (.iconst 0, 1) := by decide +kernel
theorem dJ7_copyOfRangeByte_39247_19 : decode cJ7_copyOfRangeByte_39247 19 = .ok (.aload_n 0, 1) := by decide +kernel
theorem dJ7_copyOfRangeByte_39247_20 : decode cJ7_copyOfRangeByte_39247 20 = .ok (.arraylength, 1) := by decide +kernel
theorem dJ7_copyOfRangeByte_39247_21 : decode cJ7_copyOfRangeByte_39247 21 = .ok (.iload_n 1, 1) := by decide +kernel
theorem dJ7_copyOfRangeByte_39247_22 : decode cJ7_copyOfRangeByte_39247 22 = .ok (.isub, 1) := by decide +kernel
theorem dJ7_copyOfRangeByte_39247_23 : decode cJ7_copyOfRangeByte_39247 23 = .ok (.iload_n 3, 1) := by decide +kernel
theorem dJ7_copyOfRangeByte_39247_24 : decode cJ7_copyOfRangeByte_39247 24 = .ok (.invokestatic 304, 3) := by decide +kernel
theorem dJ7_copyOfRangeByte_39247_27 : decode cJ7_copyOfRangeByte_39247 27 = .ok (.invokestatic 150, 3) := by decide +kernel
theorem dJ7_copyOfRangeByte_39247_30 : decode cJ7_copyOfRangeByte_39247 30 = .ok (.aload 4, 2) := by decide +kernel
theorem dJ7_copyOfRangeByte_39247_32 : decode cJ7_copyOfRangeByte_39247 32 = .ok (.areturn, 1) := by decide +kernel
theorem dJ15_checkIndex_7cf53_0 : decode cJ15_checkIndex_7cf53 0 = .ok (.iload_n 0, 1) := by decide +kernel
theorem dJ15_checkIndex_7cf53_1 : decode cJ15_checkIndex_7cf53 1 = .ok (.iload_n 1, 1) := by decide +kernel
theorem dJ15_checkIndex_7cf53_2 : decode cJ15_checkIndex_7cf53 2 = .ok (.aconst_null, 1) := by decide +kernel
theorem dJ15_checkIndex_7cf53_3 : decode cJ15_checkIndex_7cf53 3 = .ok (.invokestatic 105, 3) := by decide +kernel
theorem dJ15_checkIndex_7cf53_6 : decode cJ15_checkIndex_7cf53 6 = .ok (.ireturn, 1) := by decide +kernel
theorem dJ8_newLength_cabcc_0 : decode cJ8_newLength_cabcc 0 = .ok (.iload_n 0, 1) := by decide +kernel
theorem dJ8_newLength_cabcc_1 : decode cJ8_newLength_cabcc 1 = .ok (.iload_n 1, 1) := by decide +kernel
theorem dJ8_newLength_cabcc_2 : decode cJ8_newLength_cabcc 2 = .ok (.iload_n 2, 1) := by decide +kernel
theorem dJ8_newLength_cabcc_3 : decode cJ8_newLength_cabcc 3 = .ok (.invokestatic 194, 3) := by decide +kernel
theorem dJ8_newLength_cabcc_6 : decode cJ8_newLength_cabcc 6 = .ok (.iadd, 1) := by decide +kernel
theorem dJ8_newLength_cabcc_7 : decode cJ8_newLength_cabcc 7 = .ok (.istore_n 3, 1) := by decide +kernel
theorem dJ8_newLength_cabcc_8 : decode cJ8_newLength_cabcc 8 = .ok (.iconst 0, 1) := by decide +kernel
theorem dJ8_newLength_cabcc_9 : decode cJ8_newLength_cabcc 9 = .ok (.iload_n 3, 1) := by decide +kernel
theorem dJ8_newLength_cabcc_10 : decode cJ8_newLength_cabcc 10 = .ok (.if_icmp .ge 11, 3) := by decide +kernel
theorem dJ8_newLength_cabcc_13 : decode cJ8_newLength_cabcc 13 = .ok (.iload_n 3, 1) := by decide +kernel
theorem dJ8_newLength_cabcc_14 : decode cJ8_newLength_cabcc 14 = .ok (.ldc 200, 2) := by decide +kernel
theorem dJ8_newLength_cabcc_16 : decode cJ8_newLength_cabcc 16 = .ok (.if_icmp .gt 5, 3) := by decide +kernel
theorem dJ8_newLength_cabcc_19 : decode cJ8_newLength_cabcc 19 = .ok (.iload_n 3, 1) := by decide +kernel
theorem dJ8_newLength_cabcc_20 : decode cJ8_newLength_cabcc 20 = .ok (.ireturn, 1) := by decide +kernel
theorem dJ8_newLength_cabcc_21 : decode cJ8_newLength_cabcc 21 = .ok (.iload_n 0, 1) := by decide +kernel
theorem dJ8_newLength_cabcc_22 : decode cJ8_newLength_cabcc 22 = .ok (.iload_n 1, 1) := by decide +kernel
theorem dJ8_newLength_cabcc_23 : decode cJ8_newLength_cabcc 23 = .ok (.invokestatic 201, 3) := by decide +kernel
theorem dJ8_newLength_cabcc_26 : decode cJ8_newLength_cabcc 26 = .ok (.ireturn, 1) := by decide +kernel
theorem dJ8_hugeLength_7cf53_0 : decode cJ8_hugeLength_7cf53 0 = .ok (.iload_n 0, 1) := by decide +kernel
theorem dJ8_hugeLength_7cf53_1 : decode cJ8_hugeLength_7cf53 1 = .ok (.iload_n 1, 1) := by decide +kernel
theorem dJ8_hugeLength_7cf53_2 : decode cJ8_hugeLength_7cf53 2 = .ok (.iadd, 1) := by decide +kernel
theorem dJ8_hugeLength_7cf53_3 : decode cJ8_hugeLength_7cf53 3 = .ok (.istore_n 2, 1) := by decide +kernel
theorem dJ8_hugeLength_7cf53_4 : decode cJ8_hugeLength_7cf53 4 = .ok (.iload_n 2, 1) := by decide +kernel
theorem dJ8_hugeLength_7cf53_5 : decode cJ8_hugeLength_7cf53 5 = .ok (.ifCond .ge 44, 3) := by decide +kernel
theorem dJ8_hugeLength_7cf53_8 : decode cJ8_hugeLength_7cf53 8 = .ok (.new 204, 3) := by decide +kernel
theorem dJ8_hugeLength_7cf53_11 : decode cJ8_hugeLength_7cf53 11 = .ok (.dup, 1) := by decide +kernel
theorem dJ8_hugeLength_7cf53_12 : decode cJ8_hugeLength_7cf53 12 = .ok (.new 89, 3) := by decide +kernel
theorem dJ8_hugeLength_7cf53_15 : decode cJ8_hugeLength_7cf53 15 = .ok (.dup, 1) := by decide +kernel
theorem dJ8_hugeLength_7cf53_16 : decode cJ8_hugeLength_7cf53 16 = .ok (.invokespecial 91, 3) := by decide +kernel
theorem dJ8_hugeLength_7cf53_19 : decode cJ8_hugeLength_7cf53 19 = .ok (.ldc 206, 2) := by decide +kernel
theorem dJ8_hugeLength_7cf53_21 : decode cJ8_hugeLength_7cf53 21 = .ok (.invokevirtual 94, 3) := by decide +kernel
theorem dJ8_hugeLength_7cf53_24 : decode cJ8_hugeLength_7cf53 24 = .ok (.iload_n 0, 1) := by decide +kernel
theorem dJ8_hugeLength_7cf53_25 : decode cJ8_hugeLength_7cf53 25 = .ok (.invokevirtual 98, 3) := by decide +kernel
theorem dJ8_hugeLength_7cf53_28 : decode cJ8_hugeLength_7cf53 28 = .ok (.ldc 208, 2) := by decide +kernel
theorem dJ8_hugeLength_7cf53_30 : decode cJ8_hugeLength_7cf53 30 = .ok (.invokevirtual 94, 3) := by decide +kernel
theorem dJ8_hugeLength_7cf53_33 : decode cJ8_hugeLength_7cf53 33 = .ok (.iload_n 1, 1) := by decide +kernel
theorem dJ8_hugeLength_7cf53_34 : decode cJ8_hugeLength_7cf53 34 = .ok (.invokevirtual 98, 3) := by decide +kernel
theorem dJ8_hugeLength_7cf53_37 : decode cJ8_hugeLength_7cf53 37 = .ok (.ldc 210, 2) := by decide +kernel
theorem dJ8_hugeLength_7cf53_39 : decode cJ8_hugeLength_7cf53 39 = .ok (.invokevirtual 94, 3) := by decide +kernel
theorem dJ8_hugeLength_7cf53_42 : decode cJ8_hugeLength_7cf53 42 = .ok (.invokevirtual 101, 3) := by decide +kernel
theorem dJ8_hugeLength_7cf53_45 : decode cJ8_hugeLength_7cf53 45 = .ok (.invokespecial 212, 3) := by decide +kernel
theorem dJ8_hugeLength_7cf53_48 : decode cJ8_hugeLength_7cf53 48 = .ok (.athrow, 1) := by decide +kernel
theorem dJ8_hugeLength_7cf53_49 : decode cJ8_hugeLength_7cf53 49 = .ok (.iload_n 2, 1) := by decide +kernel
theorem dJ8_hugeLength_7cf53_50 : decode cJ8_hugeLength_7cf53 50 = .ok (.ldc 200, 2) := by decide +kernel
theorem dJ8_hugeLength_7cf53_52 : decode cJ8_hugeLength_7cf53 52 = .ok (.if_icmp .gt 6, 3) := by decide +kernel
theorem dJ8_hugeLength_7cf53_55 : decode cJ8_hugeLength_7cf53 55 = .ok (.ldc 200, 2) := by decide +kernel
theorem dJ8_hugeLength_7cf53_57 : decode cJ8_hugeLength_7cf53 57 = .ok (.ireturn, 1) := by decide +kernel
theorem dJ8_hugeLength_7cf53_58 : decode cJ8_hugeLength_7cf53 58 = .ok (.iload_n 2, 1) := by decide +kernel
theorem dJ8_hugeLength_7cf53_59 : decode cJ8_hugeLength_7cf53 59 = .ok (.ireturn, 1) := by decide +kernel
theorem dJ3_checkIndex_8e157_0 : decode cJ3_checkIndex_8e157 0 = .ok (.iload_n 0, 1) := by decide +kernel
theorem dJ3_checkIndex_8e157_1 : decode cJ3_checkIndex_8e157 1 = .ok (.ifCond .lt 8, 3) := by decide +kernel
theorem dJ3_checkIndex_8e157_4 : decode cJ3_checkIndex_8e157 4 = .ok (.iload_n 0, 1) := by decide +kernel
theorem dJ3_checkIndex_8e157_5 : decode cJ3_checkIndex_8e157 5 = .ok (.iload_n 1, 1) := by decide +kernel
theorem dJ3_checkIndex_8e157_6 : decode cJ3_checkIndex_8e157 6 = .ok (.if_icmp .lt 10, 3) := by decide +kernel
theorem dJ3_checkIndex_8e157_9 : decode cJ3_checkIndex_8e157 9 = .ok (.aload_n 2, 1) := by decide +kernel
theorem dJ3_checkIndex_8e157_10 : decode cJ3_checkIndex_8e157 10 = .ok (.iload_n 0, 1) := by decide +kernel
theorem dJ3_checkIndex_8e157_11 : decode cJ3_checkIndex_8e157 11 = .ok (.iload_n 1, 1) := by decide +kernel
theorem dJ3_checkIndex_8e157_12 : decode cJ3_checkIndex_8e157 12 = .ok (.invokestatic 95, 3) := by decide +kernel
theorem dJ3_checkIndex_8e157_15 : decode cJ3_checkIndex_8e157 15 = .ok (.athrow, 1) := by decide +kernel
theorem dJ3_checkIndex_8e157_16 : decode cJ3_checkIndex_8e157 16 = .ok (.iload_n 0, 1) := by decide +kernel
theorem dJ3_checkIndex_8e157_17 : decode cJ3_checkIndex_8e157 17 = .ok (.ireturn, 1) := by decide +kernel
theorem dJ3_checkFromToIndex_8c36e_0 : decode cJ3_checkFromToIndex_8c36e 0 = .ok (.iload_n 0, 1) := by decide +kernel
theorem dJ3_checkFromToIndex_8c36e_1 : decode cJ3_checkFromToIndex_8c36e 1 = .ok (.ifCond .lt 13, 3) := by decide +kernel
theorem dJ3_checkFromToIndex_8c36e_4 : decode cJ3_checkFromToIndex_8c36e 4 = .ok (.iload_n 0, 1) := by decide +kernel
theorem dJ3_checkFromToIndex_8c36e_5 : decode cJ3_checkFromToIndex_8c36e 5 = .ok (.iload_n 1, 1) := by decide +kernel
theorem dJ3_checkFromToIndex_8c36e_6 : decode cJ3_checkFromToIndex_8c36e 6 = .ok (.if_icmp .gt 8, 3) := by decide +kernel
theorem dJ3_checkFromToIndex_8c36e_9 : decode cJ3_checkFromToIndex_8c36e 9 = .ok (.iload_n 1, 1) := by decide +kernel
theorem dJ3_checkFromToIndex_8c36e_10 : decode cJ3_checkFromToIndex_8c36e 10 = .ok (.iload_n 2, 1) := by decide +kernel
theorem dJ3_checkFromToIndex_8c36e_11 : decode cJ3_checkFromToIndex_8c36e 11 = .ok (.if_icmp .le 11, 3) := by decide +kernel
theorem dJ3_checkFromToIndex_8c36e_14 : decode cJ3_checkFromToIndex_8c36e 14 = .ok (.aload_n 3, 1) := by decide +kernel
theorem dJ3_checkFromToIndex_8c36e_15 : decode cJ3_checkFromToIndex_8c36e 15 = .ok (.iload_n 0, 1) := by decide +kernel
theorem dJ3_checkFromToIndex_8c36e_16 : decode cJ3_checkFromToIndex_8c36e 16 = .ok (.iload_n 1, 1) := by decide +kernel
theorem dJ3_checkFromToIndex_8c36e_17 : decode cJ3_checkFromToIndex_8c36e 17 = .ok (.iload_n 2, 1) := by decide +kernel
theorem dJ3_checkFromToIndex_8c36e_18 : decode cJ3_checkFromToIndex_8c36e 18 = .ok (.invokestatic 99, 3) := by decide +kernel
theorem dJ3_checkFromToIndex_8c36e_21 : decode cJ3_checkFromToIndex_8c36e 21 = .ok (.athrow, 1) := by decide +kernel
theorem dJ3_checkFromToIndex_8c36e_22 : decode cJ3_checkFromToIndex_8c36e 22 = .ok (.iload_n 0, 1) := by decide +kernel
theorem dJ3_checkFromToIndex_8c36e_23 : decode cJ3_checkFromToIndex_8c36e 23 = .ok (.ireturn, 1) := by decide +kernel
theorem dJ3_checkFromIndexSize_8c36e_0 : decode cJ3_checkFromIndexSize_8c36e 0 = .ok (.iload_n 2, 1) := by decide +kernel
theorem dJ3_checkFromIndexSize_8c36e_1 : decode cJ3_checkFromIndexSize_8c36e 1 = .ok (.iload_n 0, 1) := by decide +kernel
theorem dJ3_checkFromIndexSize_8c36e_2 : decode cJ3_checkFromIndexSize_8c36e 2 = .ok (.ior, 1) := by decide +kernel
theorem dJ3_checkFromIndexSize_8c36e_3 : decode cJ3_checkFromIndexSize_8c36e 3 = .ok (.iload_n 1, 1) := by decide +kernel
theorem dJ3_checkFromIndexSize_8c36e_4 : decode cJ3_checkFromIndexSize_8c36e 4 = .ok (.ior, 1) := by decide +kernel
theorem dJ3_checkFromIndexSize_8c36e_5 : decode cJ3_checkFromIndexSize_8c36e 5 = .ok (.ifCond .lt 10, 3) := by decide +kernel
theorem dJ3_checkFromIndexSize_8c36e_8 : decode cJ3_checkFromIndexSize_8c36e 8 = .ok (.iload_n 1, 1) := by decide +kernel
theorem dJ3_checkFromIndexSize_8c36e_9 : decode cJ3_checkFromIndexSize_8c36e 9 = .ok (.iload_n 2, 1) := by decide +kernel
theorem dJ3_checkFromIndexSize_8c36e_10 : decode cJ3_checkFromIndexSize_8c36e 10 = .ok (.iload_n 0, 1) := by decide +kernel
theorem dJ3_checkFromIndexSize_8c36e_11 : decode cJ3_checkFromIndexSize_8c36e 11 = .ok (.isub, 1) := by decide +kernel
theorem dJ3_checkFromIndexSize_8c36e_12 : decode cJ3_checkFromIndexSize_8c36e 12 = .ok (.if_icmp .le 11, 3) := by decide +kernel
theorem dJ3_checkFromIndexSize_8c36e_15 : decode cJ3_checkFromIndexSize_8c36e 15 = .ok (.aload_n 3, 1) := by decide +kernel
theorem dJ3_checkFromIndexSize_8c36e_16 : decode cJ3_checkFromIndexSize_8c36e 16 = .ok (.iload_n 0, 1) := by decide +kernel
theorem dJ3_checkFromIndexSize_8c36e_17 : decode cJ3_checkFromIndexSize_8c36e 17 = .ok (.iload_n 1, 1) := by decide +kernel
theorem dJ3_checkFromIndexSize_8c36e_18 : decode cJ3_checkFromIndexSize_8c36e 18 = .ok (.iload_n 2, 1) := by decide +kernel
theorem dJ3_checkFromIndexSize_8c36e_19 : decode cJ3_checkFromIndexSize_8c36e 19 = .ok (.invokestatic 103, 3) := by decide +kernel
theorem dJ3_checkFromIndexSize_8c36e_22 : decode cJ3_checkFromIndexSize_8c36e 22 = .ok (.athrow, 1) := by decide +kernel
theorem dJ3_checkFromIndexSize_8c36e_23 : decode cJ3_checkFromIndexSize_8c36e 23 = .ok (.iload_n 0, 1) := by decide +kernel
theorem dJ3_checkFromIndexSize_8c36e_24 : decode cJ3_checkFromIndexSize_8c36e 24 = .ok (.ireturn, 1) := by decide +kernel
theorem dL_at_0 : decode cL_at 0 = .ok (.aload_n 0, 1) := by decide +kernel
theorem dL_at_1 : decode cL_at 1 = .ok (.arraylength, 1) := by decide +kernel
theorem dL_at_2 : decode cL_at 2 = .ok (.iconst 1, 1) := by decide +kernel
theorem dL_at_3 : decode cL_at 3 = .ok (.if_icmp .le 19, 3) := by decide +kernel
theorem dL_at_6 : decode cL_at 6 = .ok (.aload_n 0, 1) := by decide +kernel
theorem dL_at_7 : decode cL_at 7 = .ok (.iload_n 1, 1) := by decide +kernel
theorem dL_at_8 : decode cL_at 8 = .ok (.aload_n 0, 1) := by decide +kernel
theorem dL_at_9 : decode cL_at 9 = .ok (.arraylength, 1) := by decide +kernel
theorem dL_at_10 : decode cL_at 10 = .ok (.iconst 1, 1) := by decide +kernel
theorem dL_at_11 : decode cL_at 11 = .ok (.isub, 1) := by decide +kernel
theorem dL_at_12 : decode cL_at 12 = .ok (.irem, 1) := by decide +kernel
theorem dL_at_13 : decode cL_at 13 = .ok (.iconst 1, 1) := by decide +kernel
theorem dL_at_14 : decode cL_at 14 = .ok (.iadd, 1) := by decide +kernel
theorem dL_at_15 : decode cL_at 15 = .ok (.iaload, 1) := by decide +kernel
theorem dL_at_16 : decode cL_at 16 = .ok (.ldc 7, 2) := by decide +kernel
theorem dL_at_18 : decode cL_at 18 = .ok (.iand, 1) := by decide +kernel
theorem dL_at_19 : decode cL_at 19 = .ok (.goto 11, 3) := by decide +kernel
theorem dL_at_22 : decode cL_at 22 = .ok (.sipush 7919, 3) := by decide +kernel
theorem dL_at_25 : decode cL_at 25 = .ok (.iload_n 1, 1) := by decide +kernel
theorem dL_at_26 : decode cL_at 26 = .ok (.imul, 1) := by decide +kernel
theorem dL_at_27 : decode cL_at 27 = .ok (.ldc 7, 2) := by decide +kernel
theorem dL_at_29 : decode cL_at 29 = .ok (.iand, 1) := by decide +kernel
theorem dL_at_30 : decode cL_at 30 = .ok (.ireturn, 1) := by decide +kernel
theorem dL_load_0 : decode cL_load 0 = .ok (.iconst 0, 1) := by decide +kernel
theorem dL_load_1 : decode cL_load 1 = .ok (.istore_n 2, 1) := by decide +kernel
theorem dL_load_2 : decode cL_load 2 = .ok (.iconst 0, 1) := by decide +kernel
theorem dL_load_3 : decode cL_load 3 = .ok (.istore_n 3, 1) := by decide +kernel
theorem dL_load_4 : decode cL_load 4 = .ok (.iload_n 3, 1) := by decide +kernel
theorem dL_load_5 : decode cL_load 5 = .ok (.aload_n 1, 1) := by decide +kernel
theorem dL_load_6 : decode cL_load 6 = .ok (.invokevirtual 8, 3) := by decide +kernel
theorem dL_load_9 : decode cL_load 9 = .ok (.if_icmp .ge 70, 3) := by decide +kernel
theorem dL_load_12 : decode cL_load 12 = .ok (.lconst 0, 1) := by decide +kernel
theorem dL_load_13 : decode cL_load 13 = .ok (.lstore 4, 2) := by decide +kernel
theorem dL_load_15 : decode cL_load 15 = .ok (.iload_n 3, 1) := by decide +kernel
theorem dL_load_16 : decode cL_load 16 = .ok (.istore 6, 2) := by decide +kernel
theorem dL_load_18 : decode cL_load 18 = .ok (.iload 6, 2) := by decide +kernel
theorem dL_load_20 : decode cL_load 20 = .ok (.iload_n 3, 1) := by decide +kernel
theorem dL_load_21 : decode cL_load 21 = .ok (.bipush 8, 2) := by decide +kernel
theorem dL_load_23 : decode cL_load 23 = .ok (.iadd, 1) := by decide +kernel
theorem dL_load_24 : decode cL_load 24 = .ok (.if_icmp .ge 36, 3) := by decide +kernel
theorem dL_load_27 : decode cL_load 27 = .ok (.iload 6, 2) := by decide +kernel
theorem dL_load_29 : decode cL_load 29 = .ok (.aload_n 1, 1) := by decide +kernel
theorem dL_load_30 : decode cL_load 30 = .ok (.invokevirtual 8, 3) := by decide +kernel
theorem dL_load_33 : decode cL_load 33 = .ok (.if_icmp .ge 27, 3) := by decide +kernel
theorem dL_load_36 : decode cL_load 36 = .ok (.lload 4, 2) := by decide +kernel
theorem dL_load_38 : decode cL_load 38 = .ok (.bipush 8, 2) := by decide +kernel
theorem dL_load_40 : decode cL_load 40 = .ok (.lshl, 1) := by decide +kernel
theorem dL_load_41 : decode cL_load 41 = .ok (.aload_n 1, 1) := by decide +kernel
theorem dL_load_42 : decode cL_load 42 = .ok (.iload 6, 2) := by decide +kernel
theorem dL_load_44 : decode cL_load 44 = .ok (.invokevirtual 14, 3) := by decide +kernel
theorem dL_load_47 : decode cL_load 47 = .ok (.i2l, 1) := by decide +kernel
theorem dL_load_48 : decode cL_load 48 = .ok (.lor, 1) := by decide +kernel
theorem dL_load_49 : decode cL_load 49 = .ok (.lstore 4, 2) := by decide +kernel
theorem dL_load_51 : decode cL_load 51 = .ok (.iinc 2 1, 3) := by decide +kernel
theorem dL_load_54 : decode cL_load 54 = .ok (.iinc 6 1, 3) := by decide +kernel
theorem dL_load_57 : decode cL_load 57 = .ok (.goto (-39), 3) := by decide +kernel
theorem dL_load_60 : decode cL_load 60 = .ok (.aload_n 0, 1) := by decide +kernel
theorem dL_load_61 : decode cL_load 61 = .ok (.lload 4, 2) := by decide +kernel
theorem dL_load_63 : decode cL_load 63 = .ok (.invokevirtual 18, 3) := by decide +kernel
theorem dL_load_66 : decode cL_load 66 = .ok (.iload_n 2, 1) := by decide +kernel
theorem dL_load_67 : decode cL_load 67 = .ok (.if_icmp .eq 6, 3) := by decide +kernel
theorem dL_load_70 : decode cL_load 70 = .ok (.bipush (-99), 2) := by decide +kernel
theorem dL_load_72 : decode cL_load 72 = .ok (.ireturn, 1) := by decide +kernel
theorem dL_load_73 : decode cL_load 73 = .ok (.iinc 3 8, 3) := by decide +kernel
theorem dL_load_76 : decode cL_load 76 = .ok (.goto (-72), 3) := by decide +kernel
theorem dL_load_79 : decode cL_load 79 = .ok (.aload_n 0, 1) := by decide +kernel
theorem dL_load_80 : decode cL_load 80 = .ok (.invokevirtual 24, 3) := by decide +kernel
theorem dL_load_83 : decode cL_load 83 = .ok (.ireturn, 1) := by decide +kernel
theorem dL_drawn_0 : decode cL_drawn 0 = .ok (.new 27, 3) := by decide +kernel
theorem dL_drawn_3 : decode cL_drawn 3 = .ok (.dup, 1) := by decide +kernel
theorem dL_drawn_4 : decode cL_drawn 4 = .ok (.invokespecial 29, 3) := by decide +kernel
theorem dL_drawn_7 : decode cL_drawn 7 = .ok (.astore_n 3, 1) := by decide +kernel
theorem dL_drawn_8 : decode cL_drawn 8 = .ok (.aload_n 0, 1) := by decide +kernel
theorem dL_drawn_9 : decode cL_drawn 9 = .ok (.iload_n 1, 1) := by decide +kernel
theorem dL_drawn_10 : decode cL_drawn 10 = .ok (.invokestatic 30, 3) := by decide +kernel
theorem dL_drawn_13 : decode cL_drawn 13 = .ok (.istore 4, 2) := by decide +kernel
theorem dL_drawn_15 : decode cL_drawn 15 = .ok (.aload_n 3, 1) := by decide +kernel
theorem dL_drawn_16 : decode cL_drawn 16 = .ok (.iconst 1, 1) := by decide +kernel
theorem dL_drawn_17 : decode cL_drawn 17 = .ok (.iload 4, 2) := by decide +kernel
theorem dL_drawn_19 : decode cL_drawn 19 = .ok (.sipush 200, 3) := by decide +kernel
theorem dL_drawn_22 : decode cL_drawn 22 = .ok (.irem, 1) := by decide +kernel
theorem dL_drawn_23 : decode cL_drawn 23 = .ok (.iadd, 1) := by decide +kernel
theorem dL_drawn_24 : decode cL_drawn 24 = .ok (.putfield 36, 3) := by decide +kernel
theorem dL_drawn_27 : decode cL_drawn 27 = .ok (.aload_n 3, 1) := by decide +kernel
theorem dL_drawn_28 : decode cL_drawn 28 = .ok (.iconst 1, 1) := by decide +kernel
theorem dL_drawn_29 : decode cL_drawn 29 = .ok (.iload 4, 2) := by decide +kernel
theorem dL_drawn_31 : decode cL_drawn 31 = .ok (.sipush 256, 3) := by decide +kernel
theorem dL_drawn_34 : decode cL_drawn 34 = .ok (.idiv, 1) := by decide +kernel
theorem dL_drawn_35 : decode cL_drawn 35 = .ok (.bipush 60, 2) := by decide +kernel
theorem dL_drawn_37 : decode cL_drawn 37 = .ok (.irem, 1) := by decide +kernel
theorem dL_drawn_38 : decode cL_drawn 38 = .ok (.iadd, 1) := by decide +kernel
theorem dL_drawn_39 : decode cL_drawn 39 = .ok (.putfield 40, 3) := by decide +kernel
theorem dL_drawn_42 : decode cL_drawn 42 = .ok (.aload_n 2, 1) := by decide +kernel
theorem dL_drawn_43 : decode cL_drawn 43 = .ok (.ldc 43, 2) := by decide +kernel
theorem dL_drawn_45 : decode cL_drawn 45 = .ok (.invokevirtual 45, 3) := by decide +kernel
theorem dL_drawn_48 : decode cL_drawn 48 = .ok (.aload_n 3, 1) := by decide +kernel
theorem dL_drawn_49 : decode cL_drawn 49 = .ok (.getfield 36, 3) := by decide +kernel
theorem dL_drawn_52 : decode cL_drawn 52 = .ok (.invokevirtual 50, 3) := by decide +kernel
theorem dL_drawn_55 : decode cL_drawn 55 = .ok (.bipush 32, 2) := by decide +kernel
theorem dL_drawn_57 : decode cL_drawn 57 = .ok (.invokevirtual 53, 3) := by decide +kernel
theorem dL_drawn_60 : decode cL_drawn 60 = .ok (.aload_n 3, 1) := by decide +kernel
theorem dL_drawn_61 : decode cL_drawn 61 = .ok (.getfield 40, 3) := by decide +kernel
theorem dL_drawn_64 : decode cL_drawn 64 = .ok (.invokevirtual 50, 3) := by decide +kernel
theorem dL_drawn_67 : decode cL_drawn 67 = .ok (.pop, 1) := by decide +kernel
theorem dL_drawn_68 : decode cL_drawn 68 = .ok (.iconst 0, 1) := by decide +kernel
theorem dL_drawn_69 : decode cL_drawn 69 = .ok (.istore 5, 2) := by decide +kernel
theorem dL_drawn_71 : decode cL_drawn 71 = .ok (.iload 5, 2) := by decide +kernel
theorem dL_drawn_73 : decode cL_drawn 73 = .ok (.iload 4, 2) := by decide +kernel
theorem dL_drawn_75 : decode cL_drawn 75 = .ok (.sipush 16384, 3) := by decide +kernel
theorem dL_drawn_78 : decode cL_drawn 78 = .ok (.idiv, 1) := by decide +kernel
theorem dL_drawn_79 : decode cL_drawn 79 = .ok (.iconst 3, 1) := by decide +kernel
theorem dL_drawn_80 : decode cL_drawn 80 = .ok (.irem, 1) := by decide +kernel
theorem dL_drawn_81 : decode cL_drawn 81 = .ok (.if_icmp .ge 128, 3) := by decide +kernel
theorem dL_drawn_84 : decode cL_drawn 84 = .ok (.aload_n 0, 1) := by decide +kernel
theorem dL_drawn_85 : decode cL_drawn 85 = .ok (.iload_n 1, 1) := by decide +kernel
theorem dL_drawn_86 : decode cL_drawn 86 = .ok (.iconst 1, 1) := by decide +kernel
theorem dL_drawn_87 : decode cL_drawn 87 = .ok (.iadd, 1) := by decide +kernel
theorem dL_drawn_88 : decode cL_drawn 88 = .ok (.iload 5, 2) := by decide +kernel
theorem dL_drawn_90 : decode cL_drawn 90 = .ok (.iadd, 1) := by decide +kernel
theorem dL_drawn_91 : decode cL_drawn 91 = .ok (.invokestatic 30, 3) := by decide +kernel
theorem dL_drawn_94 : decode cL_drawn 94 = .ok (.istore 6, 2) := by decide +kernel
theorem dL_drawn_96 : decode cL_drawn 96 = .ok (.iconst 4, 1) := by decide +kernel
theorem dL_drawn_97 : decode cL_drawn 97 = .ok (.newarray .int, 2) := by decide +kernel
theorem dL_drawn_99 : decode cL_drawn 99 = .ok (.dup, 1) := by decide +kernel
theorem dL_drawn_100 : decode cL_drawn 100 = .ok (.iconst 0, 1) := by decide +kernel
theorem dL_drawn_101 : decode cL_drawn 101 = .ok (.iload 6, 2) := by decide +kernel
theorem dL_drawn_103 : decode cL_drawn 103 = .ok (.bipush 8, 2) := by decide +kernel
theorem dL_drawn_105 : decode cL_drawn 105 = .ok (.irem, 1) := by decide +kernel
theorem dL_drawn_106 : decode cL_drawn 106 = .ok (.iastore, 1) := by decide +kernel
theorem dL_drawn_107 : decode cL_drawn 107 = .ok (.dup, 1) := by decide +kernel
theorem dL_drawn_108 : decode cL_drawn 108 = .ok (.iconst 1, 1) := by decide +kernel
theorem dL_drawn_109 : decode cL_drawn 109 = .ok (.iload 6, 2) := by decide +kernel
theorem dL_drawn_111 : decode cL_drawn 111 = .ok (.bipush 8, 2) := by decide +kernel
theorem dL_drawn_113 : decode cL_drawn 113 = .ok (.idiv, 1) := by decide +kernel
theorem dL_drawn_114 : decode cL_drawn 114 = .ok (.bipush 8, 2) := by decide +kernel
theorem dL_drawn_116 : decode cL_drawn 116 = .ok (.irem, 1) := by decide +kernel
theorem dL_drawn_117 : decode cL_drawn 117 = .ok (.iastore, 1) := by decide +kernel
theorem dL_drawn_118 : decode cL_drawn 118 = .ok (.dup, 1) := by decide +kernel
theorem dL_drawn_119 : decode cL_drawn 119 = .ok (.iconst 2, 1) := by decide +kernel
theorem dL_drawn_120 : decode cL_drawn 120 = .ok (.iload 6, 2) := by decide +kernel
theorem dL_drawn_122 : decode cL_drawn 122 = .ok (.bipush 64, 2) := by decide +kernel
theorem dL_drawn_124 : decode cL_drawn 124 = .ok (.idiv, 1) := by decide +kernel
theorem dL_drawn_125 : decode cL_drawn 125 = .ok (.bipush 8, 2) := by decide +kernel
theorem dL_drawn_127 : decode cL_drawn 127 = .ok (.irem, 1) := by decide +kernel
theorem dL_drawn_128 : decode cL_drawn 128 = .ok (.iastore, 1) := by decide +kernel
theorem dL_drawn_129 : decode cL_drawn 129 = .ok (.dup, 1) := by decide +kernel
theorem dL_drawn_130 : decode cL_drawn 130 = .ok (.iconst 3, 1) := by decide +kernel
theorem dL_drawn_131 : decode cL_drawn 131 = .ok (.iload 6, 2) := by decide +kernel
theorem dL_drawn_133 : decode cL_drawn 133 = .ok (.sipush 512, 3) := by decide +kernel
theorem dL_drawn_136 : decode cL_drawn 136 = .ok (.idiv, 1) := by decide +kernel
theorem dL_drawn_137 : decode cL_drawn 137 = .ok (.bipush 30, 2) := by decide +kernel
theorem dL_drawn_139 : decode cL_drawn 139 = .ok (.irem, 1) := by decide +kernel
theorem dL_drawn_140 : decode cL_drawn 140 = .ok (.iastore, 1) := by decide +kernel
theorem dL_drawn_141 : decode cL_drawn 141 = .ok (.astore 7, 2) := by decide +kernel
theorem dL_drawn_143 : decode cL_drawn 143 = .ok (.aload_n 3, 1) := by decide +kernel
theorem dL_drawn_144 : decode cL_drawn 144 = .ok (.getfield 56, 3) := by decide +kernel
theorem dL_drawn_147 : decode cL_drawn 147 = .ok (.aload 7, 2) := by decide +kernel
theorem dL_drawn_149 : decode cL_drawn 149 = .ok (.invokevirtual 60, 3) := by decide +kernel
theorem dL_drawn_152 : decode cL_drawn 152 = .ok (.pop, 1) := by decide +kernel
theorem dL_drawn_153 : decode cL_drawn 153 = .ok (.aload_n 2, 1) := by decide +kernel
theorem dL_drawn_154 : decode cL_drawn 154 = .ok (.ldc 66, 2) := by decide +kernel
theorem dL_drawn_156 : decode cL_drawn 156 = .ok (.invokevirtual 45, 3) := by decide +kernel
theorem dL_drawn_159 : decode cL_drawn 159 = .ok (.aload 7, 2) := by decide +kernel
theorem dL_drawn_161 : decode cL_drawn 161 = .ok (.iconst 0, 1) := by decide +kernel
theorem dL_drawn_162 : decode cL_drawn 162 = .ok (.iaload, 1) := by decide +kernel
theorem dL_drawn_163 : decode cL_drawn 163 = .ok (.invokevirtual 50, 3) := by decide +kernel
theorem dL_drawn_166 : decode cL_drawn 166 = .ok (.bipush 32, 2) := by decide +kernel
theorem dL_drawn_168 : decode cL_drawn 168 = .ok (.invokevirtual 53, 3) := by decide +kernel
theorem dL_drawn_171 : decode cL_drawn 171 = .ok (.aload 7, 2) := by decide +kernel
theorem dL_drawn_173 : decode cL_drawn 173 = .ok (.iconst 1, 1) := by decide +kernel
theorem dL_drawn_174 : decode cL_drawn 174 = .ok (.iaload, 1) := by decide +kernel
theorem dL_drawn_175 : decode cL_drawn 175 = .ok (.invokevirtual 50, 3) := by decide +kernel
theorem dL_drawn_178 : decode cL_drawn 178 = .ok (.bipush 32, 2) := by decide +kernel
theorem dL_drawn_180 : decode cL_drawn 180 = .ok (.invokevirtual 53, 3) := by decide +kernel
theorem dL_drawn_183 : decode cL_drawn 183 = .ok (.aload 7, 2) := by decide +kernel
theorem dL_drawn_185 : decode cL_drawn 185 = .ok (.iconst 2, 1) := by decide +kernel
theorem dL_drawn_186 : decode cL_drawn 186 = .ok (.iaload, 1) := by decide +kernel
theorem dL_drawn_187 : decode cL_drawn 187 = .ok (.invokevirtual 50, 3) := by decide +kernel
theorem dL_drawn_190 : decode cL_drawn 190 = .ok (.bipush 32, 2) := by decide +kernel
theorem dL_drawn_192 : decode cL_drawn 192 = .ok (.invokevirtual 53, 3) := by decide +kernel
theorem dL_drawn_195 : decode cL_drawn 195 = .ok (.aload 7, 2) := by decide +kernel
theorem dL_drawn_197 : decode cL_drawn 197 = .ok (.iconst 3, 1) := by decide +kernel
theorem dL_drawn_198 : decode cL_drawn 198 = .ok (.iaload, 1) := by decide +kernel
theorem dL_drawn_199 : decode cL_drawn 199 = .ok (.invokevirtual 50, 3) := by decide +kernel
theorem dL_drawn_202 : decode cL_drawn 202 = .ok (.pop, 1) := by decide +kernel
theorem dL_drawn_203 : decode cL_drawn 203 = .ok (.iinc 5 1, 3) := by decide +kernel
theorem dL_drawn_206 : decode cL_drawn 206 = .ok (.goto (-135), 3) := by decide +kernel
theorem dL_drawn_209 : decode cL_drawn 209 = .ok (.iload 4, 2) := by decide +kernel
theorem dL_drawn_211 : decode cL_drawn 211 = .ok (.ldc 68, 2) := by decide +kernel
theorem dL_drawn_213 : decode cL_drawn 213 = .ok (.idiv, 1) := by decide +kernel
theorem dL_drawn_214 : decode cL_drawn 214 = .ok (.iconst 5, 1) := by decide +kernel
theorem dL_drawn_215 : decode cL_drawn 215 = .ok (.irem, 1) := by decide +kernel
theorem dL_drawn_216 : decode cL_drawn 216 = .ok (.istore 5, 2) := by decide +kernel
theorem dL_drawn_218 : decode cL_drawn 218 = .ok (.iconst 0, 1) := by decide +kernel
theorem dL_drawn_219 : decode cL_drawn 219 = .ok (.istore 6, 2) := by decide +kernel
theorem dL_drawn_221 : decode cL_drawn 221 = .ok (.iload 6, 2) := by decide +kernel
theorem dL_drawn_223 : decode cL_drawn 223 = .ok (.iload 5, 2) := by decide +kernel
theorem dL_drawn_225 : decode cL_drawn 225 = .ok (.if_icmp .ge 175, 3) := by decide +kernel
theorem dL_drawn_228 : decode cL_drawn 228 = .ok (.aload_n 0, 1) := by decide +kernel
theorem dL_drawn_229 : decode cL_drawn 229 = .ok (.iload_n 1, 1) := by decide +kernel
theorem dL_drawn_230 : decode cL_drawn 230 = .ok (.iconst 4, 1) := by decide +kernel
theorem dL_drawn_231 : decode cL_drawn 231 = .ok (.iadd, 1) := by decide +kernel
theorem dL_drawn_232 : decode cL_drawn 232 = .ok (.iload 6, 2) := by decide +kernel
theorem dL_drawn_234 : decode cL_drawn 234 = .ok (.iadd, 1) := by decide +kernel
theorem dL_drawn_235 : decode cL_drawn 235 = .ok (.invokestatic 30, 3) := by decide +kernel
theorem dL_drawn_238 : decode cL_drawn 238 = .ok (.istore 7, 2) := by decide +kernel
theorem dL_drawn_240 : decode cL_drawn 240 = .ok (.iconst 2, 1) := by decide +kernel
theorem dL_drawn_241 : decode cL_drawn 241 = .ok (.iload 7, 2) := by decide +kernel
theorem dL_drawn_243 : decode cL_drawn 243 = .ok (.sipush 300, 3) := by decide +kernel
theorem dL_drawn_246 : decode cL_drawn 246 = .ok (.irem, 1) := by decide +kernel
theorem dL_drawn_247 : decode cL_drawn 247 = .ok (.iadd, 1) := by decide +kernel
theorem dL_drawn_248 : decode cL_drawn 248 = .ok (.istore 8, 2) := by decide +kernel
theorem dL_drawn_250 : decode cL_drawn 250 = .ok (.aload_n 3, 1) := by decide +kernel
theorem dL_drawn_251 : decode cL_drawn 251 = .ok (.getfield 56, 3) := by decide +kernel
theorem dL_drawn_254 : decode cL_drawn 254 = .ok (.invokevirtual 69, 3) := by decide +kernel
theorem dL_drawn_257 : decode cL_drawn 257 = .ok (.ifCond .ne 14, 3) := by decide +kernel
theorem dL_drawn_260 : decode cL_drawn 260 = .ok (.iload 7, 2) := by decide +kernel
theorem dL_drawn_262 : decode cL_drawn 262 = .ok (.sipush 512, 3) := by decide +kernel
theorem dL_drawn_265 : decode cL_drawn 265 = .ok (.idiv, 1) := by decide +kernel
theorem dL_drawn_266 : decode cL_drawn 266 = .ok (.iconst 3, 1) := by decide +kernel
theorem dL_drawn_267 : decode cL_drawn 267 = .ok (.irem, 1) := by decide +kernel
theorem dL_drawn_268 : decode cL_drawn 268 = .ok (.ifCond .ne 7, 3) := by decide +kernel
theorem dL_drawn_271 : decode cL_drawn 271 = .ok (.iconst (-1), 1) := by decide +kernel
theorem dL_drawn_272 : decode cL_drawn 272 = .ok (.goto 17, 3) := by decide +kernel
theorem dL_drawn_275 : decode cL_drawn 275 = .ok (.iload 7, 2) := by decide +kernel
theorem dL_drawn_277 : decode cL_drawn 277 = .ok (.sipush 2048, 3) := by decide +kernel
theorem dL_drawn_280 : decode cL_drawn 280 = .ok (.idiv, 1) := by decide +kernel
theorem dL_drawn_281 : decode cL_drawn 281 = .ok (.aload_n 3, 1) := by decide +kernel
theorem dL_drawn_282 : decode cL_drawn 282 = .ok (.getfield 56, 3) := by decide +kernel
theorem dL_drawn_285 : decode cL_drawn 285 = .ok (.invokevirtual 73, 3) := by decide +kernel
theorem dL_drawn_288 : decode cL_drawn 288 = .ok (.irem, 1) := by decide +kernel
theorem dL_drawn_289 : decode cL_drawn 289 = .ok (.istore 9, 2) := by decide +kernel
theorem dL_drawn_291 : decode cL_drawn 291 = .ok (.new 76, 3) := by decide +kernel
theorem dL_drawn_294 : decode cL_drawn 294 = .ok (.dup, 1) := by decide +kernel
theorem dL_drawn_295 : decode cL_drawn 295 = .ok (.iload 8, 2) := by decide +kernel
theorem dL_drawn_297 : decode cL_drawn 297 = .ok (.iload 7, 2) := by decide +kernel
theorem dL_drawn_299 : decode cL_drawn 299 = .ok (.sipush 8192, 3) := by decide +kernel
theorem dL_drawn_302 : decode cL_drawn 302 = .ok (.idiv, 1) := by decide +kernel
theorem dL_drawn_303 : decode cL_drawn 303 = .ok (.iload 8, 2) := by decide +kernel
theorem dL_drawn_305 : decode cL_drawn 305 = .ok (.iconst 1, 1) := by decide +kernel
theorem dL_drawn_306 : decode cL_drawn 306 = .ok (.iadd, 1) := by decide +kernel
theorem dL_drawn_307 : decode cL_drawn 307 = .ok (.irem, 1) := by decide +kernel
theorem dL_drawn_308 : decode cL_drawn 308 = .ok (.iload 9, 2) := by decide +kernel
theorem dL_drawn_310 : decode cL_drawn 310 = .ok (.invokespecial 78, 3) := by decide +kernel
theorem dL_drawn_313 : decode cL_drawn 313 = .ok (.astore 10, 2) := by decide +kernel
theorem dL_drawn_315 : decode cL_drawn 315 = .ok (.aload_n 3, 1) := by decide +kernel
theorem dL_drawn_316 : decode cL_drawn 316 = .ok (.getfield 81, 3) := by decide +kernel
theorem dL_drawn_319 : decode cL_drawn 319 = .ok (.aload 10, 2) := by decide +kernel
theorem dL_drawn_321 : decode cL_drawn 321 = .ok (.invokevirtual 60, 3) := by decide +kernel
theorem dL_drawn_324 : decode cL_drawn 324 = .ok (.pop, 1) := by decide +kernel
theorem dL_drawn_325 : decode cL_drawn 325 = .ok (.aload_n 3, 1) := by decide +kernel
theorem dL_drawn_326 : decode cL_drawn 326 = .ok (.dup, 1) := by decide +kernel
theorem dL_drawn_327 : decode cL_drawn 327 = .ok (.getfield 84, 3) := by decide +kernel
theorem dL_drawn_330 : decode cL_drawn 330 = .ok (.aload 10, 2) := by decide +kernel
theorem dL_drawn_332 : decode cL_drawn 332 = .ok (.getfield 88, 3) := by decide +kernel
theorem dL_drawn_335 : decode cL_drawn 335 = .ok (.i2l, 1) := by decide +kernel
theorem dL_drawn_336 : decode cL_drawn 336 = .ok (.ladd, 1) := by decide +kernel
theorem dL_drawn_337 : decode cL_drawn 337 = .ok (.putfield 84, 3) := by decide +kernel
theorem dL_drawn_340 : decode cL_drawn 340 = .ok (.aload_n 2, 1) := by decide +kernel
theorem dL_drawn_341 : decode cL_drawn 341 = .ok (.iload 6, 2) := by decide +kernel
theorem dL_drawn_343 : decode cL_drawn 343 = .ok (.iconst 2, 1) := by decide +kernel
theorem dL_drawn_344 : decode cL_drawn 344 = .ok (.irem, 1) := by decide +kernel
theorem dL_drawn_345 : decode cL_drawn 345 = .ok (.ifCond .ne 8, 3) := by decide +kernel
theorem dL_drawn_348 : decode cL_drawn 348 = .ok (.ldc 91, 2) := by decide +kernel
theorem dL_drawn_350 : decode cL_drawn 350 = .ok (.goto 5, 3) := by decide +kernel
theorem dL_drawn_353 : decode cL_drawn 353 = .ok (.ldc 93, 2) := by decide +kernel
theorem dL_drawn_355 : decode cL_drawn 355 = .ok (.invokevirtual 45, 3) := by decide +kernel
theorem dL_drawn_358 : decode cL_drawn 358 = .ok (.iload 8, 2) := by decide +kernel
theorem dL_drawn_360 : decode cL_drawn 360 = .ok (.invokevirtual 50, 3) := by decide +kernel
theorem dL_drawn_363 : decode cL_drawn 363 = .ok (.bipush 32, 2) := by decide +kernel
theorem dL_drawn_365 : decode cL_drawn 365 = .ok (.invokevirtual 53, 3) := by decide +kernel
theorem dL_drawn_368 : decode cL_drawn 368 = .ok (.aload 10, 2) := by decide +kernel
theorem dL_drawn_370 : decode cL_drawn 370 = .ok (.getfield 88, 3) := by decide +kernel
theorem dL_drawn_373 : decode cL_drawn 373 = .ok (.invokevirtual 50, 3) := by decide +kernel
theorem dL_drawn_376 : decode cL_drawn 376 = .ok (.pop, 1) := by decide +kernel
theorem dL_drawn_377 : decode cL_drawn 377 = .ok (.iload 9, 2) := by decide +kernel
theorem dL_drawn_379 : decode cL_drawn 379 = .ok (.ifCond .lt 15, 3) := by decide +kernel
theorem dL_drawn_382 : decode cL_drawn 382 = .ok (.aload_n 2, 1) := by decide +kernel
theorem dL_drawn_383 : decode cL_drawn 383 = .ok (.bipush 32, 2) := by decide +kernel
theorem dL_drawn_385 : decode cL_drawn 385 = .ok (.invokevirtual 53, 3) := by decide +kernel
theorem dL_drawn_388 : decode cL_drawn 388 = .ok (.iload 9, 2) := by decide +kernel
theorem dL_drawn_390 : decode cL_drawn 390 = .ok (.invokevirtual 50, 3) := by decide +kernel
theorem dL_drawn_393 : decode cL_drawn 393 = .ok (.pop, 1) := by decide +kernel
theorem dL_drawn_394 : decode cL_drawn 394 = .ok (.iinc 6 1, 3) := by decide +kernel
theorem dL_drawn_397 : decode cL_drawn 397 = .ok (.goto (-176), 3) := by decide +kernel
theorem dL_drawn_400 : decode cL_drawn 400 = .ok (.iconst 1, 1) := by decide +kernel
theorem dL_drawn_401 : decode cL_drawn 401 = .ok (.istore 6, 2) := by decide +kernel
theorem dL_drawn_403 : decode cL_drawn 403 = .ok (.iload 6, 2) := by decide +kernel
theorem dL_drawn_405 : decode cL_drawn 405 = .ok (.iload 5, 2) := by decide +kernel
theorem dL_drawn_407 : decode cL_drawn 407 = .ok (.if_icmp .ge 136, 3) := by decide +kernel
theorem dL_drawn_410 : decode cL_drawn 410 = .ok (.aload_n 0, 1) := by decide +kernel
theorem dL_drawn_411 : decode cL_drawn 411 = .ok (.iload_n 1, 1) := by decide +kernel
theorem dL_drawn_412 : decode cL_drawn 412 = .ok (.bipush 9, 2) := by decide +kernel
theorem dL_drawn_414 : decode cL_drawn 414 = .ok (.iadd, 1) := by decide +kernel
theorem dL_drawn_415 : decode cL_drawn 415 = .ok (.iload 6, 2) := by decide +kernel
theorem dL_drawn_417 : decode cL_drawn 417 = .ok (.iadd, 1) := by decide +kernel
theorem dL_drawn_418 : decode cL_drawn 418 = .ok (.invokestatic 30, 3) := by decide +kernel
theorem dL_drawn_421 : decode cL_drawn 421 = .ok (.istore 7, 2) := by decide +kernel
theorem dL_drawn_423 : decode cL_drawn 423 = .ok (.new 95, 3) := by decide +kernel
theorem dL_drawn_426 : decode cL_drawn 426 = .ok (.dup, 1) := by decide +kernel
theorem dL_drawn_427 : decode cL_drawn 427 = .ok (.iload 6, 2) := by decide +kernel
theorem dL_drawn_429 : decode cL_drawn 429 = .ok (.iload 7, 2) := by decide +kernel
theorem dL_drawn_431 : decode cL_drawn 431 = .ok (.iload 6, 2) := by decide +kernel
theorem dL_drawn_433 : decode cL_drawn 433 = .ok (.irem, 1) := by decide +kernel
theorem dL_drawn_434 : decode cL_drawn 434 = .ok (.iload 7, 2) := by decide +kernel
theorem dL_drawn_436 : decode cL_drawn 436 = .ok (.bipush 8, 2) := by decide +kernel
theorem dL_drawn_438 : decode cL_drawn 438 = .ok (.idiv, 1) := by decide +kernel
theorem dL_drawn_439 : decode cL_drawn 439 = .ok (.iconst 4, 1) := by decide +kernel
theorem dL_drawn_440 : decode cL_drawn 440 = .ok (.irem, 1) := by decide +kernel
theorem dL_drawn_441 : decode cL_drawn 441 = .ok (.ifCond .ne 7, 3) := by decide +kernel
theorem dL_drawn_444 : decode cL_drawn 444 = .ok (.iconst 0, 1) := by decide +kernel
theorem dL_drawn_445 : decode cL_drawn 445 = .ok (.goto 12, 3) := by decide +kernel
theorem dL_drawn_448 : decode cL_drawn 448 = .ok (.iload 7, 2) := by decide +kernel
theorem dL_drawn_450 : decode cL_drawn 450 = .ok (.bipush 32, 2) := by decide +kernel
theorem dL_drawn_452 : decode cL_drawn 452 = .ok (.idiv, 1) := by decide +kernel
theorem dL_drawn_453 : decode cL_drawn 453 = .ok (.sipush 300, 3) := by decide +kernel
theorem dL_drawn_456 : decode cL_drawn 456 = .ok (.irem, 1) := by decide +kernel
theorem dL_drawn_457 : decode cL_drawn 457 = .ok (.iconst 1, 1) := by decide +kernel
theorem dL_drawn_458 : decode cL_drawn 458 = .ok (.iload 7, 2) := by decide +kernel
theorem dL_drawn_460 : decode cL_drawn 460 = .ok (.sipush 16384, 3) := by decide +kernel
theorem dL_drawn_463 : decode cL_drawn 463 = .ok (.idiv, 1) := by decide +kernel
theorem dL_drawn_464 : decode cL_drawn 464 = .ok (.bipush 60, 2) := by decide +kernel
theorem dL_drawn_466 : decode cL_drawn 466 = .ok (.irem, 1) := by decide +kernel
theorem dL_drawn_467 : decode cL_drawn 467 = .ok (.iadd, 1) := by decide +kernel
theorem dL_drawn_468 : decode cL_drawn 468 = .ok (.invokespecial 97, 3) := by decide +kernel
theorem dL_drawn_471 : decode cL_drawn 471 = .ok (.astore 8, 2) := by decide +kernel
theorem dL_drawn_473 : decode cL_drawn 473 = .ok (.aload_n 3, 1) := by decide +kernel
theorem dL_drawn_474 : decode cL_drawn 474 = .ok (.getfield 100, 3) := by decide +kernel
theorem dL_drawn_477 : decode cL_drawn 477 = .ok (.aload 8, 2) := by decide +kernel
theorem dL_drawn_479 : decode cL_drawn 479 = .ok (.invokevirtual 60, 3) := by decide +kernel
theorem dL_drawn_482 : decode cL_drawn 482 = .ok (.pop, 1) := by decide +kernel
theorem dL_drawn_483 : decode cL_drawn 483 = .ok (.aload_n 2, 1) := by decide +kernel
theorem dL_drawn_484 : decode cL_drawn 484 = .ok (.ldc 103, 2) := by decide +kernel
theorem dL_drawn_486 : decode cL_drawn 486 = .ok (.invokevirtual 45, 3) := by decide +kernel
theorem dL_drawn_489 : decode cL_drawn 489 = .ok (.aload 8, 2) := by decide +kernel
theorem dL_drawn_491 : decode cL_drawn 491 = .ok (.getfield 105, 3) := by decide +kernel
theorem dL_drawn_494 : decode cL_drawn 494 = .ok (.invokevirtual 50, 3) := by decide +kernel
theorem dL_drawn_497 : decode cL_drawn 497 = .ok (.bipush 32, 2) := by decide +kernel
theorem dL_drawn_499 : decode cL_drawn 499 = .ok (.invokevirtual 53, 3) := by decide +kernel
theorem dL_drawn_502 : decode cL_drawn 502 = .ok (.aload 8, 2) := by decide +kernel
theorem dL_drawn_504 : decode cL_drawn 504 = .ok (.getfield 108, 3) := by decide +kernel
theorem dL_drawn_507 : decode cL_drawn 507 = .ok (.invokevirtual 50, 3) := by decide +kernel
theorem dL_drawn_510 : decode cL_drawn 510 = .ok (.bipush 32, 2) := by decide +kernel
theorem dL_drawn_512 : decode cL_drawn 512 = .ok (.invokevirtual 53, 3) := by decide +kernel
theorem dL_drawn_515 : decode cL_drawn 515 = .ok (.aload 8, 2) := by decide +kernel
theorem dL_drawn_517 : decode cL_drawn 517 = .ok (.getfield 111, 3) := by decide +kernel
theorem dL_drawn_520 : decode cL_drawn 520 = .ok (.invokevirtual 50, 3) := by decide +kernel
theorem dL_drawn_523 : decode cL_drawn 523 = .ok (.bipush 32, 2) := by decide +kernel
theorem dL_drawn_525 : decode cL_drawn 525 = .ok (.invokevirtual 53, 3) := by decide +kernel
theorem dL_drawn_528 : decode cL_drawn 528 = .ok (.aload 8, 2) := by decide +kernel
theorem dL_drawn_530 : decode cL_drawn 530 = .ok (.getfield 114, 3) := by decide +kernel
theorem dL_drawn_533 : decode cL_drawn 533 = .ok (.invokevirtual 50, 3) := by decide +kernel
theorem dL_drawn_536 : decode cL_drawn 536 = .ok (.pop, 1) := by decide +kernel
theorem dL_drawn_537 : decode cL_drawn 537 = .ok (.iinc 6 1, 3) := by decide +kernel
theorem dL_drawn_540 : decode cL_drawn 540 = .ok (.goto (-137), 3) := by decide +kernel
theorem dL_drawn_543 : decode cL_drawn 543 = .ok (.iconst 0, 1) := by decide +kernel
theorem dL_drawn_544 : decode cL_drawn 544 = .ok (.istore 6, 2) := by decide +kernel
theorem dL_drawn_546 : decode cL_drawn 546 = .ok (.iload 6, 2) := by decide +kernel
theorem dL_drawn_548 : decode cL_drawn 548 = .ok (.iload 4, 2) := by decide +kernel
theorem dL_drawn_550 : decode cL_drawn 550 = .ok (.ldc 117, 2) := by decide +kernel
theorem dL_drawn_552 : decode cL_drawn 552 = .ok (.idiv, 1) := by decide +kernel
theorem dL_drawn_553 : decode cL_drawn 553 = .ok (.iconst 4, 1) := by decide +kernel
theorem dL_drawn_554 : decode cL_drawn 554 = .ok (.irem, 1) := by decide +kernel
theorem dL_drawn_555 : decode cL_drawn 555 = .ok (.if_icmp .ge 147, 3) := by decide +kernel
theorem dL_drawn_558 : decode cL_drawn 558 = .ok (.iload 5, 2) := by decide +kernel
theorem dL_drawn_560 : decode cL_drawn 560 = .ok (.ifCond .le 142, 3) := by decide +kernel
theorem dL_drawn_563 : decode cL_drawn 563 = .ok (.aload_n 0, 1) := by decide +kernel
theorem dL_drawn_564 : decode cL_drawn 564 = .ok (.iload_n 1, 1) := by decide +kernel
theorem dL_drawn_565 : decode cL_drawn 565 = .ok (.bipush 14, 2) := by decide +kernel
theorem dL_drawn_567 : decode cL_drawn 567 = .ok (.iadd, 1) := by decide +kernel
theorem dL_drawn_568 : decode cL_drawn 568 = .ok (.iload 6, 2) := by decide +kernel
theorem dL_drawn_570 : decode cL_drawn 570 = .ok (.iadd, 1) := by decide +kernel
theorem dL_drawn_571 : decode cL_drawn 571 = .ok (.invokestatic 30, 3) := by decide +kernel
theorem dL_drawn_574 : decode cL_drawn 574 = .ok (.istore 7, 2) := by decide +kernel
theorem dL_drawn_576 : decode cL_drawn 576 = .ok (.iload 7, 2) := by decide +kernel
theorem dL_drawn_578 : decode cL_drawn 578 = .ok (.bipush 8, 2) := by decide +kernel
theorem dL_drawn_580 : decode cL_drawn 580 = .ok (.idiv, 1) := by decide +kernel
theorem dL_drawn_581 : decode cL_drawn 581 = .ok (.bipush 24, 2) := by decide +kernel
theorem dL_drawn_583 : decode cL_drawn 583 = .ok (.irem, 1) := by decide +kernel
theorem dL_drawn_584 : decode cL_drawn 584 = .ok (.istore 8, 2) := by decide +kernel
theorem dL_drawn_586 : decode cL_drawn 586 = .ok (.iconst 4, 1) := by decide +kernel
theorem dL_drawn_587 : decode cL_drawn 587 = .ok (.newarray .int, 2) := by decide +kernel
theorem dL_drawn_589 : decode cL_drawn 589 = .ok (.dup, 1) := by decide +kernel
theorem dL_drawn_590 : decode cL_drawn 590 = .ok (.iconst 0, 1) := by decide +kernel
theorem dL_drawn_591 : decode cL_drawn 591 = .ok (.iload 7, 2) := by decide +kernel
theorem dL_drawn_593 : decode cL_drawn 593 = .ok (.iload 5, 2) := by decide +kernel
theorem dL_drawn_595 : decode cL_drawn 595 = .ok (.irem, 1) := by decide +kernel
theorem dL_drawn_596 : decode cL_drawn 596 = .ok (.iastore, 1) := by decide +kernel
theorem dL_drawn_597 : decode cL_drawn 597 = .ok (.dup, 1) := by decide +kernel
theorem dL_drawn_598 : decode cL_drawn 598 = .ok (.iconst 1, 1) := by decide +kernel
theorem dL_drawn_599 : decode cL_drawn 599 = .ok (.iload 8, 2) := by decide +kernel
theorem dL_drawn_601 : decode cL_drawn 601 = .ok (.iastore, 1) := by decide +kernel
theorem dL_drawn_602 : decode cL_drawn 602 = .ok (.dup, 1) := by decide +kernel
theorem dL_drawn_603 : decode cL_drawn 603 = .ok (.iconst 2, 1) := by decide +kernel
theorem dL_drawn_604 : decode cL_drawn 604 = .ok (.iload 8, 2) := by decide +kernel
theorem dL_drawn_606 : decode cL_drawn 606 = .ok (.iload 7, 2) := by decide +kernel
theorem dL_drawn_608 : decode cL_drawn 608 = .ok (.sipush 256, 3) := by decide +kernel
theorem dL_drawn_611 : decode cL_drawn 611 = .ok (.idiv, 1) := by decide +kernel
theorem dL_drawn_612 : decode cL_drawn 612 = .ok (.bipush 24, 2) := by decide +kernel
theorem dL_drawn_614 : decode cL_drawn 614 = .ok (.iload 8, 2) := by decide +kernel
theorem dL_drawn_616 : decode cL_drawn 616 = .ok (.isub, 1) := by decide +kernel
theorem dL_drawn_617 : decode cL_drawn 617 = .ok (.irem, 1) := by decide +kernel
theorem dL_drawn_618 : decode cL_drawn 618 = .ok (.iadd, 1) := by decide +kernel
theorem dL_drawn_619 : decode cL_drawn 619 = .ok (.iastore, 1) := by decide +kernel
theorem dL_drawn_620 : decode cL_drawn 620 = .ok (.dup, 1) := by decide +kernel
theorem dL_drawn_621 : decode cL_drawn 621 = .ok (.iconst 3, 1) := by decide +kernel
theorem dL_drawn_622 : decode cL_drawn 622 = .ok (.iconst 1, 1) := by decide +kernel
theorem dL_drawn_623 : decode cL_drawn 623 = .ok (.iload 7, 2) := by decide +kernel
theorem dL_drawn_625 : decode cL_drawn 625 = .ok (.sipush 8192, 3) := by decide +kernel
theorem dL_drawn_628 : decode cL_drawn 628 = .ok (.idiv, 1) := by decide +kernel
theorem dL_drawn_629 : decode cL_drawn 629 = .ok (.bipush 20, 2) := by decide +kernel
theorem dL_drawn_631 : decode cL_drawn 631 = .ok (.irem, 1) := by decide +kernel
theorem dL_drawn_632 : decode cL_drawn 632 = .ok (.iadd, 1) := by decide +kernel
theorem dL_drawn_633 : decode cL_drawn 633 = .ok (.iastore, 1) := by decide +kernel
theorem dL_drawn_634 : decode cL_drawn 634 = .ok (.astore 9, 2) := by decide +kernel
theorem dL_drawn_636 : decode cL_drawn 636 = .ok (.aload_n 3, 1) := by decide +kernel
theorem dL_drawn_637 : decode cL_drawn 637 = .ok (.getfield 118, 3) := by decide +kernel
theorem dL_drawn_640 : decode cL_drawn 640 = .ok (.aload 9, 2) := by decide +kernel
theorem dL_drawn_642 : decode cL_drawn 642 = .ok (.invokevirtual 60, 3) := by decide +kernel
theorem dL_drawn_645 : decode cL_drawn 645 = .ok (.pop, 1) := by decide +kernel
theorem dL_drawn_646 : decode cL_drawn 646 = .ok (.aload_n 2, 1) := by decide +kernel
theorem dL_drawn_647 : decode cL_drawn 647 = .ok (.ldc 121, 2) := by decide +kernel
theorem dL_drawn_649 : decode cL_drawn 649 = .ok (.invokevirtual 45, 3) := by decide +kernel
theorem dL_drawn_652 : decode cL_drawn 652 = .ok (.aload 9, 2) := by decide +kernel
theorem dL_drawn_654 : decode cL_drawn 654 = .ok (.iconst 0, 1) := by decide +kernel
theorem dL_drawn_655 : decode cL_drawn 655 = .ok (.iaload, 1) := by decide +kernel
theorem dL_drawn_656 : decode cL_drawn 656 = .ok (.invokevirtual 50, 3) := by decide +kernel
theorem dL_drawn_659 : decode cL_drawn 659 = .ok (.bipush 32, 2) := by decide +kernel
theorem dL_drawn_661 : decode cL_drawn 661 = .ok (.invokevirtual 53, 3) := by decide +kernel
theorem dL_drawn_664 : decode cL_drawn 664 = .ok (.aload 9, 2) := by decide +kernel
theorem dL_drawn_666 : decode cL_drawn 666 = .ok (.iconst 1, 1) := by decide +kernel
theorem dL_drawn_667 : decode cL_drawn 667 = .ok (.iaload, 1) := by decide +kernel
theorem dL_drawn_668 : decode cL_drawn 668 = .ok (.invokevirtual 50, 3) := by decide +kernel
theorem dL_drawn_671 : decode cL_drawn 671 = .ok (.bipush 32, 2) := by decide +kernel
theorem dL_drawn_673 : decode cL_drawn 673 = .ok (.invokevirtual 53, 3) := by decide +kernel
theorem dL_drawn_676 : decode cL_drawn 676 = .ok (.aload 9, 2) := by decide +kernel
theorem dL_drawn_678 : decode cL_drawn 678 = .ok (.iconst 2, 1) := by decide +kernel
theorem dL_drawn_679 : decode cL_drawn 679 = .ok (.iaload, 1) := by decide +kernel
theorem dL_drawn_680 : decode cL_drawn 680 = .ok (.invokevirtual 50, 3) := by decide +kernel
theorem dL_drawn_683 : decode cL_drawn 683 = .ok (.bipush 32, 2) := by decide +kernel
theorem dL_drawn_685 : decode cL_drawn 685 = .ok (.invokevirtual 53, 3) := by decide +kernel
theorem dL_drawn_688 : decode cL_drawn 688 = .ok (.aload 9, 2) := by decide +kernel
theorem dL_drawn_690 : decode cL_drawn 690 = .ok (.iconst 3, 1) := by decide +kernel
theorem dL_drawn_691 : decode cL_drawn 691 = .ok (.iaload, 1) := by decide +kernel
theorem dL_drawn_692 : decode cL_drawn 692 = .ok (.invokevirtual 50, 3) := by decide +kernel
theorem dL_drawn_695 : decode cL_drawn 695 = .ok (.pop, 1) := by decide +kernel
theorem dL_drawn_696 : decode cL_drawn 696 = .ok (.iinc 6 1, 3) := by decide +kernel
theorem dL_drawn_699 : decode cL_drawn 699 = .ok (.goto (-153), 3) := by decide +kernel
theorem dL_drawn_702 : decode cL_drawn 702 = .ok (.iconst 0, 1) := by decide +kernel
theorem dL_drawn_703 : decode cL_drawn 703 = .ok (.istore 6, 2) := by decide +kernel
theorem dL_drawn_705 : decode cL_drawn 705 = .ok (.iload 6, 2) := by decide +kernel
theorem dL_drawn_707 : decode cL_drawn 707 = .ok (.iload 4, 2) := by decide +kernel
theorem dL_drawn_709 : decode cL_drawn 709 = .ok (.ldc 123, 2) := by decide +kernel
theorem dL_drawn_711 : decode cL_drawn 711 = .ok (.idiv, 1) := by decide +kernel
theorem dL_drawn_712 : decode cL_drawn 712 = .ok (.iconst 5, 1) := by decide +kernel
theorem dL_drawn_713 : decode cL_drawn 713 = .ok (.irem, 1) := by decide +kernel
theorem dL_drawn_714 : decode cL_drawn 714 = .ok (.if_icmp .ge 117, 3) := by decide +kernel
theorem dL_drawn_717 : decode cL_drawn 717 = .ok (.iload 5, 2) := by decide +kernel
theorem dL_drawn_719 : decode cL_drawn 719 = .ok (.ifCond .le 112, 3) := by decide +kernel
theorem dL_drawn_722 : decode cL_drawn 722 = .ok (.aload_n 0, 1) := by decide +kernel
theorem dL_drawn_723 : decode cL_drawn 723 = .ok (.iload_n 1, 1) := by decide +kernel
theorem dL_drawn_724 : decode cL_drawn 724 = .ok (.bipush 18, 2) := by decide +kernel
theorem dL_drawn_726 : decode cL_drawn 726 = .ok (.iadd, 1) := by decide +kernel
theorem dL_drawn_727 : decode cL_drawn 727 = .ok (.iload 6, 2) := by decide +kernel
theorem dL_drawn_729 : decode cL_drawn 729 = .ok (.iadd, 1) := by decide +kernel
theorem dL_drawn_730 : decode cL_drawn 730 = .ok (.invokestatic 30, 3) := by decide +kernel
theorem dL_drawn_733 : decode cL_drawn 733 = .ok (.istore 7, 2) := by decide +kernel
theorem dL_drawn_735 : decode cL_drawn 735 = .ok (.iconst 4, 1) := by decide +kernel
theorem dL_drawn_736 : decode cL_drawn 736 = .ok (.newarray .int, 2) := by decide +kernel
theorem dL_drawn_738 : decode cL_drawn 738 = .ok (.dup, 1) := by decide +kernel
theorem dL_drawn_739 : decode cL_drawn 739 = .ok (.iconst 0, 1) := by decide +kernel
theorem dL_drawn_740 : decode cL_drawn 740 = .ok (.iload 7, 2) := by decide +kernel
theorem dL_drawn_742 : decode cL_drawn 742 = .ok (.iload 5, 2) := by decide +kernel
theorem dL_drawn_744 : decode cL_drawn 744 = .ok (.irem, 1) := by decide +kernel
theorem dL_drawn_745 : decode cL_drawn 745 = .ok (.iastore, 1) := by decide +kernel
theorem dL_drawn_746 : decode cL_drawn 746 = .ok (.dup, 1) := by decide +kernel
theorem dL_drawn_747 : decode cL_drawn 747 = .ok (.iconst 1, 1) := by decide +kernel
theorem dL_drawn_748 : decode cL_drawn 748 = .ok (.iload 7, 2) := by decide +kernel
theorem dL_drawn_750 : decode cL_drawn 750 = .ok (.bipush 8, 2) := by decide +kernel
theorem dL_drawn_752 : decode cL_drawn 752 = .ok (.idiv, 1) := by decide +kernel
theorem dL_drawn_753 : decode cL_drawn 753 = .ok (.bipush 60, 2) := by decide +kernel
theorem dL_drawn_755 : decode cL_drawn 755 = .ok (.irem, 1) := by decide +kernel
theorem dL_drawn_756 : decode cL_drawn 756 = .ok (.iastore, 1) := by decide +kernel
theorem dL_drawn_757 : decode cL_drawn 757 = .ok (.dup, 1) := by decide +kernel
theorem dL_drawn_758 : decode cL_drawn 758 = .ok (.iconst 2, 1) := by decide +kernel
theorem dL_drawn_759 : decode cL_drawn 759 = .ok (.iconst 1, 1) := by decide +kernel
theorem dL_drawn_760 : decode cL_drawn 760 = .ok (.iload 7, 2) := by decide +kernel
theorem dL_drawn_762 : decode cL_drawn 762 = .ok (.sipush 512, 3) := by decide +kernel
theorem dL_drawn_765 : decode cL_drawn 765 = .ok (.idiv, 1) := by decide +kernel
theorem dL_drawn_766 : decode cL_drawn 766 = .ok (.bipush 120, 2) := by decide +kernel
theorem dL_drawn_768 : decode cL_drawn 768 = .ok (.irem, 1) := by decide +kernel
theorem dL_drawn_769 : decode cL_drawn 769 = .ok (.iadd, 1) := by decide +kernel
theorem dL_drawn_770 : decode cL_drawn 770 = .ok (.iastore, 1) := by decide +kernel
theorem dL_drawn_771 : decode cL_drawn 771 = .ok (.dup, 1) := by decide +kernel
theorem dL_drawn_772 : decode cL_drawn 772 = .ok (.iconst 3, 1) := by decide +kernel
theorem dL_drawn_773 : decode cL_drawn 773 = .ok (.iconst 0, 1) := by decide +kernel
theorem dL_drawn_774 : decode cL_drawn 774 = .ok (.iastore, 1) := by decide +kernel
theorem dL_drawn_775 : decode cL_drawn 775 = .ok (.astore 8, 2) := by decide +kernel
theorem dL_drawn_777 : decode cL_drawn 777 = .ok (.aload_n 3, 1) := by decide +kernel
theorem dL_drawn_778 : decode cL_drawn 778 = .ok (.getfield 124, 3) := by decide +kernel
theorem dL_drawn_781 : decode cL_drawn 781 = .ok (.aload 8, 2) := by decide +kernel
theorem dL_drawn_783 : decode cL_drawn 783 = .ok (.invokevirtual 60, 3) := by decide +kernel
theorem dL_drawn_786 : decode cL_drawn 786 = .ok (.pop, 1) := by decide +kernel
theorem dL_drawn_787 : decode cL_drawn 787 = .ok (.aload_n 2, 1) := by decide +kernel
theorem dL_drawn_788 : decode cL_drawn 788 = .ok (.ldc 127, 2) := by decide +kernel
theorem dL_drawn_790 : decode cL_drawn 790 = .ok (.invokevirtual 45, 3) := by decide +kernel
theorem dL_drawn_793 : decode cL_drawn 793 = .ok (.aload 8, 2) := by decide +kernel
theorem dL_drawn_795 : decode cL_drawn 795 = .ok (.iconst 0, 1) := by decide +kernel
theorem dL_drawn_796 : decode cL_drawn 796 = .ok (.iaload, 1) := by decide +kernel
theorem dL_drawn_797 : decode cL_drawn 797 = .ok (.invokevirtual 50, 3) := by decide +kernel
theorem dL_drawn_800 : decode cL_drawn 800 = .ok (.bipush 32, 2) := by decide +kernel
theorem dL_drawn_802 : decode cL_drawn 802 = .ok (.invokevirtual 53, 3) := by decide +kernel
theorem dL_drawn_805 : decode cL_drawn 805 = .ok (.aload 8, 2) := by decide +kernel
theorem dL_drawn_807 : decode cL_drawn 807 = .ok (.iconst 1, 1) := by decide +kernel
theorem dL_drawn_808 : decode cL_drawn 808 = .ok (.iaload, 1) := by decide +kernel
theorem dL_drawn_809 : decode cL_drawn 809 = .ok (.invokevirtual 50, 3) := by decide +kernel
theorem dL_drawn_812 : decode cL_drawn 812 = .ok (.bipush 32, 2) := by decide +kernel
theorem dL_drawn_814 : decode cL_drawn 814 = .ok (.invokevirtual 53, 3) := by decide +kernel
theorem dL_drawn_817 : decode cL_drawn 817 = .ok (.aload 8, 2) := by decide +kernel
theorem dL_drawn_819 : decode cL_drawn 819 = .ok (.iconst 2, 1) := by decide +kernel
theorem dL_drawn_820 : decode cL_drawn 820 = .ok (.iaload, 1) := by decide +kernel
theorem dL_drawn_821 : decode cL_drawn 821 = .ok (.invokevirtual 50, 3) := by decide +kernel
theorem dL_drawn_824 : decode cL_drawn 824 = .ok (.pop, 1) := by decide +kernel
theorem dL_drawn_825 : decode cL_drawn 825 = .ok (.iinc 6 1, 3) := by decide +kernel
theorem dL_drawn_828 : decode cL_drawn 828 = .ok (.goto (-123), 3) := by decide +kernel
theorem dL_drawn_831 : decode cL_drawn 831 = .ok (.iconst 0, 1) := by decide +kernel
theorem dL_drawn_832 : decode cL_drawn 832 = .ok (.istore 6, 2) := by decide +kernel
theorem dL_drawn_834 : decode cL_drawn 834 = .ok (.iload 6, 2) := by decide +kernel
theorem dL_drawn_836 : decode cL_drawn 836 = .ok (.iload 4, 2) := by decide +kernel
theorem dL_drawn_838 : decode cL_drawn 838 = .ok (.ldc 129, 2) := by decide +kernel
theorem dL_drawn_840 : decode cL_drawn 840 = .ok (.idiv, 1) := by decide +kernel
theorem dL_drawn_841 : decode cL_drawn 841 = .ok (.iconst 4, 1) := by decide +kernel
theorem dL_drawn_842 : decode cL_drawn 842 = .ok (.irem, 1) := by decide +kernel
theorem dL_drawn_843 : decode cL_drawn 843 = .ok (.if_icmp .ge 221, 3) := by decide +kernel
theorem dL_drawn_846 : decode cL_drawn 846 = .ok (.aload_n 3, 1) := by decide +kernel
theorem dL_drawn_847 : decode cL_drawn 847 = .ok (.getfield 100, 3) := by decide +kernel
theorem dL_drawn_850 : decode cL_drawn 850 = .ok (.invokevirtual 69, 3) := by decide +kernel
theorem dL_drawn_853 : decode cL_drawn 853 = .ok (.ifCond .ne 211, 3) := by decide +kernel
theorem dL_drawn_856 : decode cL_drawn 856 = .ok (.aload_n 0, 1) := by decide +kernel
theorem dL_drawn_857 : decode cL_drawn 857 = .ok (.iload_n 1, 1) := by decide +kernel
theorem dL_drawn_858 : decode cL_drawn 858 = .ok (.bipush 24, 2) := by decide +kernel
theorem dL_drawn_860 : decode cL_drawn 860 = .ok (.iadd, 1) := by decide +kernel
theorem dL_drawn_861 : decode cL_drawn 861 = .ok (.iload 6, 2) := by decide +kernel
theorem dL_drawn_863 : decode cL_drawn 863 = .ok (.iadd, 1) := by decide +kernel
theorem dL_drawn_864 : decode cL_drawn 864 = .ok (.invokestatic 30, 3) := by decide +kernel
theorem dL_drawn_867 : decode cL_drawn 867 = .ok (.istore 7, 2) := by decide +kernel
theorem dL_drawn_869 : decode cL_drawn 869 = .ok (.aload_n 3, 1) := by decide +kernel
theorem dL_drawn_870 : decode cL_drawn 870 = .ok (.getfield 100, 3) := by decide +kernel
theorem dL_drawn_873 : decode cL_drawn 873 = .ok (.iload 7, 2) := by decide +kernel
theorem dL_drawn_875 : decode cL_drawn 875 = .ok (.aload_n 3, 1) := by decide +kernel
theorem dL_drawn_876 : decode cL_drawn 876 = .ok (.getfield 100, 3) := by decide +kernel
theorem dL_drawn_879 : decode cL_drawn 879 = .ok (.invokevirtual 73, 3) := by decide +kernel
theorem dL_drawn_882 : decode cL_drawn 882 = .ok (.irem, 1) := by decide +kernel
theorem dL_drawn_883 : decode cL_drawn 883 = .ok (.invokevirtual 130, 3) := by decide +kernel
theorem dL_drawn_886 : decode cL_drawn 886 = .ok (.checkcast 95, 3) := by decide +kernel
theorem dL_drawn_889 : decode cL_drawn 889 = .ok (.astore 8, 2) := by decide +kernel
theorem dL_drawn_891 : decode cL_drawn 891 = .ok (.iload 7, 2) := by decide +kernel
theorem dL_drawn_893 : decode cL_drawn 893 = .ok (.bipush 8, 2) := by decide +kernel
theorem dL_drawn_895 : decode cL_drawn 895 = .ok (.idiv, 1) := by decide +kernel
theorem dL_drawn_896 : decode cL_drawn 896 = .ok (.iconst 2, 1) := by decide +kernel
theorem dL_drawn_897 : decode cL_drawn 897 = .ok (.irem, 1) := by decide +kernel
theorem dL_drawn_898 : decode cL_drawn 898 = .ok (.ifCond .ne 7, 3) := by decide +kernel
theorem dL_drawn_901 : decode cL_drawn 901 = .ok (.iconst 1, 1) := by decide +kernel
theorem dL_drawn_902 : decode cL_drawn 902 = .ok (.goto 4, 3) := by decide +kernel
theorem dL_drawn_905 : decode cL_drawn 905 = .ok (.iconst 0, 1) := by decide +kernel
theorem dL_drawn_906 : decode cL_drawn 906 = .ok (.istore 9, 2) := by decide +kernel
theorem dL_drawn_908 : decode cL_drawn 908 = .ok (.new 134, 3) := by decide +kernel
theorem dL_drawn_911 : decode cL_drawn 911 = .ok (.dup, 1) := by decide +kernel
theorem dL_drawn_912 : decode cL_drawn 912 = .ok (.iload 9, 2) := by decide +kernel
theorem dL_drawn_914 : decode cL_drawn 914 = .ok (.ifCond .eq 11, 3) := by decide +kernel
theorem dL_drawn_917 : decode cL_drawn 917 = .ok (.aload 8, 2) := by decide +kernel
theorem dL_drawn_919 : decode cL_drawn 919 = .ok (.getfield 108, 3) := by decide +kernel
theorem dL_drawn_922 : decode cL_drawn 922 = .ok (.goto 8, 3) := by decide +kernel
theorem dL_drawn_925 : decode cL_drawn 925 = .ok (.aload 8, 2) := by decide +kernel
theorem dL_drawn_927 : decode cL_drawn 927 = .ok (.getfield 105, 3) := by decide +kernel
theorem dL_drawn_930 : decode cL_drawn 930 = .ok (.iload 9, 2) := by decide +kernel
theorem dL_drawn_932 : decode cL_drawn 932 = .ok (.ifCond .eq 11, 3) := by decide +kernel
theorem dL_drawn_935 : decode cL_drawn 935 = .ok (.aload 8, 2) := by decide +kernel
theorem dL_drawn_937 : decode cL_drawn 937 = .ok (.getfield 105, 3) := by decide +kernel
theorem dL_drawn_940 : decode cL_drawn 940 = .ok (.goto 8, 3) := by decide +kernel
theorem dL_drawn_943 : decode cL_drawn 943 = .ok (.aload 8, 2) := by decide +kernel
theorem dL_drawn_945 : decode cL_drawn 945 = .ok (.getfield 108, 3) := by decide +kernel
theorem dL_drawn_948 : decode cL_drawn 948 = .ok (.iconst 1, 1) := by decide +kernel
theorem dL_drawn_949 : decode cL_drawn 949 = .ok (.iload 7, 2) := by decide +kernel
theorem dL_drawn_951 : decode cL_drawn 951 = .ok (.bipush 16, 2) := by decide +kernel
theorem dL_drawn_953 : decode cL_drawn 953 = .ok (.idiv, 1) := by decide +kernel
theorem dL_drawn_954 : decode cL_drawn 954 = .ok (.sipush 300, 3) := by decide +kernel
theorem dL_drawn_957 : decode cL_drawn 957 = .ok (.irem, 1) := by decide +kernel
theorem dL_drawn_958 : decode cL_drawn 958 = .ok (.iadd, 1) := by decide +kernel
theorem dL_drawn_959 : decode cL_drawn 959 = .ok (.iload 7, 2) := by decide +kernel
theorem dL_drawn_961 : decode cL_drawn 961 = .ok (.sipush 8192, 3) := by decide +kernel
theorem dL_drawn_964 : decode cL_drawn 964 = .ok (.idiv, 1) := by decide +kernel
theorem dL_drawn_965 : decode cL_drawn 965 = .ok (.bipush 8, 2) := by decide +kernel
theorem dL_drawn_967 : decode cL_drawn 967 = .ok (.irem, 1) := by decide +kernel
theorem dL_drawn_968 : decode cL_drawn 968 = .ok (.iload 7, 2) := by decide +kernel
theorem dL_drawn_970 : decode cL_drawn 970 = .ok (.ldc 68, 2) := by decide +kernel
theorem dL_drawn_972 : decode cL_drawn 972 = .ok (.idiv, 1) := by decide +kernel
theorem dL_drawn_973 : decode cL_drawn 973 = .ok (.bipush 12, 2) := by decide +kernel
theorem dL_drawn_975 : decode cL_drawn 975 = .ok (.irem, 1) := by decide +kernel
theorem dL_drawn_976 : decode cL_drawn 976 = .ok (.invokespecial 136, 3) := by decide +kernel
theorem dL_drawn_979 : decode cL_drawn 979 = .ok (.astore 10, 2) := by decide +kernel
theorem dL_drawn_981 : decode cL_drawn 981 = .ok (.aload_n 3, 1) := by decide +kernel
theorem dL_drawn_982 : decode cL_drawn 982 = .ok (.getfield 139, 3) := by decide +kernel
theorem dL_drawn_985 : decode cL_drawn 985 = .ok (.aload 10, 2) := by decide +kernel
theorem dL_drawn_987 : decode cL_drawn 987 = .ok (.invokevirtual 60, 3) := by decide +kernel
theorem dL_drawn_990 : decode cL_drawn 990 = .ok (.pop, 1) := by decide +kernel
theorem dL_drawn_991 : decode cL_drawn 991 = .ok (.aload_n 2, 1) := by decide +kernel
theorem dL_drawn_992 : decode cL_drawn 992 = .ok (.ldc 142, 2) := by decide +kernel
theorem dL_drawn_994 : decode cL_drawn 994 = .ok (.invokevirtual 45, 3) := by decide +kernel
theorem dL_drawn_997 : decode cL_drawn 997 = .ok (.aload 10, 2) := by decide +kernel
theorem dL_drawn_999 : decode cL_drawn 999 = .ok (.getfield 144, 3) := by decide +kernel
theorem dL_drawn_1002 : decode cL_drawn 1002 = .ok (.invokevirtual 50, 3) := by decide +kernel
theorem dL_drawn_1005 : decode cL_drawn 1005 = .ok (.bipush 32, 2) := by decide +kernel
theorem dL_drawn_1007 : decode cL_drawn 1007 = .ok (.invokevirtual 53, 3) := by decide +kernel
theorem dL_drawn_1010 : decode cL_drawn 1010 = .ok (.aload 10, 2) := by decide +kernel
theorem dL_drawn_1012 : decode cL_drawn 1012 = .ok (.getfield 147, 3) := by decide +kernel
theorem dL_drawn_1015 : decode cL_drawn 1015 = .ok (.invokevirtual 50, 3) := by decide +kernel
theorem dL_drawn_1018 : decode cL_drawn 1018 = .ok (.bipush 32, 2) := by decide +kernel
theorem dL_drawn_1020 : decode cL_drawn 1020 = .ok (.invokevirtual 53, 3) := by decide +kernel
theorem dL_drawn_1023 : decode cL_drawn 1023 = .ok (.aload 10, 2) := by decide +kernel
theorem dL_drawn_1025 : decode cL_drawn 1025 = .ok (.getfield 150, 3) := by decide +kernel
theorem dL_drawn_1028 : decode cL_drawn 1028 = .ok (.invokevirtual 50, 3) := by decide +kernel
theorem dL_drawn_1031 : decode cL_drawn 1031 = .ok (.bipush 32, 2) := by decide +kernel
theorem dL_drawn_1033 : decode cL_drawn 1033 = .ok (.invokevirtual 53, 3) := by decide +kernel
theorem dL_drawn_1036 : decode cL_drawn 1036 = .ok (.aload 10, 2) := by decide +kernel
theorem dL_drawn_1038 : decode cL_drawn 1038 = .ok (.getfield 153, 3) := by decide +kernel
theorem dL_drawn_1041 : decode cL_drawn 1041 = .ok (.invokevirtual 50, 3) := by decide +kernel
theorem dL_drawn_1044 : decode cL_drawn 1044 = .ok (.bipush 32, 2) := by decide +kernel
theorem dL_drawn_1046 : decode cL_drawn 1046 = .ok (.invokevirtual 53, 3) := by decide +kernel
theorem dL_drawn_1049 : decode cL_drawn 1049 = .ok (.aload 10, 2) := by decide +kernel
theorem dL_drawn_1051 : decode cL_drawn 1051 = .ok (.getfield 156, 3) := by decide +kernel
theorem dL_drawn_1054 : decode cL_drawn 1054 = .ok (.invokevirtual 50, 3) := by decide +kernel
theorem dL_drawn_1057 : decode cL_drawn 1057 = .ok (.pop, 1) := by decide +kernel
theorem dL_drawn_1058 : decode cL_drawn 1058 = .ok (.iinc 6 1, 3) := by decide +kernel
theorem dL_drawn_1061 : decode cL_drawn 1061 = .ok (.goto (-227), 3) := by decide +kernel
theorem dL_drawn_1064 : decode cL_drawn 1064 = .ok (.aload_n 3, 1) := by decide +kernel
theorem dL_drawn_1065 : decode cL_drawn 1065 = .ok (.areturn, 1) := by decide +kernel
theorem dL_open_0 : decode cL_open 0 = .ok (.iconst 0, 1) := by decide +kernel
theorem dL_open_1 : decode cL_open 1 = .ok (.istore_n 2, 1) := by decide +kernel
theorem dL_open_2 : decode cL_open 2 = .ok (.aload_n 0, 1) := by decide +kernel
theorem dL_open_3 : decode cL_open 3 = .ok (.getfield 159, 3) := by decide +kernel
theorem dL_open_6 : decode cL_open 6 = .ok (.invokevirtual 162, 3) := by decide +kernel
theorem dL_open_9 : decode cL_open 9 = .ok (.astore_n 3, 1) := by decide +kernel
theorem dL_open_10 : decode cL_open 10 = .ok (.aload_n 3, 1) := by decide +kernel
theorem dL_open_11 : decode cL_open 11 = .ok (.invokeinterface 166 1, 5) := by decide +kernel
theorem dL_open_16 : decode cL_open 16 = .ok (.ifCond .eq 47, 3) := by decide +kernel
theorem dL_open_19 : decode cL_open 19 = .ok (.aload_n 3, 1) := by decide +kernel
theorem dL_open_20 : decode cL_open 20 = .ok (.invokeinterface 171 1, 5) := by decide +kernel
theorem dL_open_25 : decode cL_open 25 = .ok (.checkcast 175, 3) := by decide +kernel
theorem dL_open_28 : decode cL_open 28 = .ok (.astore 4, 2) := by decide +kernel
theorem dL_open_30 : decode cL_open 30 = .ok (.iload_n 2, 1) := by decide +kernel
theorem dL_open_31 : decode cL_open 31 = .ok (.aload 4, 2) := by decide +kernel
theorem dL_open_33 : decode cL_open 33 = .ok (.getfield 177, 3) := by decide +kernel
theorem dL_open_36 : decode cL_open 36 = .ok (.iconst 3, 1) := by decide +kernel
theorem dL_open_37 : decode cL_open 37 = .ok (.if_icmp .ge 20, 3) := by decide +kernel
theorem dL_open_40 : decode cL_open 40 = .ok (.iload_n 1, 1) := by decide +kernel
theorem dL_open_41 : decode cL_open 41 = .ok (.ifCond .lt 12, 3) := by decide +kernel
theorem dL_open_44 : decode cL_open 44 = .ok (.aload 4, 2) := by decide +kernel
theorem dL_open_46 : decode cL_open 46 = .ok (.getfield 180, 3) := by decide +kernel
theorem dL_open_49 : decode cL_open 49 = .ok (.iload_n 1, 1) := by decide +kernel
theorem dL_open_50 : decode cL_open 50 = .ok (.if_icmp .ne 7, 3) := by decide +kernel
theorem dL_open_53 : decode cL_open 53 = .ok (.iconst 1, 1) := by decide +kernel
theorem dL_open_54 : decode cL_open 54 = .ok (.goto 4, 3) := by decide +kernel
theorem dL_open_57 : decode cL_open 57 = .ok (.iconst 0, 1) := by decide +kernel
theorem dL_open_58 : decode cL_open 58 = .ok (.iadd, 1) := by decide +kernel
theorem dL_open_59 : decode cL_open 59 = .ok (.istore_n 2, 1) := by decide +kernel
theorem dL_open_60 : decode cL_open 60 = .ok (.goto (-50), 3) := by decide +kernel
theorem dL_open_63 : decode cL_open 63 = .ok (.iload_n 2, 1) := by decide +kernel
theorem dL_open_64 : decode cL_open 64 = .ok (.ireturn, 1) := by decide +kernel
theorem dL_isSame_0 : decode cL_isSame 0 = .ok (.bipush 8, 2) := by decide +kernel
theorem dL_isSame_2 : decode cL_isSame 2 = .ok (.newarray .int, 2) := by decide +kernel
theorem dL_isSame_4 : decode cL_isSame 4 = .ok (.dup, 1) := by decide +kernel
theorem dL_isSame_5 : decode cL_isSame 5 = .ok (.iconst 0, 1) := by decide +kernel
theorem dL_isSame_6 : decode cL_isSame 6 = .ok (.aload_n 1, 1) := by decide +kernel
theorem dL_isSame_7 : decode cL_isSame 7 = .ok (.getfield 81, 3) := by decide +kernel
theorem dL_isSame_10 : decode cL_isSame 10 = .ok (.invokevirtual 73, 3) := by decide +kernel
theorem dL_isSame_13 : decode cL_isSame 13 = .ok (.iastore, 1) := by decide +kernel
theorem dL_isSame_14 : decode cL_isSame 14 = .ok (.dup, 1) := by decide +kernel
theorem dL_isSame_15 : decode cL_isSame 15 = .ok (.iconst 1, 1) := by decide +kernel
theorem dL_isSame_16 : decode cL_isSame 16 = .ok (.aload_n 1, 1) := by decide +kernel
theorem dL_isSame_17 : decode cL_isSame 17 = .ok (.getfield 56, 3) := by decide +kernel
theorem dL_isSame_20 : decode cL_isSame 20 = .ok (.invokevirtual 73, 3) := by decide +kernel
theorem dL_isSame_23 : decode cL_isSame 23 = .ok (.iastore, 1) := by decide +kernel
theorem dL_isSame_24 : decode cL_isSame 24 = .ok (.dup, 1) := by decide +kernel
theorem dL_isSame_25 : decode cL_isSame 25 = .ok (.iconst 2, 1) := by decide +kernel
theorem dL_isSame_26 : decode cL_isSame 26 = .ok (.aload_n 1, 1) := by decide +kernel
theorem dL_isSame_27 : decode cL_isSame 27 = .ok (.getfield 100, 3) := by decide +kernel
theorem dL_isSame_30 : decode cL_isSame 30 = .ok (.invokevirtual 73, 3) := by decide +kernel
theorem dL_isSame_33 : decode cL_isSame 33 = .ok (.iastore, 1) := by decide +kernel
theorem dL_isSame_34 : decode cL_isSame 34 = .ok (.dup, 1) := by decide +kernel
theorem dL_isSame_35 : decode cL_isSame 35 = .ok (.iconst 3, 1) := by decide +kernel
theorem dL_isSame_36 : decode cL_isSame 36 = .ok (.aload_n 1, 1) := by decide +kernel
theorem dL_isSame_37 : decode cL_isSame 37 = .ok (.getfield 118, 3) := by decide +kernel
theorem dL_isSame_40 : decode cL_isSame 40 = .ok (.invokevirtual 73, 3) := by decide +kernel
theorem dL_isSame_43 : decode cL_isSame 43 = .ok (.iastore, 1) := by decide +kernel
theorem dL_isSame_44 : decode cL_isSame 44 = .ok (.dup, 1) := by decide +kernel
theorem dL_isSame_45 : decode cL_isSame 45 = .ok (.iconst 4, 1) := by decide +kernel
theorem dL_isSame_46 : decode cL_isSame 46 = .ok (.aload_n 1, 1) := by decide +kernel
theorem dL_isSame_47 : decode cL_isSame 47 = .ok (.getfield 124, 3) := by decide +kernel
theorem dL_isSame_50 : decode cL_isSame 50 = .ok (.invokevirtual 73, 3) := by decide +kernel
theorem dL_isSame_53 : decode cL_isSame 53 = .ok (.iastore, 1) := by decide +kernel
theorem dL_isSame_54 : decode cL_isSame 54 = .ok (.dup, 1) := by decide +kernel
theorem dL_isSame_55 : decode cL_isSame 55 = .ok (.iconst 5, 1) := by decide +kernel
theorem dL_isSame_56 : decode cL_isSame 56 = .ok (.aload_n 1, 1) := by decide +kernel
theorem dL_isSame_57 : decode cL_isSame 57 = .ok (.getfield 139, 3) := by decide +kernel
theorem dL_isSame_60 : decode cL_isSame 60 = .ok (.invokevirtual 73, 3) := by decide +kernel
theorem dL_isSame_63 : decode cL_isSame 63 = .ok (.iastore, 1) := by decide +kernel
theorem dL_isSame_64 : decode cL_isSame 64 = .ok (.dup, 1) := by decide +kernel
theorem dL_isSame_65 : decode cL_isSame 65 = .ok (.bipush 6, 2) := by decide +kernel
theorem dL_isSame_67 : decode cL_isSame 67 = .ok (.aload_n 1, 1) := by decide +kernel
theorem dL_isSame_68 : decode cL_isSame 68 = .ok (.getfield 159, 3) := by decide +kernel
theorem dL_isSame_71 : decode cL_isSame 71 = .ok (.invokevirtual 73, 3) := by decide +kernel
theorem dL_isSame_74 : decode cL_isSame 74 = .ok (.iastore, 1) := by decide +kernel
theorem dL_isSame_75 : decode cL_isSame 75 = .ok (.dup, 1) := by decide +kernel
theorem dL_isSame_76 : decode cL_isSame 76 = .ok (.bipush 7, 2) := by decide +kernel
theorem dL_isSame_78 : decode cL_isSame 78 = .ok (.aload_n 1, 1) := by decide +kernel
theorem dL_isSame_79 : decode cL_isSame 79 = .ok (.iconst (-1), 1) := by decide +kernel
theorem dL_isSame_80 : decode cL_isSame 80 = .ok (.invokestatic 183, 3) := by decide +kernel
theorem dL_isSame_83 : decode cL_isSame 83 = .ok (.iastore, 1) := by decide +kernel
theorem dL_isSame_84 : decode cL_isSame 84 = .ok (.astore_n 2, 1) := by decide +kernel
theorem dL_isSame_85 : decode cL_isSame 85 = .ok (.iconst 0, 1) := by decide +kernel
theorem dL_isSame_86 : decode cL_isSame 86 = .ok (.istore_n 3, 1) := by decide +kernel
theorem dL_isSame_87 : decode cL_isSame 87 = .ok (.iload_n 3, 1) := by decide +kernel
theorem dL_isSame_88 : decode cL_isSame 88 = .ok (.bipush 8, 2) := by decide +kernel
theorem dL_isSame_90 : decode cL_isSame 90 = .ok (.if_icmp .ge 22, 3) := by decide +kernel
theorem dL_isSame_93 : decode cL_isSame 93 = .ok (.aload_n 0, 1) := by decide +kernel
theorem dL_isSame_94 : decode cL_isSame 94 = .ok (.iload_n 3, 1) := by decide +kernel
theorem dL_isSame_95 : decode cL_isSame 95 = .ok (.invokevirtual 187, 3) := by decide +kernel
theorem dL_isSame_98 : decode cL_isSame 98 = .ok (.aload_n 2, 1) := by decide +kernel
theorem dL_isSame_99 : decode cL_isSame 99 = .ok (.iload_n 3, 1) := by decide +kernel
theorem dL_isSame_100 : decode cL_isSame 100 = .ok (.iaload, 1) := by decide +kernel
theorem dL_isSame_101 : decode cL_isSame 101 = .ok (.if_icmp .eq 5, 3) := by decide +kernel
theorem dL_isSame_104 : decode cL_isSame 104 = .ok (.iconst 0, 1) := by decide +kernel
theorem dL_isSame_105 : decode cL_isSame 105 = .ok (.ireturn, 1) := by decide +kernel
theorem dL_isSame_106 : decode cL_isSame 106 = .ok (.iinc 3 1, 3) := by decide +kernel
theorem dL_isSame_109 : decode cL_isSame 109 = .ok (.goto (-22), 3) := by decide +kernel
theorem dL_isSame_112 : decode cL_isSame 112 = .ok (.lconst 0, 1) := by decide +kernel
theorem dL_isSame_113 : decode cL_isSame 113 = .ok (.lstore_n 3, 1) := by decide +kernel
theorem dL_isSame_114 : decode cL_isSame 114 = .ok (.lconst 0, 1) := by decide +kernel
theorem dL_isSame_115 : decode cL_isSame 115 = .ok (.lstore 5, 2) := by decide +kernel
theorem dL_isSame_117 : decode cL_isSame 117 = .ok (.iconst 0, 1) := by decide +kernel
theorem dL_isSame_118 : decode cL_isSame 118 = .ok (.istore 7, 2) := by decide +kernel
theorem dL_isSame_120 : decode cL_isSame 120 = .ok (.iload 7, 2) := by decide +kernel
theorem dL_isSame_122 : decode cL_isSame 122 = .ok (.aload_n 1, 1) := by decide +kernel
theorem dL_isSame_123 : decode cL_isSame 123 = .ok (.getfield 81, 3) := by decide +kernel
theorem dL_isSame_126 : decode cL_isSame 126 = .ok (.invokevirtual 73, 3) := by decide +kernel
theorem dL_isSame_129 : decode cL_isSame 129 = .ok (.if_icmp .ge 160, 3) := by decide +kernel
theorem dL_isSame_132 : decode cL_isSame 132 = .ok (.aload_n 1, 1) := by decide +kernel
theorem dL_isSame_133 : decode cL_isSame 133 = .ok (.getfield 81, 3) := by decide +kernel
theorem dL_isSame_136 : decode cL_isSame 136 = .ok (.iload 7, 2) := by decide +kernel
theorem dL_isSame_138 : decode cL_isSame 138 = .ok (.invokevirtual 130, 3) := by decide +kernel
theorem dL_isSame_141 : decode cL_isSame 141 = .ok (.checkcast 76, 3) := by decide +kernel
theorem dL_isSame_144 : decode cL_isSame 144 = .ok (.astore 8, 2) := by decide +kernel
theorem dL_isSame_146 : decode cL_isSame 146 = .ok (.bipush 9, 2) := by decide +kernel
theorem dL_isSame_148 : decode cL_isSame 148 = .ok (.newarray .int, 2) := by decide +kernel
theorem dL_isSame_150 : decode cL_isSame 150 = .ok (.dup, 1) := by decide +kernel
theorem dL_isSame_151 : decode cL_isSame 151 = .ok (.iconst 0, 1) := by decide +kernel
theorem dL_isSame_152 : decode cL_isSame 152 = .ok (.aload 8, 2) := by decide +kernel
theorem dL_isSame_154 : decode cL_isSame 154 = .ok (.getfield 191, 3) := by decide +kernel
theorem dL_isSame_157 : decode cL_isSame 157 = .ok (.iastore, 1) := by decide +kernel
theorem dL_isSame_158 : decode cL_isSame 158 = .ok (.dup, 1) := by decide +kernel
theorem dL_isSame_159 : decode cL_isSame 159 = .ok (.iconst 1, 1) := by decide +kernel
theorem dL_isSame_160 : decode cL_isSame 160 = .ok (.aload_n 1, 1) := by decide +kernel
theorem dL_isSame_161 : decode cL_isSame 161 = .ok (.aload 8, 2) := by decide +kernel
theorem dL_isSame_163 : decode cL_isSame 163 = .ok (.invokevirtual 194, 3) := by decide +kernel
theorem dL_isSame_166 : decode cL_isSame 166 = .ok (.iastore, 1) := by decide +kernel
theorem dL_isSame_167 : decode cL_isSame 167 = .ok (.dup, 1) := by decide +kernel
theorem dL_isSame_168 : decode cL_isSame 168 = .ok (.iconst 2, 1) := by decide +kernel
theorem dL_isSame_169 : decode cL_isSame 169 = .ok (.aload 8, 2) := by decide +kernel
theorem dL_isSame_171 : decode cL_isSame 171 = .ok (.getfield 88, 3) := by decide +kernel
theorem dL_isSame_174 : decode cL_isSame 174 = .ok (.iastore, 1) := by decide +kernel
theorem dL_isSame_175 : decode cL_isSame 175 = .ok (.dup, 1) := by decide +kernel
theorem dL_isSame_176 : decode cL_isSame 176 = .ok (.iconst 3, 1) := by decide +kernel
theorem dL_isSame_177 : decode cL_isSame 177 = .ok (.aload 8, 2) := by decide +kernel
theorem dL_isSame_179 : decode cL_isSame 179 = .ok (.getfield 198, 3) := by decide +kernel
theorem dL_isSame_182 : decode cL_isSame 182 = .ok (.iastore, 1) := by decide +kernel
theorem dL_isSame_183 : decode cL_isSame 183 = .ok (.dup, 1) := by decide +kernel
theorem dL_isSame_184 : decode cL_isSame 184 = .ok (.iconst 4, 1) := by decide +kernel
theorem dL_isSame_185 : decode cL_isSame 185 = .ok (.aload 8, 2) := by decide +kernel
theorem dL_isSame_187 : decode cL_isSame 187 = .ok (.getfield 201, 3) := by decide +kernel
theorem dL_isSame_190 : decode cL_isSame 190 = .ok (.iastore, 1) := by decide +kernel
theorem dL_isSame_191 : decode cL_isSame 191 = .ok (.dup, 1) := by decide +kernel
theorem dL_isSame_192 : decode cL_isSame 192 = .ok (.iconst 5, 1) := by decide +kernel
theorem dL_isSame_193 : decode cL_isSame 193 = .ok (.aload 8, 2) := by decide +kernel
theorem dL_isSame_195 : decode cL_isSame 195 = .ok (.getfield 204, 3) := by decide +kernel
theorem dL_isSame_198 : decode cL_isSame 198 = .ok (.iastore, 1) := by decide +kernel
theorem dL_isSame_199 : decode cL_isSame 199 = .ok (.dup, 1) := by decide +kernel
theorem dL_isSame_200 : decode cL_isSame 200 = .ok (.bipush 6, 2) := by decide +kernel
theorem dL_isSame_202 : decode cL_isSame 202 = .ok (.aload 8, 2) := by decide +kernel
theorem dL_isSame_204 : decode cL_isSame 204 = .ok (.getfield 207, 3) := by decide +kernel
theorem dL_isSame_207 : decode cL_isSame 207 = .ok (.iastore, 1) := by decide +kernel
theorem dL_isSame_208 : decode cL_isSame 208 = .ok (.dup, 1) := by decide +kernel
theorem dL_isSame_209 : decode cL_isSame 209 = .ok (.bipush 7, 2) := by decide +kernel
theorem dL_isSame_211 : decode cL_isSame 211 = .ok (.aload 8, 2) := by decide +kernel
theorem dL_isSame_213 : decode cL_isSame 213 = .ok (.getfield 210, 3) := by decide +kernel
theorem dL_isSame_216 : decode cL_isSame 216 = .ok (.iastore, 1) := by decide +kernel
theorem dL_isSame_217 : decode cL_isSame 217 = .ok (.dup, 1) := by decide +kernel
theorem dL_isSame_218 : decode cL_isSame 218 = .ok (.bipush 8, 2) := by decide +kernel
theorem dL_isSame_220 : decode cL_isSame 220 = .ok (.aload_n 1, 1) := by decide +kernel
theorem dL_isSame_221 : decode cL_isSame 221 = .ok (.aload 8, 2) := by decide +kernel
theorem dL_isSame_223 : decode cL_isSame 223 = .ok (.invokevirtual 213, 3) := by decide +kernel
theorem dL_isSame_226 : decode cL_isSame 226 = .ok (.iastore, 1) := by decide +kernel
theorem dL_isSame_227 : decode cL_isSame 227 = .ok (.astore 9, 2) := by decide +kernel
theorem dL_isSame_229 : decode cL_isSame 229 = .ok (.iconst 0, 1) := by decide +kernel
theorem dL_isSame_230 : decode cL_isSame 230 = .ok (.istore 10, 2) := by decide +kernel
theorem dL_isSame_232 : decode cL_isSame 232 = .ok (.iload 10, 2) := by decide +kernel
theorem dL_isSame_234 : decode cL_isSame 234 = .ok (.bipush 9, 2) := by decide +kernel
theorem dL_isSame_236 : decode cL_isSame 236 = .ok (.if_icmp .ge 27, 3) := by decide +kernel
theorem dL_isSame_239 : decode cL_isSame 239 = .ok (.aload_n 0, 1) := by decide +kernel
theorem dL_isSame_240 : decode cL_isSame 240 = .ok (.iload 7, 2) := by decide +kernel
theorem dL_isSame_242 : decode cL_isSame 242 = .ok (.iload 10, 2) := by decide +kernel
theorem dL_isSame_244 : decode cL_isSame 244 = .ok (.invokevirtual 216, 3) := by decide +kernel
theorem dL_isSame_247 : decode cL_isSame 247 = .ok (.aload 9, 2) := by decide +kernel
theorem dL_isSame_249 : decode cL_isSame 249 = .ok (.iload 10, 2) := by decide +kernel
theorem dL_isSame_251 : decode cL_isSame 251 = .ok (.iaload, 1) := by decide +kernel
theorem dL_isSame_252 : decode cL_isSame 252 = .ok (.if_icmp .eq 5, 3) := by decide +kernel
theorem dL_isSame_255 : decode cL_isSame 255 = .ok (.iconst 0, 1) := by decide +kernel
theorem dL_isSame_256 : decode cL_isSame 256 = .ok (.ireturn, 1) := by decide +kernel
theorem dL_isSame_257 : decode cL_isSame 257 = .ok (.iinc 10 1, 3) := by decide +kernel
theorem dL_isSame_260 : decode cL_isSame 260 = .ok (.goto (-28), 3) := by decide +kernel
theorem dL_isSame_263 : decode cL_isSame 263 = .ok (.lload_n 3, 1) := by decide +kernel
theorem dL_isSame_264 : decode cL_isSame 264 = .ok (.aload 8, 2) := by decide +kernel
theorem dL_isSame_266 : decode cL_isSame 266 = .ok (.getfield 88, 3) := by decide +kernel
theorem dL_isSame_269 : decode cL_isSame 269 = .ok (.i2l, 1) := by decide +kernel
theorem dL_isSame_270 : decode cL_isSame 270 = .ok (.ladd, 1) := by decide +kernel
theorem dL_isSame_271 : decode cL_isSame 271 = .ok (.lstore_n 3, 1) := by decide +kernel
theorem dL_isSame_272 : decode cL_isSame 272 = .ok (.lload 5, 2) := by decide +kernel
theorem dL_isSame_274 : decode cL_isSame 274 = .ok (.aload 8, 2) := by decide +kernel
theorem dL_isSame_276 : decode cL_isSame 276 = .ok (.getfield 198, 3) := by decide +kernel
theorem dL_isSame_279 : decode cL_isSame 279 = .ok (.i2l, 1) := by decide +kernel
theorem dL_isSame_280 : decode cL_isSame 280 = .ok (.ladd, 1) := by decide +kernel
theorem dL_isSame_281 : decode cL_isSame 281 = .ok (.lstore 5, 2) := by decide +kernel
theorem dL_isSame_283 : decode cL_isSame 283 = .ok (.iinc 7 1, 3) := by decide +kernel
theorem dL_isSame_286 : decode cL_isSame 286 = .ok (.goto (-166), 3) := by decide +kernel
theorem dL_isSame_289 : decode cL_isSame 289 = .ok (.aload_n 1, 1) := by decide +kernel
theorem dL_isSame_290 : decode cL_isSame 290 = .ok (.getfield 100, 3) := by decide +kernel
theorem dL_isSame_293 : decode cL_isSame 293 = .ok (.invokevirtual 162, 3) := by decide +kernel
theorem dL_isSame_296 : decode cL_isSame 296 = .ok (.astore 7, 2) := by decide +kernel
theorem dL_isSame_298 : decode cL_isSame 298 = .ok (.aload 7, 2) := by decide +kernel
theorem dL_isSame_300 : decode cL_isSame 300 = .ok (.invokeinterface 166 1, 5) := by decide +kernel
theorem dL_isSame_305 : decode cL_isSame 305 = .ok (.ifCond .eq 120, 3) := by decide +kernel
theorem dL_isSame_308 : decode cL_isSame 308 = .ok (.aload 7, 2) := by decide +kernel
theorem dL_isSame_310 : decode cL_isSame 310 = .ok (.invokeinterface 171 1, 5) := by decide +kernel
theorem dL_isSame_315 : decode cL_isSame 315 = .ok (.checkcast 95, 3) := by decide +kernel
theorem dL_isSame_318 : decode cL_isSame 318 = .ok (.astore 8, 2) := by decide +kernel
theorem dL_isSame_320 : decode cL_isSame 320 = .ok (.iconst 4, 1) := by decide +kernel
theorem dL_isSame_321 : decode cL_isSame 321 = .ok (.newarray .int, 2) := by decide +kernel
theorem dL_isSame_323 : decode cL_isSame 323 = .ok (.dup, 1) := by decide +kernel
theorem dL_isSame_324 : decode cL_isSame 324 = .ok (.iconst 0, 1) := by decide +kernel
theorem dL_isSame_325 : decode cL_isSame 325 = .ok (.aload 8, 2) := by decide +kernel
theorem dL_isSame_327 : decode cL_isSame 327 = .ok (.getfield 111, 3) := by decide +kernel
theorem dL_isSame_330 : decode cL_isSame 330 = .ok (.iastore, 1) := by decide +kernel
theorem dL_isSame_331 : decode cL_isSame 331 = .ok (.dup, 1) := by decide +kernel
theorem dL_isSame_332 : decode cL_isSame 332 = .ok (.iconst 1, 1) := by decide +kernel
theorem dL_isSame_333 : decode cL_isSame 333 = .ok (.aload 8, 2) := by decide +kernel
theorem dL_isSame_335 : decode cL_isSame 335 = .ok (.getfield 114, 3) := by decide +kernel
theorem dL_isSame_338 : decode cL_isSame 338 = .ok (.iastore, 1) := by decide +kernel
theorem dL_isSame_339 : decode cL_isSame 339 = .ok (.dup, 1) := by decide +kernel
theorem dL_isSame_340 : decode cL_isSame 340 = .ok (.iconst 2, 1) := by decide +kernel
theorem dL_isSame_341 : decode cL_isSame 341 = .ok (.aload 8, 2) := by decide +kernel
theorem dL_isSame_343 : decode cL_isSame 343 = .ok (.getfield 220, 3) := by decide +kernel
theorem dL_isSame_346 : decode cL_isSame 346 = .ok (.iastore, 1) := by decide +kernel
theorem dL_isSame_347 : decode cL_isSame 347 = .ok (.dup, 1) := by decide +kernel
theorem dL_isSame_348 : decode cL_isSame 348 = .ok (.iconst 3, 1) := by decide +kernel
theorem dL_isSame_349 : decode cL_isSame 349 = .ok (.aload 8, 2) := by decide +kernel
theorem dL_isSame_351 : decode cL_isSame 351 = .ok (.getfield 223, 3) := by decide +kernel
theorem dL_isSame_354 : decode cL_isSame 354 = .ok (.iastore, 1) := by decide +kernel
theorem dL_isSame_355 : decode cL_isSame 355 = .ok (.astore 9, 2) := by decide +kernel
theorem dL_isSame_357 : decode cL_isSame 357 = .ok (.iconst 0, 1) := by decide +kernel
theorem dL_isSame_358 : decode cL_isSame 358 = .ok (.istore 10, 2) := by decide +kernel
theorem dL_isSame_360 : decode cL_isSame 360 = .ok (.iload 10, 2) := by decide +kernel
theorem dL_isSame_362 : decode cL_isSame 362 = .ok (.iconst 4, 1) := by decide +kernel
theorem dL_isSame_363 : decode cL_isSame 363 = .ok (.if_icmp .ge 59, 3) := by decide +kernel
theorem dL_isSame_366 : decode cL_isSame 366 = .ok (.aload_n 0, 1) := by decide +kernel
theorem dL_isSame_367 : decode cL_isSame 367 = .ok (.aload 8, 2) := by decide +kernel
theorem dL_isSame_369 : decode cL_isSame 369 = .ok (.getfield 105, 3) := by decide +kernel
theorem dL_isSame_372 : decode cL_isSame 372 = .ok (.aload 8, 2) := by decide +kernel
theorem dL_isSame_374 : decode cL_isSame 374 = .ok (.getfield 108, 3) := by decide +kernel
theorem dL_isSame_377 : decode cL_isSame 377 = .ok (.iload 10, 2) := by decide +kernel
theorem dL_isSame_379 : decode cL_isSame 379 = .ok (.invokevirtual 226, 3) := by decide +kernel
theorem dL_isSame_382 : decode cL_isSame 382 = .ok (.aload 9, 2) := by decide +kernel
theorem dL_isSame_384 : decode cL_isSame 384 = .ok (.iload 10, 2) := by decide +kernel
theorem dL_isSame_386 : decode cL_isSame 386 = .ok (.iaload, 1) := by decide +kernel
theorem dL_isSame_387 : decode cL_isSame 387 = .ok (.if_icmp .ne 27, 3) := by decide +kernel
theorem dL_isSame_390 : decode cL_isSame 390 = .ok (.aload_n 0, 1) := by decide +kernel
theorem dL_isSame_391 : decode cL_isSame 391 = .ok (.aload 8, 2) := by decide +kernel
theorem dL_isSame_393 : decode cL_isSame 393 = .ok (.getfield 108, 3) := by decide +kernel
theorem dL_isSame_396 : decode cL_isSame 396 = .ok (.aload 8, 2) := by decide +kernel
theorem dL_isSame_398 : decode cL_isSame 398 = .ok (.getfield 105, 3) := by decide +kernel
theorem dL_isSame_401 : decode cL_isSame 401 = .ok (.iload 10, 2) := by decide +kernel
theorem dL_isSame_403 : decode cL_isSame 403 = .ok (.invokevirtual 226, 3) := by decide +kernel
theorem dL_isSame_406 : decode cL_isSame 406 = .ok (.aload 9, 2) := by decide +kernel
theorem dL_isSame_408 : decode cL_isSame 408 = .ok (.iload 10, 2) := by decide +kernel
theorem dL_isSame_410 : decode cL_isSame 410 = .ok (.iaload, 1) := by decide +kernel
theorem dL_isSame_411 : decode cL_isSame 411 = .ok (.if_icmp .eq 5, 3) := by decide +kernel
theorem dL_isSame_414 : decode cL_isSame 414 = .ok (.iconst 0, 1) := by decide +kernel
theorem dL_isSame_415 : decode cL_isSame 415 = .ok (.ireturn, 1) := by decide +kernel
theorem dL_isSame_416 : decode cL_isSame 416 = .ok (.iinc 10 1, 3) := by decide +kernel
theorem dL_isSame_419 : decode cL_isSame 419 = .ok (.goto (-59), 3) := by decide +kernel
theorem dL_isSame_422 : decode cL_isSame 422 = .ok (.goto (-124), 3) := by decide +kernel
theorem dL_isSame_425 : decode cL_isSame 425 = .ok (.iconst 0, 1) := by decide +kernel
theorem dL_isSame_426 : decode cL_isSame 426 = .ok (.istore 7, 2) := by decide +kernel
theorem dL_isSame_428 : decode cL_isSame 428 = .ok (.iload 7, 2) := by decide +kernel
theorem dL_isSame_430 : decode cL_isSame 430 = .ok (.aload_n 1, 1) := by decide +kernel
theorem dL_isSame_431 : decode cL_isSame 431 = .ok (.getfield 124, 3) := by decide +kernel
theorem dL_isSame_434 : decode cL_isSame 434 = .ok (.invokevirtual 73, 3) := by decide +kernel
theorem dL_isSame_437 : decode cL_isSame 437 = .ok (.if_icmp .ge 52, 3) := by decide +kernel
theorem dL_isSame_440 : decode cL_isSame 440 = .ok (.iconst 0, 1) := by decide +kernel
theorem dL_isSame_441 : decode cL_isSame 441 = .ok (.istore 8, 2) := by decide +kernel
theorem dL_isSame_443 : decode cL_isSame 443 = .ok (.iload 8, 2) := by decide +kernel
theorem dL_isSame_445 : decode cL_isSame 445 = .ok (.iconst 4, 1) := by decide +kernel
theorem dL_isSame_446 : decode cL_isSame 446 = .ok (.if_icmp .ge 37, 3) := by decide +kernel
theorem dL_isSame_449 : decode cL_isSame 449 = .ok (.aload_n 0, 1) := by decide +kernel
theorem dL_isSame_450 : decode cL_isSame 450 = .ok (.iload 7, 2) := by decide +kernel
theorem dL_isSame_452 : decode cL_isSame 452 = .ok (.iload 8, 2) := by decide +kernel
theorem dL_isSame_454 : decode cL_isSame 454 = .ok (.invokevirtual 230, 3) := by decide +kernel
theorem dL_isSame_457 : decode cL_isSame 457 = .ok (.aload_n 1, 1) := by decide +kernel
theorem dL_isSame_458 : decode cL_isSame 458 = .ok (.getfield 124, 3) := by decide +kernel
theorem dL_isSame_461 : decode cL_isSame 461 = .ok (.iload 7, 2) := by decide +kernel
theorem dL_isSame_463 : decode cL_isSame 463 = .ok (.invokevirtual 130, 3) := by decide +kernel
theorem dL_isSame_466 : decode cL_isSame 466 = .ok (.checkcast 233, 3) := by decide +kernel
theorem dL_isSame_469 : decode cL_isSame 469 = .ok (.iload 8, 2) := by decide +kernel
theorem dL_isSame_471 : decode cL_isSame 471 = .ok (.iaload, 1) := by decide +kernel
theorem dL_isSame_472 : decode cL_isSame 472 = .ok (.if_icmp .eq 5, 3) := by decide +kernel
theorem dL_isSame_475 : decode cL_isSame 475 = .ok (.iconst 0, 1) := by decide +kernel
theorem dL_isSame_476 : decode cL_isSame 476 = .ok (.ireturn, 1) := by decide +kernel
theorem dL_isSame_477 : decode cL_isSame 477 = .ok (.iinc 8 1, 3) := by decide +kernel
theorem dL_isSame_480 : decode cL_isSame 480 = .ok (.goto (-37), 3) := by decide +kernel
theorem dL_isSame_483 : decode cL_isSame 483 = .ok (.iinc 7 1, 3) := by decide +kernel
theorem dL_isSame_486 : decode cL_isSame 486 = .ok (.goto (-58), 3) := by decide +kernel
theorem dL_isSame_489 : decode cL_isSame 489 = .ok (.iconst 0, 1) := by decide +kernel
theorem dL_isSame_490 : decode cL_isSame 490 = .ok (.istore 7, 2) := by decide +kernel
theorem dL_isSame_492 : decode cL_isSame 492 = .ok (.iload 7, 2) := by decide +kernel
theorem dL_isSame_494 : decode cL_isSame 494 = .ok (.aload_n 1, 1) := by decide +kernel
theorem dL_isSame_495 : decode cL_isSame 495 = .ok (.getfield 159, 3) := by decide +kernel
theorem dL_isSame_498 : decode cL_isSame 498 = .ok (.invokevirtual 73, 3) := by decide +kernel
theorem dL_isSame_501 : decode cL_isSame 501 = .ok (.if_icmp .ge 130, 3) := by decide +kernel
theorem dL_isSame_504 : decode cL_isSame 504 = .ok (.aload_n 1, 1) := by decide +kernel
theorem dL_isSame_505 : decode cL_isSame 505 = .ok (.getfield 159, 3) := by decide +kernel
theorem dL_isSame_508 : decode cL_isSame 508 = .ok (.iload 7, 2) := by decide +kernel
theorem dL_isSame_510 : decode cL_isSame 510 = .ok (.invokevirtual 130, 3) := by decide +kernel
theorem dL_isSame_513 : decode cL_isSame 513 = .ok (.checkcast 175, 3) := by decide +kernel
theorem dL_isSame_516 : decode cL_isSame 516 = .ok (.astore 8, 2) := by decide +kernel
theorem dL_isSame_518 : decode cL_isSame 518 = .ok (.bipush 8, 2) := by decide +kernel
theorem dL_isSame_520 : decode cL_isSame 520 = .ok (.newarray .int, 2) := by decide +kernel
theorem dL_isSame_522 : decode cL_isSame 522 = .ok (.dup, 1) := by decide +kernel
theorem dL_isSame_523 : decode cL_isSame 523 = .ok (.iconst 0, 1) := by decide +kernel
theorem dL_isSame_524 : decode cL_isSame 524 = .ok (.aload 8, 2) := by decide +kernel
theorem dL_isSame_526 : decode cL_isSame 526 = .ok (.getfield 180, 3) := by decide +kernel
theorem dL_isSame_529 : decode cL_isSame 529 = .ok (.iastore, 1) := by decide +kernel
theorem dL_isSame_530 : decode cL_isSame 530 = .ok (.dup, 1) := by decide +kernel
theorem dL_isSame_531 : decode cL_isSame 531 = .ok (.iconst 1, 1) := by decide +kernel
theorem dL_isSame_532 : decode cL_isSame 532 = .ok (.aload 8, 2) := by decide +kernel
theorem dL_isSame_534 : decode cL_isSame 534 = .ok (.getfield 235, 3) := by decide +kernel
theorem dL_isSame_537 : decode cL_isSame 537 = .ok (.iastore, 1) := by decide +kernel
theorem dL_isSame_538 : decode cL_isSame 538 = .ok (.dup, 1) := by decide +kernel
theorem dL_isSame_539 : decode cL_isSame 539 = .ok (.iconst 2, 1) := by decide +kernel
theorem dL_isSame_540 : decode cL_isSame 540 = .ok (.aload 8, 2) := by decide +kernel
theorem dL_isSame_542 : decode cL_isSame 542 = .ok (.getfield 238, 3) := by decide +kernel
theorem dL_isSame_545 : decode cL_isSame 545 = .ok (.iastore, 1) := by decide +kernel
theorem dL_isSame_546 : decode cL_isSame 546 = .ok (.dup, 1) := by decide +kernel
theorem dL_isSame_547 : decode cL_isSame 547 = .ok (.iconst 3, 1) := by decide +kernel
theorem dL_isSame_548 : decode cL_isSame 548 = .ok (.aload 8, 2) := by decide +kernel
theorem dL_isSame_550 : decode cL_isSame 550 = .ok (.getfield 239, 3) := by decide +kernel
theorem dL_isSame_553 : decode cL_isSame 553 = .ok (.iastore, 1) := by decide +kernel
theorem dL_isSame_554 : decode cL_isSame 554 = .ok (.dup, 1) := by decide +kernel
theorem dL_isSame_555 : decode cL_isSame 555 = .ok (.iconst 4, 1) := by decide +kernel
theorem dL_isSame_556 : decode cL_isSame 556 = .ok (.aload 8, 2) := by decide +kernel
theorem dL_isSame_558 : decode cL_isSame 558 = .ok (.getfield 240, 3) := by decide +kernel
theorem dL_isSame_561 : decode cL_isSame 561 = .ok (.iastore, 1) := by decide +kernel
theorem dL_isSame_562 : decode cL_isSame 562 = .ok (.dup, 1) := by decide +kernel
theorem dL_isSame_563 : decode cL_isSame 563 = .ok (.iconst 5, 1) := by decide +kernel
theorem dL_isSame_564 : decode cL_isSame 564 = .ok (.aload_n 1, 1) := by decide +kernel
theorem dL_isSame_565 : decode cL_isSame 565 = .ok (.aload 8, 2) := by decide +kernel
theorem dL_isSame_567 : decode cL_isSame 567 = .ok (.invokevirtual 243, 3) := by decide +kernel
theorem dL_isSame_570 : decode cL_isSame 570 = .ok (.iastore, 1) := by decide +kernel
theorem dL_isSame_571 : decode cL_isSame 571 = .ok (.dup, 1) := by decide +kernel
theorem dL_isSame_572 : decode cL_isSame 572 = .ok (.bipush 6, 2) := by decide +kernel
theorem dL_isSame_574 : decode cL_isSame 574 = .ok (.aload 8, 2) := by decide +kernel
theorem dL_isSame_576 : decode cL_isSame 576 = .ok (.getfield 177, 3) := by decide +kernel
theorem dL_isSame_579 : decode cL_isSame 579 = .ok (.iastore, 1) := by decide +kernel
theorem dL_isSame_580 : decode cL_isSame 580 = .ok (.dup, 1) := by decide +kernel
theorem dL_isSame_581 : decode cL_isSame 581 = .ok (.bipush 7, 2) := by decide +kernel
theorem dL_isSame_583 : decode cL_isSame 583 = .ok (.aload 8, 2) := by decide +kernel
theorem dL_isSame_585 : decode cL_isSame 585 = .ok (.getfield 247, 3) := by decide +kernel
theorem dL_isSame_588 : decode cL_isSame 588 = .ok (.iastore, 1) := by decide +kernel
theorem dL_isSame_589 : decode cL_isSame 589 = .ok (.astore 9, 2) := by decide +kernel
theorem dL_isSame_591 : decode cL_isSame 591 = .ok (.iconst 0, 1) := by decide +kernel
theorem dL_isSame_592 : decode cL_isSame 592 = .ok (.istore 10, 2) := by decide +kernel
theorem dL_isSame_594 : decode cL_isSame 594 = .ok (.iload 10, 2) := by decide +kernel
theorem dL_isSame_596 : decode cL_isSame 596 = .ok (.bipush 8, 2) := by decide +kernel
theorem dL_isSame_598 : decode cL_isSame 598 = .ok (.if_icmp .ge 27, 3) := by decide +kernel
theorem dL_isSame_601 : decode cL_isSame 601 = .ok (.aload_n 0, 1) := by decide +kernel
theorem dL_isSame_602 : decode cL_isSame 602 = .ok (.iload 7, 2) := by decide +kernel
theorem dL_isSame_604 : decode cL_isSame 604 = .ok (.iload 10, 2) := by decide +kernel
theorem dL_isSame_606 : decode cL_isSame 606 = .ok (.invokevirtual 250, 3) := by decide +kernel
theorem dL_isSame_609 : decode cL_isSame 609 = .ok (.aload 9, 2) := by decide +kernel
theorem dL_isSame_611 : decode cL_isSame 611 = .ok (.iload 10, 2) := by decide +kernel
theorem dL_isSame_613 : decode cL_isSame 613 = .ok (.iaload, 1) := by decide +kernel
theorem dL_isSame_614 : decode cL_isSame 614 = .ok (.if_icmp .eq 5, 3) := by decide +kernel
theorem dL_isSame_617 : decode cL_isSame 617 = .ok (.iconst 0, 1) := by decide +kernel
theorem dL_isSame_618 : decode cL_isSame 618 = .ok (.ireturn, 1) := by decide +kernel
theorem dL_isSame_619 : decode cL_isSame 619 = .ok (.iinc 10 1, 3) := by decide +kernel
theorem dL_isSame_622 : decode cL_isSame 622 = .ok (.goto (-28), 3) := by decide +kernel
theorem dL_isSame_625 : decode cL_isSame 625 = .ok (.iinc 7 1, 3) := by decide +kernel
theorem dL_isSame_628 : decode cL_isSame 628 = .ok (.goto (-136), 3) := by decide +kernel
theorem dL_isSame_631 : decode cL_isSame 631 = .ok (.bipush 6, 2) := by decide +kernel
theorem dL_isSame_633 : decode cL_isSame 633 = .ok (.newarray .long, 2) := by decide +kernel
theorem dL_isSame_635 : decode cL_isSame 635 = .ok (.dup, 1) := by decide +kernel
theorem dL_isSame_636 : decode cL_isSame 636 = .ok (.iconst 0, 1) := by decide +kernel
theorem dL_isSame_637 : decode cL_isSame 637 = .ok (.aload_n 1, 1) := by decide +kernel
theorem dL_isSame_638 : decode cL_isSame 638 = .ok (.getfield 84, 3) := by decide +kernel
theorem dL_isSame_641 : decode cL_isSame 641 = .ok (.lastore, 1) := by decide +kernel
theorem dL_isSame_642 : decode cL_isSame 642 = .ok (.dup, 1) := by decide +kernel
theorem dL_isSame_643 : decode cL_isSame 643 = .ok (.iconst 1, 1) := by decide +kernel
theorem dL_isSame_644 : decode cL_isSame 644 = .ok (.aload_n 1, 1) := by decide +kernel
theorem dL_isSame_645 : decode cL_isSame 645 = .ok (.getfield 253, 3) := by decide +kernel
theorem dL_isSame_648 : decode cL_isSame 648 = .ok (.lastore, 1) := by decide +kernel
theorem dL_isSame_649 : decode cL_isSame 649 = .ok (.dup, 1) := by decide +kernel
theorem dL_isSame_650 : decode cL_isSame 650 = .ok (.iconst 2, 1) := by decide +kernel
theorem dL_isSame_651 : decode cL_isSame 651 = .ok (.aload_n 1, 1) := by decide +kernel
theorem dL_isSame_652 : decode cL_isSame 652 = .ok (.getfield 256, 3) := by decide +kernel
theorem dL_isSame_655 : decode cL_isSame 655 = .ok (.lastore, 1) := by decide +kernel
theorem dL_isSame_656 : decode cL_isSame 656 = .ok (.dup, 1) := by decide +kernel
theorem dL_isSame_657 : decode cL_isSame 657 = .ok (.iconst 3, 1) := by decide +kernel
theorem dL_isSame_658 : decode cL_isSame 658 = .ok (.aload_n 1, 1) := by decide +kernel
theorem dL_isSame_659 : decode cL_isSame 659 = .ok (.getfield 259, 3) := by decide +kernel
theorem dL_isSame_662 : decode cL_isSame 662 = .ok (.lastore, 1) := by decide +kernel
theorem dL_isSame_663 : decode cL_isSame 663 = .ok (.dup, 1) := by decide +kernel
theorem dL_isSame_664 : decode cL_isSame 664 = .ok (.iconst 4, 1) := by decide +kernel
theorem dL_isSame_665 : decode cL_isSame 665 = .ok (.lload_n 3, 1) := by decide +kernel
theorem dL_isSame_666 : decode cL_isSame 666 = .ok (.lastore, 1) := by decide +kernel
theorem dL_isSame_667 : decode cL_isSame 667 = .ok (.dup, 1) := by decide +kernel
theorem dL_isSame_668 : decode cL_isSame 668 = .ok (.iconst 5, 1) := by decide +kernel
theorem dL_isSame_669 : decode cL_isSame 669 = .ok (.lload 5, 2) := by decide +kernel
theorem dL_isSame_671 : decode cL_isSame 671 = .ok (.lastore, 1) := by decide +kernel
theorem dL_isSame_672 : decode cL_isSame 672 = .ok (.astore 7, 2) := by decide +kernel
theorem dL_isSame_674 : decode cL_isSame 674 = .ok (.iconst 0, 1) := by decide +kernel
theorem dL_isSame_675 : decode cL_isSame 675 = .ok (.istore 8, 2) := by decide +kernel
theorem dL_isSame_677 : decode cL_isSame 677 = .ok (.iload 8, 2) := by decide +kernel
theorem dL_isSame_679 : decode cL_isSame 679 = .ok (.bipush 6, 2) := by decide +kernel
theorem dL_isSame_681 : decode cL_isSame 681 = .ok (.if_icmp .ge 26, 3) := by decide +kernel
theorem dL_isSame_684 : decode cL_isSame 684 = .ok (.aload_n 0, 1) := by decide +kernel
theorem dL_isSame_685 : decode cL_isSame 685 = .ok (.iload 8, 2) := by decide +kernel
theorem dL_isSame_687 : decode cL_isSame 687 = .ok (.invokevirtual 262, 3) := by decide +kernel
theorem dL_isSame_690 : decode cL_isSame 690 = .ok (.aload 7, 2) := by decide +kernel
theorem dL_isSame_692 : decode cL_isSame 692 = .ok (.iload 8, 2) := by decide +kernel
theorem dL_isSame_694 : decode cL_isSame 694 = .ok (.laload, 1) := by decide +kernel
theorem dL_isSame_695 : decode cL_isSame 695 = .ok (.lcmp, 1) := by decide +kernel
theorem dL_isSame_696 : decode cL_isSame 696 = .ok (.ifCond .eq 5, 3) := by decide +kernel
theorem dL_isSame_699 : decode cL_isSame 699 = .ok (.iconst 0, 1) := by decide +kernel
theorem dL_isSame_700 : decode cL_isSame 700 = .ok (.ireturn, 1) := by decide +kernel
theorem dL_isSame_701 : decode cL_isSame 701 = .ok (.iinc 8 1, 3) := by decide +kernel
theorem dL_isSame_704 : decode cL_isSame 704 = .ok (.goto (-27), 3) := by decide +kernel
theorem dL_isSame_707 : decode cL_isSame 707 = .ok (.aload_n 0, 1) := by decide +kernel
theorem dL_isSame_708 : decode cL_isSame 708 = .ok (.invokevirtual 266, 3) := by decide +kernel
theorem dL_isSame_711 : decode cL_isSame 711 = .ok (.aload_n 1, 1) := by decide +kernel
theorem dL_isSame_712 : decode cL_isSame 712 = .ok (.getfield 269, 3) := by decide +kernel
theorem dL_isSame_715 : decode cL_isSame 715 = .ok (.if_icmp .ne 31, 3) := by decide +kernel
theorem dL_isSame_718 : decode cL_isSame 718 = .ok (.aload_n 1, 1) := by decide +kernel
theorem dL_isSame_719 : decode cL_isSame 719 = .ok (.getfield 84, 3) := by decide +kernel
theorem dL_isSame_722 : decode cL_isSame 722 = .ok (.aload_n 1, 1) := by decide +kernel
theorem dL_isSame_723 : decode cL_isSame 723 = .ok (.getfield 253, 3) := by decide +kernel
theorem dL_isSame_726 : decode cL_isSame 726 = .ok (.aload_n 1, 1) := by decide +kernel
theorem dL_isSame_727 : decode cL_isSame 727 = .ok (.getfield 256, 3) := by decide +kernel
theorem dL_isSame_730 : decode cL_isSame 730 = .ok (.ladd, 1) := by decide +kernel
theorem dL_isSame_731 : decode cL_isSame 731 = .ok (.aload_n 1, 1) := by decide +kernel
theorem dL_isSame_732 : decode cL_isSame 732 = .ok (.getfield 259, 3) := by decide +kernel
theorem dL_isSame_735 : decode cL_isSame 735 = .ok (.ladd, 1) := by decide +kernel
theorem dL_isSame_736 : decode cL_isSame 736 = .ok (.lload_n 3, 1) := by decide +kernel
theorem dL_isSame_737 : decode cL_isSame 737 = .ok (.ladd, 1) := by decide +kernel
theorem dL_isSame_738 : decode cL_isSame 738 = .ok (.lcmp, 1) := by decide +kernel
theorem dL_isSame_739 : decode cL_isSame 739 = .ok (.ifCond .ne 7, 3) := by decide +kernel
theorem dL_isSame_742 : decode cL_isSame 742 = .ok (.iconst 1, 1) := by decide +kernel
theorem dL_isSame_743 : decode cL_isSame 743 = .ok (.goto 4, 3) := by decide +kernel
theorem dL_isSame_746 : decode cL_isSame 746 = .ok (.iconst 0, 1) := by decide +kernel
theorem dL_isSame_747 : decode cL_isSame 747 = .ok (.ireturn, 1) := by decide +kernel
theorem dL_act_0 : decode cL_act 0 = .ok (.aload_n 1, 1) := by decide +kernel
theorem dL_act_1 : decode cL_act 1 = .ok (.iconst 0, 1) := by decide +kernel
theorem dL_act_2 : decode cL_act 2 = .ok (.aaload, 1) := by decide +kernel
theorem dL_act_3 : decode cL_act 3 = .ok (.astore 4, 2) := by decide +kernel
theorem dL_act_5 : decode cL_act 5 = .ok (.iload_n 3, 1) := by decide +kernel
theorem dL_act_6 : decode cL_act 6 = .ok (.bipush 16, 2) := by decide +kernel
theorem dL_act_8 : decode cL_act 8 = .ok (.idiv, 1) := by decide +kernel
theorem dL_act_9 : decode cL_act 9 = .ok (.istore 5, 2) := by decide +kernel
theorem dL_act_11 : decode cL_act 11 = .ok (.iload_n 3, 1) := by decide +kernel
theorem dL_act_12 : decode cL_act 12 = .ok (.bipush 15, 2) := by decide +kernel
theorem dL_act_14 : decode cL_act 14 = .ok (.irem, 1) := by decide +kernel
theorem dL_act_15 : decode cL_act 15 = .ok (.istore 6, 2) := by decide +kernel
theorem dL_act_17 : decode cL_act 17 = .ok (.aload 4, 2) := by decide +kernel
theorem dL_act_19 : decode cL_act 19 = .ok (.getfield 81, 3) := by decide +kernel
theorem dL_act_22 : decode cL_act 22 = .ok (.invokevirtual 73, 3) := by decide +kernel
theorem dL_act_25 : decode cL_act 25 = .ok (.istore 7, 2) := by decide +kernel
theorem dL_act_27 : decode cL_act 27 = .ok (.aload 4, 2) := by decide +kernel
theorem dL_act_29 : decode cL_act 29 = .ok (.getfield 139, 3) := by decide +kernel
theorem dL_act_32 : decode cL_act 32 = .ok (.invokevirtual 73, 3) := by decide +kernel
theorem dL_act_35 : decode cL_act 35 = .ok (.istore 8, 2) := by decide +kernel
theorem dL_act_37 : decode cL_act 37 = .ok (.aload 4, 2) := by decide +kernel
theorem dL_act_39 : decode cL_act 39 = .ok (.getfield 159, 3) := by decide +kernel
theorem dL_act_42 : decode cL_act 42 = .ok (.invokevirtual 73, 3) := by decide +kernel
theorem dL_act_45 : decode cL_act 45 = .ok (.istore 9, 2) := by decide +kernel
theorem dL_act_47 : decode cL_act 47 = .ok (.iload 6, 2) := by decide +kernel
theorem dL_act_49 : decode cL_act 49 = .ok (.bipush 14, 2) := by decide +kernel
theorem dL_act_51 : decode cL_act 51 = .ok (.if_icmp .ne 43, 3) := by decide +kernel
theorem dL_act_54 : decode cL_act 54 = .ok (.aload_n 2, 1) := by decide +kernel
theorem dL_act_55 : decode cL_act 55 = .ok (.invokevirtual 73, 3) := by decide +kernel
theorem dL_act_58 : decode cL_act 58 = .ok (.iconst 1, 1) := by decide +kernel
theorem dL_act_59 : decode cL_act 59 = .ok (.isub, 1) := by decide +kernel
theorem dL_act_60 : decode cL_act 60 = .ok (.istore 10, 2) := by decide +kernel
theorem dL_act_62 : decode cL_act 62 = .ok (.iload 10, 2) := by decide +kernel
theorem dL_act_64 : decode cL_act 64 = .ok (.ifCond .lt 15, 3) := by decide +kernel
theorem dL_act_67 : decode cL_act 67 = .ok (.aload_n 1, 1) := by decide +kernel
theorem dL_act_68 : decode cL_act 68 = .ok (.iconst 0, 1) := by decide +kernel
theorem dL_act_69 : decode cL_act 69 = .ok (.aload_n 2, 1) := by decide +kernel
theorem dL_act_70 : decode cL_act 70 = .ok (.iload 10, 2) := by decide +kernel
theorem dL_act_72 : decode cL_act 72 = .ok (.invokevirtual 272, 3) := by decide +kernel
theorem dL_act_75 : decode cL_act 75 = .ok (.checkcast 27, 3) := by decide +kernel
theorem dL_act_78 : decode cL_act 78 = .ok (.aastore, 1) := by decide +kernel
theorem dL_act_79 : decode cL_act 79 = .ok (.aload_n 0, 1) := by decide +kernel
theorem dL_act_80 : decode cL_act 80 = .ok (.invokevirtual 275, 3) := by decide +kernel
theorem dL_act_83 : decode cL_act 83 = .ok (.iload 10, 2) := by decide +kernel
theorem dL_act_85 : decode cL_act 85 = .ok (.if_icmp .ne 7, 3) := by decide +kernel
theorem dL_act_88 : decode cL_act 88 = .ok (.iconst 1, 1) := by decide +kernel
theorem dL_act_89 : decode cL_act 89 = .ok (.goto 4, 3) := by decide +kernel
theorem dL_act_92 : decode cL_act 92 = .ok (.iconst 0, 1) := by decide +kernel
theorem dL_act_93 : decode cL_act 93 = .ok (.ireturn, 1) := by decide +kernel
theorem dL_act_94 : decode cL_act 94 = .ok (.iload 7, 2) := by decide +kernel
theorem dL_act_96 : decode cL_act 96 = .ok (.ifCond .ne 16, 3) := by decide +kernel
theorem dL_act_99 : decode cL_act 99 = .ok (.iload 6, 2) := by decide +kernel
theorem dL_act_101 : decode cL_act 101 = .ok (.iconst 3, 1) := by decide +kernel
theorem dL_act_102 : decode cL_act 102 = .ok (.if_icmp .le 10, 3) := by decide +kernel
theorem dL_act_105 : decode cL_act 105 = .ok (.iload 6, 2) := by decide +kernel
theorem dL_act_107 : decode cL_act 107 = .ok (.bipush 9, 2) := by decide +kernel
theorem dL_act_109 : decode cL_act 109 = .ok (.if_icmp .lt 34, 3) := by decide +kernel
theorem dL_act_112 : decode cL_act 112 = .ok (.iload 8, 2) := by decide +kernel
theorem dL_act_114 : decode cL_act 114 = .ok (.ifCond .ne 17, 3) := by decide +kernel
theorem dL_act_117 : decode cL_act 117 = .ok (.iload 6, 2) := by decide +kernel
theorem dL_act_119 : decode cL_act 119 = .ok (.bipush 8, 2) := by decide +kernel
theorem dL_act_121 : decode cL_act 121 = .ok (.if_icmp .le 10, 3) := by decide +kernel
theorem dL_act_124 : decode cL_act 124 = .ok (.iload 6, 2) := by decide +kernel
theorem dL_act_126 : decode cL_act 126 = .ok (.bipush 12, 2) := by decide +kernel
theorem dL_act_128 : decode cL_act 128 = .ok (.if_icmp .lt 15, 3) := by decide +kernel
theorem dL_act_131 : decode cL_act 131 = .ok (.iload 9, 2) := by decide +kernel
theorem dL_act_133 : decode cL_act 133 = .ok (.ifCond .ne 12, 3) := by decide +kernel
theorem dL_act_136 : decode cL_act 136 = .ok (.iload 6, 2) := by decide +kernel
theorem dL_act_138 : decode cL_act 138 = .ok (.bipush 11, 2) := by decide +kernel
theorem dL_act_140 : decode cL_act 140 = .ok (.if_icmp .le 5, 3) := by decide +kernel
theorem dL_act_143 : decode cL_act 143 = .ok (.iconst 1, 1) := by decide +kernel
theorem dL_act_144 : decode cL_act 144 = .ok (.ireturn, 1) := by decide +kernel
theorem dL_act_145 : decode cL_act 145 = .ok (.aload 4, 2) := by decide +kernel
theorem dL_act_147 : decode cL_act 147 = .ok (.invokevirtual 278, 3) := by decide +kernel
theorem dL_act_150 : decode cL_act 150 = .ok (.astore 10, 2) := by decide +kernel
theorem dL_act_152 : decode cL_act 152 = .ok (.iconst 1, 1) := by decide +kernel
theorem dL_act_153 : decode cL_act 153 = .ok (.istore 11, 2) := by decide +kernel
theorem dL_act_155 : decode cL_act 155 = .ok (.iload 6, 2) := by decide +kernel
theorem dL_act_157 : decode cL_act 157 = .ok (.tableswitch 1085 0 12 #[67, 67, 67, 67, 115, 190, 270, 327, 442, 712, 712, 834, 887], 67) := by decide +kernel
theorem dL_act_224 : decode cL_act 224 = .ok (.iconst 1, 1) := by decide +kernel
theorem dL_act_225 : decode cL_act 225 = .ok (.iload 5, 2) := by decide +kernel
theorem dL_act_227 : decode cL_act 227 = .ok (.bipush 12, 2) := by decide +kernel
theorem dL_act_229 : decode cL_act 229 = .ok (.irem, 1) := by decide +kernel
theorem dL_act_230 : decode cL_act 230 = .ok (.iadd, 1) := by decide +kernel
theorem dL_act_231 : decode cL_act 231 = .ok (.istore 14, 2) := by decide +kernel
theorem dL_act_233 : decode cL_act 233 = .ok (.iconst 0, 1) := by decide +kernel
theorem dL_act_234 : decode cL_act 234 = .ok (.istore 15, 2) := by decide +kernel
theorem dL_act_236 : decode cL_act 236 = .ok (.iload 15, 2) := by decide +kernel
theorem dL_act_238 : decode cL_act 238 = .ok (.iload 14, 2) := by decide +kernel
theorem dL_act_240 : decode cL_act 240 = .ok (.if_icmp .ge 14, 3) := by decide +kernel
theorem dL_act_243 : decode cL_act 243 = .ok (.aload 4, 2) := by decide +kernel
theorem dL_act_245 : decode cL_act 245 = .ok (.invokevirtual 282, 3) := by decide +kernel
theorem dL_act_248 : decode cL_act 248 = .ok (.iinc 15 1, 3) := by decide +kernel
theorem dL_act_251 : decode cL_act 251 = .ok (.goto (-15), 3) := by decide +kernel
theorem dL_act_254 : decode cL_act 254 = .ok (.aload 4, 2) := by decide +kernel
theorem dL_act_256 : decode cL_act 256 = .ok (.getfield 269, 3) := by decide +kernel
theorem dL_act_259 : decode cL_act 259 = .ok (.istore 12, 2) := by decide +kernel
theorem dL_act_261 : decode cL_act 261 = .ok (.aload_n 0, 1) := by decide +kernel
theorem dL_act_262 : decode cL_act 262 = .ok (.iload 14, 2) := by decide +kernel
theorem dL_act_264 : decode cL_act 264 = .ok (.invokevirtual 285, 3) := by decide +kernel
theorem dL_act_267 : decode cL_act 267 = .ok (.istore 13, 2) := by decide +kernel
theorem dL_act_269 : decode cL_act 269 = .ok (.goto 1058, 3) := by decide +kernel
theorem dL_act_272 : decode cL_act 272 = .ok (.aload 4, 2) := by decide +kernel
theorem dL_act_274 : decode cL_act 274 = .ok (.getfield 81, 3) := by decide +kernel
theorem dL_act_277 : decode cL_act 277 = .ok (.iload 5, 2) := by decide +kernel
theorem dL_act_279 : decode cL_act 279 = .ok (.iload 7, 2) := by decide +kernel
theorem dL_act_281 : decode cL_act 281 = .ok (.irem, 1) := by decide +kernel
theorem dL_act_282 : decode cL_act 282 = .ok (.invokevirtual 130, 3) := by decide +kernel
theorem dL_act_285 : decode cL_act 285 = .ok (.checkcast 76, 3) := by decide +kernel
theorem dL_act_288 : decode cL_act 288 = .ok (.astore 14, 2) := by decide +kernel
theorem dL_act_290 : decode cL_act 290 = .ok (.iconst 1, 1) := by decide +kernel
theorem dL_act_291 : decode cL_act 291 = .ok (.iload 5, 2) := by decide +kernel
theorem dL_act_293 : decode cL_act 293 = .ok (.bipush 8, 2) := by decide +kernel
theorem dL_act_295 : decode cL_act 295 = .ok (.idiv, 1) := by decide +kernel
theorem dL_act_296 : decode cL_act 296 = .ok (.bipush 120, 2) := by decide +kernel
theorem dL_act_298 : decode cL_act 298 = .ok (.irem, 1) := by decide +kernel
theorem dL_act_299 : decode cL_act 299 = .ok (.iadd, 1) := by decide +kernel
theorem dL_act_300 : decode cL_act 300 = .ok (.istore 15, 2) := by decide +kernel
theorem dL_act_302 : decode cL_act 302 = .ok (.aload 4, 2) := by decide +kernel
theorem dL_act_304 : decode cL_act 304 = .ok (.dup, 1) := by decide +kernel
theorem dL_act_305 : decode cL_act 305 = .ok (.getfield 84, 3) := by decide +kernel
theorem dL_act_308 : decode cL_act 308 = .ok (.iload 15, 2) := by decide +kernel
theorem dL_act_310 : decode cL_act 310 = .ok (.i2l, 1) := by decide +kernel
theorem dL_act_311 : decode cL_act 311 = .ok (.ladd, 1) := by decide +kernel
theorem dL_act_312 : decode cL_act 312 = .ok (.putfield 84, 3) := by decide +kernel
theorem dL_act_315 : decode cL_act 315 = .ok (.aload 4, 2) := by decide +kernel
theorem dL_act_317 : decode cL_act 317 = .ok (.aload 14, 2) := by decide +kernel
theorem dL_act_319 : decode cL_act 319 = .ok (.iload 15, 2) := by decide +kernel
theorem dL_act_321 : decode cL_act 321 = .ok (.invokevirtual 288, 3) := by decide +kernel
theorem dL_act_324 : decode cL_act 324 = .ok (.aload 14, 2) := by decide +kernel
theorem dL_act_326 : decode cL_act 326 = .ok (.getfield 88, 3) := by decide +kernel
theorem dL_act_329 : decode cL_act 329 = .ok (.istore 12, 2) := by decide +kernel
theorem dL_act_331 : decode cL_act 331 = .ok (.aload_n 0, 1) := by decide +kernel
theorem dL_act_332 : decode cL_act 332 = .ok (.iload 5, 2) := by decide +kernel
theorem dL_act_334 : decode cL_act 334 = .ok (.iload 7, 2) := by decide +kernel
theorem dL_act_336 : decode cL_act 336 = .ok (.irem, 1) := by decide +kernel
theorem dL_act_337 : decode cL_act 337 = .ok (.iload 15, 2) := by decide +kernel
theorem dL_act_339 : decode cL_act 339 = .ok (.invokevirtual 292, 3) := by decide +kernel
theorem dL_act_342 : decode cL_act 342 = .ok (.istore 13, 2) := by decide +kernel
theorem dL_act_344 : decode cL_act 344 = .ok (.goto 983, 3) := by decide +kernel
theorem dL_act_347 : decode cL_act 347 = .ok (.aload 4, 2) := by decide +kernel
theorem dL_act_349 : decode cL_act 349 = .ok (.getfield 81, 3) := by decide +kernel
theorem dL_act_352 : decode cL_act 352 = .ok (.iload 5, 2) := by decide +kernel
theorem dL_act_354 : decode cL_act 354 = .ok (.iload 7, 2) := by decide +kernel
theorem dL_act_356 : decode cL_act 356 = .ok (.irem, 1) := by decide +kernel
theorem dL_act_357 : decode cL_act 357 = .ok (.invokevirtual 130, 3) := by decide +kernel
theorem dL_act_360 : decode cL_act 360 = .ok (.checkcast 76, 3) := by decide +kernel
theorem dL_act_363 : decode cL_act 363 = .ok (.astore 14, 2) := by decide +kernel
theorem dL_act_365 : decode cL_act 365 = .ok (.iconst 1, 1) := by decide +kernel
theorem dL_act_366 : decode cL_act 366 = .ok (.iload 5, 2) := by decide +kernel
theorem dL_act_368 : decode cL_act 368 = .ok (.bipush 8, 2) := by decide +kernel
theorem dL_act_370 : decode cL_act 370 = .ok (.idiv, 1) := by decide +kernel
theorem dL_act_371 : decode cL_act 371 = .ok (.bipush 120, 2) := by decide +kernel
theorem dL_act_373 : decode cL_act 373 = .ok (.irem, 1) := by decide +kernel
theorem dL_act_374 : decode cL_act 374 = .ok (.iadd, 1) := by decide +kernel
theorem dL_act_375 : decode cL_act 375 = .ok (.istore 15, 2) := by decide +kernel
theorem dL_act_377 : decode cL_act 377 = .ok (.iload 15, 2) := by decide +kernel
theorem dL_act_379 : decode cL_act 379 = .ok (.aload 14, 2) := by decide +kernel
theorem dL_act_381 : decode cL_act 381 = .ok (.getfield 88, 3) := by decide +kernel
theorem dL_act_384 : decode cL_act 384 = .ok (.invokestatic 294, 3) := by decide +kernel
theorem dL_act_387 : decode cL_act 387 = .ok (.istore 12, 2) := by decide +kernel
theorem dL_act_389 : decode cL_act 389 = .ok (.aload 4, 2) := by decide +kernel
theorem dL_act_391 : decode cL_act 391 = .ok (.dup, 1) := by decide +kernel
theorem dL_act_392 : decode cL_act 392 = .ok (.getfield 253, 3) := by decide +kernel
theorem dL_act_395 : decode cL_act 395 = .ok (.iload 12, 2) := by decide +kernel
theorem dL_act_397 : decode cL_act 397 = .ok (.i2l, 1) := by decide +kernel
theorem dL_act_398 : decode cL_act 398 = .ok (.ladd, 1) := by decide +kernel
theorem dL_act_399 : decode cL_act 399 = .ok (.putfield 253, 3) := by decide +kernel
theorem dL_act_402 : decode cL_act 402 = .ok (.aload 4, 2) := by decide +kernel
theorem dL_act_404 : decode cL_act 404 = .ok (.aload 14, 2) := by decide +kernel
theorem dL_act_406 : decode cL_act 406 = .ok (.iload 12, 2) := by decide +kernel
theorem dL_act_408 : decode cL_act 408 = .ok (.invokevirtual 299, 3) := by decide +kernel
theorem dL_act_411 : decode cL_act 411 = .ok (.aload_n 0, 1) := by decide +kernel
theorem dL_act_412 : decode cL_act 412 = .ok (.iload 5, 2) := by decide +kernel
theorem dL_act_414 : decode cL_act 414 = .ok (.iload 7, 2) := by decide +kernel
theorem dL_act_416 : decode cL_act 416 = .ok (.irem, 1) := by decide +kernel
theorem dL_act_417 : decode cL_act 417 = .ok (.iload 15, 2) := by decide +kernel
theorem dL_act_419 : decode cL_act 419 = .ok (.invokevirtual 302, 3) := by decide +kernel
theorem dL_act_422 : decode cL_act 422 = .ok (.istore 13, 2) := by decide +kernel
theorem dL_act_424 : decode cL_act 424 = .ok (.goto 903, 3) := by decide +kernel
theorem dL_act_427 : decode cL_act 427 = .ok (.aload 4, 2) := by decide +kernel
theorem dL_act_429 : decode cL_act 429 = .ok (.getfield 81, 3) := by decide +kernel
theorem dL_act_432 : decode cL_act 432 = .ok (.iload 5, 2) := by decide +kernel
theorem dL_act_434 : decode cL_act 434 = .ok (.iload 7, 2) := by decide +kernel
theorem dL_act_436 : decode cL_act 436 = .ok (.irem, 1) := by decide +kernel
theorem dL_act_437 : decode cL_act 437 = .ok (.invokevirtual 130, 3) := by decide +kernel
theorem dL_act_440 : decode cL_act 440 = .ok (.checkcast 76, 3) := by decide +kernel
theorem dL_act_443 : decode cL_act 443 = .ok (.astore 14, 2) := by decide +kernel
theorem dL_act_445 : decode cL_act 445 = .ok (.aload 14, 2) := by decide +kernel
theorem dL_act_447 : decode cL_act 447 = .ok (.getfield 204, 3) := by decide +kernel
theorem dL_act_450 : decode cL_act 450 = .ok (.istore 12, 2) := by decide +kernel
theorem dL_act_452 : decode cL_act 452 = .ok (.aload 14, 2) := by decide +kernel
theorem dL_act_454 : decode cL_act 454 = .ok (.iload 5, 2) := by decide +kernel
theorem dL_act_456 : decode cL_act 456 = .ok (.bipush 8, 2) := by decide +kernel
theorem dL_act_458 : decode cL_act 458 = .ok (.idiv, 1) := by decide +kernel
theorem dL_act_459 : decode cL_act 459 = .ok (.bipush 90, 2) := by decide +kernel
theorem dL_act_461 : decode cL_act 461 = .ok (.irem, 1) := by decide +kernel
theorem dL_act_462 : decode cL_act 462 = .ok (.putfield 204, 3) := by decide +kernel
theorem dL_act_465 : decode cL_act 465 = .ok (.aload_n 0, 1) := by decide +kernel
theorem dL_act_466 : decode cL_act 466 = .ok (.iload 5, 2) := by decide +kernel
theorem dL_act_468 : decode cL_act 468 = .ok (.iload 7, 2) := by decide +kernel
theorem dL_act_470 : decode cL_act 470 = .ok (.irem, 1) := by decide +kernel
theorem dL_act_471 : decode cL_act 471 = .ok (.aload 14, 2) := by decide +kernel
theorem dL_act_473 : decode cL_act 473 = .ok (.getfield 204, 3) := by decide +kernel
theorem dL_act_476 : decode cL_act 476 = .ok (.invokevirtual 305, 3) := by decide +kernel
theorem dL_act_479 : decode cL_act 479 = .ok (.istore 13, 2) := by decide +kernel
theorem dL_act_481 : decode cL_act 481 = .ok (.goto 846, 3) := by decide +kernel
theorem dL_act_484 : decode cL_act 484 = .ok (.iload 5, 2) := by decide +kernel
theorem dL_act_486 : decode cL_act 486 = .ok (.bipush 8, 2) := by decide +kernel
theorem dL_act_488 : decode cL_act 488 = .ok (.idiv, 1) := by decide +kernel
theorem dL_act_489 : decode cL_act 489 = .ok (.iload 7, 2) := by decide +kernel
theorem dL_act_491 : decode cL_act 491 = .ok (.irem, 1) := by decide +kernel
theorem dL_act_492 : decode cL_act 492 = .ok (.istore 14, 2) := by decide +kernel
theorem dL_act_494 : decode cL_act 494 = .ok (.aload 4, 2) := by decide +kernel
theorem dL_act_496 : decode cL_act 496 = .ok (.iload 5, 2) := by decide +kernel
theorem dL_act_498 : decode cL_act 498 = .ok (.iload 7, 2) := by decide +kernel
theorem dL_act_500 : decode cL_act 500 = .ok (.irem, 1) := by decide +kernel
theorem dL_act_501 : decode cL_act 501 = .ok (.iload 14, 2) := by decide +kernel
theorem dL_act_503 : decode cL_act 503 = .ok (.invokevirtual 308, 3) := by decide +kernel
theorem dL_act_506 : decode cL_act 506 = .ok (.astore 15, 2) := by decide +kernel
theorem dL_act_508 : decode cL_act 508 = .ok (.iload 5, 2) := by decide +kernel
theorem dL_act_510 : decode cL_act 510 = .ok (.bipush 64, 2) := by decide +kernel
theorem dL_act_512 : decode cL_act 512 = .ok (.idiv, 1) := by decide +kernel
theorem dL_act_513 : decode cL_act 513 = .ok (.sipush 400, 3) := by decide +kernel
theorem dL_act_516 : decode cL_act 516 = .ok (.irem, 1) := by decide +kernel
theorem dL_act_517 : decode cL_act 517 = .ok (.istore 16, 2) := by decide +kernel
theorem dL_act_519 : decode cL_act 519 = .ok (.iconst 1, 1) := by decide +kernel
theorem dL_act_520 : decode cL_act 520 = .ok (.iload 5, 2) := by decide +kernel
theorem dL_act_522 : decode cL_act 522 = .ok (.ldc_w 311, 3) := by decide +kernel
theorem dL_act_525 : decode cL_act 525 = .ok (.idiv, 1) := by decide +kernel
theorem dL_act_526 : decode cL_act 526 = .ok (.bipush 60, 2) := by decide +kernel
theorem dL_act_528 : decode cL_act 528 = .ok (.irem, 1) := by decide +kernel
theorem dL_act_529 : decode cL_act 529 = .ok (.iadd, 1) := by decide +kernel
theorem dL_act_530 : decode cL_act 530 = .ok (.istore 17, 2) := by decide +kernel
theorem dL_act_532 : decode cL_act 532 = .ok (.aload 15, 2) := by decide +kernel
theorem dL_act_534 : decode cL_act 534 = .ok (.ifnull 7, 3) := by decide +kernel
theorem dL_act_537 : decode cL_act 537 = .ok (.iconst 1, 1) := by decide +kernel
theorem dL_act_538 : decode cL_act 538 = .ok (.goto 4, 3) := by decide +kernel
theorem dL_act_541 : decode cL_act 541 = .ok (.iconst 0, 1) := by decide +kernel
theorem dL_act_542 : decode cL_act 542 = .ok (.istore 11, 2) := by decide +kernel
theorem dL_act_544 : decode cL_act 544 = .ok (.iload 11, 2) := by decide +kernel
theorem dL_act_546 : decode cL_act 546 = .ok (.ifCond .eq 11, 3) := by decide +kernel
theorem dL_act_549 : decode cL_act 549 = .ok (.aload 15, 2) := by decide +kernel
theorem dL_act_551 : decode cL_act 551 = .ok (.getfield 111, 3) := by decide +kernel
theorem dL_act_554 : decode cL_act 554 = .ok (.goto 4, 3) := by decide +kernel
theorem dL_act_557 : decode cL_act 557 = .ok (.iconst (-1), 1) := by decide +kernel
theorem dL_act_558 : decode cL_act 558 = .ok (.istore 12, 2) := by decide +kernel
theorem dL_act_560 : decode cL_act 560 = .ok (.iload 11, 2) := by decide +kernel
theorem dL_act_562 : decode cL_act 562 = .ok (.ifCond .eq 17, 3) := by decide +kernel
theorem dL_act_565 : decode cL_act 565 = .ok (.aload 15, 2) := by decide +kernel
theorem dL_act_567 : decode cL_act 567 = .ok (.iload 16, 2) := by decide +kernel
theorem dL_act_569 : decode cL_act 569 = .ok (.putfield 111, 3) := by decide +kernel
theorem dL_act_572 : decode cL_act 572 = .ok (.aload 15, 2) := by decide +kernel
theorem dL_act_574 : decode cL_act 574 = .ok (.iload 17, 2) := by decide +kernel
theorem dL_act_576 : decode cL_act 576 = .ok (.putfield 114, 3) := by decide +kernel
theorem dL_act_579 : decode cL_act 579 = .ok (.aload_n 0, 1) := by decide +kernel
theorem dL_act_580 : decode cL_act 580 = .ok (.iload 5, 2) := by decide +kernel
theorem dL_act_582 : decode cL_act 582 = .ok (.iload 7, 2) := by decide +kernel
theorem dL_act_584 : decode cL_act 584 = .ok (.irem, 1) := by decide +kernel
theorem dL_act_585 : decode cL_act 585 = .ok (.iload 14, 2) := by decide +kernel
theorem dL_act_587 : decode cL_act 587 = .ok (.iload 16, 2) := by decide +kernel
theorem dL_act_589 : decode cL_act 589 = .ok (.iload 17, 2) := by decide +kernel
theorem dL_act_591 : decode cL_act 591 = .ok (.invokevirtual 312, 3) := by decide +kernel
theorem dL_act_594 : decode cL_act 594 = .ok (.istore 13, 2) := by decide +kernel
theorem dL_act_596 : decode cL_act 596 = .ok (.goto 731, 3) := by decide +kernel
theorem dL_act_599 : decode cL_act 599 = .ok (.iload 5, 2) := by decide +kernel
theorem dL_act_601 : decode cL_act 601 = .ok (.iconst 3, 1) := by decide +kernel
theorem dL_act_602 : decode cL_act 602 = .ok (.irem, 1) := by decide +kernel
theorem dL_act_603 : decode cL_act 603 = .ok (.ifCond .ne 105, 3) := by decide +kernel
theorem dL_act_606 : decode cL_act 606 = .ok (.aload 4, 2) := by decide +kernel
theorem dL_act_608 : decode cL_act 608 = .ok (.getfield 124, 3) := by decide +kernel
theorem dL_act_611 : decode cL_act 611 = .ok (.invokevirtual 69, 3) := by decide +kernel
theorem dL_act_614 : decode cL_act 614 = .ok (.ifCond .ne 94, 3) := by decide +kernel
theorem dL_act_617 : decode cL_act 617 = .ok (.iload 5, 2) := by decide +kernel
theorem dL_act_619 : decode cL_act 619 = .ok (.iconst 4, 1) := by decide +kernel
theorem dL_act_620 : decode cL_act 620 = .ok (.idiv, 1) := by decide +kernel
theorem dL_act_621 : decode cL_act 621 = .ok (.aload 4, 2) := by decide +kernel
theorem dL_act_623 : decode cL_act 623 = .ok (.getfield 124, 3) := by decide +kernel
theorem dL_act_626 : decode cL_act 626 = .ok (.invokevirtual 73, 3) := by decide +kernel
theorem dL_act_629 : decode cL_act 629 = .ok (.irem, 1) := by decide +kernel
theorem dL_act_630 : decode cL_act 630 = .ok (.istore 14, 2) := by decide +kernel
theorem dL_act_632 : decode cL_act 632 = .ok (.aload 4, 2) := by decide +kernel
theorem dL_act_634 : decode cL_act 634 = .ok (.getfield 124, 3) := by decide +kernel
theorem dL_act_637 : decode cL_act 637 = .ok (.iload 14, 2) := by decide +kernel
theorem dL_act_639 : decode cL_act 639 = .ok (.invokevirtual 130, 3) := by decide +kernel
theorem dL_act_642 : decode cL_act 642 = .ok (.checkcast 233, 3) := by decide +kernel
theorem dL_act_645 : decode cL_act 645 = .ok (.iconst 3, 1) := by decide +kernel
theorem dL_act_646 : decode cL_act 646 = .ok (.iaload, 1) := by decide +kernel
theorem dL_act_647 : decode cL_act 647 = .ok (.ifCond .ne 7, 3) := by decide +kernel
theorem dL_act_650 : decode cL_act 650 = .ok (.iconst 1, 1) := by decide +kernel
theorem dL_act_651 : decode cL_act 651 = .ok (.goto 4, 3) := by decide +kernel
theorem dL_act_654 : decode cL_act 654 = .ok (.iconst 0, 1) := by decide +kernel
theorem dL_act_655 : decode cL_act 655 = .ok (.istore 11, 2) := by decide +kernel
theorem dL_act_657 : decode cL_act 657 = .ok (.iload 11, 2) := by decide +kernel
theorem dL_act_659 : decode cL_act 659 = .ok (.ifCond .eq 18, 3) := by decide +kernel
theorem dL_act_662 : decode cL_act 662 = .ok (.aload 4, 2) := by decide +kernel
theorem dL_act_664 : decode cL_act 664 = .ok (.getfield 124, 3) := by decide +kernel
theorem dL_act_667 : decode cL_act 667 = .ok (.iload 14, 2) := by decide +kernel
theorem dL_act_669 : decode cL_act 669 = .ok (.invokevirtual 272, 3) := by decide +kernel
theorem dL_act_672 : decode cL_act 672 = .ok (.checkcast 233, 3) := by decide +kernel
theorem dL_act_675 : decode cL_act 675 = .ok (.astore 15, 2) := by decide +kernel
theorem dL_act_677 : decode cL_act 677 = .ok (.iload 11, 2) := by decide +kernel
theorem dL_act_679 : decode cL_act 679 = .ok (.ifCond .eq 14, 3) := by decide +kernel
theorem dL_act_682 : decode cL_act 682 = .ok (.aload 4, 2) := by decide +kernel
theorem dL_act_684 : decode cL_act 684 = .ok (.getfield 124, 3) := by decide +kernel
theorem dL_act_687 : decode cL_act 687 = .ok (.invokevirtual 73, 3) := by decide +kernel
theorem dL_act_690 : decode cL_act 690 = .ok (.goto 5, 3) := by decide +kernel
theorem dL_act_693 : decode cL_act 693 = .ok (.bipush (-3), 2) := by decide +kernel
theorem dL_act_695 : decode cL_act 695 = .ok (.istore 12, 2) := by decide +kernel
theorem dL_act_697 : decode cL_act 697 = .ok (.aload_n 0, 1) := by decide +kernel
theorem dL_act_698 : decode cL_act 698 = .ok (.iload 14, 2) := by decide +kernel
theorem dL_act_700 : decode cL_act 700 = .ok (.invokevirtual 316, 3) := by decide +kernel
theorem dL_act_703 : decode cL_act 703 = .ok (.istore 13, 2) := by decide +kernel
theorem dL_act_705 : decode cL_act 705 = .ok (.goto 622, 3) := by decide +kernel
theorem dL_act_708 : decode cL_act 708 = .ok (.iconst 4, 1) := by decide +kernel
theorem dL_act_709 : decode cL_act 709 = .ok (.newarray .int, 2) := by decide +kernel
theorem dL_act_711 : decode cL_act 711 = .ok (.dup, 1) := by decide +kernel
theorem dL_act_712 : decode cL_act 712 = .ok (.iconst 0, 1) := by decide +kernel
theorem dL_act_713 : decode cL_act 713 = .ok (.iload 5, 2) := by decide +kernel
theorem dL_act_715 : decode cL_act 715 = .ok (.iload 7, 2) := by decide +kernel
theorem dL_act_717 : decode cL_act 717 = .ok (.irem, 1) := by decide +kernel
theorem dL_act_718 : decode cL_act 718 = .ok (.iastore, 1) := by decide +kernel
theorem dL_act_719 : decode cL_act 719 = .ok (.dup, 1) := by decide +kernel
theorem dL_act_720 : decode cL_act 720 = .ok (.iconst 1, 1) := by decide +kernel
theorem dL_act_721 : decode cL_act 721 = .ok (.iconst 0, 1) := by decide +kernel
theorem dL_act_722 : decode cL_act 722 = .ok (.aload 4, 2) := by decide +kernel
theorem dL_act_724 : decode cL_act 724 = .ok (.getfield 269, 3) := by decide +kernel
theorem dL_act_727 : decode cL_act 727 = .ok (.iconst 2, 1) := by decide +kernel
theorem dL_act_728 : decode cL_act 728 = .ok (.isub, 1) := by decide +kernel
theorem dL_act_729 : decode cL_act 729 = .ok (.iload 5, 2) := by decide +kernel
theorem dL_act_731 : decode cL_act 731 = .ok (.bipush 8, 2) := by decide +kernel
theorem dL_act_733 : decode cL_act 733 = .ok (.idiv, 1) := by decide +kernel
theorem dL_act_734 : decode cL_act 734 = .ok (.bipush 40, 2) := by decide +kernel
theorem dL_act_736 : decode cL_act 736 = .ok (.irem, 1) := by decide +kernel
theorem dL_act_737 : decode cL_act 737 = .ok (.iadd, 1) := by decide +kernel
theorem dL_act_738 : decode cL_act 738 = .ok (.invokestatic 319, 3) := by decide +kernel
theorem dL_act_741 : decode cL_act 741 = .ok (.iastore, 1) := by decide +kernel
theorem dL_act_742 : decode cL_act 742 = .ok (.dup, 1) := by decide +kernel
theorem dL_act_743 : decode cL_act 743 = .ok (.iconst 2, 1) := by decide +kernel
theorem dL_act_744 : decode cL_act 744 = .ok (.iconst 1, 1) := by decide +kernel
theorem dL_act_745 : decode cL_act 745 = .ok (.iload 5, 2) := by decide +kernel
theorem dL_act_747 : decode cL_act 747 = .ok (.sipush 512, 3) := by decide +kernel
theorem dL_act_750 : decode cL_act 750 = .ok (.idiv, 1) := by decide +kernel
theorem dL_act_751 : decode cL_act 751 = .ok (.bipush 120, 2) := by decide +kernel
theorem dL_act_753 : decode cL_act 753 = .ok (.irem, 1) := by decide +kernel
theorem dL_act_754 : decode cL_act 754 = .ok (.iadd, 1) := by decide +kernel
theorem dL_act_755 : decode cL_act 755 = .ok (.iastore, 1) := by decide +kernel
theorem dL_act_756 : decode cL_act 756 = .ok (.dup, 1) := by decide +kernel
theorem dL_act_757 : decode cL_act 757 = .ok (.iconst 3, 1) := by decide +kernel
theorem dL_act_758 : decode cL_act 758 = .ok (.iconst 0, 1) := by decide +kernel
theorem dL_act_759 : decode cL_act 759 = .ok (.iastore, 1) := by decide +kernel
theorem dL_act_760 : decode cL_act 760 = .ok (.astore 14, 2) := by decide +kernel
theorem dL_act_762 : decode cL_act 762 = .ok (.aload 4, 2) := by decide +kernel
theorem dL_act_764 : decode cL_act 764 = .ok (.getfield 124, 3) := by decide +kernel
theorem dL_act_767 : decode cL_act 767 = .ok (.invokevirtual 73, 3) := by decide +kernel
theorem dL_act_770 : decode cL_act 770 = .ok (.bipush 16, 2) := by decide +kernel
theorem dL_act_772 : decode cL_act 772 = .ok (.if_icmp .ge 19, 3) := by decide +kernel
theorem dL_act_775 : decode cL_act 775 = .ok (.aload 14, 2) := by decide +kernel
theorem dL_act_777 : decode cL_act 777 = .ok (.iconst 1, 1) := by decide +kernel
theorem dL_act_778 : decode cL_act 778 = .ok (.iaload, 1) := by decide +kernel
theorem dL_act_779 : decode cL_act 779 = .ok (.aload 4, 2) := by decide +kernel
theorem dL_act_781 : decode cL_act 781 = .ok (.getfield 269, 3) := by decide +kernel
theorem dL_act_784 : decode cL_act 784 = .ok (.if_icmp .lt 7, 3) := by decide +kernel
theorem dL_act_787 : decode cL_act 787 = .ok (.iconst 1, 1) := by decide +kernel
theorem dL_act_788 : decode cL_act 788 = .ok (.goto 4, 3) := by decide +kernel
theorem dL_act_791 : decode cL_act 791 = .ok (.iconst 0, 1) := by decide +kernel
theorem dL_act_792 : decode cL_act 792 = .ok (.istore 11, 2) := by decide +kernel
theorem dL_act_794 : decode cL_act 794 = .ok (.aload 4, 2) := by decide +kernel
theorem dL_act_796 : decode cL_act 796 = .ok (.getfield 124, 3) := by decide +kernel
theorem dL_act_799 : decode cL_act 799 = .ok (.invokevirtual 73, 3) := by decide +kernel
theorem dL_act_802 : decode cL_act 802 = .ok (.bipush 16, 2) := by decide +kernel
theorem dL_act_804 : decode cL_act 804 = .ok (.if_icmp .ne 8, 3) := by decide +kernel
theorem dL_act_807 : decode cL_act 807 = .ok (.bipush (-2), 2) := by decide +kernel
theorem dL_act_809 : decode cL_act 809 = .ok (.goto 21, 3) := by decide +kernel
theorem dL_act_812 : decode cL_act 812 = .ok (.iload 11, 2) := by decide +kernel
theorem dL_act_814 : decode cL_act 814 = .ok (.ifCond .eq 14, 3) := by decide +kernel
theorem dL_act_817 : decode cL_act 817 = .ok (.aload 4, 2) := by decide +kernel
theorem dL_act_819 : decode cL_act 819 = .ok (.getfield 124, 3) := by decide +kernel
theorem dL_act_822 : decode cL_act 822 = .ok (.invokevirtual 73, 3) := by decide +kernel
theorem dL_act_825 : decode cL_act 825 = .ok (.goto 5, 3) := by decide +kernel
theorem dL_act_828 : decode cL_act 828 = .ok (.bipush (-4), 2) := by decide +kernel
theorem dL_act_830 : decode cL_act 830 = .ok (.istore 12, 2) := by decide +kernel
theorem dL_act_832 : decode cL_act 832 = .ok (.iload 11, 2) := by decide +kernel
theorem dL_act_834 : decode cL_act 834 = .ok (.ifCond .eq 14, 3) := by decide +kernel
theorem dL_act_837 : decode cL_act 837 = .ok (.aload 4, 2) := by decide +kernel
theorem dL_act_839 : decode cL_act 839 = .ok (.getfield 124, 3) := by decide +kernel
theorem dL_act_842 : decode cL_act 842 = .ok (.aload 14, 2) := by decide +kernel
theorem dL_act_844 : decode cL_act 844 = .ok (.invokevirtual 60, 3) := by decide +kernel
theorem dL_act_847 : decode cL_act 847 = .ok (.pop, 1) := by decide +kernel
theorem dL_act_848 : decode cL_act 848 = .ok (.aload_n 0, 1) := by decide +kernel
theorem dL_act_849 : decode cL_act 849 = .ok (.aload 14, 2) := by decide +kernel
theorem dL_act_851 : decode cL_act 851 = .ok (.iconst 0, 1) := by decide +kernel
theorem dL_act_852 : decode cL_act 852 = .ok (.iaload, 1) := by decide +kernel
theorem dL_act_853 : decode cL_act 853 = .ok (.aload 14, 2) := by decide +kernel
theorem dL_act_855 : decode cL_act 855 = .ok (.iconst 1, 1) := by decide +kernel
theorem dL_act_856 : decode cL_act 856 = .ok (.iaload, 1) := by decide +kernel
theorem dL_act_857 : decode cL_act 857 = .ok (.aload 14, 2) := by decide +kernel
theorem dL_act_859 : decode cL_act 859 = .ok (.iconst 2, 1) := by decide +kernel
theorem dL_act_860 : decode cL_act 860 = .ok (.iaload, 1) := by decide +kernel
theorem dL_act_861 : decode cL_act 861 = .ok (.invokevirtual 322, 3) := by decide +kernel
theorem dL_act_864 : decode cL_act 864 = .ok (.istore 13, 2) := by decide +kernel
theorem dL_act_866 : decode cL_act 866 = .ok (.goto 461, 3) := by decide +kernel
theorem dL_act_869 : decode cL_act 869 = .ok (.iconst 1, 1) := by decide +kernel
theorem dL_act_870 : decode cL_act 870 = .ok (.iload 5, 2) := by decide +kernel
theorem dL_act_872 : decode cL_act 872 = .ok (.bipush 8, 2) := by decide +kernel
theorem dL_act_874 : decode cL_act 874 = .ok (.idiv, 1) := by decide +kernel
theorem dL_act_875 : decode cL_act 875 = .ok (.bipush 80, 2) := by decide +kernel
theorem dL_act_877 : decode cL_act 877 = .ok (.irem, 1) := by decide +kernel
theorem dL_act_878 : decode cL_act 878 = .ok (.iadd, 1) := by decide +kernel
theorem dL_act_879 : decode cL_act 879 = .ok (.istore 14, 2) := by decide +kernel
theorem dL_act_881 : decode cL_act 881 = .ok (.iconst 1, 1) := by decide +kernel
theorem dL_act_882 : decode cL_act 882 = .ok (.iload 5, 2) := by decide +kernel
theorem dL_act_884 : decode cL_act 884 = .ok (.sipush 1024, 3) := by decide +kernel
theorem dL_act_887 : decode cL_act 887 = .ok (.idiv, 1) := by decide +kernel
theorem dL_act_888 : decode cL_act 888 = .ok (.bipush 30, 2) := by decide +kernel
theorem dL_act_890 : decode cL_act 890 = .ok (.irem, 1) := by decide +kernel
theorem dL_act_891 : decode cL_act 891 = .ok (.iadd, 1) := by decide +kernel
theorem dL_act_892 : decode cL_act 892 = .ok (.istore 15, 2) := by decide +kernel
theorem dL_act_894 : decode cL_act 894 = .ok (.aload 4, 2) := by decide +kernel
theorem dL_act_896 : decode cL_act 896 = .ok (.iload 5, 2) := by decide +kernel
theorem dL_act_898 : decode cL_act 898 = .ok (.iload 8, 2) := by decide +kernel
theorem dL_act_900 : decode cL_act 900 = .ok (.irem, 1) := by decide +kernel
theorem dL_act_901 : decode cL_act 901 = .ok (.iload 14, 2) := by decide +kernel
theorem dL_act_903 : decode cL_act 903 = .ok (.invokevirtual 325, 3) := by decide +kernel
theorem dL_act_906 : decode cL_act 906 = .ok (.istore 16, 2) := by decide +kernel
theorem dL_act_908 : decode cL_act 908 = .ok (.iload 16, 2) := by decide +kernel
theorem dL_act_910 : decode cL_act 910 = .ok (.ifCond .ne 7, 3) := by decide +kernel
theorem dL_act_913 : decode cL_act 913 = .ok (.iconst 1, 1) := by decide +kernel
theorem dL_act_914 : decode cL_act 914 = .ok (.goto 4, 3) := by decide +kernel
theorem dL_act_917 : decode cL_act 917 = .ok (.iconst 0, 1) := by decide +kernel
theorem dL_act_918 : decode cL_act 918 = .ok (.istore 11, 2) := by decide +kernel
theorem dL_act_920 : decode cL_act 920 = .ok (.iload 11, 2) := by decide +kernel
theorem dL_act_922 : decode cL_act 922 = .ok (.ifCond .eq 34, 3) := by decide +kernel
theorem dL_act_925 : decode cL_act 925 = .ok (.aload 4, 2) := by decide +kernel
theorem dL_act_927 : decode cL_act 927 = .ok (.getfield 159, 3) := by decide +kernel
theorem dL_act_930 : decode cL_act 930 = .ok (.new 175, 3) := by decide +kernel
theorem dL_act_933 : decode cL_act 933 = .ok (.dup, 1) := by decide +kernel
theorem dL_act_934 : decode cL_act 934 = .ok (.iload 5, 2) := by decide +kernel
theorem dL_act_936 : decode cL_act 936 = .ok (.iload 8, 2) := by decide +kernel
theorem dL_act_938 : decode cL_act 938 = .ok (.irem, 1) := by decide +kernel
theorem dL_act_939 : decode cL_act 939 = .ok (.iload 14, 2) := by decide +kernel
theorem dL_act_941 : decode cL_act 941 = .ok (.aload 4, 2) := by decide +kernel
theorem dL_act_943 : decode cL_act 943 = .ok (.getfield 269, 3) := by decide +kernel
theorem dL_act_946 : decode cL_act 946 = .ok (.iload 15, 2) := by decide +kernel
theorem dL_act_948 : decode cL_act 948 = .ok (.iadd, 1) := by decide +kernel
theorem dL_act_949 : decode cL_act 949 = .ok (.invokespecial 328, 3) := by decide +kernel
theorem dL_act_952 : decode cL_act 952 = .ok (.invokevirtual 60, 3) := by decide +kernel
theorem dL_act_955 : decode cL_act 955 = .ok (.pop, 1) := by decide +kernel
theorem dL_act_956 : decode cL_act 956 = .ok (.iload 11, 2) := by decide +kernel
theorem dL_act_958 : decode cL_act 958 = .ok (.ifCond .eq 8, 3) := by decide +kernel
theorem dL_act_961 : decode cL_act 961 = .ok (.iload 9, 2) := by decide +kernel
theorem dL_act_963 : decode cL_act 963 = .ok (.goto 8, 3) := by decide +kernel
theorem dL_act_966 : decode cL_act 966 = .ok (.bipush (-10), 2) := by decide +kernel
theorem dL_act_968 : decode cL_act 968 = .ok (.iload 16, 2) := by decide +kernel
theorem dL_act_970 : decode cL_act 970 = .ok (.isub, 1) := by decide +kernel
theorem dL_act_971 : decode cL_act 971 = .ok (.istore 12, 2) := by decide +kernel
theorem dL_act_973 : decode cL_act 973 = .ok (.aload_n 0, 1) := by decide +kernel
theorem dL_act_974 : decode cL_act 974 = .ok (.iload 5, 2) := by decide +kernel
theorem dL_act_976 : decode cL_act 976 = .ok (.iload 8, 2) := by decide +kernel
theorem dL_act_978 : decode cL_act 978 = .ok (.irem, 1) := by decide +kernel
theorem dL_act_979 : decode cL_act 979 = .ok (.iload 14, 2) := by decide +kernel
theorem dL_act_981 : decode cL_act 981 = .ok (.iload 15, 2) := by decide +kernel
theorem dL_act_983 : decode cL_act 983 = .ok (.invokevirtual 329, 3) := by decide +kernel
theorem dL_act_986 : decode cL_act 986 = .ok (.istore 13, 2) := by decide +kernel
theorem dL_act_988 : decode cL_act 988 = .ok (.goto 339, 3) := by decide +kernel
theorem dL_act_991 : decode cL_act 991 = .ok (.aload 4, 2) := by decide +kernel
theorem dL_act_993 : decode cL_act 993 = .ok (.getfield 139, 3) := by decide +kernel
theorem dL_act_996 : decode cL_act 996 = .ok (.iload 5, 2) := by decide +kernel
theorem dL_act_998 : decode cL_act 998 = .ok (.iload 8, 2) := by decide +kernel
theorem dL_act_1000 : decode cL_act 1000 = .ok (.irem, 1) := by decide +kernel
theorem dL_act_1001 : decode cL_act 1001 = .ok (.invokevirtual 130, 3) := by decide +kernel
theorem dL_act_1004 : decode cL_act 1004 = .ok (.checkcast 134, 3) := by decide +kernel
theorem dL_act_1007 : decode cL_act 1007 = .ok (.astore 14, 2) := by decide +kernel
theorem dL_act_1009 : decode cL_act 1009 = .ok (.aload 14, 2) := by decide +kernel
theorem dL_act_1011 : decode cL_act 1011 = .ok (.getfield 332, 3) := by decide +kernel
theorem dL_act_1014 : decode cL_act 1014 = .ok (.ifCond .eq 7, 3) := by decide +kernel
theorem dL_act_1017 : decode cL_act 1017 = .ok (.iconst 1, 1) := by decide +kernel
theorem dL_act_1018 : decode cL_act 1018 = .ok (.goto 4, 3) := by decide +kernel
theorem dL_act_1021 : decode cL_act 1021 = .ok (.iconst 0, 1) := by decide +kernel
theorem dL_act_1022 : decode cL_act 1022 = .ok (.istore 12, 2) := by decide +kernel
theorem dL_act_1024 : decode cL_act 1024 = .ok (.aload 14, 2) := by decide +kernel
theorem dL_act_1026 : decode cL_act 1026 = .ok (.iconst 0, 1) := by decide +kernel
theorem dL_act_1027 : decode cL_act 1027 = .ok (.putfield 332, 3) := by decide +kernel
theorem dL_act_1030 : decode cL_act 1030 = .ok (.aload_n 0, 1) := by decide +kernel
theorem dL_act_1031 : decode cL_act 1031 = .ok (.iload 5, 2) := by decide +kernel
theorem dL_act_1033 : decode cL_act 1033 = .ok (.iload 8, 2) := by decide +kernel
theorem dL_act_1035 : decode cL_act 1035 = .ok (.irem, 1) := by decide +kernel
theorem dL_act_1036 : decode cL_act 1036 = .ok (.invokevirtual 336, 3) := by decide +kernel
theorem dL_act_1039 : decode cL_act 1039 = .ok (.istore 13, 2) := by decide +kernel
theorem dL_act_1041 : decode cL_act 1041 = .ok (.goto 286, 3) := by decide +kernel
theorem dL_act_1044 : decode cL_act 1044 = .ok (.iload 5, 2) := by decide +kernel
theorem dL_act_1046 : decode cL_act 1046 = .ok (.iload 9, 2) := by decide +kernel
theorem dL_act_1048 : decode cL_act 1048 = .ok (.irem, 1) := by decide +kernel
theorem dL_act_1049 : decode cL_act 1049 = .ok (.istore 14, 2) := by decide +kernel
theorem dL_act_1051 : decode cL_act 1051 = .ok (.aload 4, 2) := by decide +kernel
theorem dL_act_1053 : decode cL_act 1053 = .ok (.getfield 159, 3) := by decide +kernel
theorem dL_act_1056 : decode cL_act 1056 = .ok (.iload 14, 2) := by decide +kernel
theorem dL_act_1058 : decode cL_act 1058 = .ok (.invokevirtual 130, 3) := by decide +kernel
theorem dL_act_1061 : decode cL_act 1061 = .ok (.checkcast 175, 3) := by decide +kernel
theorem dL_act_1064 : decode cL_act 1064 = .ok (.astore 15, 2) := by decide +kernel
theorem dL_act_1066 : decode cL_act 1066 = .ok (.iload 5, 2) := by decide +kernel
theorem dL_act_1068 : decode cL_act 1068 = .ok (.bipush 32, 2) := by decide +kernel
theorem dL_act_1070 : decode cL_act 1070 = .ok (.idiv, 1) := by decide +kernel
theorem dL_act_1071 : decode cL_act 1071 = .ok (.iconst 3, 1) := by decide +kernel
theorem dL_act_1072 : decode cL_act 1072 = .ok (.irem, 1) := by decide +kernel
theorem dL_act_1073 : decode cL_act 1073 = .ok (.istore 16, 2) := by decide +kernel
theorem dL_act_1075 : decode cL_act 1075 = .ok (.aload 15, 2) := by decide +kernel
theorem dL_act_1077 : decode cL_act 1077 = .ok (.getfield 177, 3) := by decide +kernel
theorem dL_act_1080 : decode cL_act 1080 = .ok (.iconst 3, 1) := by decide +kernel
theorem dL_act_1081 : decode cL_act 1081 = .ok (.if_icmp .ge 7, 3) := by decide +kernel
theorem dL_act_1084 : decode cL_act 1084 = .ok (.iconst 1, 1) := by decide +kernel
theorem dL_act_1085 : decode cL_act 1085 = .ok (.goto 4, 3) := by decide +kernel
theorem dL_act_1088 : decode cL_act 1088 = .ok (.iconst 0, 1) := by decide +kernel
theorem dL_act_1089 : decode cL_act 1089 = .ok (.istore 11, 2) := by decide +kernel
theorem dL_act_1091 : decode cL_act 1091 = .ok (.aload 4, 2) := by decide +kernel
theorem dL_act_1093 : decode cL_act 1093 = .ok (.aload 15, 2) := by decide +kernel
theorem dL_act_1095 : decode cL_act 1095 = .ok (.invokevirtual 243, 3) := by decide +kernel
theorem dL_act_1098 : decode cL_act 1098 = .ok (.istore 17, 2) := by decide +kernel
theorem dL_act_1100 : decode cL_act 1100 = .ok (.iload 11, 2) := by decide +kernel
theorem dL_act_1102 : decode cL_act 1102 = .ok (.ifCond .eq 56, 3) := by decide +kernel
theorem dL_act_1105 : decode cL_act 1105 = .ok (.iload 16, 2) := by decide +kernel
theorem dL_act_1107 : decode cL_act 1107 = .ok (.iconst 2, 1) := by decide +kernel
theorem dL_act_1108 : decode cL_act 1108 = .ok (.if_icmp .ge 50, 3) := by decide +kernel
theorem dL_act_1111 : decode cL_act 1111 = .ok (.aload 15, 2) := by decide +kernel
theorem dL_act_1113 : decode cL_act 1113 = .ok (.aload 15, 2) := by decide +kernel
theorem dL_act_1115 : decode cL_act 1115 = .ok (.getfield 247, 3) := by decide +kernel
theorem dL_act_1118 : decode cL_act 1118 = .ok (.aload 4, 2) := by decide +kernel
theorem dL_act_1120 : decode cL_act 1120 = .ok (.getfield 269, 3) := by decide +kernel
theorem dL_act_1123 : decode cL_act 1123 = .ok (.iload 16, 2) := by decide +kernel
theorem dL_act_1125 : decode cL_act 1125 = .ok (.ifCond .ne 25, 3) := by decide +kernel
theorem dL_act_1128 : decode cL_act 1128 = .ok (.aload 4, 2) := by decide +kernel
theorem dL_act_1130 : decode cL_act 1130 = .ok (.getfield 139, 3) := by decide +kernel
theorem dL_act_1133 : decode cL_act 1133 = .ok (.aload 15, 2) := by decide +kernel
theorem dL_act_1135 : decode cL_act 1135 = .ok (.getfield 180, 3) := by decide +kernel
theorem dL_act_1138 : decode cL_act 1138 = .ok (.invokevirtual 130, 3) := by decide +kernel
theorem dL_act_1141 : decode cL_act 1141 = .ok (.checkcast 134, 3) := by decide +kernel
theorem dL_act_1144 : decode cL_act 1144 = .ok (.getfield 153, 3) := by decide +kernel
theorem dL_act_1147 : decode cL_act 1147 = .ok (.goto 4, 3) := by decide +kernel
theorem dL_act_1150 : decode cL_act 1150 = .ok (.iconst 0, 1) := by decide +kernel
theorem dL_act_1151 : decode cL_act 1151 = .ok (.iadd, 1) := by decide +kernel
theorem dL_act_1152 : decode cL_act 1152 = .ok (.invokestatic 294, 3) := by decide +kernel
theorem dL_act_1155 : decode cL_act 1155 = .ok (.putfield 247, 3) := by decide +kernel
theorem dL_act_1158 : decode cL_act 1158 = .ok (.iload 11, 2) := by decide +kernel
theorem dL_act_1160 : decode cL_act 1160 = .ok (.ifCond .eq 15, 3) := by decide +kernel
theorem dL_act_1163 : decode cL_act 1163 = .ok (.iload 16, 2) := by decide +kernel
theorem dL_act_1165 : decode cL_act 1165 = .ok (.iconst 2, 1) := by decide +kernel
theorem dL_act_1166 : decode cL_act 1166 = .ok (.if_icmp .ne 9, 3) := by decide +kernel
theorem dL_act_1169 : decode cL_act 1169 = .ok (.aload 15, 2) := by decide +kernel
theorem dL_act_1171 : decode cL_act 1171 = .ok (.iconst 5, 1) := by decide +kernel
theorem dL_act_1172 : decode cL_act 1172 = .ok (.putfield 177, 3) := by decide +kernel
theorem dL_act_1175 : decode cL_act 1175 = .ok (.iload 11, 2) := by decide +kernel
theorem dL_act_1177 : decode cL_act 1177 = .ok (.ifCond .ne 8, 3) := by decide +kernel
theorem dL_act_1180 : decode cL_act 1180 = .ok (.bipush (-3), 2) := by decide +kernel
theorem dL_act_1182 : decode cL_act 1182 = .ok (.goto 18, 3) := by decide +kernel
theorem dL_act_1185 : decode cL_act 1185 = .ok (.iload 16, 2) := by decide +kernel
theorem dL_act_1187 : decode cL_act 1187 = .ok (.ifCond .ne 11, 3) := by decide +kernel
theorem dL_act_1190 : decode cL_act 1190 = .ok (.aload 15, 2) := by decide +kernel
theorem dL_act_1192 : decode cL_act 1192 = .ok (.getfield 247, 3) := by decide +kernel
theorem dL_act_1195 : decode cL_act 1195 = .ok (.goto 5, 3) := by decide +kernel
theorem dL_act_1198 : decode cL_act 1198 = .ok (.iload 17, 2) := by decide +kernel
theorem dL_act_1200 : decode cL_act 1200 = .ok (.istore 12, 2) := by decide +kernel
theorem dL_act_1202 : decode cL_act 1202 = .ok (.iload 16, 2) := by decide +kernel
theorem dL_act_1204 : decode cL_act 1204 = .ok (.ifCond .ne 12, 3) := by decide +kernel
theorem dL_act_1207 : decode cL_act 1207 = .ok (.aload_n 0, 1) := by decide +kernel
theorem dL_act_1208 : decode cL_act 1208 = .ok (.iload 14, 2) := by decide +kernel
theorem dL_act_1210 : decode cL_act 1210 = .ok (.invokevirtual 339, 3) := by decide +kernel
theorem dL_act_1213 : decode cL_act 1213 = .ok (.goto 24, 3) := by decide +kernel
theorem dL_act_1216 : decode cL_act 1216 = .ok (.iload 16, 2) := by decide +kernel
theorem dL_act_1218 : decode cL_act 1218 = .ok (.iconst 1, 1) := by decide +kernel
theorem dL_act_1219 : decode cL_act 1219 = .ok (.if_icmp .ne 12, 3) := by decide +kernel
theorem dL_act_1222 : decode cL_act 1222 = .ok (.aload_n 0, 1) := by decide +kernel
theorem dL_act_1223 : decode cL_act 1223 = .ok (.iload 14, 2) := by decide +kernel
theorem dL_act_1225 : decode cL_act 1225 = .ok (.invokevirtual 342, 3) := by decide +kernel
theorem dL_act_1228 : decode cL_act 1228 = .ok (.goto 9, 3) := by decide +kernel
theorem dL_act_1231 : decode cL_act 1231 = .ok (.aload_n 0, 1) := by decide +kernel
theorem dL_act_1232 : decode cL_act 1232 = .ok (.iload 14, 2) := by decide +kernel
theorem dL_act_1234 : decode cL_act 1234 = .ok (.invokevirtual 345, 3) := by decide +kernel
theorem dL_act_1237 : decode cL_act 1237 = .ok (.istore 13, 2) := by decide +kernel
theorem dL_act_1239 : decode cL_act 1239 = .ok (.goto 88, 3) := by decide +kernel
theorem dL_act_1242 : decode cL_act 1242 = .ok (.aload 4, 2) := by decide +kernel
theorem dL_act_1244 : decode cL_act 1244 = .ok (.getfield 159, 3) := by decide +kernel
theorem dL_act_1247 : decode cL_act 1247 = .ok (.iload 5, 2) := by decide +kernel
theorem dL_act_1249 : decode cL_act 1249 = .ok (.iload 9, 2) := by decide +kernel
theorem dL_act_1251 : decode cL_act 1251 = .ok (.irem, 1) := by decide +kernel
theorem dL_act_1252 : decode cL_act 1252 = .ok (.invokevirtual 130, 3) := by decide +kernel
theorem dL_act_1255 : decode cL_act 1255 = .ok (.checkcast 175, 3) := by decide +kernel
theorem dL_act_1258 : decode cL_act 1258 = .ok (.astore 14, 2) := by decide +kernel
theorem dL_act_1260 : decode cL_act 1260 = .ok (.iconst 1, 1) := by decide +kernel
theorem dL_act_1261 : decode cL_act 1261 = .ok (.iload 5, 2) := by decide +kernel
theorem dL_act_1263 : decode cL_act 1263 = .ok (.bipush 32, 2) := by decide +kernel
theorem dL_act_1265 : decode cL_act 1265 = .ok (.idiv, 1) := by decide +kernel
theorem dL_act_1266 : decode cL_act 1266 = .ok (.bipush 60, 2) := by decide +kernel
theorem dL_act_1268 : decode cL_act 1268 = .ok (.irem, 1) := by decide +kernel
theorem dL_act_1269 : decode cL_act 1269 = .ok (.iadd, 1) := by decide +kernel
theorem dL_act_1270 : decode cL_act 1270 = .ok (.istore 15, 2) := by decide +kernel
theorem dL_act_1272 : decode cL_act 1272 = .ok (.iconst 0, 1) := by decide +kernel
theorem dL_act_1273 : decode cL_act 1273 = .ok (.istore 12, 2) := by decide +kernel
theorem dL_act_1275 : decode cL_act 1275 = .ok (.iload 12, 2) := by decide +kernel
theorem dL_act_1277 : decode cL_act 1277 = .ok (.iload 15, 2) := by decide +kernel
theorem dL_act_1279 : decode cL_act 1279 = .ok (.if_icmp .ge 23, 3) := by decide +kernel
theorem dL_act_1282 : decode cL_act 1282 = .ok (.aload 14, 2) := by decide +kernel
theorem dL_act_1284 : decode cL_act 1284 = .ok (.getfield 177, 3) := by decide +kernel
theorem dL_act_1287 : decode cL_act 1287 = .ok (.iconst 3, 1) := by decide +kernel
theorem dL_act_1288 : decode cL_act 1288 = .ok (.if_icmp .ge 14, 3) := by decide +kernel
theorem dL_act_1291 : decode cL_act 1291 = .ok (.aload 4, 2) := by decide +kernel
theorem dL_act_1293 : decode cL_act 1293 = .ok (.invokevirtual 282, 3) := by decide +kernel
theorem dL_act_1296 : decode cL_act 1296 = .ok (.iinc 12 1, 3) := by decide +kernel
theorem dL_act_1299 : decode cL_act 1299 = .ok (.goto (-24), 3) := by decide +kernel
theorem dL_act_1302 : decode cL_act 1302 = .ok (.aload 14, 2) := by decide +kernel
theorem dL_act_1304 : decode cL_act 1304 = .ok (.getfield 177, 3) := by decide +kernel
theorem dL_act_1307 : decode cL_act 1307 = .ok (.iconst 3, 1) := by decide +kernel
theorem dL_act_1308 : decode cL_act 1308 = .ok (.if_icmp .ge 6, 3) := by decide +kernel
theorem dL_act_1311 : decode cL_act 1311 = .ok (.iconst (-1), 1) := by decide +kernel
theorem dL_act_1312 : decode cL_act 1312 = .ok (.istore 12, 2) := by decide +kernel
theorem dL_act_1314 : decode cL_act 1314 = .ok (.aload_n 0, 1) := by decide +kernel
theorem dL_act_1315 : decode cL_act 1315 = .ok (.iload 5, 2) := by decide +kernel
theorem dL_act_1317 : decode cL_act 1317 = .ok (.iload 9, 2) := by decide +kernel
theorem dL_act_1319 : decode cL_act 1319 = .ok (.irem, 1) := by decide +kernel
theorem dL_act_1320 : decode cL_act 1320 = .ok (.iload 15, 2) := by decide +kernel
theorem dL_act_1322 : decode cL_act 1322 = .ok (.invokevirtual 348, 3) := by decide +kernel
theorem dL_act_1325 : decode cL_act 1325 = .ok (.istore 13, 2) := by decide +kernel
theorem dL_act_1327 : decode cL_act 1327 = .ok (.iload 11, 2) := by decide +kernel
theorem dL_act_1329 : decode cL_act 1329 = .ok (.ifCond .eq 10, 3) := by decide +kernel
theorem dL_act_1332 : decode cL_act 1332 = .ok (.aload_n 2, 1) := by decide +kernel
theorem dL_act_1333 : decode cL_act 1333 = .ok (.aload 10, 2) := by decide +kernel
theorem dL_act_1335 : decode cL_act 1335 = .ok (.invokevirtual 60, 3) := by decide +kernel
theorem dL_act_1338 : decode cL_act 1338 = .ok (.pop, 1) := by decide +kernel
theorem dL_act_1339 : decode cL_act 1339 = .ok (.aload_n 2, 1) := by decide +kernel
theorem dL_act_1340 : decode cL_act 1340 = .ok (.invokevirtual 73, 3) := by decide +kernel
theorem dL_act_1343 : decode cL_act 1343 = .ok (.bipush 8, 2) := by decide +kernel
theorem dL_act_1345 : decode cL_act 1345 = .ok (.if_icmp .le 13, 3) := by decide +kernel
theorem dL_act_1348 : decode cL_act 1348 = .ok (.aload_n 2, 1) := by decide +kernel
theorem dL_act_1349 : decode cL_act 1349 = .ok (.iconst 0, 1) := by decide +kernel
theorem dL_act_1350 : decode cL_act 1350 = .ok (.invokevirtual 272, 3) := by decide +kernel
theorem dL_act_1353 : decode cL_act 1353 = .ok (.checkcast 27, 3) := by decide +kernel
theorem dL_act_1356 : decode cL_act 1356 = .ok (.astore 14, 2) := by decide +kernel
theorem dL_act_1358 : decode cL_act 1358 = .ok (.iload 13, 2) := by decide +kernel
theorem dL_act_1360 : decode cL_act 1360 = .ok (.iload 12, 2) := by decide +kernel
theorem dL_act_1362 : decode cL_act 1362 = .ok (.if_icmp .ne 20, 3) := by decide +kernel
theorem dL_act_1365 : decode cL_act 1365 = .ok (.aload_n 0, 1) := by decide +kernel
theorem dL_act_1366 : decode cL_act 1366 = .ok (.bipush 8, 2) := by decide +kernel
theorem dL_act_1368 : decode cL_act 1368 = .ok (.invokevirtual 187, 3) := by decide +kernel
theorem dL_act_1371 : decode cL_act 1371 = .ok (.aload_n 2, 1) := by decide +kernel
theorem dL_act_1372 : decode cL_act 1372 = .ok (.invokevirtual 73, 3) := by decide +kernel
theorem dL_act_1375 : decode cL_act 1375 = .ok (.if_icmp .ne 7, 3) := by decide +kernel
theorem dL_act_1378 : decode cL_act 1378 = .ok (.iconst 1, 1) := by decide +kernel
theorem dL_act_1379 : decode cL_act 1379 = .ok (.goto 4, 3) := by decide +kernel
theorem dL_act_1382 : decode cL_act 1382 = .ok (.iconst 0, 1) := by decide +kernel
theorem dL_act_1383 : decode cL_act 1383 = .ok (.ireturn, 1) := by decide +kernel
theorem dL_isNoPack_0 : decode cL_isNoPack 0 = .ok (.aload_n 0, 1) := by decide +kernel
theorem dL_isNoPack_1 : decode cL_isNoPack 1 = .ok (.iload_n 1, 1) := by decide +kernel
theorem dL_isNoPack_2 : decode cL_isNoPack 2 = .ok (.iload_n 2, 1) := by decide +kernel
theorem dL_isNoPack_3 : decode cL_isNoPack 3 = .ok (.invokevirtual 216, 3) := by decide +kernel
theorem dL_isNoPack_6 : decode cL_isNoPack 6 = .ok (.pop, 1) := by decide +kernel
theorem dL_isNoPack_7 : decode cL_isNoPack 7 = .ok (.goto 19, 3) := by decide +kernel
theorem dL_isNoPack_10 : decode cL_isNoPack 10 = .ok (.astore 4, 2) := by decide +kernel
theorem dL_isNoPack_12 : decode cL_isNoPack 12 = .ok (.iload_n 3, 1) := by decide +kernel
theorem dL_isNoPack_13 : decode cL_isNoPack 13 = .ok (.ireturn, 1) := by decide +kernel
theorem dL_isNoPack_14 : decode cL_isNoPack 14 = .ok (.astore 4, 2) := by decide +kernel
theorem dL_isNoPack_16 : decode cL_isNoPack 16 = .ok (.iload_n 3, 1) := by decide +kernel
theorem dL_isNoPack_17 : decode cL_isNoPack 17 = .ok (.ifCond .ne 7, 3) := by decide +kernel
theorem dL_isNoPack_20 : decode cL_isNoPack 20 = .ok (.iconst 1, 1) := by decide +kernel
theorem dL_isNoPack_21 : decode cL_isNoPack 21 = .ok (.goto 4, 3) := by decide +kernel
theorem dL_isNoPack_24 : decode cL_isNoPack 24 = .ok (.iconst 0, 1) := by decide +kernel
theorem dL_isNoPack_25 : decode cL_isNoPack 25 = .ok (.ireturn, 1) := by decide +kernel
theorem dL_isNoPack_26 : decode cL_isNoPack 26 = .ok (.iconst 0, 1) := by decide +kernel
theorem dL_isNoPack_27 : decode cL_isNoPack 27 = .ok (.ireturn, 1) := by decide +kernel
theorem dL_isNoLoan_0 : decode cL_isNoLoan 0 = .ok (.aload_n 0, 1) := by decide +kernel
theorem dL_isNoLoan_1 : decode cL_isNoLoan 1 = .ok (.iload_n 1, 1) := by decide +kernel
theorem dL_isNoLoan_2 : decode cL_isNoLoan 2 = .ok (.iload_n 2, 1) := by decide +kernel
theorem dL_isNoLoan_3 : decode cL_isNoLoan 3 = .ok (.iload_n 3, 1) := by decide +kernel
theorem dL_isNoLoan_4 : decode cL_isNoLoan 4 = .ok (.invokevirtual 329, 3) := by decide +kernel
theorem dL_isNoLoan_7 : decode cL_isNoLoan 7 = .ok (.pop, 1) := by decide +kernel
theorem dL_isNoLoan_8 : decode cL_isNoLoan 8 = .ok (.goto 21, 3) := by decide +kernel
theorem dL_isNoLoan_11 : decode cL_isNoLoan 11 = .ok (.astore 5, 2) := by decide +kernel
theorem dL_isNoLoan_13 : decode cL_isNoLoan 13 = .ok (.iload 4, 2) := by decide +kernel
theorem dL_isNoLoan_15 : decode cL_isNoLoan 15 = .ok (.ireturn, 1) := by decide +kernel
theorem dL_isNoLoan_16 : decode cL_isNoLoan 16 = .ok (.astore 5, 2) := by decide +kernel
theorem dL_isNoLoan_18 : decode cL_isNoLoan 18 = .ok (.iload 4, 2) := by decide +kernel
theorem dL_isNoLoan_20 : decode cL_isNoLoan 20 = .ok (.ifCond .ne 7, 3) := by decide +kernel
theorem dL_isNoLoan_23 : decode cL_isNoLoan 23 = .ok (.iconst 1, 1) := by decide +kernel
theorem dL_isNoLoan_24 : decode cL_isNoLoan 24 = .ok (.goto 4, 3) := by decide +kernel
theorem dL_isNoLoan_27 : decode cL_isNoLoan 27 = .ok (.iconst 0, 1) := by decide +kernel
theorem dL_isNoLoan_28 : decode cL_isNoLoan 28 = .ok (.ireturn, 1) := by decide +kernel
theorem dL_isNoLoan_29 : decode cL_isNoLoan 29 = .ok (.iconst 0, 1) := by decide +kernel
theorem dL_isNoLoan_30 : decode cL_isNoLoan 30 = .ok (.ireturn, 1) := by decide +kernel
theorem dL_isNoRun_0 : decode cL_isNoRun 0 = .ok (.aload_n 0, 1) := by decide +kernel
theorem dL_isNoRun_1 : decode cL_isNoRun 1 = .ok (.iload_n 1, 1) := by decide +kernel
theorem dL_isNoRun_2 : decode cL_isNoRun 2 = .ok (.invokevirtual 285, 3) := by decide +kernel
theorem dL_isNoRun_5 : decode cL_isNoRun 5 = .ok (.pop, 1) := by decide +kernel
theorem dL_isNoRun_6 : decode cL_isNoRun 6 = .ok (.goto 6, 3) := by decide +kernel
theorem dL_isNoRun_9 : decode cL_isNoRun 9 = .ok (.astore_n 2, 1) := by decide +kernel
theorem dL_isNoRun_10 : decode cL_isNoRun 10 = .ok (.iconst 1, 1) := by decide +kernel
