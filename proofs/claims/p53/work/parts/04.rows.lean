theorem inX7 : ∀ w ∈ wsX70, w ∈ lw_tbl := by decide +kernel
theorem inX8 : ∀ w ∈ wsX80, w ∈ lw_tbl := by decide +kernel
theorem inX9 : ∀ w ∈ wsX90, w ∈ lw_tbl := by decide +kernel
theorem inJx145de : ∀ w ∈ wsJx145de0, w ∈ lw_tbl := by decide +kernel
theorem inJx8e188 : ∀ w ∈ wsJx8e1880, w ∈ lw_tbl := by decide +kernel
theorem inJ6 : ∀ w ∈ wsJ60, w ∈ lw_tbl := by decide +kernel
theorem inJ9 : ∀ w ∈ wsJ90, w ∈ lw_tbl := by decide +kernel
theorem inJ0 : ∀ w ∈ wsJ00, w ∈ lw_tbl := by decide +kernel
theorem inJ10 : ∀ w ∈ wsJ100, w ∈ lw_tbl := by decide +kernel
theorem inJ7 : ∀ w ∈ wsJ70, w ∈ lw_tbl := by decide +kernel
set_option maxRecDepth 20000 in
theorem ggX0_init_J7_fill_53178 : GoodIn wsX0_init wsJ7_fill_53178 := goodIn_r _ [11] (by decide +kernel) (by decide +kernel)
set_option maxRecDepth 20000 in
theorem gX0_init_J7_fill_53178 : GoodIn wsX0_init (va_wsS RX0 18 yJ7_fill_53178 wsJ7_fill_53178) := goodIn_app (goodIn_of _ (by decide +kernel)) ggX0_init_J7_fill_53178
theorem dX0_init_0 : decode cX0_init 0 = .ok (.aload_n 0, 1) := by decide +kernel
theorem dX0_init_1 : decode cX0_init 1 = .ok (.invokespecial 3, 3) := by decide +kernel
theorem dX0_init_4 : decode cX0_init 4 = .ok (.aload_n 0, 1) := by decide +kernel
theorem dX0_init_5 : decode cX0_init 5 = .ok (.sipush 256, 3) := by decide +kernel
theorem dX0_init_8 : decode cX0_init 8 = .ok (.newarray .int, 2) := by decide +kernel
theorem dX0_init_10 : decode cX0_init 10 = .ok (.putfield 9, 3) := by decide +kernel
theorem dX0_init_13 : decode cX0_init 13 = .ok (.aload_n 0, 1) := by decide +kernel
theorem dX0_init_14 : decode cX0_init 14 = .ok (.aload_n 1, 1) := by decide +kernel
theorem dX0_init_15 : decode cX0_init 15 = .ok (.putfield 15, 3) := by decide +kernel
theorem dX0_init_18 : decode cX0_init 18 = .ok (.aload_n 0, 1) := by decide +kernel
theorem dX0_init_19 : decode cX0_init 19 = .ok (.getfield 9, 3) := by decide +kernel
theorem dX0_init_22 : decode cX0_init 22 = .ok (.iconst (-1), 1) := by decide +kernel
theorem dX0_init_23 : decode cX0_init 23 = .ok (.invokestatic 18, 3) := by decide +kernel
theorem dX0_init_26 : decode cX0_init 26 = .ok (.iconst (-1), 1) := by decide +kernel
theorem dX0_init_27 : decode cX0_init 27 = .ok (.istore_n 2, 1) := by decide +kernel
theorem dX0_init_28 : decode cX0_init 28 = .ok (.iconst 0, 1) := by decide +kernel
theorem dX0_init_29 : decode cX0_init 29 = .ok (.istore_n 3, 1) := by decide +kernel
theorem dX0_init_30 : decode cX0_init 30 = .ok (.iload_n 3, 1) := by decide +kernel
theorem dX0_init_31 : decode cX0_init 31 = .ok (.aload_n 1, 1) := by decide +kernel
theorem dX0_init_32 : decode cX0_init 32 = .ok (.arraylength, 1) := by decide +kernel
theorem dX0_init_33 : decode cX0_init 33 = .ok (.if_icmp .ge 62, 3) := by decide +kernel
theorem dX0_init_36 : decode cX0_init 36 = .ok (.aload_n 1, 1) := by decide +kernel
theorem dX0_init_37 : decode cX0_init 37 = .ok (.iload_n 3, 1) := by decide +kernel
theorem dX0_init_38 : decode cX0_init 38 = .ok (.iaload, 1) := by decide +kernel
theorem dX0_init_39 : decode cX0_init 39 = .ok (.sipush 255, 3) := by decide +kernel
theorem dX0_init_42 : decode cX0_init 42 = .ok (.iand, 1) := by decide +kernel
theorem dX0_init_43 : decode cX0_init 43 = .ok (.istore 4, 2) := by decide +kernel
theorem dX0_init_45 : decode cX0_init 45 = .ok (.aload_n 0, 1) := by decide +kernel
theorem dX0_init_46 : decode cX0_init 46 = .ok (.getfield 9, 3) := by decide +kernel
theorem dX0_init_49 : decode cX0_init 49 = .ok (.iload 4, 2) := by decide +kernel
theorem dX0_init_51 : decode cX0_init 51 = .ok (.iload_n 3, 1) := by decide +kernel
theorem dX0_init_52 : decode cX0_init 52 = .ok (.iastore, 1) := by decide +kernel
theorem dX0_init_53 : decode cX0_init 53 = .ok (.iconst 0, 1) := by decide +kernel
theorem dX0_init_54 : decode cX0_init 54 = .ok (.istore 5, 2) := by decide +kernel
theorem dX0_init_56 : decode cX0_init 56 = .ok (.iload 5, 2) := by decide +kernel
theorem dX0_init_58 : decode cX0_init 58 = .ok (.bipush 8, 2) := by decide +kernel
theorem dX0_init_60 : decode cX0_init 60 = .ok (.if_icmp .ge 29, 3) := by decide +kernel
theorem dX0_init_63 : decode cX0_init 63 = .ok (.iload 4, 2) := by decide +kernel
theorem dX0_init_65 : decode cX0_init 65 = .ok (.iload 5, 2) := by decide +kernel
theorem dX0_init_67 : decode cX0_init 67 = .ok (.ishr, 1) := by decide +kernel
theorem dX0_init_68 : decode cX0_init 68 = .ok (.iconst 1, 1) := by decide +kernel
theorem dX0_init_69 : decode cX0_init 69 = .ok (.iand, 1) := by decide +kernel
theorem dX0_init_70 : decode cX0_init 70 = .ok (.iconst 1, 1) := by decide +kernel
theorem dX0_init_71 : decode cX0_init 71 = .ok (.if_icmp .ne 12, 3) := by decide +kernel
theorem dX0_init_74 : decode cX0_init 74 = .ok (.iload 5, 2) := by decide +kernel
theorem dX0_init_76 : decode cX0_init 76 = .ok (.iload_n 2, 1) := by decide +kernel
theorem dX0_init_77 : decode cX0_init 77 = .ok (.if_icmp .le 6, 3) := by decide +kernel
theorem dX0_init_80 : decode cX0_init 80 = .ok (.iload 5, 2) := by decide +kernel
theorem dX0_init_82 : decode cX0_init 82 = .ok (.istore_n 2, 1) := by decide +kernel
theorem dX0_init_83 : decode cX0_init 83 = .ok (.iinc 5 1, 3) := by decide +kernel
theorem dX0_init_86 : decode cX0_init 86 = .ok (.goto (-30), 3) := by decide +kernel
theorem dX0_init_89 : decode cX0_init 89 = .ok (.iinc 3 1, 3) := by decide +kernel
theorem dX0_init_92 : decode cX0_init 92 = .ok (.goto (-62), 3) := by decide +kernel
theorem dX0_init_95 : decode cX0_init 95 = .ok (.aload_n 0, 1) := by decide +kernel
theorem dX0_init_96 : decode cX0_init 96 = .ok (.iload_n 2, 1) := by decide +kernel
theorem dX0_init_97 : decode cX0_init 97 = .ok (.iconst 1, 1) := by decide +kernel
theorem dX0_init_98 : decode cX0_init 98 = .ok (.iadd, 1) := by decide +kernel
theorem dX0_init_99 : decode cX0_init 99 = .ok (.putfield 24, 3) := by decide +kernel
theorem dX0_init_102 : decode cX0_init 102 = .ok (.return_, 1) := by decide +kernel
theorem dX0_hasPlace_0 : decode cX0_hasPlace 0 = .ok (.iload_n 1, 1) := by decide +kernel
theorem dX0_hasPlace_1 : decode cX0_hasPlace 1 = .ok (.ifCond .lt 16, 3) := by decide +kernel
theorem dX0_hasPlace_4 : decode cX0_hasPlace 4 = .ok (.iload_n 1, 1) := by decide +kernel
theorem dX0_hasPlace_5 : decode cX0_hasPlace 5 = .ok (.aload_n 0, 1) := by decide +kernel
theorem dX0_hasPlace_6 : decode cX0_hasPlace 6 = .ok (.getfield 15, 3) := by decide +kernel
theorem dX0_hasPlace_9 : decode cX0_hasPlace 9 = .ok (.arraylength, 1) := by decide +kernel
theorem dX0_hasPlace_10 : decode cX0_hasPlace 10 = .ok (.if_icmp .ge 7, 3) := by decide +kernel
theorem dX0_hasPlace_13 : decode cX0_hasPlace 13 = .ok (.iconst 1, 1) := by decide +kernel
theorem dX0_hasPlace_14 : decode cX0_hasPlace 14 = .ok (.goto 4, 3) := by decide +kernel
theorem dX0_hasPlace_17 : decode cX0_hasPlace 17 = .ok (.iconst 0, 1) := by decide +kernel
theorem dX0_hasPlace_18 : decode cX0_hasPlace 18 = .ok (.ireturn, 1) := by decide +kernel
theorem dX0_hasTrack_0 : decode cX0_hasTrack 0 = .ok (.iload_n 1, 1) := by decide +kernel
theorem dX0_hasTrack_1 : decode cX0_hasTrack 1 = .ok (.ifCond .lt 15, 3) := by decide +kernel
theorem dX0_hasTrack_4 : decode cX0_hasTrack 4 = .ok (.iload_n 1, 1) := by decide +kernel
theorem dX0_hasTrack_5 : decode cX0_hasTrack 5 = .ok (.aload_n 0, 1) := by decide +kernel
theorem dX0_hasTrack_6 : decode cX0_hasTrack 6 = .ok (.getfield 24, 3) := by decide +kernel
theorem dX0_hasTrack_9 : decode cX0_hasTrack 9 = .ok (.if_icmp .ge 7, 3) := by decide +kernel
theorem dX0_hasTrack_12 : decode cX0_hasTrack 12 = .ok (.iconst 1, 1) := by decide +kernel
theorem dX0_hasTrack_13 : decode cX0_hasTrack 13 = .ok (.goto 4, 3) := by decide +kernel
theorem dX0_hasTrack_16 : decode cX0_hasTrack 16 = .ok (.iconst 0, 1) := by decide +kernel
theorem dX0_hasTrack_17 : decode cX0_hasTrack 17 = .ok (.ireturn, 1) := by decide +kernel
set_option maxRecDepth 20000 in
theorem ggX0_wordAt_X0_hasPlace : GoodIn wsX0_wordAt wsX0_hasPlace := goodIn_r _ [6, 1, 7, 8, 9] (by decide +kernel) (by decide +kernel)
set_option maxRecDepth 20000 in
theorem gX0_wordAt_X0_hasPlace : GoodIn wsX0_wordAt (wsV RX0 28 RX0 yX0_hasPlace wsX0_hasPlace) := goodIn_app (goodIn_of _ (by decide +kernel)) ggX0_wordAt_X0_hasPlace
theorem dX0_wordAt_0 : decode cX0_wordAt 0 = .ok (.aload_n 0, 1) := by decide +kernel
theorem dX0_wordAt_1 : decode cX0_wordAt 1 = .ok (.iload_n 1, 1) := by decide +kernel
theorem dX0_wordAt_2 : decode cX0_wordAt 2 = .ok (.invokevirtual 28, 3) := by decide +kernel
theorem dX0_wordAt_5 : decode cX0_wordAt 5 = .ok (.ifCond .eq 12, 3) := by decide +kernel
theorem dX0_wordAt_8 : decode cX0_wordAt 8 = .ok (.aload_n 0, 1) := by decide +kernel
theorem dX0_wordAt_9 : decode cX0_wordAt 9 = .ok (.getfield 15, 3) := by decide +kernel
theorem dX0_wordAt_12 : decode cX0_wordAt 12 = .ok (.iload_n 1, 1) := by decide +kernel
theorem dX0_wordAt_13 : decode cX0_wordAt 13 = .ok (.iaload, 1) := by decide +kernel
theorem dX0_wordAt_14 : decode cX0_wordAt 14 = .ok (.goto 4, 3) := by decide +kernel
theorem dX0_wordAt_17 : decode cX0_wordAt 17 = .ok (.iconst 0, 1) := by decide +kernel
theorem dX0_wordAt_18 : decode cX0_wordAt 18 = .ok (.ireturn, 1) := by decide +kernel
theorem dX0_placeOf_0 : decode cX0_placeOf 0 = .ok (.iload_n 1, 1) := by decide +kernel
theorem dX0_placeOf_1 : decode cX0_placeOf 1 = .ok (.ifCond .lt 21, 3) := by decide +kernel
theorem dX0_placeOf_4 : decode cX0_placeOf 4 = .ok (.iload_n 1, 1) := by decide +kernel
theorem dX0_placeOf_5 : decode cX0_placeOf 5 = .ok (.aload_n 0, 1) := by decide +kernel
theorem dX0_placeOf_6 : decode cX0_placeOf 6 = .ok (.getfield 9, 3) := by decide +kernel
theorem dX0_placeOf_9 : decode cX0_placeOf 9 = .ok (.arraylength, 1) := by decide +kernel
theorem dX0_placeOf_10 : decode cX0_placeOf 10 = .ok (.if_icmp .ge 12, 3) := by decide +kernel
theorem dX0_placeOf_13 : decode cX0_placeOf 13 = .ok (.aload_n 0, 1) := by decide +kernel
theorem dX0_placeOf_14 : decode cX0_placeOf 14 = .ok (.getfield 9, 3) := by decide +kernel
theorem dX0_placeOf_17 : decode cX0_placeOf 17 = .ok (.iload_n 1, 1) := by decide +kernel
theorem dX0_placeOf_18 : decode cX0_placeOf 18 = .ok (.iaload, 1) := by decide +kernel
theorem dX0_placeOf_19 : decode cX0_placeOf 19 = .ok (.goto 4, 3) := by decide +kernel
theorem dX0_placeOf_22 : decode cX0_placeOf 22 = .ok (.iconst (-1), 1) := by decide +kernel
theorem dX0_placeOf_23 : decode cX0_placeOf 23 = .ok (.ireturn, 1) := by decide +kernel
set_option maxRecDepth 20000 in
theorem ggX0_mark_X0_wordAt : GoodIn wsX0_mark wsX0_wordAt := goodIn_r _ [5, 6, 7, 8, 9, 4, 10, 11, 12, 13] (by decide +kernel) (by decide +kernel)
set_option maxRecDepth 20000 in
theorem gX0_mark_X0_wordAt : GoodIn wsX0_mark (wsV RX0 32 RX0 yX0_wordAt wsX0_wordAt) := goodIn_app (goodIn_of _ (by decide +kernel)) ggX0_mark_X0_wordAt
theorem dX0_mark_0 : decode cX0_mark 0 = .ok (.aload_n 0, 1) := by decide +kernel
theorem dX0_mark_1 : decode cX0_mark 1 = .ok (.iload_n 1, 1) := by decide +kernel
theorem dX0_mark_2 : decode cX0_mark 2 = .ok (.invokevirtual 32, 3) := by decide +kernel
theorem dX0_mark_5 : decode cX0_mark 5 = .ok (.iload_n 2, 1) := by decide +kernel
theorem dX0_mark_6 : decode cX0_mark 6 = .ok (.ishr, 1) := by decide +kernel
theorem dX0_mark_7 : decode cX0_mark 7 = .ok (.iconst 1, 1) := by decide +kernel
theorem dX0_mark_8 : decode cX0_mark 8 = .ok (.iand, 1) := by decide +kernel
theorem dX0_mark_9 : decode cX0_mark 9 = .ok (.ireturn, 1) := by decide +kernel
set_option maxRecDepth 20000 in
theorem ggX0_changesOf_X6_modulo : GoodIn wsX0_changesOf wsX6_modulo := goodIn_r _ [4] (by decide +kernel) (by decide +kernel)
set_option maxRecDepth 20000 in
theorem gX0_changesOf_X6_modulo_n36 : GoodIn wsX0_changesOf (wsX6_modulo) := ggX0_changesOf_X6_modulo
set_option maxRecDepth 20000 in
theorem ggX0_changesOf_X0_mark : GoodIn wsX0_changesOf wsX0_mark := goodIn_r _ [9, 10, 11, 12, 8, 13, 1, 14, 15, 16, 17, 18, 19, 20] (by decide +kernel) (by decide +kernel)
set_option maxRecDepth 20000 in
theorem gX0_changesOf_X0_mark : GoodIn wsX0_changesOf (wsV RX0 40 RX0 yX0_mark wsX0_mark) := goodIn_app (goodIn_of _ (by decide +kernel)) ggX0_changesOf_X0_mark
theorem dX0_changesOf_0 : decode cX0_changesOf 0 = .ok (.iconst 0, 1) := by decide +kernel
theorem dX0_changesOf_1 : decode cX0_changesOf 1 = .ok (.istore_n 2, 1) := by decide +kernel
theorem dX0_changesOf_2 : decode cX0_changesOf 2 = .ok (.iconst 0, 1) := by decide +kernel
theorem dX0_changesOf_3 : decode cX0_changesOf 3 = .ok (.istore_n 3, 1) := by decide +kernel
theorem dX0_changesOf_4 : decode cX0_changesOf 4 = .ok (.iload_n 3, 1) := by decide +kernel
theorem dX0_changesOf_5 : decode cX0_changesOf 5 = .ok (.aload_n 0, 1) := by decide +kernel
theorem dX0_changesOf_6 : decode cX0_changesOf 6 = .ok (.getfield 15, 3) := by decide +kernel
theorem dX0_changesOf_9 : decode cX0_changesOf 9 = .ok (.arraylength, 1) := by decide +kernel
theorem dX0_changesOf_10 : decode cX0_changesOf 10 = .ok (.if_icmp .ge 41, 3) := by decide +kernel
theorem dX0_changesOf_13 : decode cX0_changesOf 13 = .ok (.iload_n 3, 1) := by decide +kernel
theorem dX0_changesOf_14 : decode cX0_changesOf 14 = .ok (.iconst 1, 1) := by decide +kernel
theorem dX0_changesOf_15 : decode cX0_changesOf 15 = .ok (.iadd, 1) := by decide +kernel
theorem dX0_changesOf_16 : decode cX0_changesOf 16 = .ok (.aload_n 0, 1) := by decide +kernel
theorem dX0_changesOf_17 : decode cX0_changesOf 17 = .ok (.getfield 15, 3) := by decide +kernel
theorem dX0_changesOf_20 : decode cX0_changesOf 20 = .ok (.arraylength, 1) := by decide +kernel
theorem dX0_changesOf_21 : decode cX0_changesOf 21 = .ok (.invokestatic 36, 3) := by decide +kernel
theorem dX0_changesOf_24 : decode cX0_changesOf 24 = .ok (.istore 4, 2) := by decide +kernel
theorem dX0_changesOf_26 : decode cX0_changesOf 26 = .ok (.aload_n 0, 1) := by decide +kernel
theorem dX0_changesOf_27 : decode cX0_changesOf 27 = .ok (.iload_n 3, 1) := by decide +kernel
theorem dX0_changesOf_28 : decode cX0_changesOf 28 = .ok (.iload_n 1, 1) := by decide +kernel
theorem dX0_changesOf_29 : decode cX0_changesOf 29 = .ok (.invokevirtual 40, 3) := by decide +kernel
theorem dX0_changesOf_32 : decode cX0_changesOf 32 = .ok (.aload_n 0, 1) := by decide +kernel
theorem dX0_changesOf_33 : decode cX0_changesOf 33 = .ok (.iload 4, 2) := by decide +kernel
theorem dX0_changesOf_35 : decode cX0_changesOf 35 = .ok (.iload_n 1, 1) := by decide +kernel
theorem dX0_changesOf_36 : decode cX0_changesOf 36 = .ok (.invokevirtual 40, 3) := by decide +kernel
theorem dX0_changesOf_39 : decode cX0_changesOf 39 = .ok (.if_icmp .eq 6, 3) := by decide +kernel
theorem dX0_changesOf_42 : decode cX0_changesOf 42 = .ok (.iinc 2 1, 3) := by decide +kernel
theorem dX0_changesOf_45 : decode cX0_changesOf 45 = .ok (.iinc 3 1, 3) := by decide +kernel
theorem dX0_changesOf_48 : decode cX0_changesOf 48 = .ok (.goto (-44), 3) := by decide +kernel
theorem dX0_changesOf_51 : decode cX0_changesOf 51 = .ok (.iload_n 2, 1) := by decide +kernel
theorem dX0_changesOf_52 : decode cX0_changesOf 52 = .ok (.ireturn, 1) := by decide +kernel
set_option maxRecDepth 20000 in
theorem ggX0_changesEvenly_X0_changesOf : GoodIn wsX0_changesEvenly wsX0_changesOf := goodIn_r _ [14, 1, 15, 16, 17, 18, 19, 20, 13, 21, 22, 23, 24, 25, 26, 27, 28, 29, 30, 31, 32] (by decide +kernel) (by decide +kernel)
set_option maxRecDepth 20000 in
theorem gX0_changesEvenly_X0_changesOf : GoodIn wsX0_changesEvenly (wsV RX0 43 RX0 yX0_changesOf wsX0_changesOf) := goodIn_app (goodIn_of _ (by decide +kernel)) ggX0_changesEvenly_X0_changesOf
theorem dX0_changesEvenly_0 : decode cX0_changesEvenly 0 = .ok (.aload_n 0, 1) := by decide +kernel
theorem dX0_changesEvenly_1 : decode cX0_changesEvenly 1 = .ok (.getfield 15, 3) := by decide +kernel
theorem dX0_changesEvenly_4 : decode cX0_changesEvenly 4 = .ok (.arraylength, 1) := by decide +kernel
theorem dX0_changesEvenly_5 : decode cX0_changesEvenly 5 = .ok (.istore_n 1, 1) := by decide +kernel
theorem dX0_changesEvenly_6 : decode cX0_changesEvenly 6 = .ok (.iconst 0, 1) := by decide +kernel
theorem dX0_changesEvenly_7 : decode cX0_changesEvenly 7 = .ok (.istore_n 2, 1) := by decide +kernel
theorem dX0_changesEvenly_8 : decode cX0_changesEvenly 8 = .ok (.iconst 0, 1) := by decide +kernel
theorem dX0_changesEvenly_9 : decode cX0_changesEvenly 9 = .ok (.istore_n 3, 1) := by decide +kernel
theorem dX0_changesEvenly_10 : decode cX0_changesEvenly 10 = .ok (.iload_n 3, 1) := by decide +kernel
theorem dX0_changesEvenly_11 : decode cX0_changesEvenly 11 = .ok (.aload_n 0, 1) := by decide +kernel
theorem dX0_changesEvenly_12 : decode cX0_changesEvenly 12 = .ok (.getfield 24, 3) := by decide +kernel
theorem dX0_changesEvenly_15 : decode cX0_changesEvenly 15 = .ok (.if_icmp .ge 30, 3) := by decide +kernel
theorem dX0_changesEvenly_18 : decode cX0_changesEvenly 18 = .ok (.aload_n 0, 1) := by decide +kernel
theorem dX0_changesEvenly_19 : decode cX0_changesEvenly 19 = .ok (.iload_n 3, 1) := by decide +kernel
theorem dX0_changesEvenly_20 : decode cX0_changesEvenly 20 = .ok (.invokevirtual 43, 3) := by decide +kernel
theorem dX0_changesEvenly_23 : decode cX0_changesEvenly 23 = .ok (.istore 4, 2) := by decide +kernel
theorem dX0_changesEvenly_25 : decode cX0_changesEvenly 25 = .ok (.iload_n 1, 1) := by decide +kernel
theorem dX0_changesEvenly_26 : decode cX0_changesEvenly 26 = .ok (.iload 4, 2) := by decide +kernel
theorem dX0_changesEvenly_28 : decode cX0_changesEvenly 28 = .ok (.invokestatic 46, 3) := by decide +kernel
theorem dX0_changesEvenly_31 : decode cX0_changesEvenly 31 = .ok (.istore_n 1, 1) := by decide +kernel
theorem dX0_changesEvenly_32 : decode cX0_changesEvenly 32 = .ok (.iload_n 2, 1) := by decide +kernel
theorem dX0_changesEvenly_33 : decode cX0_changesEvenly 33 = .ok (.iload 4, 2) := by decide +kernel
theorem dX0_changesEvenly_35 : decode cX0_changesEvenly 35 = .ok (.invokestatic 51, 3) := by decide +kernel
theorem dX0_changesEvenly_38 : decode cX0_changesEvenly 38 = .ok (.istore_n 2, 1) := by decide +kernel
theorem dX0_changesEvenly_39 : decode cX0_changesEvenly 39 = .ok (.iinc 3 1, 3) := by decide +kernel
theorem dX0_changesEvenly_42 : decode cX0_changesEvenly 42 = .ok (.goto (-32), 3) := by decide +kernel
theorem dX0_changesEvenly_45 : decode cX0_changesEvenly 45 = .ok (.iload_n 2, 1) := by decide +kernel
theorem dX0_changesEvenly_46 : decode cX0_changesEvenly 46 = .ok (.iload_n 1, 1) := by decide +kernel
theorem dX0_changesEvenly_47 : decode cX0_changesEvenly 47 = .ok (.isub, 1) := by decide +kernel
theorem dX0_changesEvenly_48 : decode cX0_changesEvenly 48 = .ok (.iconst 2, 1) := by decide +kernel
theorem dX0_changesEvenly_49 : decode cX0_changesEvenly 49 = .ok (.if_icmp .gt 7, 3) := by decide +kernel
theorem dX0_changesEvenly_52 : decode cX0_changesEvenly 52 = .ok (.iconst 1, 1) := by decide +kernel
theorem dX0_changesEvenly_53 : decode cX0_changesEvenly 53 = .ok (.goto 4, 3) := by decide +kernel
theorem dX0_changesEvenly_56 : decode cX0_changesEvenly 56 = .ok (.iconst 0, 1) := by decide +kernel
theorem dX0_changesEvenly_57 : decode cX0_changesEvenly 57 = .ok (.ireturn, 1) := by decide +kernel
set_option maxRecDepth 20000 in
theorem ggX0_repeatsFirstTrack_X0_isFirstTrackMoved : GoodIn wsX0_repeatsFirstTrack wsX0_isFirstTrackMoved := goodIn_r _ [6, 7, 8, 9, 10, 5, 11, 12, 13, 14, 15, 16, 17, 18, 19, 20, 21, 22, 23, 24, 25, 26, 27, 28, 29] (by decide +kernel) (by decide +kernel)
set_option maxRecDepth 20000 in
theorem gX0_repeatsFirstTrack_X0_isFirstTrackMoved : GoodIn wsX0_repeatsFirstTrack (wsV RX0 54 RX0 yX0_isFirstTrackMoved wsX0_isFirstTrackMoved) := goodIn_app (goodIn_of _ (by decide +kernel)) ggX0_repeatsFirstTrack_X0_isFirstTrackMoved
theorem dX0_repeatsFirstTrack_0 : decode cX0_repeatsFirstTrack 0 = .ok (.iconst 1, 1) := by decide +kernel
theorem dX0_repeatsFirstTrack_1 : decode cX0_repeatsFirstTrack 1 = .ok (.istore_n 1, 1) := by decide +kernel
theorem dX0_repeatsFirstTrack_2 : decode cX0_repeatsFirstTrack 2 = .ok (.iload_n 1, 1) := by decide +kernel
theorem dX0_repeatsFirstTrack_3 : decode cX0_repeatsFirstTrack 3 = .ok (.aload_n 0, 1) := by decide +kernel
theorem dX0_repeatsFirstTrack_4 : decode cX0_repeatsFirstTrack 4 = .ok (.getfield 24, 3) := by decide +kernel
theorem dX0_repeatsFirstTrack_7 : decode cX0_repeatsFirstTrack 7 = .ok (.if_icmp .ge 19, 3) := by decide +kernel
theorem dX0_repeatsFirstTrack_10 : decode cX0_repeatsFirstTrack 10 = .ok (.aload_n 0, 1) := by decide +kernel
theorem dX0_repeatsFirstTrack_11 : decode cX0_repeatsFirstTrack 11 = .ok (.iload_n 1, 1) := by decide +kernel
theorem dX0_repeatsFirstTrack_12 : decode cX0_repeatsFirstTrack 12 = .ok (.invokevirtual 54, 3) := by decide +kernel
theorem dX0_repeatsFirstTrack_15 : decode cX0_repeatsFirstTrack 15 = .ok (.ifCond .ne 5, 3) := by decide +kernel
theorem dX0_repeatsFirstTrack_18 : decode cX0_repeatsFirstTrack 18 = .ok (.iconst 0, 1) := by decide +kernel
theorem dX0_repeatsFirstTrack_19 : decode cX0_repeatsFirstTrack 19 = .ok (.ireturn, 1) := by decide +kernel
theorem dX0_repeatsFirstTrack_20 : decode cX0_repeatsFirstTrack 20 = .ok (.iinc 1 1, 3) := by decide +kernel
theorem dX0_repeatsFirstTrack_23 : decode cX0_repeatsFirstTrack 23 = .ok (.goto (-21), 3) := by decide +kernel
theorem dX0_repeatsFirstTrack_26 : decode cX0_repeatsFirstTrack 26 = .ok (.iconst 1, 1) := by decide +kernel
theorem dX0_repeatsFirstTrack_27 : decode cX0_repeatsFirstTrack 27 = .ok (.ireturn, 1) := by decide +kernel
set_option maxRecDepth 20000 in
theorem ggX0_isFirstTrackMoved_X0_isFirstTrackFrom : GoodIn wsX0_isFirstTrackMoved wsX0_isFirstTrackFrom := goodIn_r _ [6, 1, 7, 8, 9, 5, 10, 11, 12, 13, 14, 15, 16, 17, 18, 19, 20, 21, 22, 23, 24] (by decide +kernel) (by decide +kernel)
set_option maxRecDepth 20000 in
theorem gX0_isFirstTrackMoved_X0_isFirstTrackFrom : GoodIn wsX0_isFirstTrackMoved (wsV RX0 57 RX0 yX0_isFirstTrackFrom wsX0_isFirstTrackFrom) := goodIn_app (goodIn_of _ (by decide +kernel)) ggX0_isFirstTrackMoved_X0_isFirstTrackFrom
theorem dX0_isFirstTrackMoved_0 : decode cX0_isFirstTrackMoved 0 = .ok (.iconst 0, 1) := by decide +kernel
theorem dX0_isFirstTrackMoved_1 : decode cX0_isFirstTrackMoved 1 = .ok (.istore_n 2, 1) := by decide +kernel
theorem dX0_isFirstTrackMoved_2 : decode cX0_isFirstTrackMoved 2 = .ok (.iload_n 2, 1) := by decide +kernel
theorem dX0_isFirstTrackMoved_3 : decode cX0_isFirstTrackMoved 3 = .ok (.aload_n 0, 1) := by decide +kernel
theorem dX0_isFirstTrackMoved_4 : decode cX0_isFirstTrackMoved 4 = .ok (.getfield 15, 3) := by decide +kernel
theorem dX0_isFirstTrackMoved_7 : decode cX0_isFirstTrackMoved 7 = .ok (.arraylength, 1) := by decide +kernel
theorem dX0_isFirstTrackMoved_8 : decode cX0_isFirstTrackMoved 8 = .ok (.if_icmp .ge 20, 3) := by decide +kernel
theorem dX0_isFirstTrackMoved_11 : decode cX0_isFirstTrackMoved 11 = .ok (.aload_n 0, 1) := by decide +kernel
theorem dX0_isFirstTrackMoved_12 : decode cX0_isFirstTrackMoved 12 = .ok (.iload_n 1, 1) := by decide +kernel
theorem dX0_isFirstTrackMoved_13 : decode cX0_isFirstTrackMoved 13 = .ok (.iload_n 2, 1) := by decide +kernel
theorem dX0_isFirstTrackMoved_14 : decode cX0_isFirstTrackMoved 14 = .ok (.invokevirtual 57, 3) := by decide +kernel
theorem dX0_isFirstTrackMoved_17 : decode cX0_isFirstTrackMoved 17 = .ok (.ifCond .eq 5, 3) := by decide +kernel
theorem dX0_isFirstTrackMoved_20 : decode cX0_isFirstTrackMoved 20 = .ok (.iconst 1, 1) := by decide +kernel
theorem dX0_isFirstTrackMoved_21 : decode cX0_isFirstTrackMoved 21 = .ok (.ireturn, 1) := by decide +kernel
theorem dX0_isFirstTrackMoved_22 : decode cX0_isFirstTrackMoved 22 = .ok (.iinc 2 1, 3) := by decide +kernel
theorem dX0_isFirstTrackMoved_25 : decode cX0_isFirstTrackMoved 25 = .ok (.goto (-23), 3) := by decide +kernel
theorem dX0_isFirstTrackMoved_28 : decode cX0_isFirstTrackMoved 28 = .ok (.iconst 0, 1) := by decide +kernel
theorem dX0_isFirstTrackMoved_29 : decode cX0_isFirstTrackMoved 29 = .ok (.ireturn, 1) := by decide +kernel
set_option maxRecDepth 20000 in
theorem ggX0_isFirstTrackFrom_X0_mark : GoodIn wsX0_isFirstTrackFrom wsX0_mark := goodIn_r _ [6, 7, 8, 9, 5, 10, 1, 11, 12, 13, 14, 18, 19, 20] (by decide +kernel) (by decide +kernel)
set_option maxRecDepth 20000 in
theorem gX0_isFirstTrackFrom_X0_mark : GoodIn wsX0_isFirstTrackFrom (wsV RX0 40 RX0 yX0_mark wsX0_mark) := goodIn_app (goodIn_of _ (by decide +kernel)) ggX0_isFirstTrackFrom_X0_mark
set_option maxRecDepth 20000 in
theorem ggX0_isFirstTrackFrom_X6_modulo : GoodIn wsX0_isFirstTrackFrom wsX6_modulo := goodIn_r _ [17] (by decide +kernel) (by decide +kernel)
set_option maxRecDepth 20000 in
theorem gX0_isFirstTrackFrom_X6_modulo_n36 : GoodIn wsX0_isFirstTrackFrom (wsX6_modulo) := ggX0_isFirstTrackFrom_X6_modulo
theorem dX0_isFirstTrackFrom_0 : decode cX0_isFirstTrackFrom 0 = .ok (.iconst 0, 1) := by decide +kernel
theorem dX0_isFirstTrackFrom_1 : decode cX0_isFirstTrackFrom 1 = .ok (.istore_n 3, 1) := by decide +kernel
theorem dX0_isFirstTrackFrom_2 : decode cX0_isFirstTrackFrom 2 = .ok (.iload_n 3, 1) := by decide +kernel
theorem dX0_isFirstTrackFrom_3 : decode cX0_isFirstTrackFrom 3 = .ok (.aload_n 0, 1) := by decide +kernel
theorem dX0_isFirstTrackFrom_4 : decode cX0_isFirstTrackFrom 4 = .ok (.getfield 15, 3) := by decide +kernel
theorem dX0_isFirstTrackFrom_7 : decode cX0_isFirstTrackFrom 7 = .ok (.arraylength, 1) := by decide +kernel
theorem dX0_isFirstTrackFrom_8 : decode cX0_isFirstTrackFrom 8 = .ok (.if_icmp .ge 36, 3) := by decide +kernel
theorem dX0_isFirstTrackFrom_11 : decode cX0_isFirstTrackFrom 11 = .ok (.aload_n 0, 1) := by decide +kernel
theorem dX0_isFirstTrackFrom_12 : decode cX0_isFirstTrackFrom 12 = .ok (.iload_n 3, 1) := by decide +kernel
theorem dX0_isFirstTrackFrom_13 : decode cX0_isFirstTrackFrom 13 = .ok (.iload_n 1, 1) := by decide +kernel
theorem dX0_isFirstTrackFrom_14 : decode cX0_isFirstTrackFrom 14 = .ok (.invokevirtual 40, 3) := by decide +kernel
theorem dX0_isFirstTrackFrom_17 : decode cX0_isFirstTrackFrom 17 = .ok (.aload_n 0, 1) := by decide +kernel
theorem dX0_isFirstTrackFrom_18 : decode cX0_isFirstTrackFrom 18 = .ok (.iload_n 3, 1) := by decide +kernel
theorem dX0_isFirstTrackFrom_19 : decode cX0_isFirstTrackFrom 19 = .ok (.iload_n 2, 1) := by decide +kernel
theorem dX0_isFirstTrackFrom_20 : decode cX0_isFirstTrackFrom 20 = .ok (.iadd, 1) := by decide +kernel
theorem dX0_isFirstTrackFrom_21 : decode cX0_isFirstTrackFrom 21 = .ok (.aload_n 0, 1) := by decide +kernel
theorem dX0_isFirstTrackFrom_22 : decode cX0_isFirstTrackFrom 22 = .ok (.getfield 15, 3) := by decide +kernel
theorem dX0_isFirstTrackFrom_25 : decode cX0_isFirstTrackFrom 25 = .ok (.arraylength, 1) := by decide +kernel
theorem dX0_isFirstTrackFrom_26 : decode cX0_isFirstTrackFrom 26 = .ok (.invokestatic 36, 3) := by decide +kernel
theorem dX0_isFirstTrackFrom_29 : decode cX0_isFirstTrackFrom 29 = .ok (.iconst 0, 1) := by decide +kernel
theorem dX0_isFirstTrackFrom_30 : decode cX0_isFirstTrackFrom 30 = .ok (.invokevirtual 40, 3) := by decide +kernel
theorem dX0_isFirstTrackFrom_33 : decode cX0_isFirstTrackFrom 33 = .ok (.if_icmp .eq 5, 3) := by decide +kernel
theorem dX0_isFirstTrackFrom_36 : decode cX0_isFirstTrackFrom 36 = .ok (.iconst 0, 1) := by decide +kernel
theorem dX0_isFirstTrackFrom_37 : decode cX0_isFirstTrackFrom 37 = .ok (.ireturn, 1) := by decide +kernel
theorem dX0_isFirstTrackFrom_38 : decode cX0_isFirstTrackFrom 38 = .ok (.iinc 3 1, 3) := by decide +kernel
theorem dX0_isFirstTrackFrom_41 : decode cX0_isFirstTrackFrom 41 = .ok (.goto (-39), 3) := by decide +kernel
theorem dX0_isFirstTrackFrom_44 : decode cX0_isFirstTrackFrom 44 = .ok (.iconst 1, 1) := by decide +kernel
theorem dX0_isFirstTrackFrom_45 : decode cX0_isFirstTrackFrom 45 = .ok (.ireturn, 1) := by decide +kernel
theorem dX2_init_0 : decode cX2_init 0 = .ok (.aload_n 0, 1) := by decide +kernel
theorem dX2_init_1 : decode cX2_init 1 = .ok (.invokespecial 3, 3) := by decide +kernel
theorem dX2_init_4 : decode cX2_init 4 = .ok (.aload_n 0, 1) := by decide +kernel
theorem dX2_init_5 : decode cX2_init 5 = .ok (.bipush 9, 2) := by decide +kernel
theorem dX2_init_7 : decode cX2_init 7 = .ok (.newarray .int, 2) := by decide +kernel
theorem dX2_init_9 : decode cX2_init 9 = .ok (.putfield 9, 3) := by decide +kernel
theorem dX2_init_12 : decode cX2_init 12 = .ok (.aload_n 0, 1) := by decide +kernel
theorem dX2_init_13 : decode cX2_init 13 = .ok (.bipush 9, 2) := by decide +kernel
theorem dX2_init_15 : decode cX2_init 15 = .ok (.newarray .int, 2) := by decide +kernel
theorem dX2_init_17 : decode cX2_init 17 = .ok (.putfield 15, 3) := by decide +kernel
theorem dX2_init_20 : decode cX2_init 20 = .ok (.aload_n 0, 1) := by decide +kernel
theorem dX2_init_21 : decode cX2_init 21 = .ok (.sipush 512, 3) := by decide +kernel
theorem dX2_init_24 : decode cX2_init 24 = .ok (.newarray .int, 2) := by decide +kernel
theorem dX2_init_26 : decode cX2_init 26 = .ok (.putfield 18, 3) := by decide +kernel
theorem dX2_init_29 : decode cX2_init 29 = .ok (.return_, 1) := by decide +kernel
theorem dX2_clear_0 : decode cX2_clear 0 = .ok (.aload_n 0, 1) := by decide +kernel
theorem dX2_clear_1 : decode cX2_clear 1 = .ok (.iconst 0, 1) := by decide +kernel
theorem dX2_clear_2 : decode cX2_clear 2 = .ok (.putfield 21, 3) := by decide +kernel
theorem dX2_clear_5 : decode cX2_clear 5 = .ok (.aload_n 0, 1) := by decide +kernel
theorem dX2_clear_6 : decode cX2_clear 6 = .ok (.iconst 0, 1) := by decide +kernel
theorem dX2_clear_7 : decode cX2_clear 7 = .ok (.putfield 25, 3) := by decide +kernel
theorem dX2_clear_10 : decode cX2_clear 10 = .ok (.return_, 1) := by decide +kernel
set_option maxRecDepth 20000 in
theorem ggX6_init_X2_init : GoodIn wsX6_init wsX2_init := goodIn_r _ [15, 16, 2, 3, 4, 17, 18, 19, 29, 30, 31, 32, 33, 34, 35] (by decide +kernel) (by decide +kernel)
set_option maxRecDepth 20000 in
theorem gX6_init_X2_init_n28 : GoodIn wsX6_init (wsX2_init) := ggX6_init_X2_init
theorem dX6_init_0 : decode cX6_init 0 = .ok (.aload_n 0, 1) := by decide +kernel
theorem dX6_init_1 : decode cX6_init 1 = .ok (.invokespecial 1, 3) := by decide +kernel
theorem dX6_init_4 : decode cX6_init 4 = .ok (.aload_n 0, 1) := by decide +kernel
theorem dX6_init_5 : decode cX6_init 5 = .ok (.bipush 64, 2) := by decide +kernel
theorem dX6_init_7 : decode cX6_init 7 = .ok (.newarray .int, 2) := by decide +kernel
theorem dX6_init_9 : decode cX6_init 9 = .ok (.putfield 9, 3) := by decide +kernel
theorem dX6_init_12 : decode cX6_init 12 = .ok (.aload_n 0, 1) := by decide +kernel
theorem dX6_init_13 : decode cX6_init 13 = .ok (.iconst 4, 1) := by decide +kernel
theorem dX6_init_14 : decode cX6_init 14 = .ok (.anewarray 13, 3) := by decide +kernel
theorem dX6_init_17 : decode cX6_init 17 = .ok (.putfield 15, 3) := by decide +kernel
theorem dX6_init_20 : decode cX6_init 20 = .ok (.aload_n 0, 1) := by decide +kernel
theorem dX6_init_21 : decode cX6_init 21 = .ok (.bipush 40, 2) := by decide +kernel
theorem dX6_init_23 : decode cX6_init 23 = .ok (.putfield 19, 3) := by decide +kernel
theorem dX6_init_26 : decode cX6_init 26 = .ok (.aload_n 0, 1) := by decide +kernel
theorem dX6_init_27 : decode cX6_init 27 = .ok (.bipush 48, 2) := by decide +kernel
theorem dX6_init_29 : decode cX6_init 29 = .ok (.putfield 23, 3) := by decide +kernel
theorem dX6_init_32 : decode cX6_init 32 = .ok (.aload_n 0, 1) := by decide +kernel
theorem dX6_init_33 : decode cX6_init 33 = .ok (.new 26, 3) := by decide +kernel
theorem dX6_init_36 : decode cX6_init 36 = .ok (.dup, 1) := by decide +kernel
theorem dX6_init_37 : decode cX6_init 37 = .ok (.invokespecial 28, 3) := by decide +kernel
theorem dX6_init_40 : decode cX6_init 40 = .ok (.putfield 29, 3) := by decide +kernel
theorem dX6_init_43 : decode cX6_init 43 = .ok (.return_, 1) := by decide +kernel
set_option maxRecDepth 20000 in
theorem ggX6_type_X6_isWithin : GoodIn wsX6_type wsX6_isWithin := goodIn_r _ [10] (by decide +kernel) (by decide +kernel)
set_option maxRecDepth 20000 in
theorem gX6_type_X6_isWithin : GoodIn wsX6_type (va_wsS RX6 33 yX6_isWithin wsX6_isWithin) := goodIn_app (goodIn_of _ (by decide +kernel)) ggX6_type_X6_isWithin
theorem dX6_type_0 : decode cX6_type 0 = .ok (.iload_n 1, 1) := by decide +kernel
theorem dX6_type_1 : decode cX6_type 1 = .ok (.iconst 0, 1) := by decide +kernel
theorem dX6_type_2 : decode cX6_type 2 = .ok (.sipush 255, 3) := by decide +kernel
theorem dX6_type_5 : decode cX6_type 5 = .ok (.invokestatic 33, 3) := by decide +kernel
theorem dX6_type_8 : decode cX6_type 8 = .ok (.ifCond .ne 13, 3) := by decide +kernel
theorem dX6_type_11 : decode cX6_type 11 = .ok (.new 37, 3) := by decide +kernel
theorem dX6_type_14 : decode cX6_type 14 = .ok (.dup, 1) := by decide +kernel
theorem dX6_type_15 : decode cX6_type 15 = .ok (.ldc 39, 2) := by decide +kernel
theorem dX6_type_17 : decode cX6_type 17 = .ok (.invokespecial 41, 3) := by decide +kernel
theorem dX6_type_20 : decode cX6_type 20 = .ok (.athrow, 1) := by decide +kernel
theorem dX6_type_21 : decode cX6_type 21 = .ok (.aload_n 0, 1) := by decide +kernel
theorem dX6_type_22 : decode cX6_type 22 = .ok (.getfield 44, 3) := by decide +kernel
theorem dX6_type_25 : decode cX6_type 25 = .ok (.aload_n 0, 1) := by decide +kernel
theorem dX6_type_26 : decode cX6_type 26 = .ok (.getfield 9, 3) := by decide +kernel
theorem dX6_type_29 : decode cX6_type 29 = .ok (.arraylength, 1) := by decide +kernel
theorem dX6_type_30 : decode cX6_type 30 = .ok (.if_icmp .lt 13, 3) := by decide +kernel
theorem dX6_type_33 : decode cX6_type 33 = .ok (.new 47, 3) := by decide +kernel
theorem dX6_type_36 : decode cX6_type 36 = .ok (.dup, 1) := by decide +kernel
theorem dX6_type_37 : decode cX6_type 37 = .ok (.ldc 49, 2) := by decide +kernel
theorem dX6_type_39 : decode cX6_type 39 = .ok (.invokespecial 51, 3) := by decide +kernel
theorem dX6_type_42 : decode cX6_type 42 = .ok (.athrow, 1) := by decide +kernel
theorem dX6_type_43 : decode cX6_type 43 = .ok (.aload_n 0, 1) := by decide +kernel
theorem dX6_type_44 : decode cX6_type 44 = .ok (.getfield 9, 3) := by decide +kernel
theorem dX6_type_47 : decode cX6_type 47 = .ok (.aload_n 0, 1) := by decide +kernel
theorem dX6_type_48 : decode cX6_type 48 = .ok (.getfield 44, 3) := by decide +kernel
theorem dX6_type_51 : decode cX6_type 51 = .ok (.iload_n 1, 1) := by decide +kernel
theorem dX6_type_52 : decode cX6_type 52 = .ok (.iastore, 1) := by decide +kernel
theorem dX6_type_53 : decode cX6_type 53 = .ok (.aload_n 0, 1) := by decide +kernel
theorem dX6_type_54 : decode cX6_type 54 = .ok (.dup, 1) := by decide +kernel
theorem dX6_type_55 : decode cX6_type 55 = .ok (.getfield 44, 3) := by decide +kernel
theorem dX6_type_58 : decode cX6_type 58 = .ok (.iconst 1, 1) := by decide +kernel
theorem dX6_type_59 : decode cX6_type 59 = .ok (.iadd, 1) := by decide +kernel
theorem dX6_type_60 : decode cX6_type 60 = .ok (.putfield 44, 3) := by decide +kernel
theorem dX6_type_63 : decode cX6_type 63 = .ok (.aload_n 0, 1) := by decide +kernel
theorem dX6_type_64 : decode cX6_type 64 = .ok (.getfield 44, 3) := by decide +kernel
theorem dX6_type_67 : decode cX6_type 67 = .ok (.ireturn, 1) := by decide +kernel
theorem dX6_wipe_0 : decode cX6_wipe 0 = .ok (.aload_n 0, 1) := by decide +kernel
theorem dX6_wipe_1 : decode cX6_wipe 1 = .ok (.getfield 44, 3) := by decide +kernel
theorem dX6_wipe_4 : decode cX6_wipe 4 = .ok (.istore_n 1, 1) := by decide +kernel
theorem dX6_wipe_5 : decode cX6_wipe 5 = .ok (.aload_n 0, 1) := by decide +kernel
theorem dX6_wipe_6 : decode cX6_wipe 6 = .ok (.iconst 0, 1) := by decide +kernel
theorem dX6_wipe_7 : decode cX6_wipe 7 = .ok (.putfield 44, 3) := by decide +kernel
theorem dX6_wipe_10 : decode cX6_wipe 10 = .ok (.iload_n 1, 1) := by decide +kernel
theorem dX6_wipe_11 : decode cX6_wipe 11 = .ok (.ireturn, 1) := by decide +kernel
set_option maxRecDepth 20000 in
theorem ggX6_ring_X6_typedIsRing : GoodIn wsX6_ring wsX6_typedIsRing := goodIn_r _ [13, 8, 7, 14, 15, 12, 16, 17, 18, 19, 20, 21, 22, 23, 62, 63, 64, 65, 66, 67, 68, 69, 70] (by decide +kernel) (by decide +kernel)
set_option maxRecDepth 20000 in
theorem gX6_ring_X6_typedIsRing : GoodIn wsX6_ring (wsV RX6 52 RX6 yX6_typedIsRing wsX6_typedIsRing) := goodIn_app (goodIn_of _ (by decide +kernel)) ggX6_ring_X6_typedIsRing
set_option maxRecDepth 20000 in
theorem ggX6_ring_J7_copyOf_59c91 : GoodIn wsX6_ring wsJ7_copyOf_59c91 := goodIn_r _ [27, 28, 29, 30, 31, 32, 33, 34, 35, 36, 37, 38, 39, 40, 41, 42] (by decide +kernel) (by decide +kernel)
set_option maxRecDepth 20000 in
theorem gX6_ring_J7_copyOf_59c91 : GoodIn wsX6_ring (va_wsS RX6 66 yJ7_copyOf_59c91 wsJ7_copyOf_59c91) := goodIn_app (goodIn_of _ (by decide +kernel)) ggX6_ring_J7_copyOf_59c91
set_option maxRecDepth 20000 in
theorem ggX6_ring_X6_keepCode : GoodIn wsX6_ring wsX6_keepCode := goodIn_r _ [46, 5, 6, 47, 48, 49, 50, 51, 52, 53, 54, 55, 34, 56, 57, 58, 59, 60, 26, 61, 62, 63, 64, 65, 66, 67, 68, 69, 70, 71, 72, 73] (by decide +kernel) (by decide +kernel)
set_option maxRecDepth 20000 in
theorem gX6_ring_X6_keepCode : GoodIn wsX6_ring (wsV RX6 72 RX6 yX6_keepCode wsX6_keepCode) := goodIn_app (goodIn_of _ (by decide +kernel)) ggX6_ring_X6_keepCode
theorem dX6_ring_0 : decode cX6_ring 0 = .ok (.aload_n 0, 1) := by decide +kernel
theorem dX6_ring_1 : decode cX6_ring 1 = .ok (.invokevirtual 52, 3) := by decide +kernel
theorem dX6_ring_4 : decode cX6_ring 4 = .ok (.ifCond .ne 13, 3) := by decide +kernel
theorem dX6_ring_7 : decode cX6_ring 7 = .ok (.new 56, 3) := by decide +kernel
theorem dX6_ring_10 : decode cX6_ring 10 = .ok (.dup, 1) := by decide +kernel
theorem dX6_ring_11 : decode cX6_ring 11 = .ok (.ldc 58, 2) := by decide +kernel
theorem dX6_ring_13 : decode cX6_ring 13 = .ok (.invokespecial 60, 3) := by decide +kernel
theorem dX6_ring_16 : decode cX6_ring 16 = .ok (.athrow, 1) := by decide +kernel
theorem dX6_ring_17 : decode cX6_ring 17 = .ok (.aload_n 0, 1) := by decide +kernel
theorem dX6_ring_18 : decode cX6_ring 18 = .ok (.getfield 61, 3) := by decide +kernel
theorem dX6_ring_21 : decode cX6_ring 21 = .ok (.aload_n 0, 1) := by decide +kernel
theorem dX6_ring_22 : decode cX6_ring 22 = .ok (.getfield 15, 3) := by decide +kernel
theorem dX6_ring_25 : decode cX6_ring 25 = .ok (.arraylength, 1) := by decide +kernel
theorem dX6_ring_26 : decode cX6_ring 26 = .ok (.if_icmp .lt 13, 3) := by decide +kernel
theorem dX6_ring_29 : decode cX6_ring 29 = .ok (.new 47, 3) := by decide +kernel
theorem dX6_ring_32 : decode cX6_ring 32 = .ok (.dup, 1) := by decide +kernel
theorem dX6_ring_33 : decode cX6_ring 33 = .ok (.ldc 64, 2) := by decide +kernel
theorem dX6_ring_35 : decode cX6_ring 35 = .ok (.invokespecial 51, 3) := by decide +kernel
theorem dX6_ring_38 : decode cX6_ring 38 = .ok (.athrow, 1) := by decide +kernel
theorem dX6_ring_39 : decode cX6_ring 39 = .ok (.aload_n 0, 1) := by decide +kernel
theorem dX6_ring_40 : decode cX6_ring 40 = .ok (.getfield 9, 3) := by decide +kernel
theorem dX6_ring_43 : decode cX6_ring 43 = .ok (.aload_n 0, 1) := by decide +kernel
theorem dX6_ring_44 : decode cX6_ring 44 = .ok (.getfield 44, 3) := by decide +kernel
theorem dX6_ring_47 : decode cX6_ring 47 = .ok (.invokestatic 66, 3) := by decide +kernel
theorem dX6_ring_50 : decode cX6_ring 50 = .ok (.astore_n 1, 1) := by decide +kernel
theorem dX6_ring_51 : decode cX6_ring 51 = .ok (.aload_n 0, 1) := by decide +kernel
theorem dX6_ring_52 : decode cX6_ring 52 = .ok (.iconst 0, 1) := by decide +kernel
theorem dX6_ring_53 : decode cX6_ring 53 = .ok (.putfield 44, 3) := by decide +kernel
theorem dX6_ring_56 : decode cX6_ring 56 = .ok (.aload_n 0, 1) := by decide +kernel
theorem dX6_ring_57 : decode cX6_ring 57 = .ok (.aload_n 1, 1) := by decide +kernel
theorem dX6_ring_58 : decode cX6_ring 58 = .ok (.invokevirtual 72, 3) := by decide +kernel
theorem dX6_ring_61 : decode cX6_ring 61 = .ok (.ireturn, 1) := by decide +kernel
set_option maxRecDepth 20000 in
theorem ggX6_reflected_X6_isWithin : GoodIn wsX6_reflected wsX6_isWithin := goodIn_r _ [11] (by decide +kernel) (by decide +kernel)
set_option maxRecDepth 20000 in
theorem gX6_reflected_X6_isWithin : GoodIn wsX6_reflected (va_wsS RX6 33 yX6_isWithin wsX6_isWithin) := goodIn_app (goodIn_of _ (by decide +kernel)) ggX6_reflected_X6_isWithin
set_option maxRecDepth 20000 in
theorem ggX6_reflected_X6_keepCode : GoodIn wsX6_reflected wsX6_keepCode := goodIn_r _ [15, 5, 6, 16, 17, 18, 19, 20, 21, 22, 23, 24, 7, 25, 26, 27, 28, 29, 30, 31, 32, 33, 34, 35, 36, 37, 38, 39, 40, 41, 42, 43] (by decide +kernel) (by decide +kernel)
set_option maxRecDepth 20000 in
theorem gX6_reflected_X6_keepCode : GoodIn wsX6_reflected (wsV RX6 72 RX6 yX6_keepCode wsX6_keepCode) := goodIn_app (goodIn_of _ (by decide +kernel)) ggX6_reflected_X6_keepCode
theorem dX6_reflected_0 : decode cX6_reflected 0 = .ok (.iload_n 1, 1) := by decide +kernel
theorem dX6_reflected_1 : decode cX6_reflected 1 = .ok (.iconst 2, 1) := by decide +kernel
theorem dX6_reflected_2 : decode cX6_reflected 2 = .ok (.bipush 6, 2) := by decide +kernel
theorem dX6_reflected_4 : decode cX6_reflected 4 = .ok (.invokestatic 33, 3) := by decide +kernel
theorem dX6_reflected_7 : decode cX6_reflected 7 = .ok (.ifCond .ne 13, 3) := by decide +kernel
theorem dX6_reflected_10 : decode cX6_reflected 10 = .ok (.new 37, 3) := by decide +kernel
theorem dX6_reflected_13 : decode cX6_reflected 13 = .ok (.dup, 1) := by decide +kernel
theorem dX6_reflected_14 : decode cX6_reflected 14 = .ok (.ldc 76, 2) := by decide +kernel
theorem dX6_reflected_16 : decode cX6_reflected 16 = .ok (.invokespecial 41, 3) := by decide +kernel
theorem dX6_reflected_19 : decode cX6_reflected 19 = .ok (.athrow, 1) := by decide +kernel
theorem dX6_reflected_20 : decode cX6_reflected 20 = .ok (.aload_n 0, 1) := by decide +kernel
theorem dX6_reflected_21 : decode cX6_reflected 21 = .ok (.getfield 61, 3) := by decide +kernel
theorem dX6_reflected_24 : decode cX6_reflected 24 = .ok (.aload_n 0, 1) := by decide +kernel
theorem dX6_reflected_25 : decode cX6_reflected 25 = .ok (.getfield 15, 3) := by decide +kernel
theorem dX6_reflected_28 : decode cX6_reflected 28 = .ok (.arraylength, 1) := by decide +kernel
theorem dX6_reflected_29 : decode cX6_reflected 29 = .ok (.if_icmp .lt 13, 3) := by decide +kernel
theorem dX6_reflected_32 : decode cX6_reflected 32 = .ok (.new 47, 3) := by decide +kernel
theorem dX6_reflected_35 : decode cX6_reflected 35 = .ok (.dup, 1) := by decide +kernel
theorem dX6_reflected_36 : decode cX6_reflected 36 = .ok (.ldc 64, 2) := by decide +kernel
theorem dX6_reflected_38 : decode cX6_reflected 38 = .ok (.invokespecial 51, 3) := by decide +kernel
theorem dX6_reflected_41 : decode cX6_reflected 41 = .ok (.athrow, 1) := by decide +kernel
theorem dX6_reflected_42 : decode cX6_reflected 42 = .ok (.iconst 1, 1) := by decide +kernel
theorem dX6_reflected_43 : decode cX6_reflected 43 = .ok (.iload_n 1, 1) := by decide +kernel
theorem dX6_reflected_44 : decode cX6_reflected 44 = .ok (.ishl, 1) := by decide +kernel
theorem dX6_reflected_45 : decode cX6_reflected 45 = .ok (.newarray .int, 2) := by decide +kernel
theorem dX6_reflected_47 : decode cX6_reflected 47 = .ok (.astore_n 2, 1) := by decide +kernel
theorem dX6_reflected_48 : decode cX6_reflected 48 = .ok (.iconst 0, 1) := by decide +kernel
theorem dX6_reflected_49 : decode cX6_reflected 49 = .ok (.istore_n 3, 1) := by decide +kernel
theorem dX6_reflected_50 : decode cX6_reflected 50 = .ok (.iload_n 3, 1) := by decide +kernel
theorem dX6_reflected_51 : decode cX6_reflected 51 = .ok (.aload_n 2, 1) := by decide +kernel
theorem dX6_reflected_52 : decode cX6_reflected 52 = .ok (.arraylength, 1) := by decide +kernel
theorem dX6_reflected_53 : decode cX6_reflected 53 = .ok (.if_icmp .ge 17, 3) := by decide +kernel
theorem dX6_reflected_56 : decode cX6_reflected 56 = .ok (.aload_n 2, 1) := by decide +kernel
theorem dX6_reflected_57 : decode cX6_reflected 57 = .ok (.iload_n 3, 1) := by decide +kernel
theorem dX6_reflected_58 : decode cX6_reflected 58 = .ok (.iload_n 3, 1) := by decide +kernel
theorem dX6_reflected_59 : decode cX6_reflected 59 = .ok (.iload_n 3, 1) := by decide +kernel
theorem dX6_reflected_60 : decode cX6_reflected 60 = .ok (.iconst 2, 1) := by decide +kernel
theorem dX6_reflected_61 : decode cX6_reflected 61 = .ok (.idiv, 1) := by decide +kernel
theorem dX6_reflected_62 : decode cX6_reflected 62 = .ok (.ixor, 1) := by decide +kernel
theorem dX6_reflected_63 : decode cX6_reflected 63 = .ok (.iastore, 1) := by decide +kernel
theorem dX6_reflected_64 : decode cX6_reflected 64 = .ok (.iinc 3 1, 3) := by decide +kernel
theorem dX6_reflected_67 : decode cX6_reflected 67 = .ok (.goto (-17), 3) := by decide +kernel
theorem dX6_reflected_70 : decode cX6_reflected 70 = .ok (.aload_n 0, 1) := by decide +kernel
theorem dX6_reflected_71 : decode cX6_reflected 71 = .ok (.aload_n 2, 1) := by decide +kernel
theorem dX6_reflected_72 : decode cX6_reflected 72 = .ok (.invokevirtual 72, 3) := by decide +kernel
theorem dX6_reflected_75 : decode cX6_reflected 75 = .ok (.ireturn, 1) := by decide +kernel
set_option maxRecDepth 20000 in
theorem ggX6_words_X6_codeAt : GoodIn wsX6_words wsX6_codeAt := goodIn_ca (goodIn_r _ [6, 7, 8, 9, 10, 11, 12, 5, 13, 17, 18, 19, 20, 21, 22, 23, 24, 25] (by decide +kernel) (by decide +kernel)) (goodIn_sub (fun _ h => List.mem_cons_of_mem _ (List.mem_append_right _ h)) (by decide +kernel))
set_option maxRecDepth 20000 in
theorem gX6_words_X6_codeAt : GoodIn wsX6_words (wsV RX6 78 RX6 yX6_codeAt wsX6_codeAt) := goodIn_app (goodIn_of _ (by decide +kernel)) ggX6_words_X6_codeAt
theorem dX6_words_0 : decode cX6_words 0 = .ok (.aload_n 0, 1) := by decide +kernel
theorem dX6_words_1 : decode cX6_words 1 = .ok (.iload_n 1, 1) := by decide +kernel
theorem dX6_words_2 : decode cX6_words 2 = .ok (.invokevirtual 78, 3) := by decide +kernel
theorem dX6_words_5 : decode cX6_words 5 = .ok (.getfield 82, 3) := by decide +kernel
theorem dX6_words_8 : decode cX6_words 8 = .ok (.arraylength, 1) := by decide +kernel
theorem dX6_words_9 : decode cX6_words 9 = .ok (.ireturn, 1) := by decide +kernel
set_option maxRecDepth 20000 in
theorem ggX6_tracks_X6_codeAt : GoodIn wsX6_tracks wsX6_codeAt := goodIn_ca (goodIn_r _ [6, 7, 8, 9, 10, 11, 12, 5, 13, 17, 18, 19, 20, 21, 22, 23, 24, 25] (by decide +kernel) (by decide +kernel)) (goodIn_sub (fun _ h => List.mem_cons_of_mem _ (List.mem_append_right _ h)) (by decide +kernel))
set_option maxRecDepth 20000 in
theorem gX6_tracks_X6_codeAt : GoodIn wsX6_tracks (wsV RX6 78 RX6 yX6_codeAt wsX6_codeAt) := goodIn_app (goodIn_of _ (by decide +kernel)) ggX6_tracks_X6_codeAt
theorem dX6_tracks_0 : decode cX6_tracks 0 = .ok (.aload_n 0, 1) := by decide +kernel
theorem dX6_tracks_1 : decode cX6_tracks 1 = .ok (.iload_n 1, 1) := by decide +kernel
theorem dX6_tracks_2 : decode cX6_tracks 2 = .ok (.invokevirtual 78, 3) := by decide +kernel
theorem dX6_tracks_5 : decode cX6_tracks 5 = .ok (.getfield 85, 3) := by decide +kernel
theorem dX6_tracks_8 : decode cX6_tracks 8 = .ok (.ireturn, 1) := by decide +kernel
set_option maxRecDepth 20000 in
theorem ggX6_word_X6_codeAt : GoodIn wsX6_word wsX6_codeAt := goodIn_ca (goodIn_r _ [7, 8, 9, 10, 11, 12, 13, 6, 14, 26, 27, 28, 29, 30, 31, 32, 33, 34] (by decide +kernel) (by decide +kernel)) (goodIn_sub (fun _ h => List.mem_cons_of_mem _ (List.mem_append_right _ h)) (by decide +kernel))
set_option maxRecDepth 20000 in
theorem gX6_word_X6_codeAt : GoodIn wsX6_word (wsV RX6 78 RX6 yX6_codeAt wsX6_codeAt) := goodIn_app (goodIn_of _ (by decide +kernel)) ggX6_word_X6_codeAt
set_option maxRecDepth 20000 in
theorem ggX6_word_X0_hasPlace : GoodIn wsX6_word wsX0_hasPlace := goodIn_r _ [19, 20, 35, 36, 37] (by decide +kernel) (by decide +kernel)
set_option maxRecDepth 20000 in
theorem gX6_word_X0_hasPlace : GoodIn wsX6_word (wsV RX6 88 RX0 yX0_hasPlace wsX0_hasPlace) := goodIn_app (goodIn_of _ (by decide +kernel)) ggX6_word_X0_hasPlace
set_option maxRecDepth 20000 in
theorem ggX6_word_X0_wordAt : GoodIn wsX6_word wsX0_wordAt := goodIn_r _ [24, 20, 25, 16, 17, 18, 19, 35, 36, 37] (by decide +kernel) (by decide +kernel)
set_option maxRecDepth 20000 in
theorem gX6_word_X0_wordAt : GoodIn wsX6_word (wsV RX6 94 RX0 yX0_wordAt wsX0_wordAt) := goodIn_app (goodIn_of _ (by decide +kernel)) ggX6_word_X0_wordAt
theorem dX6_word_0 : decode cX6_word 0 = .ok (.aload_n 0, 1) := by decide +kernel
theorem dX6_word_1 : decode cX6_word 1 = .ok (.iload_n 1, 1) := by decide +kernel
theorem dX6_word_2 : decode cX6_word 2 = .ok (.invokevirtual 78, 3) := by decide +kernel
theorem dX6_word_5 : decode cX6_word 5 = .ok (.astore_n 3, 1) := by decide +kernel
theorem dX6_word_6 : decode cX6_word 6 = .ok (.aload_n 3, 1) := by decide +kernel
theorem dX6_word_7 : decode cX6_word 7 = .ok (.iload_n 2, 1) := by decide +kernel
theorem dX6_word_8 : decode cX6_word 8 = .ok (.invokevirtual 88, 3) := by decide +kernel
theorem dX6_word_11 : decode cX6_word 11 = .ok (.ifCond .ne 13, 3) := by decide +kernel
theorem dX6_word_14 : decode cX6_word 14 = .ok (.new 37, 3) := by decide +kernel
theorem dX6_word_17 : decode cX6_word 17 = .ok (.dup, 1) := by decide +kernel
theorem dX6_word_18 : decode cX6_word 18 = .ok (.ldc 92, 2) := by decide +kernel
theorem dX6_word_20 : decode cX6_word 20 = .ok (.invokespecial 41, 3) := by decide +kernel
theorem dX6_word_23 : decode cX6_word 23 = .ok (.athrow, 1) := by decide +kernel
theorem dX6_word_24 : decode cX6_word 24 = .ok (.aload_n 3, 1) := by decide +kernel
theorem dX6_word_25 : decode cX6_word 25 = .ok (.iload_n 2, 1) := by decide +kernel
theorem dX6_word_26 : decode cX6_word 26 = .ok (.invokevirtual 94, 3) := by decide +kernel
theorem dX6_word_29 : decode cX6_word 29 = .ok (.ireturn, 1) := by decide +kernel
set_option maxRecDepth 20000 in
theorem ggX6_place_X6_codeAt : GoodIn wsX6_place wsX6_codeAt := goodIn_ca (goodIn_r _ [9, 10, 11, 12, 13, 14, 15, 8, 16, 23, 24, 25, 26, 27, 28, 29, 30, 31] (by decide +kernel) (by decide +kernel)) (goodIn_sub (fun _ h => List.mem_cons_of_mem _ (List.mem_append_right _ h)) (by decide +kernel))
set_option maxRecDepth 20000 in
theorem gX6_place_X6_codeAt : GoodIn wsX6_place (wsV RX6 78 RX6 yX6_codeAt wsX6_codeAt) := goodIn_app (goodIn_of _ (by decide +kernel)) ggX6_place_X6_codeAt
set_option maxRecDepth 20000 in
theorem ggX6_place_X6_isWithin : GoodIn wsX6_place wsX6_isWithin := goodIn_r _ [16] (by decide +kernel) (by decide +kernel)
set_option maxRecDepth 20000 in
theorem gX6_place_X6_isWithin : GoodIn wsX6_place (va_wsS RX6 33 yX6_isWithin wsX6_isWithin) := goodIn_app (goodIn_of _ (by decide +kernel)) ggX6_place_X6_isWithin
set_option maxRecDepth 20000 in
theorem ggX6_place_X0_placeOf : GoodIn wsX6_place wsX0_placeOf := goodIn_r _ [21, 22, 32, 33, 34] (by decide +kernel) (by decide +kernel)
set_option maxRecDepth 20000 in
theorem gX6_place_X0_placeOf : GoodIn wsX6_place (wsV RX6 98 RX0 yX0_placeOf wsX0_placeOf) := goodIn_app (goodIn_of _ (by decide +kernel)) ggX6_place_X0_placeOf
theorem dX6_place_0 : decode cX6_place 0 = .ok (.aload_n 0, 1) := by decide +kernel
theorem dX6_place_1 : decode cX6_place 1 = .ok (.iload_n 1, 1) := by decide +kernel
theorem dX6_place_2 : decode cX6_place 2 = .ok (.invokevirtual 78, 3) := by decide +kernel
theorem dX6_place_5 : decode cX6_place 5 = .ok (.astore_n 3, 1) := by decide +kernel
theorem dX6_place_6 : decode cX6_place 6 = .ok (.iload_n 2, 1) := by decide +kernel
theorem dX6_place_7 : decode cX6_place 7 = .ok (.iconst 0, 1) := by decide +kernel
theorem dX6_place_8 : decode cX6_place 8 = .ok (.sipush 255, 3) := by decide +kernel
theorem dX6_place_11 : decode cX6_place 11 = .ok (.invokestatic 33, 3) := by decide +kernel
theorem dX6_place_14 : decode cX6_place 14 = .ok (.ifCond .ne 13, 3) := by decide +kernel
theorem dX6_place_17 : decode cX6_place 17 = .ok (.new 37, 3) := by decide +kernel
theorem dX6_place_20 : decode cX6_place 20 = .ok (.dup, 1) := by decide +kernel
theorem dX6_place_21 : decode cX6_place 21 = .ok (.ldc 39, 2) := by decide +kernel
theorem dX6_place_23 : decode cX6_place 23 = .ok (.invokespecial 41, 3) := by decide +kernel
theorem dX6_place_26 : decode cX6_place 26 = .ok (.athrow, 1) := by decide +kernel
theorem dX6_place_27 : decode cX6_place 27 = .ok (.aload_n 3, 1) := by decide +kernel
theorem dX6_place_28 : decode cX6_place 28 = .ok (.iload_n 2, 1) := by decide +kernel
theorem dX6_place_29 : decode cX6_place 29 = .ok (.invokevirtual 98, 3) := by decide +kernel
theorem dX6_place_32 : decode cX6_place 32 = .ok (.istore 4, 2) := by decide +kernel
theorem dX6_place_34 : decode cX6_place 34 = .ok (.iload 4, 2) := by decide +kernel
theorem dX6_place_36 : decode cX6_place 36 = .ok (.iconst (-1), 1) := by decide +kernel
theorem dX6_place_37 : decode cX6_place 37 = .ok (.if_icmp .ne 13, 3) := by decide +kernel
theorem dX6_place_40 : decode cX6_place 40 = .ok (.new 101, 3) := by decide +kernel
theorem dX6_place_43 : decode cX6_place 43 = .ok (.dup, 1) := by decide +kernel
theorem dX6_place_44 : decode cX6_place 44 = .ok (.ldc 103, 2) := by decide +kernel
theorem dX6_place_46 : decode cX6_place 46 = .ok (.invokespecial 105, 3) := by decide +kernel
theorem dX6_place_49 : decode cX6_place 49 = .ok (.athrow, 1) := by decide +kernel
theorem dX6_place_50 : decode cX6_place 50 = .ok (.iload 4, 2) := by decide +kernel
theorem dX6_place_52 : decode cX6_place 52 = .ok (.ireturn, 1) := by decide +kernel
set_option maxRecDepth 20000 in
theorem ggX6_changes_X6_codeAt : GoodIn wsX6_changes wsX6_codeAt := goodIn_ca (goodIn_r _ [7, 8, 9, 10, 11, 12, 13, 6, 14, 40, 41, 42, 43, 44, 45, 46, 47, 48] (by decide +kernel) (by decide +kernel)) (goodIn_sub (fun _ h => List.mem_cons_of_mem _ (List.mem_append_right _ h)) (by decide +kernel))
set_option maxRecDepth 20000 in
theorem gX6_changes_X6_codeAt : GoodIn wsX6_changes (wsV RX6 78 RX6 yX6_codeAt wsX6_codeAt) := goodIn_app (goodIn_of _ (by decide +kernel)) ggX6_changes_X6_codeAt
set_option maxRecDepth 20000 in
theorem ggX6_changes_X0_hasTrack : GoodIn wsX6_changes wsX0_hasTrack := goodIn_r _ [19, 20, 49, 50, 51] (by decide +kernel) (by decide +kernel)
set_option maxRecDepth 20000 in
theorem gX6_changes_X0_hasTrack : GoodIn wsX6_changes (wsV RX6 106 RX0 yX0_hasTrack wsX0_hasTrack) := goodIn_app (goodIn_of _ (by decide +kernel)) ggX6_changes_X0_hasTrack
set_option maxRecDepth 20000 in
theorem ggX6_changes_X0_changesOf : GoodIn wsX6_changes wsX0_changesOf := goodIn_r _ [24, 25, 26, 6, 27, 28, 29, 30, 18, 31, 32, 33, 34, 35, 36, 37, 38, 39, 49, 50, 51] (by decide +kernel) (by decide +kernel)
set_option maxRecDepth 20000 in
theorem gX6_changes_X0_changesOf : GoodIn wsX6_changes (wsV RX6 111 RX0 yX0_changesOf wsX0_changesOf) := goodIn_app (goodIn_of _ (by decide +kernel)) ggX6_changes_X0_changesOf
theorem dX6_changes_0 : decode cX6_changes 0 = .ok (.aload_n 0, 1) := by decide +kernel
theorem dX6_changes_1 : decode cX6_changes 1 = .ok (.iload_n 1, 1) := by decide +kernel
theorem dX6_changes_2 : decode cX6_changes 2 = .ok (.invokevirtual 78, 3) := by decide +kernel
theorem dX6_changes_5 : decode cX6_changes 5 = .ok (.astore_n 3, 1) := by decide +kernel
theorem dX6_changes_6 : decode cX6_changes 6 = .ok (.aload_n 3, 1) := by decide +kernel
theorem dX6_changes_7 : decode cX6_changes 7 = .ok (.iload_n 2, 1) := by decide +kernel
theorem dX6_changes_8 : decode cX6_changes 8 = .ok (.invokevirtual 106, 3) := by decide +kernel
theorem dX6_changes_11 : decode cX6_changes 11 = .ok (.ifCond .ne 13, 3) := by decide +kernel
theorem dX6_changes_14 : decode cX6_changes 14 = .ok (.new 37, 3) := by decide +kernel
theorem dX6_changes_17 : decode cX6_changes 17 = .ok (.dup, 1) := by decide +kernel
theorem dX6_changes_18 : decode cX6_changes 18 = .ok (.ldc 109, 2) := by decide +kernel
theorem dX6_changes_20 : decode cX6_changes 20 = .ok (.invokespecial 41, 3) := by decide +kernel
theorem dX6_changes_23 : decode cX6_changes 23 = .ok (.athrow, 1) := by decide +kernel
theorem dX6_changes_24 : decode cX6_changes 24 = .ok (.aload_n 3, 1) := by decide +kernel
theorem dX6_changes_25 : decode cX6_changes 25 = .ok (.iload_n 2, 1) := by decide +kernel
theorem dX6_changes_26 : decode cX6_changes 26 = .ok (.invokevirtual 111, 3) := by decide +kernel
theorem dX6_changes_29 : decode cX6_changes 29 = .ok (.ireturn, 1) := by decide +kernel
set_option maxRecDepth 20000 in
theorem ggX6_isBalanced_X6_codeAt : GoodIn wsX6_isBalanced wsX6_codeAt := goodIn_ca (goodIn_r _ [5, 6, 7, 8, 9, 10, 11, 4, 12, 45, 46, 47, 48, 49, 50, 51, 52, 53] (by decide +kernel) (by decide +kernel)) (goodIn_sub (fun _ h => List.mem_cons_of_mem _ (List.mem_append_right _ h)) (by decide +kernel))
set_option maxRecDepth 20000 in
theorem gX6_isBalanced_X6_codeAt : GoodIn wsX6_isBalanced (wsV RX6 78 RX6 yX6_codeAt wsX6_codeAt) := goodIn_app (goodIn_of _ (by decide +kernel)) ggX6_isBalanced_X6_codeAt
set_option maxRecDepth 20000 in
theorem ggX6_isBalanced_X0_changesEvenly : GoodIn wsX6_isBalanced wsX0_changesEvenly := goodIn_r _ [17, 18, 19, 20, 21, 22, 23, 24, 25, 26, 27, 28, 29, 16, 30, 31, 4, 32, 33, 34, 35, 36, 37, 38, 39, 40, 41, 42, 43, 44, 54, 55, 56] (by decide +kernel) (by decide +kernel)
set_option maxRecDepth 20000 in
theorem gX6_isBalanced_X0_changesEvenly : GoodIn wsX6_isBalanced (wsV RX6 114 RX0 yX0_changesEvenly wsX0_changesEvenly) := goodIn_app (goodIn_of _ (by decide +kernel)) ggX6_isBalanced_X0_changesEvenly
theorem dX6_isBalanced_0 : decode cX6_isBalanced 0 = .ok (.aload_n 0, 1) := by decide +kernel
theorem dX6_isBalanced_1 : decode cX6_isBalanced 1 = .ok (.iload_n 1, 1) := by decide +kernel
theorem dX6_isBalanced_2 : decode cX6_isBalanced 2 = .ok (.invokevirtual 78, 3) := by decide +kernel
theorem dX6_isBalanced_5 : decode cX6_isBalanced 5 = .ok (.invokevirtual 114, 3) := by decide +kernel
theorem dX6_isBalanced_8 : decode cX6_isBalanced 8 = .ok (.ireturn, 1) := by decide +kernel
set_option maxRecDepth 20000 in
theorem ggX6_isOneTrack_X6_codeAt : GoodIn wsX6_isOneTrack wsX6_codeAt := goodIn_ca (goodIn_r _ [5, 6, 7, 8, 9, 10, 11, 4, 12, 42, 43, 44, 45, 46, 47, 48, 49, 50] (by decide +kernel) (by decide +kernel)) (goodIn_sub (fun _ h => List.mem_cons_of_mem _ (List.mem_append_right _ h)) (by decide +kernel))
set_option maxRecDepth 20000 in
theorem gX6_isOneTrack_X6_codeAt : GoodIn wsX6_isOneTrack (wsV RX6 78 RX6 yX6_codeAt wsX6_codeAt) := goodIn_app (goodIn_of _ (by decide +kernel)) ggX6_isOneTrack_X6_codeAt
set_option maxRecDepth 20000 in
theorem ggX6_isOneTrack_X0_repeatsFirstTrack : GoodIn wsX6_isOneTrack wsX0_repeatsFirstTrack := goodIn_r _ [17, 18, 19, 20, 21, 16, 22, 23, 24, 25, 26, 27, 28, 29, 30, 31, 32, 33, 34, 35, 36, 37, 38, 39, 40, 4, 41, 51, 52, 53] (by decide +kernel) (by decide +kernel)
set_option maxRecDepth 20000 in
theorem gX6_isOneTrack_X0_repeatsFirstTrack : GoodIn wsX6_isOneTrack (wsV RX6 117 RX0 yX0_repeatsFirstTrack wsX0_repeatsFirstTrack) := goodIn_app (goodIn_of _ (by decide +kernel)) ggX6_isOneTrack_X0_repeatsFirstTrack
theorem dX6_isOneTrack_0 : decode cX6_isOneTrack 0 = .ok (.aload_n 0, 1) := by decide +kernel
theorem dX6_isOneTrack_1 : decode cX6_isOneTrack 1 = .ok (.iload_n 1, 1) := by decide +kernel
theorem dX6_isOneTrack_2 : decode cX6_isOneTrack 2 = .ok (.invokevirtual 78, 3) := by decide +kernel
theorem dX6_isOneTrack_5 : decode cX6_isOneTrack 5 = .ok (.invokevirtual 117, 3) := by decide +kernel
theorem dX6_isOneTrack_8 : decode cX6_isOneTrack 8 = .ok (.ireturn, 1) := by decide +kernel
set_option maxRecDepth 20000 in
theorem ggX6_setDisc_X6_codeAt : GoodIn wsX6_setDisc wsX6_codeAt := goodIn_ca (goodIn_r _ [13, 14, 15, 16, 17, 18, 19, 12, 20, 83, 84, 85, 86, 87, 88, 89, 90, 91] (by decide +kernel) (by decide +kernel)) (goodIn_sub (fun _ h => List.mem_cons_of_mem _ (List.mem_append_right _ h)) (by decide +kernel))
set_option maxRecDepth 20000 in
theorem gX6_setDisc_X6_codeAt : GoodIn wsX6_setDisc (wsV RX6 78 RX6 yX6_codeAt wsX6_codeAt) := goodIn_app (goodIn_of _ (by decide +kernel)) ggX6_setDisc_X6_codeAt
set_option maxRecDepth 20000 in
theorem ggX6_setDisc_X6_isWithin : GoodIn wsX6_setDisc wsX6_isWithin := goodIn_r _ [20] (by decide +kernel) (by decide +kernel)
set_option maxRecDepth 20000 in
theorem gX6_setDisc_X6_isWithin : GoodIn wsX6_setDisc (va_wsS RX6 33 yX6_isWithin wsX6_isWithin) := goodIn_app (goodIn_of _ (by decide +kernel)) ggX6_setDisc_X6_isWithin
set_option maxRecDepth 20000 in
theorem ggX6_setDisc_X1_init : GoodIn wsX6_setDisc wsX1_init := goodIn_r _ [23, 24, 25, 26, 27, 28, 29, 30, 31, 32, 33, 34, 35, 36, 37, 38, 39, 40, 41, 42, 43, 44, 45, 46, 47, 48, 49, 50, 51, 52, 53, 54, 55, 56, 57, 58, 59, 60, 61, 62, 63, 64, 65, 66, 67, 92, 93, 94, 95, 96, 75, 76, 77, 78, 79, 80, 81, 82, 97, 98, 99, 100, 101, 102, 103, 104, 105, 106, 107, 108, 109, 110, 111] (by decide +kernel) (by decide +kernel)
set_option maxRecDepth 20000 in
theorem gX6_setDisc_X1_init : GoodIn wsX6_setDisc (wsX1_init) := ggX6_setDisc_X1_init
set_option maxRecDepth 20000 in
theorem ggX6_setDisc_X2_clear : GoodIn wsX6_setDisc wsX2_clear := goodIn_r _ [72, 73, 74, 112, 113, 114, 115, 116, 117, 118] (by decide +kernel) (by decide +kernel)
set_option maxRecDepth 20000 in
theorem gX6_setDisc_X2_clear : GoodIn wsX6_setDisc (wsV RX6 131 RX2 yX2_clear wsX2_clear) := goodIn_app (goodIn_of _ (by decide +kernel)) ggX6_setDisc_X2_clear
theorem dX6_setDisc_0 : decode cX6_setDisc 0 = .ok (.aload_n 0, 1) := by decide +kernel
theorem dX6_setDisc_1 : decode cX6_setDisc 1 = .ok (.iload_n 1, 1) := by decide +kernel
theorem dX6_setDisc_2 : decode cX6_setDisc 2 = .ok (.invokevirtual 78, 3) := by decide +kernel
theorem dX6_setDisc_5 : decode cX6_setDisc 5 = .ok (.astore_n 3, 1) := by decide +kernel
theorem dX6_setDisc_6 : decode cX6_setDisc 6 = .ok (.iload_n 2, 1) := by decide +kernel
theorem dX6_setDisc_7 : decode cX6_setDisc 7 = .ok (.iconst 0, 1) := by decide +kernel
theorem dX6_setDisc_8 : decode cX6_setDisc 8 = .ok (.bipush 40, 2) := by decide +kernel
theorem dX6_setDisc_10 : decode cX6_setDisc 10 = .ok (.invokestatic 33, 3) := by decide +kernel
theorem dX6_setDisc_13 : decode cX6_setDisc 13 = .ok (.ifCond .ne 13, 3) := by decide +kernel
theorem dX6_setDisc_16 : decode cX6_setDisc 16 = .ok (.new 37, 3) := by decide +kernel
theorem dX6_setDisc_19 : decode cX6_setDisc 19 = .ok (.dup, 1) := by decide +kernel
theorem dX6_setDisc_20 : decode cX6_setDisc 20 = .ok (.ldc 120, 2) := by decide +kernel
theorem dX6_setDisc_22 : decode cX6_setDisc 22 = .ok (.invokespecial 41, 3) := by decide +kernel
theorem dX6_setDisc_25 : decode cX6_setDisc 25 = .ok (.athrow, 1) := by decide +kernel
theorem dX6_setDisc_26 : decode cX6_setDisc 26 = .ok (.aload_n 0, 1) := by decide +kernel
theorem dX6_setDisc_27 : decode cX6_setDisc 27 = .ok (.new 122, 3) := by decide +kernel
theorem dX6_setDisc_30 : decode cX6_setDisc 30 = .ok (.dup, 1) := by decide +kernel
theorem dX6_setDisc_31 : decode cX6_setDisc 31 = .ok (.aload_n 3, 1) := by decide +kernel
theorem dX6_setDisc_32 : decode cX6_setDisc 32 = .ok (.iload_n 2, 1) := by decide +kernel
theorem dX6_setDisc_33 : decode cX6_setDisc 33 = .ok (.invokespecial 124, 3) := by decide +kernel
theorem dX6_setDisc_36 : decode cX6_setDisc 36 = .ok (.putfield 127, 3) := by decide +kernel
theorem dX6_setDisc_39 : decode cX6_setDisc 39 = .ok (.aload_n 0, 1) := by decide +kernel
theorem dX6_setDisc_40 : decode cX6_setDisc 40 = .ok (.getfield 29, 3) := by decide +kernel
theorem dX6_setDisc_43 : decode cX6_setDisc 43 = .ok (.invokevirtual 131, 3) := by decide +kernel
theorem dX6_setDisc_46 : decode cX6_setDisc 46 = .ok (.aload_n 0, 1) := by decide +kernel
theorem dX6_setDisc_47 : decode cX6_setDisc 47 = .ok (.getfield 127, 3) := by decide +kernel
theorem dX6_setDisc_50 : decode cX6_setDisc 50 = .ok (.getfield 134, 3) := by decide +kernel
theorem dX6_setDisc_53 : decode cX6_setDisc 53 = .ok (.ireturn, 1) := by decide +kernel
set_option maxRecDepth 20000 in
theorem ggX6_angle_X6_theDisc : GoodIn wsX6_angle wsX6_theDisc := goodIn_ca (goodIn_r _ [6, 7, 8, 9, 18, 19, 20, 21, 22, 23, 24, 25, 26] (by decide +kernel) (by decide +kernel)) (goodIn_sub (fun _ h => List.mem_cons_of_mem _ (List.mem_append_right _ h)) (by decide +kernel))
set_option maxRecDepth 20000 in
theorem gX6_angle_X6_theDisc : GoodIn wsX6_angle (wsV RX6 137 RX6 yX6_theDisc wsX6_theDisc) := goodIn_app (goodIn_of _ (by decide +kernel)) ggX6_angle_X6_theDisc
theorem dX6_angle_0 : decode cX6_angle 0 = .ok (.aload_n 0, 1) := by decide +kernel
theorem dX6_angle_1 : decode cX6_angle 1 = .ok (.invokevirtual 137, 3) := by decide +kernel
theorem dX6_angle_4 : decode cX6_angle 4 = .ok (.getfield 141, 3) := by decide +kernel
theorem dX6_angle_7 : decode cX6_angle 7 = .ok (.ireturn, 1) := by decide +kernel
set_option maxRecDepth 20000 in
theorem ggX6_turn_X6_theDisc : GoodIn wsX6_turn wsX6_theDisc := goodIn_ca (goodIn_r _ [15, 16, 17, 18, 139, 140, 141, 142, 143, 144, 145, 146, 147] (by decide +kernel) (by decide +kernel)) (goodIn_sub (fun _ h => List.mem_cons_of_mem _ (List.mem_append_right _ h)) (by decide +kernel))
set_option maxRecDepth 20000 in
theorem gX6_turn_X6_theDisc : GoodIn wsX6_turn (wsV RX6 137 RX6 yX6_theDisc wsX6_theDisc) := goodIn_app (goodIn_of _ (by decide +kernel)) ggX6_turn_X6_theDisc
set_option maxRecDepth 20000 in
theorem ggX6_turn_X6_isWithin : GoodIn wsX6_turn wsX6_isWithin := goodIn_r _ [21] (by decide +kernel) (by decide +kernel)
set_option maxRecDepth 20000 in
theorem gX6_turn_X6_isWithin : GoodIn wsX6_turn (va_wsS RX6 33 yX6_isWithin wsX6_isWithin) := goodIn_app (goodIn_of _ (by decide +kernel)) ggX6_turn_X6_isWithin
set_option maxRecDepth 20000 in
theorem ggX6_turn_X1_advance : GoodIn wsX6_turn wsX1_advance := goodIn_r _ [26, 27, 28, 29, 30, 31, 14, 32, 33, 34, 35, 36, 37, 38, 39, 40, 41, 42, 126, 127, 128, 129, 130, 131, 132, 133, 148, 149, 150, 151, 152, 153, 154, 155, 156, 157, 158, 159] (by decide +kernel) (by decide +kernel)
set_option maxRecDepth 20000 in
theorem gX6_turn_X1_advance : GoodIn wsX6_turn (wsV RX6 192 RX1 yX1_advance wsX1_advance) := goodIn_app (goodIn_of _ (by decide +kernel)) ggX6_turn_X1_advance
set_option maxRecDepth 20000 in
theorem ggX6_turn_X5_readAt : GoodIn wsX6_turn wsX5_readAt := goodIn_r _ [47, 48, 49, 50, 51, 52, 36, 53, 41, 54, 55, 56, 57, 58, 38, 39, 59, 60, 61, 62, 14, 63, 19, 20, 21, 64, 65, 66, 67, 68, 69, 70, 71, 72, 31, 32, 73, 74, 75, 76, 77, 78, 79, 80, 81, 82, 83, 84, 85, 86, 87, 88, 89, 90, 91, 92, 93, 94, 46, 95, 96, 97, 98, 99, 100, 101, 102, 103, 104, 105, 106, 107, 108, 109, 110, 111, 112, 113, 114, 115, 116, 117, 118, 119, 120, 121, 122, 123, 124, 125, 148, 149, 150, 151, 152, 153, 154, 155, 156, 134, 135, 136, 137, 138, 157, 158, 159] (by decide +kernel) (by decide +kernel)
set_option maxRecDepth 20000 in
theorem gX6_turn_X5_readAt : GoodIn wsX6_turn (wsV RX6 210 RX5 yX5_readAt wsX5_readAt) := goodIn_app (goodIn_of _ (by decide +kernel)) ggX6_turn_X5_readAt
theorem dX6_turn_0 : decode cX6_turn 0 = .ok (.aload_n 0, 1) := by decide +kernel
theorem dX6_turn_1 : decode cX6_turn 1 = .ok (.invokevirtual 137, 3) := by decide +kernel
theorem dX6_turn_4 : decode cX6_turn 4 = .ok (.astore_n 2, 1) := by decide +kernel
theorem dX6_turn_5 : decode cX6_turn 5 = .ok (.iload_n 1, 1) := by decide +kernel
theorem dX6_turn_6 : decode cX6_turn 6 = .ok (.sipush (-500), 3) := by decide +kernel
theorem dX6_turn_9 : decode cX6_turn 9 = .ok (.sipush 500, 3) := by decide +kernel
theorem dX6_turn_12 : decode cX6_turn 12 = .ok (.invokestatic 33, 3) := by decide +kernel
theorem dX6_turn_15 : decode cX6_turn 15 = .ok (.ifCond .ne 13, 3) := by decide +kernel
theorem dX6_turn_18 : decode cX6_turn 18 = .ok (.new 37, 3) := by decide +kernel
theorem dX6_turn_21 : decode cX6_turn 21 = .ok (.dup, 1) := by decide +kernel
theorem dX6_turn_22 : decode cX6_turn 22 = .ok (.ldc 190, 2) := by decide +kernel
theorem dX6_turn_24 : decode cX6_turn 24 = .ok (.invokespecial 41, 3) := by decide +kernel
theorem dX6_turn_27 : decode cX6_turn 27 = .ok (.athrow, 1) := by decide +kernel
theorem dX6_turn_28 : decode cX6_turn 28 = .ok (.aload_n 2, 1) := by decide +kernel
theorem dX6_turn_29 : decode cX6_turn 29 = .ok (.iload_n 1, 1) := by decide +kernel
theorem dX6_turn_30 : decode cX6_turn 30 = .ok (.invokevirtual 192, 3) := by decide +kernel
theorem dX6_turn_33 : decode cX6_turn 33 = .ok (.aload_n 2, 1) := by decide +kernel
theorem dX6_turn_34 : decode cX6_turn 34 = .ok (.getfield 196, 3) := by decide +kernel
theorem dX6_turn_37 : decode cX6_turn 37 = .ok (.astore_n 3, 1) := by decide +kernel
theorem dX6_turn_38 : decode cX6_turn 38 = .ok (.aload_n 2, 1) := by decide +kernel
theorem dX6_turn_39 : decode cX6_turn 39 = .ok (.getfield 200, 3) := by decide +kernel
theorem dX6_turn_42 : decode cX6_turn 42 = .ok (.ifCond .eq 51, 3) := by decide +kernel
theorem dX6_turn_45 : decode cX6_turn 45 = .ok (.aload_n 3, 1) := by decide +kernel
theorem dX6_turn_46 : decode cX6_turn 46 = .ok (.getfield 204, 3) := by decide +kernel
theorem dX6_turn_49 : decode cX6_turn 49 = .ok (.bipush 115, 2) := by decide +kernel
theorem dX6_turn_51 : decode cX6_turn 51 = .ok (.if_icmp .eq 42, 3) := by decide +kernel
theorem dX6_turn_54 : decode cX6_turn 54 = .ok (.aload_n 3, 1) := by decide +kernel
theorem dX6_turn_55 : decode cX6_turn 55 = .ok (.aload_n 2, 1) := by decide +kernel
theorem dX6_turn_56 : decode cX6_turn 56 = .ok (.getfield 147, 3) := by decide +kernel
theorem dX6_turn_59 : decode cX6_turn 59 = .ok (.aload_n 2, 1) := by decide +kernel
theorem dX6_turn_60 : decode cX6_turn 60 = .ok (.getfield 141, 3) := by decide +kernel
theorem dX6_turn_63 : decode cX6_turn 63 = .ok (.aload_n 0, 1) := by decide +kernel
theorem dX6_turn_64 : decode cX6_turn 64 = .ok (.getfield 19, 3) := by decide +kernel
theorem dX6_turn_67 : decode cX6_turn 67 = .ok (.aload_n 0, 1) := by decide +kernel
theorem dX6_turn_68 : decode cX6_turn 68 = .ok (.getfield 23, 3) := by decide +kernel
theorem dX6_turn_71 : decode cX6_turn 71 = .ok (.invokevirtual 210, 3) := by decide +kernel
theorem dX6_turn_74 : decode cX6_turn 74 = .ok (.aload_n 3, 1) := by decide +kernel
theorem dX6_turn_75 : decode cX6_turn 75 = .ok (.getfield 204, 3) := by decide +kernel
theorem dX6_turn_78 : decode cX6_turn 78 = .ok (.bipush 115, 2) := by decide +kernel
theorem dX6_turn_80 : decode cX6_turn 80 = .ok (.if_icmp .ne 13, 3) := by decide +kernel
theorem dX6_turn_83 : decode cX6_turn 83 = .ok (.aload_n 0, 1) := by decide +kernel
theorem dX6_turn_84 : decode cX6_turn 84 = .ok (.dup, 1) := by decide +kernel
theorem dX6_turn_85 : decode cX6_turn 85 = .ok (.getfield 214, 3) := by decide +kernel
theorem dX6_turn_88 : decode cX6_turn 88 = .ok (.iconst 1, 1) := by decide +kernel
theorem dX6_turn_89 : decode cX6_turn 89 = .ok (.iadd, 1) := by decide +kernel
theorem dX6_turn_90 : decode cX6_turn 90 = .ok (.putfield 214, 3) := by decide +kernel
theorem dX6_turn_93 : decode cX6_turn 93 = .ok (.aload_n 2, 1) := by decide +kernel
theorem dX6_turn_94 : decode cX6_turn 94 = .ok (.getfield 141, 3) := by decide +kernel
theorem dX6_turn_97 : decode cX6_turn 97 = .ok (.ireturn, 1) := by decide +kernel
set_option maxRecDepth 20000 in
theorem ggX6_isSound_X6_isRing : GoodIn wsX6_isSound wsX6_isRing := goodIn_r _ [18, 19, 20, 21, 22, 23, 24, 25] (by decide +kernel) (by decide +kernel)
set_option maxRecDepth 20000 in
theorem gX6_isSound_X6_isRing : GoodIn wsX6_isSound (va_wsS RX6 360 yX6_isRing wsX6_isRing) := goodIn_app (goodIn_of _ (by decide +kernel)) ggX6_isSound_X6_isRing
set_option maxRecDepth 20000 in
theorem ggX6_isSound_X4_init : GoodIn wsX6_isSound wsX4_init := goodIn_r _ [28, 29, 30, 31, 32, 33, 34, 35, 36, 37, 38, 39, 40, 41, 128, 129, 130, 131, 132, 133, 134, 135, 136, 125, 126, 127] (by decide +kernel) (by decide +kernel)
set_option maxRecDepth 20000 in
theorem gX6_isSound_X4_init : GoodIn wsX6_isSound (wsX4_init) := ggX6_isSound_X4_init
set_option maxRecDepth 20000 in
theorem ggX6_isSound_X6_isWithin : GoodIn wsX6_isSound wsX6_isWithin := goodIn_r _ [44] (by decide +kernel) (by decide +kernel)
set_option maxRecDepth 20000 in
theorem gX6_isSound_X6_isWithin : GoodIn wsX6_isSound (va_wsS RX6 33 yX6_isWithin wsX6_isWithin) := goodIn_app (goodIn_of _ (by decide +kernel)) ggX6_isSound_X6_isWithin
set_option maxRecDepth 20000 in
theorem ggX6_isSound_X3_areInOrder : GoodIn wsX6_isSound wsX3_areInOrder := goodIn_r _ [49, 50, 51, 52, 53, 54, 48, 55, 56, 57, 58, 59, 60, 43, 17, 44, 61, 62, 150, 151, 152] (by decide +kernel) (by decide +kernel)
set_option maxRecDepth 20000 in
theorem gX6_isSound_X3_areInOrder : GoodIn wsX6_isSound (wsV RX6 364 RX3 yX3_areInOrder wsX3_areInOrder) := goodIn_app (goodIn_of _ (by decide +kernel)) ggX6_isSound_X3_areInOrder
set_option maxRecDepth 20000 in
theorem ggX6_isSound_X4_tellMiddles : GoodIn wsX6_isSound wsX4_tellMiddles := goodIn_r _ [66, 38, 40, 67, 68, 69, 7, 70, 71, 72, 73, 74, 75, 76, 77, 78, 41, 79, 80, 81, 82, 83, 33, 34, 36, 37, 84, 17, 85, 42, 43, 44, 86, 87, 88, 89, 90, 91, 92, 93, 39, 61, 62, 94, 95, 96, 97, 98, 99, 100, 101, 102, 103, 104, 105, 106, 107, 108, 109, 110, 111, 112, 113, 114, 115, 128, 129, 130, 131, 132, 133, 134, 135, 136, 125, 126, 127] (by decide +kernel) (by decide +kernel)
set_option maxRecDepth 20000 in
theorem gX6_isSound_X4_tellMiddles : GoodIn wsX6_isSound (wsV RX6 367 RX4 yX4_tellMiddles wsX4_tellMiddles) := goodIn_app (goodIn_of _ (by decide +kernel)) ggX6_isSound_X4_tellMiddles
theorem dX6_isSound_0 : decode cX6_isSound 0 = .ok (.iconst 0, 1) := by decide +kernel
theorem dX6_isSound_1 : decode cX6_isSound 1 = .ok (.istore_n 1, 1) := by decide +kernel
theorem dX6_isSound_2 : decode cX6_isSound 2 = .ok (.iload_n 1, 1) := by decide +kernel
theorem dX6_isSound_3 : decode cX6_isSound 3 = .ok (.aload_n 0, 1) := by decide +kernel
theorem dX6_isSound_4 : decode cX6_isSound 4 = .ok (.getfield 61, 3) := by decide +kernel
theorem dX6_isSound_7 : decode cX6_isSound 7 = .ok (.if_icmp .ge 37, 3) := by decide +kernel
theorem dX6_isSound_10 : decode cX6_isSound 10 = .ok (.aload_n 0, 1) := by decide +kernel
theorem dX6_isSound_11 : decode cX6_isSound 11 = .ok (.getfield 15, 3) := by decide +kernel
theorem dX6_isSound_14 : decode cX6_isSound 14 = .ok (.iload_n 1, 1) := by decide +kernel
theorem dX6_isSound_15 : decode cX6_isSound 15 = .ok (.aaload, 1) := by decide +kernel
theorem dX6_isSound_16 : decode cX6_isSound 16 = .ok (.astore_n 2, 1) := by decide +kernel
theorem dX6_isSound_17 : decode cX6_isSound 17 = .ok (.aload_n 2, 1) := by decide +kernel
theorem dX6_isSound_18 : decode cX6_isSound 18 = .ok (.ifnull 20, 3) := by decide +kernel
theorem dX6_isSound_21 : decode cX6_isSound 21 = .ok (.aload_n 2, 1) := by decide +kernel
theorem dX6_isSound_22 : decode cX6_isSound 22 = .ok (.getfield 82, 3) := by decide +kernel
theorem dX6_isSound_25 : decode cX6_isSound 25 = .ok (.aload_n 2, 1) := by decide +kernel
theorem dX6_isSound_26 : decode cX6_isSound 26 = .ok (.getfield 82, 3) := by decide +kernel
theorem dX6_isSound_29 : decode cX6_isSound 29 = .ok (.arraylength, 1) := by decide +kernel
theorem dX6_isSound_30 : decode cX6_isSound 30 = .ok (.invokestatic 360, 3) := by decide +kernel
theorem dX6_isSound_33 : decode cX6_isSound 33 = .ok (.ifCond .ne 5, 3) := by decide +kernel
theorem dX6_isSound_36 : decode cX6_isSound 36 = .ok (.iconst 0, 1) := by decide +kernel
theorem dX6_isSound_37 : decode cX6_isSound 37 = .ok (.ireturn, 1) := by decide +kernel
theorem dX6_isSound_38 : decode cX6_isSound 38 = .ok (.iinc 1 1, 3) := by decide +kernel
theorem dX6_isSound_41 : decode cX6_isSound 41 = .ok (.goto (-39), 3) := by decide +kernel
theorem dX6_isSound_44 : decode cX6_isSound 44 = .ok (.aload_n 0, 1) := by decide +kernel
theorem dX6_isSound_45 : decode cX6_isSound 45 = .ok (.getfield 127, 3) := by decide +kernel
theorem dX6_isSound_48 : decode cX6_isSound 48 = .ok (.astore_n 1, 1) := by decide +kernel
theorem dX6_isSound_49 : decode cX6_isSound 49 = .ok (.aload_n 1, 1) := by decide +kernel
theorem dX6_isSound_50 : decode cX6_isSound 50 = .ok (.ifnonnull 5, 3) := by decide +kernel
theorem dX6_isSound_53 : decode cX6_isSound 53 = .ok (.iconst 1, 1) := by decide +kernel
theorem dX6_isSound_54 : decode cX6_isSound 54 = .ok (.ireturn, 1) := by decide +kernel
theorem dX6_isSound_55 : decode cX6_isSound 55 = .ok (.new 152, 3) := by decide +kernel
theorem dX6_isSound_58 : decode cX6_isSound 58 = .ok (.dup, 1) := by decide +kernel
theorem dX6_isSound_59 : decode cX6_isSound 59 = .ok (.aload_n 1, 1) := by decide +kernel
theorem dX6_isSound_60 : decode cX6_isSound 60 = .ok (.getfield 147, 3) := by decide +kernel
theorem dX6_isSound_63 : decode cX6_isSound 63 = .ok (.getfield 151, 3) := by decide +kernel
theorem dX6_isSound_66 : decode cX6_isSound 66 = .ok (.iconst 0, 1) := by decide +kernel
theorem dX6_isSound_67 : decode cX6_isSound 67 = .ok (.invokespecial 345, 3) := by decide +kernel
theorem dX6_isSound_70 : decode cX6_isSound 70 = .ok (.astore_n 2, 1) := by decide +kernel
theorem dX6_isSound_71 : decode cX6_isSound 71 = .ok (.aload_n 1, 1) := by decide +kernel
theorem dX6_isSound_72 : decode cX6_isSound 72 = .ok (.getfield 196, 3) := by decide +kernel
theorem dX6_isSound_75 : decode cX6_isSound 75 = .ok (.getfield 221, 3) := by decide +kernel
theorem dX6_isSound_78 : decode cX6_isSound 78 = .ok (.iconst 0, 1) := by decide +kernel
theorem dX6_isSound_79 : decode cX6_isSound 79 = .ok (.aload_n 1, 1) := by decide +kernel
theorem dX6_isSound_80 : decode cX6_isSound 80 = .ok (.getfield 134, 3) := by decide +kernel
theorem dX6_isSound_83 : decode cX6_isSound 83 = .ok (.iconst 1, 1) := by decide +kernel
theorem dX6_isSound_84 : decode cX6_isSound 84 = .ok (.isub, 1) := by decide +kernel
theorem dX6_isSound_85 : decode cX6_isSound 85 = .ok (.invokestatic 33, 3) := by decide +kernel
theorem dX6_isSound_88 : decode cX6_isSound 88 = .ok (.ifCond .eq 28, 3) := by decide +kernel
theorem dX6_isSound_91 : decode cX6_isSound 91 = .ok (.aload_n 1, 1) := by decide +kernel
theorem dX6_isSound_92 : decode cX6_isSound 92 = .ok (.getfield 252, 3) := by decide +kernel
theorem dX6_isSound_95 : decode cX6_isSound 95 = .ok (.aload_n 1, 1) := by decide +kernel
theorem dX6_isSound_96 : decode cX6_isSound 96 = .ok (.getfield 144, 3) := by decide +kernel
theorem dX6_isSound_99 : decode cX6_isSound 99 = .ok (.invokevirtual 364, 3) := by decide +kernel
theorem dX6_isSound_102 : decode cX6_isSound 102 = .ok (.ifCond .eq 14, 3) := by decide +kernel
theorem dX6_isSound_105 : decode cX6_isSound 105 = .ok (.aload_n 2, 1) := by decide +kernel
theorem dX6_isSound_106 : decode cX6_isSound 106 = .ok (.invokevirtual 367, 3) := by decide +kernel
theorem dX6_isSound_109 : decode cX6_isSound 109 = .ok (.ifCond .eq 7, 3) := by decide +kernel
theorem dX6_isSound_112 : decode cX6_isSound 112 = .ok (.iconst 1, 1) := by decide +kernel
theorem dX6_isSound_113 : decode cX6_isSound 113 = .ok (.goto 4, 3) := by decide +kernel
theorem dX6_isSound_116 : decode cX6_isSound 116 = .ok (.iconst 0, 1) := by decide +kernel
theorem dX6_isSound_117 : decode cX6_isSound 117 = .ok (.ireturn, 1) := by decide +kernel
theorem dX6_isWithin_0 : decode cX6_isWithin 0 = .ok (.iload_n 0, 1) := by decide +kernel
theorem dX6_isWithin_1 : decode cX6_isWithin 1 = .ok (.iload_n 1, 1) := by decide +kernel
theorem dX6_isWithin_2 : decode cX6_isWithin 2 = .ok (.if_icmp .lt 12, 3) := by decide +kernel
theorem dX6_isWithin_5 : decode cX6_isWithin 5 = .ok (.iload_n 0, 1) := by decide +kernel
theorem dX6_isWithin_6 : decode cX6_isWithin 6 = .ok (.iload_n 2, 1) := by decide +kernel
theorem dX6_isWithin_7 : decode cX6_isWithin 7 = .ok (.if_icmp .gt 7, 3) := by decide +kernel
theorem dX6_isWithin_10 : decode cX6_isWithin 10 = .ok (.iconst 1, 1) := by decide +kernel
theorem dX6_isWithin_11 : decode cX6_isWithin 11 = .ok (.goto 4, 3) := by decide +kernel
theorem dX6_isWithin_14 : decode cX6_isWithin 14 = .ok (.iconst 0, 1) := by decide +kernel
theorem dX6_isWithin_15 : decode cX6_isWithin 15 = .ok (.ireturn, 1) := by decide +kernel
theorem dX6_modulo_0 : decode cX6_modulo 0 = .ok (.iload_n 1, 1) := by decide +kernel
theorem dX6_modulo_1 : decode cX6_modulo 1 = .ok (.ifCond .gt 5, 3) := by decide +kernel
theorem dX6_modulo_4 : decode cX6_modulo 4 = .ok (.iconst 0, 1) := by decide +kernel
theorem dX6_modulo_5 : decode cX6_modulo 5 = .ok (.ireturn, 1) := by decide +kernel
theorem dX6_modulo_6 : decode cX6_modulo 6 = .ok (.iload_n 0, 1) := by decide +kernel
theorem dX6_modulo_7 : decode cX6_modulo 7 = .ok (.iload_n 1, 1) := by decide +kernel
theorem dX6_modulo_8 : decode cX6_modulo 8 = .ok (.irem, 1) := by decide +kernel
theorem dX6_modulo_9 : decode cX6_modulo 9 = .ok (.istore_n 2, 1) := by decide +kernel
theorem dX6_modulo_10 : decode cX6_modulo 10 = .ok (.iload_n 2, 1) := by decide +kernel
theorem dX6_modulo_11 : decode cX6_modulo 11 = .ok (.ifCond .ge 9, 3) := by decide +kernel
theorem dX6_modulo_14 : decode cX6_modulo 14 = .ok (.iload_n 2, 1) := by decide +kernel
theorem dX6_modulo_15 : decode cX6_modulo 15 = .ok (.iload_n 1, 1) := by decide +kernel
theorem dX6_modulo_16 : decode cX6_modulo 16 = .ok (.iadd, 1) := by decide +kernel
theorem dX6_modulo_17 : decode cX6_modulo 17 = .ok (.goto 4, 3) := by decide +kernel
theorem dX6_modulo_20 : decode cX6_modulo 20 = .ok (.iload_n 2, 1) := by decide +kernel
theorem dX6_modulo_21 : decode cX6_modulo 21 = .ok (.ireturn, 1) := by decide +kernel
set_option maxRecDepth 20000 in
theorem ggX6_isRing_J6_bitCount_0f7a4 : GoodIn wsX6_isRing wsJ6_bitCount_0f7a4 := goodIn_r _ [4, 5, 6, 7] (by decide +kernel) (by decide +kernel)
set_option maxRecDepth 20000 in
theorem gX6_isRing_J6_bitCount_0f7a4 : GoodIn wsX6_isRing (va_wsS RX6 379 yJ6_bitCount_0f7a4 wsJ6_bitCount_0f7a4) := goodIn_app (goodIn_of _ (by decide +kernel)) ggX6_isRing_J6_bitCount_0f7a4
theorem dX6_isRing_0 : decode cX6_isRing 0 = .ok (.iconst 0, 1) := by decide +kernel
theorem dX6_isRing_1 : decode cX6_isRing 1 = .ok (.istore_n 2, 1) := by decide +kernel
theorem dX6_isRing_2 : decode cX6_isRing 2 = .ok (.iload_n 2, 1) := by decide +kernel
theorem dX6_isRing_3 : decode cX6_isRing 3 = .ok (.iload_n 1, 1) := by decide +kernel
theorem dX6_isRing_4 : decode cX6_isRing 4 = .ok (.if_icmp .ge 54, 3) := by decide +kernel
theorem dX6_isRing_7 : decode cX6_isRing 7 = .ok (.iload_n 2, 1) := by decide +kernel
theorem dX6_isRing_8 : decode cX6_isRing 8 = .ok (.aload_n 0, 1) := by decide +kernel
theorem dX6_isRing_9 : decode cX6_isRing 9 = .ok (.arraylength, 1) := by decide +kernel
theorem dX6_isRing_10 : decode cX6_isRing 10 = .ok (.if_icmp .ge 48, 3) := by decide +kernel
theorem dX6_isRing_13 : decode cX6_isRing 13 = .ok (.iload_n 2, 1) := by decide +kernel
theorem dX6_isRing_14 : decode cX6_isRing 14 = .ok (.iconst 1, 1) := by decide +kernel
theorem dX6_isRing_15 : decode cX6_isRing 15 = .ok (.iadd, 1) := by decide +kernel
theorem dX6_isRing_16 : decode cX6_isRing 16 = .ok (.iload_n 1, 1) := by decide +kernel
theorem dX6_isRing_17 : decode cX6_isRing 17 = .ok (.if_icmp .ge 17, 3) := by decide +kernel
theorem dX6_isRing_20 : decode cX6_isRing 20 = .ok (.iload_n 2, 1) := by decide +kernel
theorem dX6_isRing_21 : decode cX6_isRing 21 = .ok (.iconst 1, 1) := by decide +kernel
theorem dX6_isRing_22 : decode cX6_isRing 22 = .ok (.iadd, 1) := by decide +kernel
theorem dX6_isRing_23 : decode cX6_isRing 23 = .ok (.aload_n 0, 1) := by decide +kernel
theorem dX6_isRing_24 : decode cX6_isRing 24 = .ok (.arraylength, 1) := by decide +kernel
theorem dX6_isRing_25 : decode cX6_isRing 25 = .ok (.if_icmp .ge 9, 3) := by decide +kernel
theorem dX6_isRing_28 : decode cX6_isRing 28 = .ok (.iload_n 2, 1) := by decide +kernel
theorem dX6_isRing_29 : decode cX6_isRing 29 = .ok (.iconst 1, 1) := by decide +kernel
theorem dX6_isRing_30 : decode cX6_isRing 30 = .ok (.iadd, 1) := by decide +kernel
theorem dX6_isRing_31 : decode cX6_isRing 31 = .ok (.goto 4, 3) := by decide +kernel
theorem dX6_isRing_34 : decode cX6_isRing 34 = .ok (.iconst 0, 1) := by decide +kernel
theorem dX6_isRing_35 : decode cX6_isRing 35 = .ok (.istore_n 3, 1) := by decide +kernel
theorem dX6_isRing_36 : decode cX6_isRing 36 = .ok (.aload_n 0, 1) := by decide +kernel
theorem dX6_isRing_37 : decode cX6_isRing 37 = .ok (.iload_n 2, 1) := by decide +kernel
theorem dX6_isRing_38 : decode cX6_isRing 38 = .ok (.iaload, 1) := by decide +kernel
theorem dX6_isRing_39 : decode cX6_isRing 39 = .ok (.aload_n 0, 1) := by decide +kernel
theorem dX6_isRing_40 : decode cX6_isRing 40 = .ok (.iload_n 3, 1) := by decide +kernel
theorem dX6_isRing_41 : decode cX6_isRing 41 = .ok (.iaload, 1) := by decide +kernel
theorem dX6_isRing_42 : decode cX6_isRing 42 = .ok (.ixor, 1) := by decide +kernel
theorem dX6_isRing_43 : decode cX6_isRing 43 = .ok (.invokestatic 379, 3) := by decide +kernel
theorem dX6_isRing_46 : decode cX6_isRing 46 = .ok (.iconst 1, 1) := by decide +kernel
theorem dX6_isRing_47 : decode cX6_isRing 47 = .ok (.if_icmp .eq 5, 3) := by decide +kernel
theorem dX6_isRing_50 : decode cX6_isRing 50 = .ok (.iconst 0, 1) := by decide +kernel
theorem dX6_isRing_51 : decode cX6_isRing 51 = .ok (.ireturn, 1) := by decide +kernel
theorem dX6_isRing_52 : decode cX6_isRing 52 = .ok (.iinc 2 1, 3) := by decide +kernel
theorem dX6_isRing_55 : decode cX6_isRing 55 = .ok (.goto (-53), 3) := by decide +kernel
theorem dX6_isRing_58 : decode cX6_isRing 58 = .ok (.iconst 1, 1) := by decide +kernel
theorem dX6_isRing_59 : decode cX6_isRing 59 = .ok (.ireturn, 1) := by decide +kernel
set_option maxRecDepth 20000 in
theorem ggX6_typedIsRing_X6_isRing : GoodIn wsX6_typedIsRing wsX6_isRing := goodIn_r _ [6, 7, 8, 9, 10, 11, 12, 13] (by decide +kernel) (by decide +kernel)
set_option maxRecDepth 20000 in
theorem gX6_typedIsRing_X6_isRing : GoodIn wsX6_typedIsRing (va_wsS RX6 360 yX6_isRing wsX6_isRing) := goodIn_app (goodIn_of _ (by decide +kernel)) ggX6_typedIsRing_X6_isRing
theorem dX6_typedIsRing_0 : decode cX6_typedIsRing 0 = .ok (.aload_n 0, 1) := by decide +kernel
theorem dX6_typedIsRing_1 : decode cX6_typedIsRing 1 = .ok (.getfield 44, 3) := by decide +kernel
theorem dX6_typedIsRing_4 : decode cX6_typedIsRing 4 = .ok (.iconst 4, 1) := by decide +kernel
theorem dX6_typedIsRing_5 : decode cX6_typedIsRing 5 = .ok (.if_icmp .lt 17, 3) := by decide +kernel
theorem dX6_typedIsRing_8 : decode cX6_typedIsRing 8 = .ok (.aload_n 0, 1) := by decide +kernel
theorem dX6_typedIsRing_9 : decode cX6_typedIsRing 9 = .ok (.getfield 9, 3) := by decide +kernel
theorem dX6_typedIsRing_12 : decode cX6_typedIsRing 12 = .ok (.aload_n 0, 1) := by decide +kernel
theorem dX6_typedIsRing_13 : decode cX6_typedIsRing 13 = .ok (.getfield 44, 3) := by decide +kernel
theorem dX6_typedIsRing_16 : decode cX6_typedIsRing 16 = .ok (.invokestatic 360, 3) := by decide +kernel
theorem dX6_typedIsRing_19 : decode cX6_typedIsRing 19 = .ok (.ifCond .ne 5, 3) := by decide +kernel
theorem dX6_typedIsRing_22 : decode cX6_typedIsRing 22 = .ok (.iconst 0, 1) := by decide +kernel
theorem dX6_typedIsRing_23 : decode cX6_typedIsRing 23 = .ok (.ireturn, 1) := by decide +kernel
theorem dX6_typedIsRing_24 : decode cX6_typedIsRing 24 = .ok (.iconst 0, 1) := by decide +kernel
theorem dX6_typedIsRing_25 : decode cX6_typedIsRing 25 = .ok (.istore_n 1, 1) := by decide +kernel
theorem dX6_typedIsRing_26 : decode cX6_typedIsRing 26 = .ok (.iload_n 1, 1) := by decide +kernel
theorem dX6_typedIsRing_27 : decode cX6_typedIsRing 27 = .ok (.aload_n 0, 1) := by decide +kernel
theorem dX6_typedIsRing_28 : decode cX6_typedIsRing 28 = .ok (.getfield 44, 3) := by decide +kernel
theorem dX6_typedIsRing_31 : decode cX6_typedIsRing 31 = .ok (.if_icmp .ge 44, 3) := by decide +kernel
theorem dX6_typedIsRing_34 : decode cX6_typedIsRing 34 = .ok (.iload_n 1, 1) := by decide +kernel
theorem dX6_typedIsRing_35 : decode cX6_typedIsRing 35 = .ok (.iconst 1, 1) := by decide +kernel
theorem dX6_typedIsRing_36 : decode cX6_typedIsRing 36 = .ok (.iadd, 1) := by decide +kernel
theorem dX6_typedIsRing_37 : decode cX6_typedIsRing 37 = .ok (.istore_n 2, 1) := by decide +kernel
theorem dX6_typedIsRing_38 : decode cX6_typedIsRing 38 = .ok (.iload_n 2, 1) := by decide +kernel
theorem dX6_typedIsRing_39 : decode cX6_typedIsRing 39 = .ok (.aload_n 0, 1) := by decide +kernel
theorem dX6_typedIsRing_40 : decode cX6_typedIsRing 40 = .ok (.getfield 44, 3) := by decide +kernel
theorem dX6_typedIsRing_43 : decode cX6_typedIsRing 43 = .ok (.if_icmp .ge 26, 3) := by decide +kernel
theorem dX6_typedIsRing_46 : decode cX6_typedIsRing 46 = .ok (.aload_n 0, 1) := by decide +kernel
theorem dX6_typedIsRing_47 : decode cX6_typedIsRing 47 = .ok (.getfield 9, 3) := by decide +kernel
theorem dX6_typedIsRing_50 : decode cX6_typedIsRing 50 = .ok (.iload_n 1, 1) := by decide +kernel
theorem dX6_typedIsRing_51 : decode cX6_typedIsRing 51 = .ok (.iaload, 1) := by decide +kernel
theorem dX6_typedIsRing_52 : decode cX6_typedIsRing 52 = .ok (.aload_n 0, 1) := by decide +kernel
theorem dX6_typedIsRing_53 : decode cX6_typedIsRing 53 = .ok (.getfield 9, 3) := by decide +kernel
theorem dX6_typedIsRing_56 : decode cX6_typedIsRing 56 = .ok (.iload_n 2, 1) := by decide +kernel
theorem dX6_typedIsRing_57 : decode cX6_typedIsRing 57 = .ok (.iaload, 1) := by decide +kernel
theorem dX6_typedIsRing_58 : decode cX6_typedIsRing 58 = .ok (.if_icmp .ne 5, 3) := by decide +kernel
theorem dX6_typedIsRing_61 : decode cX6_typedIsRing 61 = .ok (.iconst 0, 1) := by decide +kernel
theorem dX6_typedIsRing_62 : decode cX6_typedIsRing 62 = .ok (.ireturn, 1) := by decide +kernel
theorem dX6_typedIsRing_63 : decode cX6_typedIsRing 63 = .ok (.iinc 2 1, 3) := by decide +kernel
theorem dX6_typedIsRing_66 : decode cX6_typedIsRing 66 = .ok (.goto (-28), 3) := by decide +kernel
theorem dX6_typedIsRing_69 : decode cX6_typedIsRing 69 = .ok (.iinc 1 1, 3) := by decide +kernel
theorem dX6_typedIsRing_72 : decode cX6_typedIsRing 72 = .ok (.goto (-46), 3) := by decide +kernel
theorem dX6_typedIsRing_75 : decode cX6_typedIsRing 75 = .ok (.iconst 1, 1) := by decide +kernel
theorem dX6_typedIsRing_76 : decode cX6_typedIsRing 76 = .ok (.ireturn, 1) := by decide +kernel
set_option maxRecDepth 20000 in
theorem ggX6_keepCode_X0_init : GoodIn wsX6_keepCode wsX0_init := goodIn_r _ [8, 9, 10, 11, 12, 13, 14, 15, 16, 17, 18, 19, 29, 30, 31] (by decide +kernel) (by decide +kernel)
set_option maxRecDepth 20000 in
theorem gX6_keepCode_X0_init : GoodIn wsX6_keepCode (wsX0_init) := ggX6_keepCode_X0_init
theorem dX6_keepCode_0 : decode cX6_keepCode 0 = .ok (.aload_n 0, 1) := by decide +kernel
theorem dX6_keepCode_1 : decode cX6_keepCode 1 = .ok (.getfield 61, 3) := by decide +kernel
theorem dX6_keepCode_4 : decode cX6_keepCode 4 = .ok (.istore_n 2, 1) := by decide +kernel
theorem dX6_keepCode_5 : decode cX6_keepCode 5 = .ok (.iload_n 2, 1) := by decide +kernel
theorem dX6_keepCode_6 : decode cX6_keepCode 6 = .ok (.aload_n 0, 1) := by decide +kernel
theorem dX6_keepCode_7 : decode cX6_keepCode 7 = .ok (.getfield 15, 3) := by decide +kernel
theorem dX6_keepCode_10 : decode cX6_keepCode 10 = .ok (.arraylength, 1) := by decide +kernel
theorem dX6_keepCode_11 : decode cX6_keepCode 11 = .ok (.if_icmp .ge 27, 3) := by decide +kernel
theorem dX6_keepCode_14 : decode cX6_keepCode 14 = .ok (.aload_n 0, 1) := by decide +kernel
theorem dX6_keepCode_15 : decode cX6_keepCode 15 = .ok (.getfield 15, 3) := by decide +kernel
theorem dX6_keepCode_18 : decode cX6_keepCode 18 = .ok (.iload_n 2, 1) := by decide +kernel
theorem dX6_keepCode_19 : decode cX6_keepCode 19 = .ok (.new 13, 3) := by decide +kernel
theorem dX6_keepCode_22 : decode cX6_keepCode 22 = .ok (.dup, 1) := by decide +kernel
theorem dX6_keepCode_23 : decode cX6_keepCode 23 = .ok (.aload_n 1, 1) := by decide +kernel
theorem dX6_keepCode_24 : decode cX6_keepCode 24 = .ok (.invokespecial 384, 3) := by decide +kernel
theorem dX6_keepCode_27 : decode cX6_keepCode 27 = .ok (.aastore, 1) := by decide +kernel
theorem dX6_keepCode_28 : decode cX6_keepCode 28 = .ok (.aload_n 0, 1) := by decide +kernel
theorem dX6_keepCode_29 : decode cX6_keepCode 29 = .ok (.dup, 1) := by decide +kernel
theorem dX6_keepCode_30 : decode cX6_keepCode 30 = .ok (.getfield 61, 3) := by decide +kernel
theorem dX6_keepCode_33 : decode cX6_keepCode 33 = .ok (.iconst 1, 1) := by decide +kernel
theorem dX6_keepCode_34 : decode cX6_keepCode 34 = .ok (.iadd, 1) := by decide +kernel
theorem dX6_keepCode_35 : decode cX6_keepCode 35 = .ok (.putfield 61, 3) := by decide +kernel
theorem dX6_keepCode_38 : decode cX6_keepCode 38 = .ok (.iload_n 2, 1) := by decide +kernel
theorem dX6_keepCode_39 : decode cX6_keepCode 39 = .ok (.ireturn, 1) := by decide +kernel
set_option maxRecDepth 20000 in
theorem ggX6_codeAt_X6_isWithin : GoodIn wsX6_codeAt wsX6_isWithin := goodIn_r _ [8] (by decide +kernel) (by decide +kernel)
set_option maxRecDepth 20000 in
theorem gX6_codeAt_X6_isWithin : GoodIn wsX6_codeAt (va_wsS RX6 33 yX6_isWithin wsX6_isWithin) := goodIn_app (goodIn_of _ (by decide +kernel)) ggX6_codeAt_X6_isWithin
theorem dX6_codeAt_0 : decode cX6_codeAt 0 = .ok (.iload_n 1, 1) := by decide +kernel
theorem dX6_codeAt_1 : decode cX6_codeAt 1 = .ok (.iconst 0, 1) := by decide +kernel
theorem dX6_codeAt_2 : decode cX6_codeAt 2 = .ok (.aload_n 0, 1) := by decide +kernel
theorem dX6_codeAt_3 : decode cX6_codeAt 3 = .ok (.getfield 61, 3) := by decide +kernel
theorem dX6_codeAt_6 : decode cX6_codeAt 6 = .ok (.iconst 1, 1) := by decide +kernel
theorem dX6_codeAt_7 : decode cX6_codeAt 7 = .ok (.isub, 1) := by decide +kernel
theorem dX6_codeAt_8 : decode cX6_codeAt 8 = .ok (.invokestatic 33, 3) := by decide +kernel
theorem dX6_codeAt_11 : decode cX6_codeAt 11 = .ok (.ifCond .eq 12, 3) := by decide +kernel
theorem dX6_codeAt_14 : decode cX6_codeAt 14 = .ok (.aload_n 0, 1) := by decide +kernel
theorem dX6_codeAt_15 : decode cX6_codeAt 15 = .ok (.getfield 15, 3) := by decide +kernel
theorem dX6_codeAt_18 : decode cX6_codeAt 18 = .ok (.iload_n 1, 1) := by decide +kernel
theorem dX6_codeAt_19 : decode cX6_codeAt 19 = .ok (.aaload, 1) := by decide +kernel
theorem dX6_codeAt_20 : decode cX6_codeAt 20 = .ok (.goto 4, 3) := by decide +kernel
theorem dX6_codeAt_23 : decode cX6_codeAt 23 = .ok (.aconst_null, 1) := by decide +kernel
theorem dX6_codeAt_24 : decode cX6_codeAt 24 = .ok (.astore_n 2, 1) := by decide +kernel
theorem dX6_codeAt_25 : decode cX6_codeAt 25 = .ok (.aload_n 2, 1) := by decide +kernel
theorem dX6_codeAt_26 : decode cX6_codeAt 26 = .ok (.ifnonnull 14, 3) := by decide +kernel
theorem dX6_codeAt_29 : decode cX6_codeAt 29 = .ok (.new 271, 3) := by decide +kernel
theorem dX6_codeAt_32 : decode cX6_codeAt 32 = .ok (.dup, 1) := by decide +kernel
theorem dX6_codeAt_33 : decode cX6_codeAt 33 = .ok (.ldc_w 387, 3) := by decide +kernel
theorem dX6_codeAt_36 : decode cX6_codeAt 36 = .ok (.invokespecial 275, 3) := by decide +kernel
theorem dX6_codeAt_39 : decode cX6_codeAt 39 = .ok (.athrow, 1) := by decide +kernel
theorem dX6_codeAt_40 : decode cX6_codeAt 40 = .ok (.aload_n 2, 1) := by decide +kernel
theorem dX6_codeAt_41 : decode cX6_codeAt 41 = .ok (.areturn, 1) := by decide +kernel
theorem dX6_theDisc_0 : decode cX6_theDisc 0 = .ok (.aload_n 0, 1) := by decide +kernel
theorem dX6_theDisc_1 : decode cX6_theDisc 1 = .ok (.getfield 127, 3) := by decide +kernel
theorem dX6_theDisc_4 : decode cX6_theDisc 4 = .ok (.astore_n 1, 1) := by decide +kernel
theorem dX6_theDisc_5 : decode cX6_theDisc 5 = .ok (.aload_n 1, 1) := by decide +kernel
theorem dX6_theDisc_6 : decode cX6_theDisc 6 = .ok (.ifnonnull 14, 3) := by decide +kernel
theorem dX6_theDisc_9 : decode cX6_theDisc 9 = .ok (.new 56, 3) := by decide +kernel
theorem dX6_theDisc_12 : decode cX6_theDisc 12 = .ok (.dup, 1) := by decide +kernel
theorem dX6_theDisc_13 : decode cX6_theDisc 13 = .ok (.ldc_w 389, 3) := by decide +kernel
theorem dX6_theDisc_16 : decode cX6_theDisc 16 = .ok (.invokespecial 60, 3) := by decide +kernel
theorem dX6_theDisc_19 : decode cX6_theDisc 19 = .ok (.athrow, 1) := by decide +kernel
theorem dX6_theDisc_20 : decode cX6_theDisc 20 = .ok (.aload_n 1, 1) := by decide +kernel
theorem dX6_theDisc_21 : decode cX6_theDisc 21 = .ok (.areturn, 1) := by decide +kernel
theorem dJ6_bitCount_0f7a4_0 : decode cJ6_bitCount_0f7a4 0 = .ok (.iload_n 0, 1) := by decide +kernel
theorem dJ6_bitCount_0f7a4_1 : decode cJ6_bitCount_0f7a4 1 = .ok (.iload_n 0, 1) := by decide +kernel
theorem dJ6_bitCount_0f7a4_2 : decode cJ6_bitCount_0f7a4 2 = .ok (.iconst 1, 1) := by decide +kernel
theorem dJ6_bitCount_0f7a4_3 : decode cJ6_bitCount_0f7a4 3 = .ok (.iushr, 1) := by decide +kernel
theorem dJ6_bitCount_0f7a4_4 : decode cJ6_bitCount_0f7a4 4 = .ok (.ldc_w 265, 3) := by decide +kernel
theorem dJ6_bitCount_0f7a4_7 : decode cJ6_bitCount_0f7a4 7 = .ok (.iand, 1) := by decide +kernel
theorem dJ6_bitCount_0f7a4_8 : decode cJ6_bitCount_0f7a4 8 = .ok (.isub, 1) := by decide +kernel
theorem dJ6_bitCount_0f7a4_9 : decode cJ6_bitCount_0f7a4 9 = .ok (.istore_n 0, 1) := by decide +kernel
theorem dJ6_bitCount_0f7a4_10 : decode cJ6_bitCount_0f7a4 10 = .ok (.iload_n 0, 1) := by decide +kernel
theorem dJ6_bitCount_0f7a4_11 : decode cJ6_bitCount_0f7a4 11 = .ok (.ldc_w 266, 3) := by decide +kernel
theorem dJ6_bitCount_0f7a4_14 : decode cJ6_bitCount_0f7a4 14 = .ok (.iand, 1) := by decide +kernel
theorem dJ6_bitCount_0f7a4_15 : decode cJ6_bitCount_0f7a4 15 = .ok (.iload_n 0, 1) := by decide +kernel
theorem dJ6_bitCount_0f7a4_16 : decode cJ6_bitCount_0f7a4 16 = .ok (.iconst 2, 1) := by decide +kernel
theorem dJ6_bitCount_0f7a4_17 : decode cJ6_bitCount_0f7a4 17 = .ok (.iushr, 1) := by decide +kernel
theorem dJ6_bitCount_0f7a4_18 : decode cJ6_bitCount_0f7a4 18 = .ok (.ldc_w 266, 3) := by decide +kernel
theorem dJ6_bitCount_0f7a4_21 : decode cJ6_bitCount_0f7a4 21 = .ok (.iand, 1) := by decide +kernel
theorem dJ6_bitCount_0f7a4_22 : decode cJ6_bitCount_0f7a4 22 = .ok (.iadd, 1) := by decide +kernel
theorem dJ6_bitCount_0f7a4_23 : decode cJ6_bitCount_0f7a4 23 = .ok (.istore_n 0, 1) := by decide +kernel
theorem dJ6_bitCount_0f7a4_24 : decode cJ6_bitCount_0f7a4 24 = .ok (.iload_n 0, 1) := by decide +kernel
theorem dJ6_bitCount_0f7a4_25 : decode cJ6_bitCount_0f7a4 25 = .ok (.iload_n 0, 1) := by decide +kernel
theorem dJ6_bitCount_0f7a4_26 : decode cJ6_bitCount_0f7a4 26 = .ok (.iconst 4, 1) := by decide +kernel
theorem dJ6_bitCount_0f7a4_27 : decode cJ6_bitCount_0f7a4 27 = .ok (.iushr, 1) := by decide +kernel
theorem dJ6_bitCount_0f7a4_28 : decode cJ6_bitCount_0f7a4 28 = .ok (.iadd, 1) := by decide +kernel
theorem dJ6_bitCount_0f7a4_29 : decode cJ6_bitCount_0f7a4 29 = .ok (.ldc_w 267, 3) := by decide +kernel
theorem dJ6_bitCount_0f7a4_32 : decode cJ6_bitCount_0f7a4 32 = .ok (.iand, 1) := by decide +kernel
theorem dJ6_bitCount_0f7a4_33 : decode cJ6_bitCount_0f7a4 33 = .ok (.istore_n 0, 1) := by decide +kernel
theorem dJ6_bitCount_0f7a4_34 : decode cJ6_bitCount_0f7a4 34 = .ok (.iload_n 0, 1) := by decide +kernel
theorem dJ6_bitCount_0f7a4_35 : decode cJ6_bitCount_0f7a4 35 = .ok (.iload_n 0, 1) := by decide +kernel
theorem dJ6_bitCount_0f7a4_36 : decode cJ6_bitCount_0f7a4 36 = .ok (.bipush 8, 2) := by decide +kernel
theorem dJ6_bitCount_0f7a4_38 : decode cJ6_bitCount_0f7a4 38 = .ok (.iushr, 1) := by decide +kernel
theorem dJ6_bitCount_0f7a4_39 : decode cJ6_bitCount_0f7a4 39 = .ok (.iadd, 1) := by decide +kernel
theorem dJ6_bitCount_0f7a4_40 : decode cJ6_bitCount_0f7a4 40 = .ok (.istore_n 0, 1) := by decide +kernel
theorem dJ6_bitCount_0f7a4_41 : decode cJ6_bitCount_0f7a4 41 = .ok (.iload_n 0, 1) := by decide +kernel
theorem dJ6_bitCount_0f7a4_42 : decode cJ6_bitCount_0f7a4 42 = .ok (.iload_n 0, 1) := by decide +kernel
theorem dJ6_bitCount_0f7a4_43 : decode cJ6_bitCount_0f7a4 43 = .ok (.bipush 16, 2) := by decide +kernel
theorem dJ6_bitCount_0f7a4_45 : decode cJ6_bitCount_0f7a4 45 = .ok (.iushr, 1) := by decide +kernel
theorem dJ6_bitCount_0f7a4_46 : decode cJ6_bitCount_0f7a4 46 = .ok (.iadd, 1) := by decide +kernel
theorem dJ6_bitCount_0f7a4_47 : decode cJ6_bitCount_0f7a4 47 = .ok (.istore_n 0, 1) := by decide +kernel
theorem dJ6_bitCount_0f7a4_48 : decode cJ6_bitCount_0f7a4 48 = .ok (.iload_n 0, 1) := by decide +kernel
theorem dJ6_bitCount_0f7a4_49 : decode cJ6_bitCount_0f7a4 49 = .ok (.bipush 63, 2) := by decide +kernel
theorem dJ6_bitCount_0f7a4_51 : decode cJ6_bitCount_0f7a4 51 = .ok (.iand, 1) := by decide +kernel
theorem dJ6_bitCount_0f7a4_52 : decode cJ6_bitCount_0f7a4 52 = .ok (.ireturn, 1) := by decide +kernel
theorem dJ9_abs_0f7a4_0 : decode cJ9_abs_0f7a4 0 = .ok (.iload_n 0, 1) := by decide +kernel
theorem dJ9_abs_0f7a4_1 : decode cJ9_abs_0f7a4 1 = .ok (.ifCond .ge 8, 3) := by decide +kernel
theorem dJ9_abs_0f7a4_4 : decode cJ9_abs_0f7a4 4 = .ok (.iload_n 0, 1) := by decide +kernel
theorem dJ9_abs_0f7a4_5 : decode cJ9_abs_0f7a4 5 = .ok (.ineg, 1) := by decide +kernel
theorem dJ9_abs_0f7a4_6 : decode cJ9_abs_0f7a4 6 = .ok (.goto 4, 3) := by decide +kernel
theorem dJ9_abs_0f7a4_9 : decode cJ9_abs_0f7a4 9 = .ok (.iload_n 0, 1) := by decide +kernel
theorem dJ9_abs_0f7a4_10 : decode cJ9_abs_0f7a4 10 = .ok (.ireturn, 1) := by decide +kernel
theorem dJ9_max_7cf53_0 : decode cJ9_max_7cf53 0 = .ok (.iload_n 0, 1) := by decide +kernel
theorem dJ9_max_7cf53_1 : decode cJ9_max_7cf53 1 = .ok (.iload_n 1, 1) := by decide +kernel
theorem dJ9_max_7cf53_2 : decode cJ9_max_7cf53 2 = .ok (.if_icmp .lt 7, 3) := by decide +kernel
theorem dJ9_max_7cf53_5 : decode cJ9_max_7cf53 5 = .ok (.iload_n 0, 1) := by decide +kernel
theorem dJ9_max_7cf53_6 : decode cJ9_max_7cf53 6 = .ok (.goto 4, 3) := by decide +kernel
theorem dJ9_max_7cf53_9 : decode cJ9_max_7cf53 9 = .ok (.iload_n 1, 1) := by decide +kernel
theorem dJ9_max_7cf53_10 : decode cJ9_max_7cf53 10 = .ok (.ireturn, 1) := by decide +kernel
theorem dJ9_min_7cf53_0 : decode cJ9_min_7cf53 0 = .ok (.iload_n 0, 1) := by decide +kernel
theorem dJ9_min_7cf53_1 : decode cJ9_min_7cf53 1 = .ok (.iload_n 1, 1) := by decide +kernel
theorem dJ9_min_7cf53_2 : decode cJ9_min_7cf53 2 = .ok (.if_icmp .gt 7, 3) := by decide +kernel
theorem dJ9_min_7cf53_5 : decode cJ9_min_7cf53 5 = .ok (.iload_n 0, 1) := by decide +kernel
theorem dJ9_min_7cf53_6 : decode cJ9_min_7cf53 6 = .ok (.goto 4, 3) := by decide +kernel
theorem dJ9_min_7cf53_9 : decode cJ9_min_7cf53 9 = .ok (.iload_n 1, 1) := by decide +kernel
theorem dJ9_min_7cf53_10 : decode cJ9_min_7cf53 10 = .ok (.ireturn, 1) := by decide +kernel
theorem dJ7_fill_53178_0 : decode cJ7_fill_53178 0 = .ok (.iconst 0, 1) := by decide +kernel
theorem dJ7_fill_53178_1 : decode cJ7_fill_53178 1 = .ok (.istore_n 2, 1) := by decide +kernel
theorem dJ7_fill_53178_2 : decode cJ7_fill_53178 2 = .ok (.aload_n 0, 1) := by decide +kernel
theorem dJ7_fill_53178_3 : decode cJ7_fill_53178 3 = .ok (.arraylength, 1) := by decide +kernel
theorem dJ7_fill_53178_4 : decode cJ7_fill_53178 4 = .ok (.istore_n 3, 1) := by decide +kernel
theorem dJ7_fill_53178_5 : decode cJ7_fill_53178 5 = .ok (.iload_n 2, 1) := by decide +kernel
theorem dJ7_fill_53178_6 : decode cJ7_fill_53178 6 = .ok (.iload_n 3, 1) := by decide +kernel
theorem dJ7_fill_53178_7 : decode cJ7_fill_53178 7 = .ok (.if_icmp .ge 13, 3) := by decide +kernel
theorem dJ7_fill_53178_10 : decode cJ7_fill_53178 10 = .ok (.aload_n 0, 1) := by decide +kernel
theorem dJ7_fill_53178_11 : decode cJ7_fill_53178 11 = .ok (.iload_n 2, 1) := by decide +kernel
theorem dJ7_fill_53178_12 : decode cJ7_fill_53178 12 = .ok (.iload_n 1, 1) := by decide +kernel
theorem dJ7_fill_53178_13 : decode cJ7_fill_53178 13 = .ok (.iastore, 1) := by decide +kernel
theorem dJ7_fill_53178_14 : decode cJ7_fill_53178 14 = .ok (.iinc 2 1, 3) := by decide +kernel
theorem dJ7_fill_53178_17 : decode cJ7_fill_53178 17 = .ok (.goto (-12), 3) := by decide +kernel
theorem dJ7_fill_53178_20 : decode cJ7_fill_53178 20 = .ok (.return_, 1) := by decide +kernel
theorem dJ7_copyOf_59c91_0 : decode cJ7_copyOf_59c91 0 = .ok (.iload_n 1, 1) := by decide +kernel
theorem dJ7_copyOf_59c91_1 : decode cJ7_copyOf_59c91 1 = .ok (.aload_n 0, 1) := by decide +kernel
theorem dJ7_copyOf_59c91_2 : decode cJ7_copyOf_59c91 2 = .ok (.arraylength, 1) := by decide +kernel
theorem dJ7_copyOf_59c91_3 : decode cJ7_copyOf_59c91 3 = .ok (.if_icmp .ne 11, 3) := by decide +kernel
theorem dJ7_copyOf_59c91_6 : decode cJ7_copyOf_59c91 6 = .ok (.aload_n 0, 1) := by decide +kernel
theorem dJ7_copyOf_59c91_7 : decode cJ7_copyOf_59c91 7 = .ok (.invokevirtual 316, 3) := by decide +kernel
theorem dJ7_copyOf_59c91_10 : decode cJ7_copyOf_59c91 10 = .ok (.checkcast 317, 3) := by decide +kernel
theorem dJ7_copyOf_59c91_13 : decode cJ7_copyOf_59c91 13 = .ok (.areturn, 1) := by decide +kernel
theorem dJ7_copyOf_59c91_14 : decode cJ7_copyOf_59c91 14 = .ok (.iload_n 1, 1) := by decide +kernel
theorem dJ7_copyOf_59c91_15 : decode cJ7_copyOf_59c91 15 = .ok (.newarray .int, 2) := by decide +kernel
theorem dJ7_copyOf_59c91_17 : decode cJ7_copyOf_59c91 17 = .ok (.astore_n 2, 1) := by decide +kernel
theorem dJ7_copyOf_59c91_18 : decode cJ7_copyOf_59c91 18 = .ok (.aload_n 0, 1) := by decide +kernel
theorem dJ7_copyOf_59c91_19 : decode cJ7_copyOf_59c91 19 = .ok (.iconst 0, 1) := by decide +kernel
theorem dJ7_copyOf_59c91_20 : decode cJ7_copyOf_59c91 20 = .ok (.aload_n 2, 1) := by decide +kernel
theorem dJ7_copyOf_59c91_21 : decode cJ7_copyOf_59c91 21 = .ok (.iconst 0, 1) := by decide +kernel
theorem dJ7_copyOf_59c91_22 : decode cJ7_copyOf_59c91 22 = .ok (.aload_n 0, 1) := by decide +kernel
theorem dJ7_copyOf_59c91_23 : decode cJ7_copyOf_59c91 23 = .ok (.arraylength, 1) := by decide +kernel
theorem dJ7_copyOf_59c91_24 : decode cJ7_copyOf_59c91 24 = .ok (.iload_n 1, 1) := by decide +kernel
theorem dJ7_copyOf_59c91_25 : decode cJ7_copyOf_59c91 25 = .ok (.invokestatic 304, 3) := by decide +kernel
theorem dJ7_copyOf_59c91_28 : decode cJ7_copyOf_59c91 28 = .ok (.invokestatic 150, 3) := by decide +kernel
theorem dJ7_copyOf_59c91_31 : decode cJ7_copyOf_59c91 31 = .ok (.aload_n 2, 1) := by decide +kernel
theorem dJ7_copyOf_59c91_32 : decode cJ7_copyOf_59c91 32 = .ok (.areturn, 1) := by decide +kernel
theorem dL_cell_0 : decode cL_cell 0 = .ok (.ldc 7, 2) := by decide +kernel
theorem dL_cell_2 : decode cL_cell 2 = .ok (.iload_n 1, 1) := by decide +kernel
theorem dL_cell_3 : decode cL_cell 3 = .ok (.aload_n 0, 1) := by decide +kernel
theorem dL_cell_4 : decode cL_cell 4 = .ok (.arraylength, 1) := by decide +kernel
theorem dL_cell_5 : decode cL_cell 5 = .ok (.if_icmp .ge 9, 3) := by decide +kernel
theorem dL_cell_8 : decode cL_cell 8 = .ok (.aload_n 0, 1) := by decide +kernel
theorem dL_cell_9 : decode cL_cell 9 = .ok (.iload_n 1, 1) := by decide +kernel
theorem dL_cell_10 : decode cL_cell 10 = .ok (.iaload, 1) := by decide +kernel
theorem dL_cell_11 : decode cL_cell 11 = .ok (.goto 4, 3) := by decide +kernel
theorem dL_cell_14 : decode cL_cell 14 = .ok (.iconst 0, 1) := by decide +kernel
theorem dL_cell_15 : decode cL_cell 15 = .ok (.sipush 1009, 3) := by decide +kernel
theorem dL_cell_18 : decode cL_cell 18 = .ok (.iload_n 1, 1) := by decide +kernel
theorem dL_cell_19 : decode cL_cell 19 = .ok (.imul, 1) := by decide +kernel
theorem dL_cell_20 : decode cL_cell 20 = .ok (.iadd, 1) := by decide +kernel
theorem dL_cell_21 : decode cL_cell 21 = .ok (.imul, 1) := by decide +kernel
theorem dL_cell_22 : decode cL_cell 22 = .ok (.sipush 12345, 3) := by decide +kernel
theorem dL_cell_25 : decode cL_cell 25 = .ok (.iadd, 1) := by decide +kernel
theorem dL_cell_26 : decode cL_cell 26 = .ok (.istore_n 2, 1) := by decide +kernel
theorem dL_cell_27 : decode cL_cell 27 = .ok (.iload_n 2, 1) := by decide +kernel
theorem dL_cell_28 : decode cL_cell 28 = .ok (.iload_n 2, 1) := by decide +kernel
theorem dL_cell_29 : decode cL_cell 29 = .ok (.bipush 13, 2) := by decide +kernel
theorem dL_cell_31 : decode cL_cell 31 = .ok (.iushr, 1) := by decide +kernel
theorem dL_cell_32 : decode cL_cell 32 = .ok (.ixor, 1) := by decide +kernel
theorem dL_cell_33 : decode cL_cell 33 = .ok (.ldc 8, 2) := by decide +kernel
theorem dL_cell_35 : decode cL_cell 35 = .ok (.imul, 1) := by decide +kernel
theorem dL_cell_36 : decode cL_cell 36 = .ok (.istore_n 2, 1) := by decide +kernel
theorem dL_cell_37 : decode cL_cell 37 = .ok (.iload_n 2, 1) := by decide +kernel
theorem dL_cell_38 : decode cL_cell 38 = .ok (.iload_n 2, 1) := by decide +kernel
theorem dL_cell_39 : decode cL_cell 39 = .ok (.bipush 16, 2) := by decide +kernel
theorem dL_cell_41 : decode cL_cell 41 = .ok (.iushr, 1) := by decide +kernel
theorem dL_cell_42 : decode cL_cell 42 = .ok (.ixor, 1) := by decide +kernel
theorem dL_cell_43 : decode cL_cell 43 = .ok (.ireturn, 1) := by decide +kernel
set_option maxRecDepth 20000 in
theorem ggL_type_X6_type : GoodIn wsL_type wsX6_type := goodIn_ca (goodIn_ca (goodIn_r _ [9, 10, 11, 12, 13, 14, 15, 16, 17, 8, 18, 19, 20, 21, 22, 23, 24, 25, 26, 27] (by decide +kernel) (by decide +kernel)) (goodIn_sub (fun _ h => List.mem_cons_of_mem _ (List.mem_append_left _ (List.mem_append_right _ h))) (by decide +kernel))) (goodIn_sub (fun _ h => List.mem_cons_of_mem _ (List.mem_append_right _ h)) (by decide +kernel))
set_option maxRecDepth 20000 in
theorem gL_type_X6_type : GoodIn wsL_type (wsV RL 9 RX6 yX6_type wsX6_type) := goodIn_app (goodIn_of _ (by decide +kernel)) ggL_type_X6_type
theorem dL_type_0 : decode cL_type 0 = .ok (.aload_n 0, 1) := by decide +kernel
theorem dL_type_1 : decode cL_type 1 = .ok (.iload_n 1, 1) := by decide +kernel
theorem dL_type_2 : decode cL_type 2 = .ok (.invokevirtual 9, 3) := by decide +kernel
theorem dL_type_5 : decode cL_type 5 = .ok (.ireturn, 1) := by decide +kernel
theorem dL_type_6 : decode cL_type 6 = .ok (.astore_n 2, 1) := by decide +kernel
theorem dL_type_7 : decode cL_type 7 = .ok (.ldc 17, 2) := by decide +kernel
theorem dL_type_9 : decode cL_type 9 = .ok (.ireturn, 1) := by decide +kernel
theorem dL_type_10 : decode cL_type 10 = .ok (.astore_n 2, 1) := by decide +kernel
theorem dL_type_11 : decode cL_type 11 = .ok (.ldc 20, 2) := by decide +kernel
theorem dL_type_13 : decode cL_type 13 = .ok (.ireturn, 1) := by decide +kernel
set_option maxRecDepth 20000 in
theorem ggL_ring_X6_ring : GoodIn wsL_ring wsX6_ring := goodIn_ca (goodIn_ca (goodIn_r _ [9, 10, 11, 12, 13, 14, 15, 16, 17, 18, 19, 20, 8, 21, 22, 23, 24, 25, 26, 27, 28, 29, 30, 31, 32, 33, 34, 35, 36, 37, 38, 39, 40, 41, 42, 43, 44, 45, 46, 47, 48, 49, 50, 51, 52, 53, 54, 55, 56, 57, 58, 59, 60, 61, 62, 63, 64, 65, 66, 67, 68, 69, 70, 71, 72, 73, 74, 75, 76, 77, 78, 79, 80, 81] (by decide +kernel) (by decide +kernel)) (goodIn_sub (fun _ h => List.mem_cons_of_mem _ (List.mem_append_left _ (List.mem_append_right _ h))) (by decide +kernel))) (goodIn_sub (fun _ h => List.mem_cons_of_mem _ (List.mem_append_right _ h)) (by decide +kernel))
set_option maxRecDepth 20000 in
theorem gL_ring_X6_ring : GoodIn wsL_ring (wsV RL 21 RX6 yX6_ring wsX6_ring) := goodIn_app (goodIn_of _ (by decide +kernel)) ggL_ring_X6_ring
theorem dL_ring_0 : decode cL_ring 0 = .ok (.aload_n 0, 1) := by decide +kernel
theorem dL_ring_1 : decode cL_ring 1 = .ok (.invokevirtual 21, 3) := by decide +kernel
theorem dL_ring_4 : decode cL_ring 4 = .ok (.ireturn, 1) := by decide +kernel
theorem dL_ring_5 : decode cL_ring 5 = .ok (.astore_n 1, 1) := by decide +kernel
theorem dL_ring_6 : decode cL_ring 6 = .ok (.ldc 17, 2) := by decide +kernel
theorem dL_ring_8 : decode cL_ring 8 = .ok (.ireturn, 1) := by decide +kernel
theorem dL_ring_9 : decode cL_ring 9 = .ok (.astore_n 1, 1) := by decide +kernel
theorem dL_ring_10 : decode cL_ring 10 = .ok (.ldc 20, 2) := by decide +kernel
theorem dL_ring_12 : decode cL_ring 12 = .ok (.ireturn, 1) := by decide +kernel
set_option maxRecDepth 20000 in
theorem ggL_reflected_X6_reflected : GoodIn wsL_reflected wsX6_reflected := goodIn_ca (goodIn_ca (goodIn_r _ [9, 10, 11, 12, 13, 14, 15, 16, 17, 18, 8, 19, 20, 21, 22, 23, 24, 25, 26, 27, 28, 29, 30, 31, 32, 33, 34, 35, 36, 37, 38, 39, 40, 41, 42, 43, 44, 45, 46, 47, 48, 49, 50, 51] (by decide +kernel) (by decide +kernel)) (goodIn_sub (fun _ h => List.mem_cons_of_mem _ (List.mem_append_left _ (List.mem_append_right _ h))) (by decide +kernel))) (goodIn_sub (fun _ h => List.mem_cons_of_mem _ (List.mem_append_right _ h)) (by decide +kernel))
set_option maxRecDepth 20000 in
theorem gL_reflected_X6_reflected : GoodIn wsL_reflected (wsV RL 27 RX6 yX6_reflected wsX6_reflected) := goodIn_app (goodIn_of _ (by decide +kernel)) ggL_reflected_X6_reflected
theorem dL_reflected_0 : decode cL_reflected 0 = .ok (.aload_n 0, 1) := by decide +kernel
theorem dL_reflected_1 : decode cL_reflected 1 = .ok (.iload_n 1, 1) := by decide +kernel
theorem dL_reflected_2 : decode cL_reflected 2 = .ok (.invokevirtual 27, 3) := by decide +kernel
theorem dL_reflected_5 : decode cL_reflected 5 = .ok (.ireturn, 1) := by decide +kernel
theorem dL_reflected_6 : decode cL_reflected 6 = .ok (.astore_n 2, 1) := by decide +kernel
theorem dL_reflected_7 : decode cL_reflected 7 = .ok (.ldc 17, 2) := by decide +kernel
theorem dL_reflected_9 : decode cL_reflected 9 = .ok (.ireturn, 1) := by decide +kernel
theorem dL_reflected_10 : decode cL_reflected 10 = .ok (.astore_n 2, 1) := by decide +kernel
theorem dL_reflected_11 : decode cL_reflected 11 = .ok (.ldc 20, 2) := by decide +kernel
theorem dL_reflected_13 : decode cL_reflected 13 = .ok (.ireturn, 1) := by decide +kernel
set_option maxRecDepth 20000 in
theorem ggL_words_X6_words : GoodIn wsL_words wsX6_words := goodIn_ca (goodIn_r _ [7, 8, 9, 10, 11, 6, 12, 13, 14, 15, 16, 17, 18, 19, 20, 21, 22, 23, 24, 25, 26, 27, 28, 29, 30, 31] (by decide +kernel) (by decide +kernel)) (goodIn_sub (fun _ h => List.mem_cons_of_mem _ (List.mem_append_right _ h)) (by decide +kernel))
set_option maxRecDepth 20000 in
theorem gL_words_X6_words : GoodIn wsL_words (wsV RL 30 RX6 yX6_words wsX6_words) := goodIn_app (goodIn_of _ (by decide +kernel)) ggL_words_X6_words
theorem dL_words_0 : decode cL_words 0 = .ok (.aload_n 0, 1) := by decide +kernel
theorem dL_words_1 : decode cL_words 1 = .ok (.iload_n 1, 1) := by decide +kernel
theorem dL_words_2 : decode cL_words 2 = .ok (.invokevirtual 30, 3) := by decide +kernel
theorem dL_words_5 : decode cL_words 5 = .ok (.ireturn, 1) := by decide +kernel
theorem dL_words_6 : decode cL_words 6 = .ok (.astore_n 2, 1) := by decide +kernel
theorem dL_words_7 : decode cL_words 7 = .ok (.ldc 17, 2) := by decide +kernel
theorem dL_words_9 : decode cL_words 9 = .ok (.ireturn, 1) := by decide +kernel
set_option maxRecDepth 20000 in
theorem ggL_tracks_X6_tracks : GoodIn wsL_tracks wsX6_tracks := goodIn_ca (goodIn_r _ [7, 8, 9, 10, 11, 6, 12, 13, 14, 15, 16, 17, 18, 19, 20, 21, 22, 23, 24, 25, 26, 27, 28, 29, 30, 31] (by decide +kernel) (by decide +kernel)) (goodIn_sub (fun _ h => List.mem_cons_of_mem _ (List.mem_append_right _ h)) (by decide +kernel))
set_option maxRecDepth 20000 in
theorem gL_tracks_X6_tracks : GoodIn wsL_tracks (wsV RL 35 RX6 yX6_tracks wsX6_tracks) := goodIn_app (goodIn_of _ (by decide +kernel)) ggL_tracks_X6_tracks
theorem dL_tracks_0 : decode cL_tracks 0 = .ok (.aload_n 0, 1) := by decide +kernel
theorem dL_tracks_1 : decode cL_tracks 1 = .ok (.iload_n 1, 1) := by decide +kernel
theorem dL_tracks_2 : decode cL_tracks 2 = .ok (.invokevirtual 35, 3) := by decide +kernel
theorem dL_tracks_5 : decode cL_tracks 5 = .ok (.ireturn, 1) := by decide +kernel
theorem dL_tracks_6 : decode cL_tracks 6 = .ok (.astore_n 2, 1) := by decide +kernel
theorem dL_tracks_7 : decode cL_tracks 7 = .ok (.ldc 17, 2) := by decide +kernel
theorem dL_tracks_9 : decode cL_tracks 9 = .ok (.ireturn, 1) := by decide +kernel
set_option maxRecDepth 20000 in
theorem ggL_word_X6_word : GoodIn wsL_word wsX6_word := goodIn_ca (goodIn_ca (goodIn_r _ [9, 10, 11, 12, 13, 14, 8, 15, 16, 17, 18, 19, 20, 21, 22, 23, 24, 25, 26, 27, 28, 29, 30, 31, 32, 33, 34, 35, 36, 37, 38, 39, 40, 41, 42, 43, 44, 45] (by decide +kernel) (by decide +kernel)) (goodIn_sub (fun _ h => List.mem_cons_of_mem _ (List.mem_append_left _ (List.mem_append_right _ h))) (by decide +kernel))) (goodIn_sub (fun _ h => List.mem_cons_of_mem _ (List.mem_append_right _ h)) (by decide +kernel))
set_option maxRecDepth 20000 in
theorem gL_word_X6_word : GoodIn wsL_word (wsV RL 38 RX6 yX6_word wsX6_word) := goodIn_app (goodIn_of _ (by decide +kernel)) ggL_word_X6_word
theorem dL_word_0 : decode cL_word 0 = .ok (.aload_n 0, 1) := by decide +kernel
theorem dL_word_1 : decode cL_word 1 = .ok (.iload_n 1, 1) := by decide +kernel
theorem dL_word_2 : decode cL_word 2 = .ok (.iload_n 2, 1) := by decide +kernel
theorem dL_word_3 : decode cL_word 3 = .ok (.invokevirtual 38, 3) := by decide +kernel
theorem dL_word_6 : decode cL_word 6 = .ok (.ireturn, 1) := by decide +kernel
theorem dL_word_7 : decode cL_word 7 = .ok (.astore_n 3, 1) := by decide +kernel
theorem dL_word_8 : decode cL_word 8 = .ok (.ldc 17, 2) := by decide +kernel
theorem dL_word_10 : decode cL_word 10 = .ok (.ireturn, 1) := by decide +kernel
theorem dL_word_11 : decode cL_word 11 = .ok (.astore_n 3, 1) := by decide +kernel
theorem dL_word_12 : decode cL_word 12 = .ok (.ldc 20, 2) := by decide +kernel
theorem dL_word_14 : decode cL_word 14 = .ok (.ireturn, 1) := by decide +kernel
set_option maxRecDepth 20000 in
theorem ggL_place_X6_place : GoodIn wsL_place wsX6_place := goodIn_ca (goodIn_ca (goodIn_ca (goodIn_r _ [11, 12, 13, 14, 15, 16, 17, 18, 10, 19, 20, 21, 22, 23, 24, 25, 26, 27, 28, 29, 30, 31, 32, 33, 34, 35, 36, 37, 38, 39, 40, 41, 42, 43, 44] (by decide +kernel) (by decide +kernel)) (goodIn_sub (fun _ h => List.mem_cons_of_mem _ (List.mem_append_left _ (List.mem_append_left _ (List.mem_append_right _ h)))) (by decide +kernel))) (goodIn_sub (fun _ h => List.mem_cons_of_mem _ (List.mem_append_left _ (List.mem_append_right _ h))) (by decide +kernel))) (goodIn_sub (fun _ h => List.mem_cons_of_mem _ (List.mem_append_right _ h)) (by decide +kernel))
set_option maxRecDepth 20000 in
theorem gL_place_X6_place : GoodIn wsL_place (wsV RL 42 RX6 yX6_place wsX6_place) := goodIn_app (goodIn_of _ (by decide +kernel)) ggL_place_X6_place
theorem dL_place_0 : decode cL_place 0 = .ok (.aload_n 0, 1) := by decide +kernel
theorem dL_place_1 : decode cL_place 1 = .ok (.iload_n 1, 1) := by decide +kernel
theorem dL_place_2 : decode cL_place 2 = .ok (.iload_n 2, 1) := by decide +kernel
theorem dL_place_3 : decode cL_place 3 = .ok (.invokevirtual 42, 3) := by decide +kernel
theorem dL_place_6 : decode cL_place 6 = .ok (.ireturn, 1) := by decide +kernel
theorem dL_place_7 : decode cL_place 7 = .ok (.astore_n 3, 1) := by decide +kernel
theorem dL_place_8 : decode cL_place 8 = .ok (.ldc 17, 2) := by decide +kernel
theorem dL_place_10 : decode cL_place 10 = .ok (.ireturn, 1) := by decide +kernel
theorem dL_place_11 : decode cL_place 11 = .ok (.astore_n 3, 1) := by decide +kernel
theorem dL_place_12 : decode cL_place 12 = .ok (.ldc 20, 2) := by decide +kernel
theorem dL_place_14 : decode cL_place 14 = .ok (.ireturn, 1) := by decide +kernel
theorem dL_place_15 : decode cL_place 15 = .ok (.astore_n 3, 1) := by decide +kernel
theorem dL_place_16 : decode cL_place 16 = .ok (.ldc 47, 2) := by decide +kernel
theorem dL_place_18 : decode cL_place 18 = .ok (.ireturn, 1) := by decide +kernel
set_option maxRecDepth 20000 in
theorem ggL_changes_X6_changes : GoodIn wsL_changes wsX6_changes := goodIn_ca (goodIn_ca (goodIn_r _ [9, 10, 11, 12, 13, 14, 8, 15, 16, 17, 18, 19, 20, 21, 22, 23, 24, 25, 26, 27, 28, 29, 30, 31, 32, 33, 34, 35, 36, 37, 38, 39, 40, 41, 42, 43, 44, 45, 46, 47, 48, 49, 50, 51, 52, 53, 54, 55, 56, 57, 58, 59] (by decide +kernel) (by decide +kernel)) (goodIn_sub (fun _ h => List.mem_cons_of_mem _ (List.mem_append_left _ (List.mem_append_right _ h))) (by decide +kernel))) (goodIn_sub (fun _ h => List.mem_cons_of_mem _ (List.mem_append_right _ h)) (by decide +kernel))
set_option maxRecDepth 20000 in
theorem gL_changes_X6_changes : GoodIn wsL_changes (wsV RL 48 RX6 yX6_changes wsX6_changes) := goodIn_app (goodIn_of _ (by decide +kernel)) ggL_changes_X6_changes
theorem dL_changes_0 : decode cL_changes 0 = .ok (.aload_n 0, 1) := by decide +kernel
theorem dL_changes_1 : decode cL_changes 1 = .ok (.iload_n 1, 1) := by decide +kernel
theorem dL_changes_2 : decode cL_changes 2 = .ok (.iload_n 2, 1) := by decide +kernel
theorem dL_changes_3 : decode cL_changes 3 = .ok (.invokevirtual 48, 3) := by decide +kernel
theorem dL_changes_6 : decode cL_changes 6 = .ok (.ireturn, 1) := by decide +kernel
theorem dL_changes_7 : decode cL_changes 7 = .ok (.astore_n 3, 1) := by decide +kernel
theorem dL_changes_8 : decode cL_changes 8 = .ok (.ldc 17, 2) := by decide +kernel
theorem dL_changes_10 : decode cL_changes 10 = .ok (.ireturn, 1) := by decide +kernel
theorem dL_changes_11 : decode cL_changes 11 = .ok (.astore_n 3, 1) := by decide +kernel
theorem dL_changes_12 : decode cL_changes 12 = .ok (.ldc 20, 2) := by decide +kernel
theorem dL_changes_14 : decode cL_changes 14 = .ok (.ireturn, 1) := by decide +kernel
set_option maxRecDepth 20000 in
theorem ggL_setDisc_X6_setDisc : GoodIn wsL_setDisc wsX6_setDisc := goodIn_ca (goodIn_ca (goodIn_r _ [9, 10, 11, 12, 13, 14, 15, 16, 17, 18, 19, 20, 8, 21, 22, 23, 24, 25, 26, 27, 28, 29, 30, 31, 32, 33, 34, 35, 36, 37, 38, 39, 40, 41, 42, 43, 44, 45, 46, 47, 48, 49, 50, 51, 52, 53, 54, 55, 56, 57, 58, 59, 60, 61, 62, 63, 64, 65, 66, 67, 68, 69, 70, 71, 72, 73, 74, 75, 76, 77, 78, 79, 80, 81, 82, 83, 84, 85, 86, 87, 88, 89, 90, 91, 92, 93, 94, 95, 96, 97, 98, 99, 100, 101, 102, 103, 104, 105, 106, 107, 108, 109, 110, 111, 112, 113, 114, 115, 116, 117, 118, 119, 120, 121, 122, 123, 124, 125, 126] (by decide +kernel) (by decide +kernel)) (goodIn_sub (fun _ h => List.mem_cons_of_mem _ (List.mem_append_left _ (List.mem_append_right _ h))) (by decide +kernel))) (goodIn_sub (fun _ h => List.mem_cons_of_mem _ (List.mem_append_right _ h)) (by decide +kernel))
set_option maxRecDepth 20000 in
theorem gL_setDisc_X6_setDisc : GoodIn wsL_setDisc (wsV RL 51 RX6 yX6_setDisc wsX6_setDisc) := goodIn_app (goodIn_of _ (by decide +kernel)) ggL_setDisc_X6_setDisc
theorem dL_setDisc_0 : decode cL_setDisc 0 = .ok (.aload_n 0, 1) := by decide +kernel
theorem dL_setDisc_1 : decode cL_setDisc 1 = .ok (.iload_n 1, 1) := by decide +kernel
theorem dL_setDisc_2 : decode cL_setDisc 2 = .ok (.iload_n 2, 1) := by decide +kernel
theorem dL_setDisc_3 : decode cL_setDisc 3 = .ok (.invokevirtual 51, 3) := by decide +kernel
theorem dL_setDisc_6 : decode cL_setDisc 6 = .ok (.ireturn, 1) := by decide +kernel
theorem dL_setDisc_7 : decode cL_setDisc 7 = .ok (.astore_n 3, 1) := by decide +kernel
theorem dL_setDisc_8 : decode cL_setDisc 8 = .ok (.ldc 17, 2) := by decide +kernel
theorem dL_setDisc_10 : decode cL_setDisc 10 = .ok (.ireturn, 1) := by decide +kernel
theorem dL_setDisc_11 : decode cL_setDisc 11 = .ok (.astore_n 3, 1) := by decide +kernel
theorem dL_setDisc_12 : decode cL_setDisc 12 = .ok (.ldc 20, 2) := by decide +kernel
theorem dL_setDisc_14 : decode cL_setDisc 14 = .ok (.ireturn, 1) := by decide +kernel
set_option maxRecDepth 20000 in
theorem ggL_angle_X6_angle : GoodIn wsL_angle wsX6_angle := goodIn_ca (goodIn_r _ [7, 8, 9, 10, 11, 6, 12, 13, 14, 15, 16, 17, 18, 19, 20, 21, 22, 23, 24, 25, 26, 27, 28, 29, 30, 31, 32] (by decide +kernel) (by decide +kernel)) (goodIn_sub (fun _ h => List.mem_cons_of_mem _ (List.mem_append_right _ h)) (by decide +kernel))
set_option maxRecDepth 20000 in
theorem gL_angle_X6_angle : GoodIn wsL_angle (wsV RL 54 RX6 yX6_angle wsX6_angle) := goodIn_app (goodIn_of _ (by decide +kernel)) ggL_angle_X6_angle
theorem dL_angle_0 : decode cL_angle 0 = .ok (.aload_n 0, 1) := by decide +kernel
theorem dL_angle_1 : decode cL_angle 1 = .ok (.invokevirtual 54, 3) := by decide +kernel
theorem dL_angle_4 : decode cL_angle 4 = .ok (.ireturn, 1) := by decide +kernel
theorem dL_angle_5 : decode cL_angle 5 = .ok (.astore_n 1, 1) := by decide +kernel
theorem dL_angle_6 : decode cL_angle 6 = .ok (.ldc 17, 2) := by decide +kernel
theorem dL_angle_8 : decode cL_angle 8 = .ok (.ireturn, 1) := by decide +kernel
set_option maxRecDepth 20000 in
theorem ggL_turn_X6_turn : GoodIn wsL_turn wsX6_turn := goodIn_ca (goodIn_ca (goodIn_r _ [9, 10, 11, 12, 13, 14, 15, 16, 17, 18, 19, 20, 21, 22, 8, 23, 24, 25, 26, 27, 28, 29, 30, 31, 32, 33, 34, 35, 36, 37, 38, 39, 40, 41, 42, 43, 44, 45, 46, 47, 48, 49, 50, 51, 52, 53, 54, 55, 56, 57, 58, 59, 60, 61, 62, 63, 64, 65, 66, 67, 68, 69, 70, 71, 72, 73, 74, 75, 76, 77, 78, 79, 80, 81, 82, 83, 84, 85, 86, 87, 88, 89, 90, 91, 92, 93, 94, 95, 96, 97, 98, 99, 100, 101, 102, 103, 104, 105, 106, 107, 108, 109, 110, 111, 112, 113, 114, 115, 116, 117, 118, 119, 120, 121, 122, 123, 124, 125, 126, 127, 128, 129, 130, 131, 132, 133, 134, 135, 136, 137, 138, 139, 140, 141, 142, 143, 144, 145, 146, 147, 148, 149, 150, 151, 152, 153, 154, 155, 156, 157, 158, 159, 160, 161, 162, 163, 164, 165, 166, 167] (by decide +kernel) (by decide +kernel)) (goodIn_sub (fun _ h => List.mem_cons_of_mem _ (List.mem_append_left _ (List.mem_append_right _ h))) (by decide +kernel))) (goodIn_sub (fun _ h => List.mem_cons_of_mem _ (List.mem_append_right _ h)) (by decide +kernel))
set_option maxRecDepth 20000 in
theorem gL_turn_X6_turn : GoodIn wsL_turn (wsV RL 57 RX6 yX6_turn wsX6_turn) := goodIn_app (goodIn_of _ (by decide +kernel)) ggL_turn_X6_turn
theorem dL_turn_0 : decode cL_turn 0 = .ok (.aload_n 0, 1) := by decide +kernel
theorem dL_turn_1 : decode cL_turn 1 = .ok (.iload_n 1, 1) := by decide +kernel
theorem dL_turn_2 : decode cL_turn 2 = .ok (.invokevirtual 57, 3) := by decide +kernel
theorem dL_turn_5 : decode cL_turn 5 = .ok (.ireturn, 1) := by decide +kernel
theorem dL_turn_6 : decode cL_turn 6 = .ok (.astore_n 2, 1) := by decide +kernel
theorem dL_turn_7 : decode cL_turn 7 = .ok (.ldc 17, 2) := by decide +kernel
theorem dL_turn_9 : decode cL_turn 9 = .ok (.ireturn, 1) := by decide +kernel
theorem dL_turn_10 : decode cL_turn 10 = .ok (.astore_n 2, 1) := by decide +kernel
theorem dL_turn_11 : decode cL_turn 11 = .ok (.ldc 20, 2) := by decide +kernel
theorem dL_turn_13 : decode cL_turn 13 = .ok (.ireturn, 1) := by decide +kernel
set_option maxRecDepth 20000 in
theorem ggL_isBalanced_X6_isBalanced : GoodIn wsL_isBalanced wsX6_isBalanced := goodIn_ca (goodIn_r _ [7, 8, 9, 10, 6, 11, 12, 13, 14, 15, 16, 17, 18, 19, 20, 21, 22, 23, 24, 25, 26, 27, 28, 29, 30, 31, 32, 33, 34, 35, 36, 37, 38, 39, 40, 41, 42, 43, 44, 45, 46, 47, 48, 49, 50, 51, 52, 53, 54, 55, 56, 57, 58, 59, 60, 61, 62] (by decide +kernel) (by decide +kernel)) (goodIn_sub (fun _ h => List.mem_cons_of_mem _ (List.mem_append_right _ h)) (by decide +kernel))
set_option maxRecDepth 20000 in
theorem gL_isBalanced_X6_isBalanced : GoodIn wsL_isBalanced (wsV RL 60 RX6 yX6_isBalanced wsX6_isBalanced) := goodIn_app (goodIn_of _ (by decide +kernel)) ggL_isBalanced_X6_isBalanced
theorem dL_isBalanced_0 : decode cL_isBalanced 0 = .ok (.aload_n 0, 1) := by decide +kernel
theorem dL_isBalanced_1 : decode cL_isBalanced 1 = .ok (.iload_n 1, 1) := by decide +kernel
theorem dL_isBalanced_2 : decode cL_isBalanced 2 = .ok (.invokevirtual 60, 3) := by decide +kernel
theorem dL_isBalanced_5 : decode cL_isBalanced 5 = .ok (.ifCond .eq 7, 3) := by decide +kernel
theorem dL_isBalanced_8 : decode cL_isBalanced 8 = .ok (.iconst 1, 1) := by decide +kernel
theorem dL_isBalanced_9 : decode cL_isBalanced 9 = .ok (.goto 4, 3) := by decide +kernel
theorem dL_isBalanced_12 : decode cL_isBalanced 12 = .ok (.iconst 0, 1) := by decide +kernel
theorem dL_isBalanced_13 : decode cL_isBalanced 13 = .ok (.ireturn, 1) := by decide +kernel
theorem dL_isBalanced_14 : decode cL_isBalanced 14 = .ok (.astore_n 2, 1) := by decide +kernel
theorem dL_isBalanced_15 : decode cL_isBalanced 15 = .ok (.ldc 17, 2) := by decide +kernel
theorem dL_isBalanced_17 : decode cL_isBalanced 17 = .ok (.ireturn, 1) := by decide +kernel
set_option maxRecDepth 20000 in
theorem ggL_isOneTrack_X6_isOneTrack : GoodIn wsL_isOneTrack wsX6_isOneTrack := goodIn_ca (goodIn_r _ [7, 8, 9, 10, 6, 11, 12, 13, 14, 15, 16, 17, 18, 19, 20, 21, 22, 23, 24, 25, 26, 27, 28, 29, 30, 31, 32, 33, 34, 35, 36, 37, 38, 39, 40, 41, 42, 43, 44, 45, 46, 47, 48, 49, 50, 51, 52, 53, 54, 55, 56, 57, 58, 59] (by decide +kernel) (by decide +kernel)) (goodIn_sub (fun _ h => List.mem_cons_of_mem _ (List.mem_append_right _ h)) (by decide +kernel))
set_option maxRecDepth 20000 in
theorem gL_isOneTrack_X6_isOneTrack : GoodIn wsL_isOneTrack (wsV RL 64 RX6 yX6_isOneTrack wsX6_isOneTrack) := goodIn_app (goodIn_of _ (by decide +kernel)) ggL_isOneTrack_X6_isOneTrack
theorem dL_isOneTrack_0 : decode cL_isOneTrack 0 = .ok (.aload_n 0, 1) := by decide +kernel
theorem dL_isOneTrack_1 : decode cL_isOneTrack 1 = .ok (.iload_n 1, 1) := by decide +kernel
theorem dL_isOneTrack_2 : decode cL_isOneTrack 2 = .ok (.invokevirtual 64, 3) := by decide +kernel
theorem dL_isOneTrack_5 : decode cL_isOneTrack 5 = .ok (.ifCond .eq 7, 3) := by decide +kernel
theorem dL_isOneTrack_8 : decode cL_isOneTrack 8 = .ok (.iconst 1, 1) := by decide +kernel
theorem dL_isOneTrack_9 : decode cL_isOneTrack 9 = .ok (.goto 4, 3) := by decide +kernel
theorem dL_isOneTrack_12 : decode cL_isOneTrack 12 = .ok (.iconst 0, 1) := by decide +kernel
theorem dL_isOneTrack_13 : decode cL_isOneTrack 13 = .ok (.ireturn, 1) := by decide +kernel
theorem dL_isOneTrack_14 : decode cL_isOneTrack 14 = .ok (.astore_n 2, 1) := by decide +kernel
theorem dL_isOneTrack_15 : decode cL_isOneTrack 15 = .ok (.ldc 17, 2) := by decide +kernel
theorem dL_isOneTrack_17 : decode cL_isOneTrack 17 = .ok (.ireturn, 1) := by decide +kernel
set_option maxRecDepth 20000 in
theorem ggL_in_L_cell : GoodIn wsL_in wsL_cell := goodIn_r _ [5, 6, 7] (by decide +kernel) (by decide +kernel)
set_option maxRecDepth 20000 in
theorem gL_in_L_cell : GoodIn wsL_in (va_wsS RL 67 yL_cell wsL_cell) := goodIn_app (goodIn_of _ (by decide +kernel)) ggL_in_L_cell
theorem dL_in_0 : decode cL_in 0 = .ok (.aload_n 0, 1) := by decide +kernel
theorem dL_in_1 : decode cL_in 1 = .ok (.iload_n 1, 1) := by decide +kernel
theorem dL_in_2 : decode cL_in 2 = .ok (.invokestatic 67, 3) := by decide +kernel
theorem dL_in_5 : decode cL_in 5 = .ok (.ldc 73, 2) := by decide +kernel
theorem dL_in_7 : decode cL_in 7 = .ok (.iand, 1) := by decide +kernel
theorem dL_in_8 : decode cL_in 8 = .ok (.iload_n 2, 1) := by decide +kernel
theorem dL_in_9 : decode cL_in 9 = .ok (.irem, 1) := by decide +kernel
theorem dL_in_10 : decode cL_in 10 = .ok (.ireturn, 1) := by decide +kernel
set_option maxRecDepth 20000 in
theorem ggL_law_X6_init : GoodIn wsL_law wsX6_init := goodIn_r _ [9, 10, 11, 12, 4, 13, 14, 15, 16, 17, 18, 19, 20, 21, 22, 23, 24, 25, 26, 27, 423, 424, 425, 426, 427, 428, 429, 430, 431, 432, 433, 434, 435, 436, 437, 438] (by decide +kernel) (by decide +kernel)
set_option maxRecDepth 20000 in
theorem gL_law_X6_init : GoodIn wsL_law (wsX6_init) := ggL_law_X6_init
set_option maxRecDepth 20000 in
theorem ggL_law_L_ring : GoodIn wsL_law wsL_ring := goodIn_ca (goodIn_ca (goodIn_r _ [31, 32, 33, 3, 5, 34, 35, 36, 2, 37, 38, 39, 40, 41, 42, 15, 13, 43, 44, 45, 46, 47, 48, 49, 50, 51, 52, 53, 54, 55, 56, 57, 58, 59, 60, 61, 62, 63, 64, 65, 66, 67, 4, 68, 69, 70, 71, 72, 73, 74, 75, 76, 77, 78, 79, 14, 80, 81, 82, 83, 84, 85, 11, 12, 86, 87, 88, 89, 90, 91, 423, 424, 425, 426, 427, 428, 429, 430, 431, 439, 440, 441] (by decide +kernel) (by decide +kernel)) (goodIn_sub (fun _ h => List.mem_append_left _ (List.mem_append_left _ (List.mem_append_left _ (List.mem_append_left _ (List.mem_append_right _ h))))) (by decide +kernel))) (goodIn_sub (fun _ h => List.mem_append_left _ (List.mem_append_left _ (List.mem_append_left _ (List.mem_append_right _ h)))) (by decide +kernel))
set_option maxRecDepth 20000 in
theorem gL_law_L_ring : GoodIn wsL_law (va_wsS RL 75 yL_ring wsL_ring) := goodIn_app (goodIn_of _ (by decide +kernel)) ggL_law_L_ring
set_option maxRecDepth 20000 in
theorem ggL_law_L_type : GoodIn wsL_law wsL_type := goodIn_ca (goodIn_ca (goodIn_r _ [94, 95, 33, 3, 5, 96, 97, 98, 2, 99, 100, 101, 40, 41, 43, 13, 102, 103, 104, 423, 424, 425, 426, 427, 428, 429, 430, 431] (by decide +kernel) (by decide +kernel)) (goodIn_sub (fun _ h => List.mem_append_left _ (List.mem_append_left _ (List.mem_append_right _ h))) (by decide +kernel))) (goodIn_sub (fun _ h => List.mem_append_left _ (List.mem_append_left _ (List.mem_append_left _ (List.mem_append_right _ h)))) (by decide +kernel))
set_option maxRecDepth 20000 in
theorem gL_law_L_type : GoodIn wsL_law (va_wsS RL 78 yL_type wsL_type) := goodIn_app (goodIn_of _ (by decide +kernel)) ggL_law_L_type
set_option maxRecDepth 20000 in
theorem ggL_law_L_reflected : GoodIn wsL_law wsL_reflected := goodIn_ca (goodIn_ca (goodIn_r _ [107, 95, 33, 3, 5, 108, 109, 110, 2, 111, 100, 101, 40, 41, 42, 15, 4, 102, 103, 104, 76, 77, 78, 79, 14, 80, 81, 82, 83, 84, 85, 11, 12, 86, 87, 88, 89, 90, 60, 91, 423, 424, 425, 426, 427, 428, 429, 430, 431, 439, 440, 441] (by decide +kernel) (by decide +kernel)) (goodIn_sub (fun _ h => List.mem_append_left _ (List.mem_append_left _ (List.mem_append_right _ h))) (by decide +kernel))) (goodIn_sub (fun _ h => List.mem_append_left _ (List.mem_append_left _ (List.mem_append_left _ (List.mem_append_right _ h)))) (by decide +kernel))
set_option maxRecDepth 20000 in
theorem gL_law_L_reflected : GoodIn wsL_law (va_wsS RL 81 yL_reflected wsL_reflected) := goodIn_app (goodIn_of _ (by decide +kernel)) ggL_law_L_reflected
set_option maxRecDepth 20000 in
theorem ggL_law_L_words : GoodIn wsL_law wsL_words := goodIn_ca (goodIn_r _ [114, 115, 3, 116, 117, 118, 2, 119, 120, 121, 122, 123, 124, 125, 126, 42, 15, 102, 103, 104, 439, 440, 441, 423, 424, 425, 426, 427, 428, 429, 430, 431] (by decide +kernel) (by decide +kernel)) (goodIn_sub (fun _ h => List.mem_append_left _ (List.mem_append_right _ h)) (by decide +kernel))
set_option maxRecDepth 20000 in
theorem gL_law_L_words : GoodIn wsL_law (va_wsS RL 83 yL_words wsL_words) := goodIn_app (goodIn_of _ (by decide +kernel)) ggL_law_L_words
set_option maxRecDepth 20000 in
theorem ggL_law_L_angle : GoodIn wsL_law wsL_angle := goodIn_ca (goodIn_r _ [129, 32, 3, 130, 131, 132, 2, 133, 134, 135, 136, 137, 138, 38, 39, 139, 442, 443, 444, 445, 446, 447, 448, 449, 423, 424, 425, 426, 427, 428, 429, 430, 431] (by decide +kernel) (by decide +kernel)) (goodIn_sub (fun _ h => List.mem_append_left _ (List.mem_append_left _ (List.mem_append_left _ (List.mem_append_left _ (List.mem_append_right _ h))))) (by decide +kernel))
set_option maxRecDepth 20000 in
theorem gL_law_L_angle : GoodIn wsL_law (va_wsS RL 85 yL_angle wsL_angle) := goodIn_app (goodIn_of _ (by decide +kernel)) ggL_law_L_angle
set_option maxRecDepth 20000 in
theorem ggL_law_L_turn : GoodIn wsL_law wsL_turn := goodIn_ca (goodIn_ca (goodIn_r _ [142, 32, 95, 3, 5, 143, 144, 145, 2, 146, 100, 101, 147, 148, 149, 150, 134, 16, 17, 151, 135, 136, 137, 138, 38, 39, 139, 102, 103, 104, 152, 153, 154, 155, 156, 157, 158, 159, 160, 161, 162, 163, 164, 165, 166, 167, 168, 169, 170, 171, 172, 173, 174, 175, 176, 177, 178, 179, 180, 181, 182, 183, 184, 185, 186, 187, 188, 189, 190, 191, 192, 193, 194, 195, 196, 197, 198, 199, 200, 201, 202, 203, 204, 205, 81, 206, 87, 207, 208, 209, 210, 211, 212, 213, 214, 86, 215, 216, 217, 218, 219, 220, 221, 222, 223, 224, 225, 226, 227, 70, 228, 229, 230, 231, 232, 233, 234, 235, 236, 237, 238, 239, 240, 241, 242, 243, 244, 245, 246, 247, 248, 73, 74, 75, 442, 443, 444, 445, 446, 447, 448, 449, 450, 451, 452, 453, 454, 423, 424, 425, 426, 427, 428, 429, 430, 431, 455, 456, 457, 458, 459, 460, 461, 462, 463, 439, 440, 441] (by decide +kernel) (by decide +kernel)) (goodIn_sub (fun _ h => List.mem_append_left _ (List.mem_append_left _ (List.mem_append_right _ h))) (by decide +kernel))) (goodIn_sub (fun _ h => List.mem_append_left _ (List.mem_append_left _ (List.mem_append_left _ (List.mem_append_left _ (List.mem_append_right _ h))))) (by decide +kernel))
set_option maxRecDepth 20000 in
theorem gL_law_L_turn : GoodIn wsL_law (va_wsS RL 87 yL_turn wsL_turn) := goodIn_app (goodIn_of _ (by decide +kernel)) ggL_law_L_turn
set_option maxRecDepth 20000 in
theorem ggL_law_L_in : GoodIn wsL_law wsL_in := goodIn_r _ [251, 252, 253, 254, 30, 255, 256, 257] (by decide +kernel) (by decide +kernel)
set_option maxRecDepth 20000 in
theorem gL_law_L_in : GoodIn wsL_law (va_wsS RL 89 yL_in wsL_in) := goodIn_app (goodIn_of _ (by decide +kernel)) ggL_law_L_in
set_option maxRecDepth 20000 in
theorem ggL_law_X6_wipe : GoodIn wsL_law wsX6_wipe := goodIn_r _ [261, 43, 423, 424, 425, 426, 427, 428, 429, 430, 431] (by decide +kernel) (by decide +kernel)
set_option maxRecDepth 20000 in
theorem gL_law_X6_wipe : GoodIn wsL_law (wsV RL 93 RX6 yX6_wipe wsX6_wipe) := goodIn_app (goodIn_of _ (by decide +kernel)) ggL_law_X6_wipe
set_option maxRecDepth 20000 in
theorem ggL_law_L_tracks : GoodIn wsL_law wsL_tracks := goodIn_ca (goodIn_r _ [264, 115, 3, 265, 266, 267, 2, 268, 269, 121, 122, 123, 124, 125, 126, 42, 15, 102, 103, 104, 439, 440, 441, 423, 424, 425, 426, 427, 428, 429, 430, 431] (by decide +kernel) (by decide +kernel)) (goodIn_sub (fun _ h => List.mem_append_left _ (List.mem_append_right _ h)) (by decide +kernel))
set_option maxRecDepth 20000 in
theorem gL_law_L_tracks : GoodIn wsL_law (va_wsS RL 96 yL_tracks wsL_tracks) := goodIn_app (goodIn_of _ (by decide +kernel)) ggL_law_L_tracks
set_option maxRecDepth 20000 in
theorem ggL_law_L_changes : GoodIn wsL_law wsL_changes := goodIn_ca (goodIn_ca (goodIn_r _ [272, 115, 95, 3, 5, 273, 274, 275, 2, 276, 100, 101, 121, 122, 123, 124, 125, 126, 42, 15, 102, 103, 104, 277, 278, 279, 81, 280, 88, 281, 282, 283, 284, 87, 161, 162, 285, 286, 287, 288, 289, 204, 205, 206, 207, 208, 209, 210, 423, 424, 425, 426, 427, 428, 429, 430, 431, 439, 440, 441] (by decide +kernel) (by decide +kernel)) (goodIn_sub (fun _ h => List.mem_append_left _ (List.mem_append_left _ (List.mem_append_right _ h))) (by decide +kernel))) (goodIn_sub (fun _ h => List.mem_append_left _ (List.mem_append_right _ h)) (by decide +kernel))
set_option maxRecDepth 20000 in
theorem gL_law_L_changes : GoodIn wsL_law (va_wsS RL 98 yL_changes wsL_changes) := goodIn_app (goodIn_of _ (by decide +kernel)) ggL_law_L_changes
set_option maxRecDepth 20000 in
theorem ggL_law_L_isBalanced : GoodIn wsL_law wsL_isBalanced := goodIn_ca (goodIn_r _ [292, 115, 3, 293, 294, 295, 2, 296, 121, 122, 123, 124, 125, 126, 42, 15, 102, 103, 104, 297, 298, 299, 81, 300, 87, 88, 301, 69, 70, 71, 302, 303, 304, 305, 282, 283, 284, 161, 162, 285, 286, 287, 288, 289, 204, 205, 206, 207, 208, 209, 210, 423, 424, 425, 426, 427, 428, 429, 430, 431, 439, 440, 441] (by decide +kernel) (by decide +kernel)) (goodIn_sub (fun _ h => List.mem_append_left _ (List.mem_append_right _ h)) (by decide +kernel))
set_option maxRecDepth 20000 in
theorem gL_law_L_isBalanced : GoodIn wsL_law (va_wsS RL 101 yL_isBalanced wsL_isBalanced) := goodIn_app (goodIn_of _ (by decide +kernel)) ggL_law_L_isBalanced
set_option maxRecDepth 20000 in
theorem ggL_law_L_isOneTrack : GoodIn wsL_law wsL_isOneTrack := goodIn_ca (goodIn_r _ [308, 115, 3, 309, 310, 311, 2, 312, 121, 122, 123, 124, 125, 126, 42, 15, 102, 103, 104, 313, 314, 315, 81, 316, 88, 317, 318, 319, 320, 87, 321, 322, 323, 324, 285, 286, 287, 288, 289, 204, 205, 206, 207, 208, 209, 210, 161, 162, 423, 424, 425, 426, 427, 428, 429, 430, 431, 439, 440, 441] (by decide +kernel) (by decide +kernel)) (goodIn_sub (fun _ h => List.mem_append_left _ (List.mem_append_right _ h)) (by decide +kernel))
set_option maxRecDepth 20000 in
theorem gL_law_L_isOneTrack : GoodIn wsL_law (va_wsS RL 103 yL_isOneTrack wsL_isOneTrack) := goodIn_app (goodIn_of _ (by decide +kernel)) ggL_law_L_isOneTrack
set_option maxRecDepth 20000 in
theorem ggL_law_L_place : GoodIn wsL_law wsL_place := goodIn_ca (goodIn_ca (goodIn_ca (goodIn_r _ [327, 115, 95, 328, 3, 5, 6, 329, 330, 331, 2, 332, 100, 101, 333, 334, 121, 122, 123, 124, 125, 126, 42, 15, 102, 103, 104, 335, 212, 213, 81, 214, 86, 423, 424, 425, 426, 427, 428, 429, 430, 431, 439, 440, 441] (by decide +kernel) (by decide +kernel)) (goodIn_sub (fun _ h => List.mem_append_left _ (List.mem_append_left _ (List.mem_append_right _ h))) (by decide +kernel))) (goodIn_sub (fun _ h => List.mem_append_right _ h) (by decide +kernel))) (goodIn_sub (fun _ h => List.mem_append_left _ (List.mem_append_right _ h)) (by decide +kernel))
set_option maxRecDepth 20000 in
theorem gL_law_L_place : GoodIn wsL_law (va_wsS RL 105 yL_place wsL_place) := goodIn_app (goodIn_of _ (by decide +kernel)) ggL_law_L_place
set_option maxRecDepth 20000 in
theorem ggL_law_L_word : GoodIn wsL_law wsL_word := goodIn_ca (goodIn_ca (goodIn_r _ [338, 115, 95, 3, 5, 339, 340, 341, 2, 342, 100, 101, 121, 122, 123, 124, 125, 126, 42, 15, 102, 103, 104, 343, 208, 209, 81, 210, 87, 344, 204, 205, 206, 207, 423, 424, 425, 426, 427, 428, 429, 430, 431, 439, 440, 441] (by decide +kernel) (by decide +kernel)) (goodIn_sub (fun _ h => List.mem_append_left _ (List.mem_append_left _ (List.mem_append_right _ h))) (by decide +kernel))) (goodIn_sub (fun _ h => List.mem_append_left _ (List.mem_append_right _ h)) (by decide +kernel))
set_option maxRecDepth 20000 in
theorem gL_law_L_word : GoodIn wsL_law (va_wsS RL 107 yL_word wsL_word) := goodIn_app (goodIn_of _ (by decide +kernel)) ggL_law_L_word
set_option maxRecDepth 20000 in
theorem ggL_law_L_setDisc : GoodIn wsL_law wsL_setDisc := goodIn_ca (goodIn_ca (goodIn_r _ [347, 115, 95, 3, 5, 348, 349, 350, 2, 351, 100, 101, 352, 353, 155, 139, 21, 354, 121, 122, 123, 124, 125, 126, 42, 15, 102, 103, 104, 355, 356, 357, 358, 11, 12, 359, 360, 176, 361, 362, 363, 364, 365, 366, 367, 368, 166, 160, 369, 158, 370, 4, 371, 372, 373, 374, 179, 247, 375, 376, 377, 378, 379, 380, 381, 382, 383, 169, 189, 170, 190, 191, 171, 202, 172, 184, 384, 385, 386, 20, 387, 388, 389, 442, 443, 444, 445, 446, 447, 448, 449, 423, 424, 425, 426, 427, 428, 429, 430, 431, 450, 451, 452, 453, 454, 464, 465, 466, 455, 456, 457, 458, 459, 460, 461, 462, 463, 439, 440, 441, 432, 433, 434, 435, 436, 437, 438] (by decide +kernel) (by decide +kernel)) (goodIn_sub (fun _ h => List.mem_append_left _ (List.mem_append_left _ (List.mem_append_right _ h))) (by decide +kernel))) (goodIn_sub (fun _ h => List.mem_append_left _ (List.mem_append_right _ h)) (by decide +kernel))
set_option maxRecDepth 20000 in
theorem gL_law_L_setDisc : GoodIn wsL_law (va_wsS RL 109 yL_setDisc wsL_setDisc) := goodIn_app (goodIn_of _ (by decide +kernel)) ggL_law_L_setDisc
set_option maxRecDepth 20000 in
theorem ggL_law_X6_isSound : GoodIn wsL_law wsX6_isSound := goodIn_r _ [393, 42, 15, 120, 139, 394, 368, 166, 150, 395, 147, 396, 354, 397, 398, 48, 49, 2, 50, 51, 52, 53, 54, 55, 56, 57, 399, 381, 382, 383, 11, 12, 4, 169, 189, 170, 190, 191, 171, 202, 172, 184, 102, 103, 104, 400, 401, 402, 364, 403, 404, 379, 405, 406, 407, 408, 378, 409, 410, 411, 412, 161, 162, 413, 414, 415, 416, 215, 216, 217, 218, 417, 418, 419, 420, 421, 181, 182, 183, 185, 186, 187, 188, 168, 192, 193, 194, 195, 196, 197, 198, 199, 200, 201, 203, 204, 205, 81, 206, 87, 207, 208, 209, 210, 211, 212, 213, 214, 86, 422, 234, 235, 236, 230, 231, 232, 423, 424, 425, 426, 427, 428, 429, 430, 431, 439, 440, 441, 455, 456, 457, 458, 459, 460, 461, 462, 463, 442, 443, 444, 445, 446, 447, 448, 449, 450, 451, 452, 453, 454, 464, 465, 466] (by decide +kernel) (by decide +kernel)
set_option maxRecDepth 20000 in
theorem gL_law_X6_isSound : GoodIn wsL_law (wsV RL 111 RX6 yX6_isSound wsX6_isSound) := goodIn_app (goodIn_of _ (by decide +kernel)) ggL_law_X6_isSound
abbrev vwCl : List vw_C := [(RX0, TX0, 3), (RX1, TX1, 8), (RX2, TX2, 7), (RX3, TX3, 3), (RX4, TX4, 9), (RX5, TX5, 5), (RX6, TX6, 9)]
