theorem f285_0 : FF 285 0 (.aload_n 3) 1 0 0 0 0 := rfl
theorem f285_1 : FF 285 1 (.iconst 0) 1 0 0 0 0 := rfl
theorem f285_2 : FF 285 2 (.aload_n 0) 1 0 0 0 0 := rfl
theorem f285_3 : FF 285 3 (.iload_n 1) 1 0 0 0 0 := rfl
theorem f285_4 : FF 285 4 (.iload_n 2) 1 0 0 0 0 := rfl
theorem f285_5 : FF 285 5 (.invokevirtual 7) 3 84 2 0 950 := rfl
theorem f285_8 : FF 285 8 (.i2l) 1 0 0 0 0 := rfl
theorem f285_9 : FF 285 9 (.lastore) 1 0 0 0 0 := rfl
theorem f285_10 : FF 285 10 (.goto 7) 3 0 0 0 0 := rfl
theorem f285_13 : FF 285 13 (.astore 4) 2 0 0 0 0 := rfl
theorem f285_15 : FF 285 15 (.iconst 1) 1 0 0 0 0 := rfl
theorem f285_16 : FF 285 16 (.ireturn) 1 0 0 0 0 := rfl
theorem f285_17 : FF 285 17 (.iconst 0) 1 0 0 0 0 := rfl
theorem f285_18 : FF 285 18 (.ireturn) 1 0 0 0 0 := rfl
theorem f286_0 : FF 286 0 (.aload_n 3) 1 0 0 0 0 := rfl
theorem f286_1 : FF 286 1 (.iconst 0) 1 0 0 0 0 := rfl
theorem f286_2 : FF 286 2 (.aload_n 0) 1 0 0 0 0 := rfl
theorem f286_3 : FF 286 3 (.iload_n 1) 1 0 0 0 0 := rfl
theorem f286_4 : FF 286 4 (.iload_n 2) 1 0 0 0 0 := rfl
theorem f286_5 : FF 286 5 (.invokevirtual 15) 3 85 2 0 1032 := rfl
theorem f286_8 : FF 286 8 (.i2l) 1 0 0 0 0 := rfl
theorem f286_9 : FF 286 9 (.lastore) 1 0 0 0 0 := rfl
theorem f286_10 : FF 286 10 (.goto 7) 3 0 0 0 0 := rfl
theorem f286_13 : FF 286 13 (.astore 4) 2 0 0 0 0 := rfl
theorem f286_15 : FF 286 15 (.iconst 1) 1 0 0 0 0 := rfl
theorem f286_16 : FF 286 16 (.ireturn) 1 0 0 0 0 := rfl
theorem f286_17 : FF 286 17 (.iconst 0) 1 0 0 0 0 := rfl
theorem f286_18 : FF 286 18 (.ireturn) 1 0 0 0 0 := rfl
theorem f287_0 : FF 287 0 (.aload_n 3) 1 0 0 0 0 := rfl
theorem f287_1 : FF 287 1 (.iconst 0) 1 0 0 0 0 := rfl
theorem f287_2 : FF 287 2 (.aload_n 0) 1 0 0 0 0 := rfl
theorem f287_3 : FF 287 3 (.iload_n 1) 1 0 0 0 0 := rfl
theorem f287_4 : FF 287 4 (.iload_n 2) 1 0 0 0 0 := rfl
theorem f287_5 : FF 287 5 (.invokevirtual 18) 3 86 2 0 1039 := rfl
theorem f287_8 : FF 287 8 (.i2l) 1 0 0 0 0 := rfl
theorem f287_9 : FF 287 9 (.lastore) 1 0 0 0 0 := rfl
theorem f287_10 : FF 287 10 (.goto 7) 3 0 0 0 0 := rfl
theorem f287_13 : FF 287 13 (.astore 4) 2 0 0 0 0 := rfl
theorem f287_15 : FF 287 15 (.iconst 1) 1 0 0 0 0 := rfl
theorem f287_16 : FF 287 16 (.ireturn) 1 0 0 0 0 := rfl
theorem f287_17 : FF 287 17 (.iconst 0) 1 0 0 0 0 := rfl
theorem f287_18 : FF 287 18 (.ireturn) 1 0 0 0 0 := rfl
theorem f288_0 : FF 288 0 (.aload_n 2) 1 0 0 0 0 := rfl
theorem f288_1 : FF 288 1 (.iconst 0) 1 0 0 0 0 := rfl
theorem f288_2 : FF 288 2 (.aload_n 0) 1 0 0 0 0 := rfl
theorem f288_3 : FF 288 3 (.iload_n 1) 1 0 0 0 0 := rfl
theorem f288_4 : FF 288 4 (.invokevirtual 21) 3 88 1 0 1046 := rfl
theorem f288_7 : FF 288 7 (.i2l) 1 0 0 0 0 := rfl
theorem f288_8 : FF 288 8 (.lastore) 1 0 0 0 0 := rfl
theorem f288_9 : FF 288 9 (.goto 6) 3 0 0 0 0 := rfl
theorem f288_12 : FF 288 12 (.astore_n 3) 1 0 0 0 0 := rfl
theorem f288_13 : FF 288 13 (.iconst 1) 1 0 0 0 0 := rfl
theorem f288_14 : FF 288 14 (.ireturn) 1 0 0 0 0 := rfl
theorem f288_15 : FF 288 15 (.iconst 0) 1 0 0 0 0 := rfl
theorem f288_16 : FF 288 16 (.ireturn) 1 0 0 0 0 := rfl
theorem f289_0 : FF 289 0 (.aload_n 2) 1 0 0 0 0 := rfl
theorem f289_1 : FF 289 1 (.iconst 0) 1 0 0 0 0 := rfl
theorem f289_2 : FF 289 2 (.aload_n 0) 1 0 0 0 0 := rfl
theorem f289_3 : FF 289 3 (.iload_n 1) 1 0 0 0 0 := rfl
theorem f289_4 : FF 289 4 (.invokevirtual 25) 3 89 1 0 1053 := rfl
theorem f289_7 : FF 289 7 (.i2l) 1 0 0 0 0 := rfl
theorem f289_8 : FF 289 8 (.lastore) 1 0 0 0 0 := rfl
theorem f289_9 : FF 289 9 (.goto 6) 3 0 0 0 0 := rfl
theorem f289_12 : FF 289 12 (.astore_n 3) 1 0 0 0 0 := rfl
theorem f289_13 : FF 289 13 (.iconst 1) 1 0 0 0 0 := rfl
theorem f289_14 : FF 289 14 (.ireturn) 1 0 0 0 0 := rfl
theorem f289_15 : FF 289 15 (.iconst 0) 1 0 0 0 0 := rfl
theorem f289_16 : FF 289 16 (.ireturn) 1 0 0 0 0 := rfl
theorem f290_0 : FF 290 0 (.aload_n 2) 1 0 0 0 0 := rfl
theorem f290_1 : FF 290 1 (.iconst 0) 1 0 0 0 0 := rfl
theorem f290_2 : FF 290 2 (.aload_n 0) 1 0 0 0 0 := rfl
theorem f290_3 : FF 290 3 (.iload_n 1) 1 0 0 0 0 := rfl
theorem f290_4 : FF 290 4 (.invokevirtual 28) 3 90 1 0 1060 := rfl
theorem f290_7 : FF 290 7 (.i2l) 1 0 0 0 0 := rfl
theorem f290_8 : FF 290 8 (.lastore) 1 0 0 0 0 := rfl
theorem f290_9 : FF 290 9 (.goto 6) 3 0 0 0 0 := rfl
theorem f290_12 : FF 290 12 (.astore_n 3) 1 0 0 0 0 := rfl
theorem f290_13 : FF 290 13 (.iconst 1) 1 0 0 0 0 := rfl
theorem f290_14 : FF 290 14 (.ireturn) 1 0 0 0 0 := rfl
theorem f290_15 : FF 290 15 (.iconst 0) 1 0 0 0 0 := rfl
theorem f290_16 : FF 290 16 (.ireturn) 1 0 0 0 0 := rfl
theorem f291_0 : FF 291 0 (.aload_n 2) 1 0 0 0 0 := rfl
theorem f291_1 : FF 291 1 (.iconst 0) 1 0 0 0 0 := rfl
theorem f291_2 : FF 291 2 (.aload_n 0) 1 0 0 0 0 := rfl
theorem f291_3 : FF 291 3 (.iload_n 1) 1 0 0 0 0 := rfl
theorem f291_4 : FF 291 4 (.invokevirtual 31) 3 91 1 0 1067 := rfl
theorem f291_7 : FF 291 7 (.i2l) 1 0 0 0 0 := rfl
theorem f291_8 : FF 291 8 (.lastore) 1 0 0 0 0 := rfl
theorem f291_9 : FF 291 9 (.goto 6) 3 0 0 0 0 := rfl
theorem f291_12 : FF 291 12 (.astore_n 3) 1 0 0 0 0 := rfl
theorem f291_13 : FF 291 13 (.iconst 1) 1 0 0 0 0 := rfl
theorem f291_14 : FF 291 14 (.ireturn) 1 0 0 0 0 := rfl
theorem f291_15 : FF 291 15 (.iconst 0) 1 0 0 0 0 := rfl
theorem f291_16 : FF 291 16 (.ireturn) 1 0 0 0 0 := rfl
theorem f292_0 : FF 292 0 (.aload_n 2) 1 0 0 0 0 := rfl
theorem f292_1 : FF 292 1 (.iconst 0) 1 0 0 0 0 := rfl
theorem f292_2 : FF 292 2 (.aload_n 0) 1 0 0 0 0 := rfl
theorem f292_3 : FF 292 3 (.iload_n 1) 1 0 0 0 0 := rfl
theorem f292_4 : FF 292 4 (.invokevirtual 34) 3 92 1 0 1074 := rfl
theorem f292_7 : FF 292 7 (.i2l) 1 0 0 0 0 := rfl
theorem f292_8 : FF 292 8 (.lastore) 1 0 0 0 0 := rfl
theorem f292_9 : FF 292 9 (.goto 6) 3 0 0 0 0 := rfl
theorem f292_12 : FF 292 12 (.astore_n 3) 1 0 0 0 0 := rfl
theorem f292_13 : FF 292 13 (.iconst 1) 1 0 0 0 0 := rfl
theorem f292_14 : FF 292 14 (.ireturn) 1 0 0 0 0 := rfl
theorem f292_15 : FF 292 15 (.iconst 0) 1 0 0 0 0 := rfl
theorem f292_16 : FF 292 16 (.ireturn) 1 0 0 0 0 := rfl
theorem f293_0 : FF 293 0 (.aload_n 2) 1 0 0 0 0 := rfl
theorem f293_1 : FF 293 1 (.iconst 0) 1 0 0 0 0 := rfl
theorem f293_2 : FF 293 2 (.aload_n 0) 1 0 0 0 0 := rfl
theorem f293_3 : FF 293 3 (.iload_n 1) 1 0 0 0 0 := rfl
theorem f293_4 : FF 293 4 (.invokevirtual 37) 3 93 1 0 1081 := rfl
theorem f293_7 : FF 293 7 (.ifCond .eq 7) 3 0 0 0 0 := rfl
theorem f293_10 : FF 293 10 (.lconst 1) 1 0 0 0 0 := rfl
theorem f293_11 : FF 293 11 (.goto 4) 3 0 0 0 0 := rfl
theorem f293_14 : FF 293 14 (.lconst 0) 1 0 0 0 0 := rfl
theorem f293_15 : FF 293 15 (.lastore) 1 0 0 0 0 := rfl
theorem f293_16 : FF 293 16 (.goto 6) 3 0 0 0 0 := rfl
theorem f293_19 : FF 293 19 (.astore_n 3) 1 0 0 0 0 := rfl
theorem f293_20 : FF 293 20 (.iconst 1) 1 0 0 0 0 := rfl
theorem f293_21 : FF 293 21 (.ireturn) 1 0 0 0 0 := rfl
theorem f293_22 : FF 293 22 (.iconst 0) 1 0 0 0 0 := rfl
theorem f293_23 : FF 293 23 (.ireturn) 1 0 0 0 0 := rfl
theorem f294_0 : FF 294 0 (.aload_n 2) 1 0 0 0 0 := rfl
theorem f294_1 : FF 294 1 (.iconst 0) 1 0 0 0 0 := rfl
theorem f294_2 : FF 294 2 (.aload_n 0) 1 0 0 0 0 := rfl
theorem f294_3 : FF 294 3 (.iload_n 1) 1 0 0 0 0 := rfl
theorem f294_4 : FF 294 4 (.invokevirtual 41) 3 94 1 0 1088 := rfl
theorem f294_7 : FF 294 7 (.ifCond .eq 7) 3 0 0 0 0 := rfl
theorem f294_10 : FF 294 10 (.lconst 1) 1 0 0 0 0 := rfl
theorem f294_11 : FF 294 11 (.goto 4) 3 0 0 0 0 := rfl
theorem f294_14 : FF 294 14 (.lconst 0) 1 0 0 0 0 := rfl
theorem f294_15 : FF 294 15 (.lastore) 1 0 0 0 0 := rfl
theorem f294_16 : FF 294 16 (.goto 6) 3 0 0 0 0 := rfl
theorem f294_19 : FF 294 19 (.astore_n 3) 1 0 0 0 0 := rfl
theorem f294_20 : FF 294 20 (.iconst 1) 1 0 0 0 0 := rfl
theorem f294_21 : FF 294 21 (.ireturn) 1 0 0 0 0 := rfl
theorem f294_22 : FF 294 22 (.iconst 0) 1 0 0 0 0 := rfl
theorem f294_23 : FF 294 23 (.ireturn) 1 0 0 0 0 := rfl
theorem f295_0 : FF 295 0 (.aload_n 2) 1 0 0 0 0 := rfl
theorem f295_1 : FF 295 1 (.iconst 0) 1 0 0 0 0 := rfl
theorem f295_2 : FF 295 2 (.aload_n 0) 1 0 0 0 0 := rfl
theorem f295_3 : FF 295 3 (.iload_n 1) 1 0 0 0 0 := rfl
theorem f295_4 : FF 295 4 (.invokevirtual 44) 3 95 1 0 1096 := rfl
theorem f295_7 : FF 295 7 (.i2l) 1 0 0 0 0 := rfl
theorem f295_8 : FF 295 8 (.lastore) 1 0 0 0 0 := rfl
theorem f295_9 : FF 295 9 (.goto 6) 3 0 0 0 0 := rfl
theorem f295_12 : FF 295 12 (.astore_n 3) 1 0 0 0 0 := rfl
theorem f295_13 : FF 295 13 (.iconst 1) 1 0 0 0 0 := rfl
theorem f295_14 : FF 295 14 (.ireturn) 1 0 0 0 0 := rfl
theorem f295_15 : FF 295 15 (.iconst 0) 1 0 0 0 0 := rfl
theorem f295_16 : FF 295 16 (.ireturn) 1 0 0 0 0 := rfl
theorem f296_0 : FF 296 0 (.aload_n 2) 1 0 0 0 0 := rfl
theorem f296_1 : FF 296 1 (.iconst 0) 1 0 0 0 0 := rfl
theorem f296_2 : FF 296 2 (.aload_n 0) 1 0 0 0 0 := rfl
theorem f296_3 : FF 296 3 (.iload_n 1) 1 0 0 0 0 := rfl
theorem f296_4 : FF 296 4 (.invokevirtual 47) 3 96 1 0 1103 := rfl
theorem f296_7 : FF 296 7 (.ifCond .eq 7) 3 0 0 0 0 := rfl
theorem f296_10 : FF 296 10 (.lconst 1) 1 0 0 0 0 := rfl
theorem f296_11 : FF 296 11 (.goto 4) 3 0 0 0 0 := rfl
theorem f296_14 : FF 296 14 (.lconst 0) 1 0 0 0 0 := rfl
theorem f296_15 : FF 296 15 (.lastore) 1 0 0 0 0 := rfl
theorem f296_16 : FF 296 16 (.goto 6) 3 0 0 0 0 := rfl
theorem f296_19 : FF 296 19 (.astore_n 3) 1 0 0 0 0 := rfl
theorem f296_20 : FF 296 20 (.iconst 1) 1 0 0 0 0 := rfl
theorem f296_21 : FF 296 21 (.ireturn) 1 0 0 0 0 := rfl
theorem f296_22 : FF 296 22 (.iconst 0) 1 0 0 0 0 := rfl
theorem f296_23 : FF 296 23 (.ireturn) 1 0 0 0 0 := rfl
theorem f297_0 : FF 297 0 (.aload_n 2) 1 0 0 0 0 := rfl
theorem f297_1 : FF 297 1 (.iconst 0) 1 0 0 0 0 := rfl
theorem f297_2 : FF 297 2 (.aload_n 0) 1 0 0 0 0 := rfl
theorem f297_3 : FF 297 3 (.iload_n 1) 1 0 0 0 0 := rfl
theorem f297_4 : FF 297 4 (.invokevirtual 50) 3 97 1 0 1111 := rfl
theorem f297_7 : FF 297 7 (.i2l) 1 0 0 0 0 := rfl
theorem f297_8 : FF 297 8 (.lastore) 1 0 0 0 0 := rfl
theorem f297_9 : FF 297 9 (.goto 6) 3 0 0 0 0 := rfl
theorem f297_12 : FF 297 12 (.astore_n 3) 1 0 0 0 0 := rfl
theorem f297_13 : FF 297 13 (.iconst 1) 1 0 0 0 0 := rfl
theorem f297_14 : FF 297 14 (.ireturn) 1 0 0 0 0 := rfl
theorem f297_15 : FF 297 15 (.iconst 0) 1 0 0 0 0 := rfl
theorem f297_16 : FF 297 16 (.ireturn) 1 0 0 0 0 := rfl
theorem f298_0 : FF 298 0 (.aload_n 2) 1 0 0 0 0 := rfl
theorem f298_1 : FF 298 1 (.iconst 0) 1 0 0 0 0 := rfl
theorem f298_2 : FF 298 2 (.aload_n 0) 1 0 0 0 0 := rfl
theorem f298_3 : FF 298 3 (.iload_n 1) 1 0 0 0 0 := rfl
theorem f298_4 : FF 298 4 (.invokevirtual 53) 3 98 1 0 1118 := rfl
theorem f298_7 : FF 298 7 (.i2l) 1 0 0 0 0 := rfl
theorem f298_8 : FF 298 8 (.lastore) 1 0 0 0 0 := rfl
theorem f298_9 : FF 298 9 (.goto 6) 3 0 0 0 0 := rfl
theorem f298_12 : FF 298 12 (.astore_n 3) 1 0 0 0 0 := rfl
theorem f298_13 : FF 298 13 (.iconst 1) 1 0 0 0 0 := rfl
theorem f298_14 : FF 298 14 (.ireturn) 1 0 0 0 0 := rfl
theorem f298_15 : FF 298 15 (.iconst 0) 1 0 0 0 0 := rfl
theorem f298_16 : FF 298 16 (.ireturn) 1 0 0 0 0 := rfl
theorem f299_0 : FF 299 0 (.aload_n 2) 1 0 0 0 0 := rfl
theorem f299_1 : FF 299 1 (.iconst 0) 1 0 0 0 0 := rfl
theorem f299_2 : FF 299 2 (.aload_n 0) 1 0 0 0 0 := rfl
theorem f299_3 : FF 299 3 (.iload_n 1) 1 0 0 0 0 := rfl
theorem f299_4 : FF 299 4 (.invokevirtual 56) 3 99 1 0 1125 := rfl
theorem f299_7 : FF 299 7 (.i2l) 1 0 0 0 0 := rfl
theorem f299_8 : FF 299 8 (.lastore) 1 0 0 0 0 := rfl
theorem f299_9 : FF 299 9 (.goto 6) 3 0 0 0 0 := rfl
theorem f299_12 : FF 299 12 (.astore_n 3) 1 0 0 0 0 := rfl
theorem f299_13 : FF 299 13 (.iconst 1) 1 0 0 0 0 := rfl
theorem f299_14 : FF 299 14 (.ireturn) 1 0 0 0 0 := rfl
theorem f299_15 : FF 299 15 (.iconst 0) 1 0 0 0 0 := rfl
theorem f299_16 : FF 299 16 (.ireturn) 1 0 0 0 0 := rfl
theorem f300_0 : FF 300 0 (.aload_n 2) 1 0 0 0 0 := rfl
theorem f300_1 : FF 300 1 (.iconst 0) 1 0 0 0 0 := rfl
theorem f300_2 : FF 300 2 (.aload_n 0) 1 0 0 0 0 := rfl
theorem f300_3 : FF 300 3 (.iload_n 1) 1 0 0 0 0 := rfl
theorem f300_4 : FF 300 4 (.invokevirtual 59) 3 101 1 0 1132 := rfl
theorem f300_7 : FF 300 7 (.i2l) 1 0 0 0 0 := rfl
theorem f300_8 : FF 300 8 (.lastore) 1 0 0 0 0 := rfl
theorem f300_9 : FF 300 9 (.goto 6) 3 0 0 0 0 := rfl
theorem f300_12 : FF 300 12 (.astore_n 3) 1 0 0 0 0 := rfl
theorem f300_13 : FF 300 13 (.iconst 1) 1 0 0 0 0 := rfl
theorem f300_14 : FF 300 14 (.ireturn) 1 0 0 0 0 := rfl
theorem f300_15 : FF 300 15 (.iconst 0) 1 0 0 0 0 := rfl
theorem f300_16 : FF 300 16 (.ireturn) 1 0 0 0 0 := rfl
theorem f301_0 : FF 301 0 (.aload_n 2) 1 0 0 0 0 := rfl
theorem f301_1 : FF 301 1 (.iconst 0) 1 0 0 0 0 := rfl
theorem f301_2 : FF 301 2 (.aload_n 0) 1 0 0 0 0 := rfl
theorem f301_3 : FF 301 3 (.iload_n 1) 1 0 0 0 0 := rfl
theorem f301_4 : FF 301 4 (.invokevirtual 62) 3 102 1 0 1139 := rfl
theorem f301_7 : FF 301 7 (.i2l) 1 0 0 0 0 := rfl
theorem f301_8 : FF 301 8 (.lastore) 1 0 0 0 0 := rfl
theorem f301_9 : FF 301 9 (.goto 6) 3 0 0 0 0 := rfl
theorem f301_12 : FF 301 12 (.astore_n 3) 1 0 0 0 0 := rfl
theorem f301_13 : FF 301 13 (.iconst 1) 1 0 0 0 0 := rfl
theorem f301_14 : FF 301 14 (.ireturn) 1 0 0 0 0 := rfl
theorem f301_15 : FF 301 15 (.iconst 0) 1 0 0 0 0 := rfl
theorem f301_16 : FF 301 16 (.ireturn) 1 0 0 0 0 := rfl
theorem f302_0 : FF 302 0 (.aload_n 2) 1 0 0 0 0 := rfl
theorem f302_1 : FF 302 1 (.iconst 0) 1 0 0 0 0 := rfl
theorem f302_2 : FF 302 2 (.aload_n 0) 1 0 0 0 0 := rfl
theorem f302_3 : FF 302 3 (.iload_n 1) 1 0 0 0 0 := rfl
theorem f302_4 : FF 302 4 (.invokevirtual 65) 3 105 1 0 1147 := rfl
theorem f302_7 : FF 302 7 (.i2l) 1 0 0 0 0 := rfl
theorem f302_8 : FF 302 8 (.lastore) 1 0 0 0 0 := rfl
theorem f302_9 : FF 302 9 (.goto 6) 3 0 0 0 0 := rfl
theorem f302_12 : FF 302 12 (.astore_n 3) 1 0 0 0 0 := rfl
theorem f302_13 : FF 302 13 (.iconst 1) 1 0 0 0 0 := rfl
theorem f302_14 : FF 302 14 (.ireturn) 1 0 0 0 0 := rfl
theorem f302_15 : FF 302 15 (.iconst 0) 1 0 0 0 0 := rfl
theorem f302_16 : FF 302 16 (.ireturn) 1 0 0 0 0 := rfl
theorem f303_0 : FF 303 0 (.aload_n 2) 1 0 0 0 0 := rfl
theorem f303_1 : FF 303 1 (.iconst 0) 1 0 0 0 0 := rfl
theorem f303_2 : FF 303 2 (.aload_n 0) 1 0 0 0 0 := rfl
theorem f303_3 : FF 303 3 (.iload_n 1) 1 0 0 0 0 := rfl
theorem f303_4 : FF 303 4 (.invokevirtual 70) 3 114 1 0 1173 := rfl
theorem f303_7 : FF 303 7 (.ifCond .eq 7) 3 0 0 0 0 := rfl
theorem f303_10 : FF 303 10 (.lconst 1) 1 0 0 0 0 := rfl
theorem f303_11 : FF 303 11 (.goto 4) 3 0 0 0 0 := rfl
theorem f303_14 : FF 303 14 (.lconst 0) 1 0 0 0 0 := rfl
theorem f303_15 : FF 303 15 (.lastore) 1 0 0 0 0 := rfl
theorem f303_16 : FF 303 16 (.goto 6) 3 0 0 0 0 := rfl
theorem f303_19 : FF 303 19 (.astore_n 3) 1 0 0 0 0 := rfl
theorem f303_20 : FF 303 20 (.iconst 1) 1 0 0 0 0 := rfl
theorem f303_21 : FF 303 21 (.ireturn) 1 0 0 0 0 := rfl
theorem f303_22 : FF 303 22 (.iconst 0) 1 0 0 0 0 := rfl
theorem f303_23 : FF 303 23 (.ireturn) 1 0 0 0 0 := rfl
theorem f304_0 : FF 304 0 (.aload_n 2) 1 0 0 0 0 := rfl
theorem f304_1 : FF 304 1 (.iconst 0) 1 0 0 0 0 := rfl
theorem f304_2 : FF 304 2 (.aload_n 0) 1 0 0 0 0 := rfl
theorem f304_3 : FF 304 3 (.iload_n 1) 1 0 0 0 0 := rfl
theorem f304_4 : FF 304 4 (.invokevirtual 73) 3 115 1 0 1180 := rfl
theorem f304_7 : FF 304 7 (.ifCond .eq 7) 3 0 0 0 0 := rfl
theorem f304_10 : FF 304 10 (.lconst 1) 1 0 0 0 0 := rfl
theorem f304_11 : FF 304 11 (.goto 4) 3 0 0 0 0 := rfl
theorem f304_14 : FF 304 14 (.lconst 0) 1 0 0 0 0 := rfl
theorem f304_15 : FF 304 15 (.lastore) 1 0 0 0 0 := rfl
theorem f304_16 : FF 304 16 (.goto 6) 3 0 0 0 0 := rfl
theorem f304_19 : FF 304 19 (.astore_n 3) 1 0 0 0 0 := rfl
theorem f304_20 : FF 304 20 (.iconst 1) 1 0 0 0 0 := rfl
theorem f304_21 : FF 304 21 (.ireturn) 1 0 0 0 0 := rfl
theorem f304_22 : FF 304 22 (.iconst 0) 1 0 0 0 0 := rfl
theorem f304_23 : FF 304 23 (.ireturn) 1 0 0 0 0 := rfl
theorem f305_0 : FF 305 0 (.aload_n 2) 1 0 0 0 0 := rfl
theorem f305_1 : FF 305 1 (.iconst 0) 1 0 0 0 0 := rfl
theorem f305_2 : FF 305 2 (.aload_n 0) 1 0 0 0 0 := rfl
theorem f305_3 : FF 305 3 (.iload_n 1) 1 0 0 0 0 := rfl
theorem f305_4 : FF 305 4 (.invokevirtual 76) 3 116 1 0 1187 := rfl
theorem f305_7 : FF 305 7 (.i2l) 1 0 0 0 0 := rfl
theorem f305_8 : FF 305 8 (.lastore) 1 0 0 0 0 := rfl
theorem f305_9 : FF 305 9 (.goto 6) 3 0 0 0 0 := rfl
theorem f305_12 : FF 305 12 (.astore_n 3) 1 0 0 0 0 := rfl
theorem f305_13 : FF 305 13 (.iconst 1) 1 0 0 0 0 := rfl
theorem f305_14 : FF 305 14 (.ireturn) 1 0 0 0 0 := rfl
theorem f305_15 : FF 305 15 (.iconst 0) 1 0 0 0 0 := rfl
theorem f305_16 : FF 305 16 (.ireturn) 1 0 0 0 0 := rfl
theorem f306_0 : FF 306 0 (.aload_n 2) 1 0 0 0 0 := rfl
theorem f306_1 : FF 306 1 (.iconst 0) 1 0 0 0 0 := rfl
theorem f306_2 : FF 306 2 (.aload_n 0) 1 0 0 0 0 := rfl
theorem f306_3 : FF 306 3 (.iload_n 1) 1 0 0 0 0 := rfl
theorem f306_4 : FF 306 4 (.invokevirtual 79) 3 117 1 0 1194 := rfl
theorem f306_7 : FF 306 7 (.i2l) 1 0 0 0 0 := rfl
theorem f306_8 : FF 306 8 (.lastore) 1 0 0 0 0 := rfl
theorem f306_9 : FF 306 9 (.goto 6) 3 0 0 0 0 := rfl
theorem f306_12 : FF 306 12 (.astore_n 3) 1 0 0 0 0 := rfl
theorem f306_13 : FF 306 13 (.iconst 1) 1 0 0 0 0 := rfl
theorem f306_14 : FF 306 14 (.ireturn) 1 0 0 0 0 := rfl
theorem f306_15 : FF 306 15 (.iconst 0) 1 0 0 0 0 := rfl
theorem f306_16 : FF 306 16 (.ireturn) 1 0 0 0 0 := rfl
theorem f307_0 : FF 307 0 (.aload_n 2) 1 0 0 0 0 := rfl
theorem f307_1 : FF 307 1 (.iconst 0) 1 0 0 0 0 := rfl
theorem f307_2 : FF 307 2 (.aload_n 0) 1 0 0 0 0 := rfl
theorem f307_3 : FF 307 3 (.iload_n 1) 1 0 0 0 0 := rfl
theorem f307_4 : FF 307 4 (.invokevirtual 82) 3 122 1 0 1201 := rfl
theorem f307_7 : FF 307 7 (.i2l) 1 0 0 0 0 := rfl
theorem f307_8 : FF 307 8 (.lastore) 1 0 0 0 0 := rfl
theorem f307_9 : FF 307 9 (.goto 6) 3 0 0 0 0 := rfl
theorem f307_12 : FF 307 12 (.astore_n 3) 1 0 0 0 0 := rfl
theorem f307_13 : FF 307 13 (.iconst 1) 1 0 0 0 0 := rfl
theorem f307_14 : FF 307 14 (.ireturn) 1 0 0 0 0 := rfl
theorem f307_15 : FF 307 15 (.iconst 0) 1 0 0 0 0 := rfl
theorem f307_16 : FF 307 16 (.ireturn) 1 0 0 0 0 := rfl
theorem f308_0 : FF 308 0 (.aload_n 3) 1 0 0 0 0 := rfl
theorem f308_1 : FF 308 1 (.iconst 0) 1 0 0 0 0 := rfl
theorem f308_2 : FF 308 2 (.aload_n 0) 1 0 0 0 0 := rfl
theorem f308_3 : FF 308 3 (.iload_n 1) 1 0 0 0 0 := rfl
theorem f308_4 : FF 308 4 (.iload_n 2) 1 0 0 0 0 := rfl
theorem f308_5 : FF 308 5 (.invokevirtual 85) 3 123 2 0 1209 := rfl
theorem f308_8 : FF 308 8 (.i2l) 1 0 0 0 0 := rfl
theorem f308_9 : FF 308 9 (.lastore) 1 0 0 0 0 := rfl
theorem f308_10 : FF 308 10 (.goto 15) 3 0 0 0 0 := rfl
theorem f308_13 : FF 308 13 (.astore 4) 2 0 0 0 0 := rfl
theorem f308_15 : FF 308 15 (.iconst 1) 1 0 0 0 0 := rfl
theorem f308_16 : FF 308 16 (.ireturn) 1 0 0 0 0 := rfl
theorem f308_17 : FF 308 17 (.astore 4) 2 0 0 0 0 := rfl
theorem f308_19 : FF 308 19 (.iconst 2) 1 0 0 0 0 := rfl
theorem f308_20 : FF 308 20 (.ireturn) 1 0 0 0 0 := rfl
theorem f308_21 : FF 308 21 (.astore 4) 2 0 0 0 0 := rfl
theorem f308_23 : FF 308 23 (.iconst 3) 1 0 0 0 0 := rfl
theorem f308_24 : FF 308 24 (.ireturn) 1 0 0 0 0 := rfl
theorem f308_25 : FF 308 25 (.iconst 0) 1 0 0 0 0 := rfl
theorem f308_26 : FF 308 26 (.ireturn) 1 0 0 0 0 := rfl
theorem f309_0 : FF 309 0 (.aload 4) 2 0 0 0 0 := rfl
theorem f309_2 : FF 309 2 (.iconst 0) 1 0 0 0 0 := rfl
theorem f309_3 : FF 309 3 (.aload_n 0) 1 0 0 0 0 := rfl
theorem f309_4 : FF 309 4 (.iload_n 1) 1 0 0 0 0 := rfl
theorem f309_5 : FF 309 5 (.iload_n 2) 1 0 0 0 0 := rfl
theorem f309_6 : FF 309 6 (.iload_n 3) 1 0 0 0 0 := rfl
theorem f309_7 : FF 309 7 (.invokevirtual 90) 3 126 3 0 1235 := rfl
theorem f309_10 : FF 309 10 (.i2l) 1 0 0 0 0 := rfl
theorem f309_11 : FF 309 11 (.lastore) 1 0 0 0 0 := rfl
theorem f309_12 : FF 309 12 (.goto 15) 3 0 0 0 0 := rfl
theorem f309_15 : FF 309 15 (.astore 5) 2 0 0 0 0 := rfl
theorem f309_17 : FF 309 17 (.iconst 1) 1 0 0 0 0 := rfl
theorem f309_18 : FF 309 18 (.ireturn) 1 0 0 0 0 := rfl
theorem f309_19 : FF 309 19 (.astore 5) 2 0 0 0 0 := rfl
theorem f309_21 : FF 309 21 (.iconst 2) 1 0 0 0 0 := rfl
theorem f309_22 : FF 309 22 (.ireturn) 1 0 0 0 0 := rfl
theorem f309_23 : FF 309 23 (.astore 5) 2 0 0 0 0 := rfl
theorem f309_25 : FF 309 25 (.iconst 3) 1 0 0 0 0 := rfl
theorem f309_26 : FF 309 26 (.ireturn) 1 0 0 0 0 := rfl
theorem f309_27 : FF 309 27 (.iconst 0) 1 0 0 0 0 := rfl
theorem f309_28 : FF 309 28 (.ireturn) 1 0 0 0 0 := rfl
theorem f310_0 : FF 310 0 (.aload_n 1) 1 0 0 0 0 := rfl
theorem f310_1 : FF 310 1 (.iconst 0) 1 0 0 0 0 := rfl
theorem f310_2 : FF 310 2 (.aload_n 0) 1 0 0 0 0 := rfl
theorem f310_3 : FF 310 3 (.invokevirtual 94) 3 127 0 0 1245 := rfl
theorem f310_6 : FF 310 6 (.i2l) 1 0 0 0 0 := rfl
theorem f310_7 : FF 310 7 (.lastore) 1 0 0 0 0 := rfl
theorem f310_8 : FF 310 8 (.goto 6) 3 0 0 0 0 := rfl
theorem f310_11 : FF 310 11 (.astore_n 2) 1 0 0 0 0 := rfl
theorem f310_12 : FF 310 12 (.iconst 1) 1 0 0 0 0 := rfl
theorem f310_13 : FF 310 13 (.ireturn) 1 0 0 0 0 := rfl
theorem f310_14 : FF 310 14 (.iconst 0) 1 0 0 0 0 := rfl
theorem f310_15 : FF 310 15 (.ireturn) 1 0 0 0 0 := rfl
theorem f311_0 : FF 311 0 (.aload_n 1) 1 0 0 0 0 := rfl
theorem f311_1 : FF 311 1 (.iconst 0) 1 0 0 0 0 := rfl
theorem f311_2 : FF 311 2 (.aload_n 0) 1 0 0 0 0 := rfl
theorem f311_3 : FF 311 3 (.invokevirtual 100) 3 131 0 0 1275 := rfl
theorem f311_6 : FF 311 6 (.i2l) 1 0 0 0 0 := rfl
theorem f311_7 : FF 311 7 (.lastore) 1 0 0 0 0 := rfl
theorem f311_8 : FF 311 8 (.goto 6) 3 0 0 0 0 := rfl
theorem f311_11 : FF 311 11 (.astore_n 2) 1 0 0 0 0 := rfl
theorem f311_12 : FF 311 12 (.iconst 1) 1 0 0 0 0 := rfl
theorem f311_13 : FF 311 13 (.ireturn) 1 0 0 0 0 := rfl
theorem f311_14 : FF 311 14 (.iconst 0) 1 0 0 0 0 := rfl
theorem f311_15 : FF 311 15 (.ireturn) 1 0 0 0 0 := rfl
theorem en285 (a0 a1 a2 a3 : AV) : entryL 285 [a0, a1, a2, a3] = [a0, a1, a2, a3, AU] := rfl
theorem pv285 (v : AV) (st : List AV) : pushV 285 v st = v :: st := rfl
theorem en286 (a0 a1 a2 a3 : AV) : entryL 286 [a0, a1, a2, a3] = [a0, a1, a2, a3, AU] := rfl
theorem pv286 (v : AV) (st : List AV) : pushV 286 v st = v :: st := rfl
theorem en287 (a0 a1 a2 a3 : AV) : entryL 287 [a0, a1, a2, a3] = [a0, a1, a2, a3, AU] := rfl
theorem pv287 (v : AV) (st : List AV) : pushV 287 v st = v :: st := rfl
theorem en288 (a0 a1 a2 : AV) : entryL 288 [a0, a1, a2] = [a0, a1, a2, AU] := rfl
theorem pv288 (v : AV) (st : List AV) : pushV 288 v st = v :: st := rfl
theorem en289 (a0 a1 a2 : AV) : entryL 289 [a0, a1, a2] = [a0, a1, a2, AU] := rfl
theorem pv289 (v : AV) (st : List AV) : pushV 289 v st = v :: st := rfl
theorem en290 (a0 a1 a2 : AV) : entryL 290 [a0, a1, a2] = [a0, a1, a2, AU] := rfl
theorem pv290 (v : AV) (st : List AV) : pushV 290 v st = v :: st := rfl
theorem en291 (a0 a1 a2 : AV) : entryL 291 [a0, a1, a2] = [a0, a1, a2, AU] := rfl
theorem pv291 (v : AV) (st : List AV) : pushV 291 v st = v :: st := rfl
theorem en292 (a0 a1 a2 : AV) : entryL 292 [a0, a1, a2] = [a0, a1, a2, AU] := rfl
theorem pv292 (v : AV) (st : List AV) : pushV 292 v st = v :: st := rfl
theorem en293 (a0 a1 a2 : AV) : entryL 293 [a0, a1, a2] = [a0, a1, a2, AU] := rfl
theorem pv293 (v : AV) (st : List AV) : pushV 293 v st = v :: st := rfl
theorem en294 (a0 a1 a2 : AV) : entryL 294 [a0, a1, a2] = [a0, a1, a2, AU] := rfl
theorem pv294 (v : AV) (st : List AV) : pushV 294 v st = v :: st := rfl
theorem en295 (a0 a1 a2 : AV) : entryL 295 [a0, a1, a2] = [a0, a1, a2, AU] := rfl
theorem pv295 (v : AV) (st : List AV) : pushV 295 v st = v :: st := rfl
theorem en296 (a0 a1 a2 : AV) : entryL 296 [a0, a1, a2] = [a0, a1, a2, AU] := rfl
theorem pv296 (v : AV) (st : List AV) : pushV 296 v st = v :: st := rfl
theorem en297 (a0 a1 a2 : AV) : entryL 297 [a0, a1, a2] = [a0, a1, a2, AU] := rfl
theorem pv297 (v : AV) (st : List AV) : pushV 297 v st = v :: st := rfl
theorem en298 (a0 a1 a2 : AV) : entryL 298 [a0, a1, a2] = [a0, a1, a2, AU] := rfl
theorem pv298 (v : AV) (st : List AV) : pushV 298 v st = v :: st := rfl
theorem en299 (a0 a1 a2 : AV) : entryL 299 [a0, a1, a2] = [a0, a1, a2, AU] := rfl
theorem pv299 (v : AV) (st : List AV) : pushV 299 v st = v :: st := rfl
theorem en300 (a0 a1 a2 : AV) : entryL 300 [a0, a1, a2] = [a0, a1, a2, AU] := rfl
theorem pv300 (v : AV) (st : List AV) : pushV 300 v st = v :: st := rfl
theorem en301 (a0 a1 a2 : AV) : entryL 301 [a0, a1, a2] = [a0, a1, a2, AU] := rfl
theorem pv301 (v : AV) (st : List AV) : pushV 301 v st = v :: st := rfl
theorem en302 (a0 a1 a2 : AV) : entryL 302 [a0, a1, a2] = [a0, a1, a2, AU] := rfl
theorem pv302 (v : AV) (st : List AV) : pushV 302 v st = v :: st := rfl
theorem en303 (a0 a1 a2 : AV) : entryL 303 [a0, a1, a2] = [a0, a1, a2, AU] := rfl
theorem pv303 (v : AV) (st : List AV) : pushV 303 v st = v :: st := rfl
theorem en304 (a0 a1 a2 : AV) : entryL 304 [a0, a1, a2] = [a0, a1, a2, AU] := rfl
theorem pv304 (v : AV) (st : List AV) : pushV 304 v st = v :: st := rfl
theorem en305 (a0 a1 a2 : AV) : entryL 305 [a0, a1, a2] = [a0, a1, a2, AU] := rfl
theorem pv305 (v : AV) (st : List AV) : pushV 305 v st = v :: st := rfl
theorem en306 (a0 a1 a2 : AV) : entryL 306 [a0, a1, a2] = [a0, a1, a2, AU] := rfl
theorem pv306 (v : AV) (st : List AV) : pushV 306 v st = v :: st := rfl
theorem en307 (a0 a1 a2 : AV) : entryL 307 [a0, a1, a2] = [a0, a1, a2, AU] := rfl
theorem pv307 (v : AV) (st : List AV) : pushV 307 v st = v :: st := rfl
theorem en308 (a0 a1 a2 a3 : AV) : entryL 308 [a0, a1, a2, a3] = [a0, a1, a2, a3, AU] := rfl
theorem pv308 (v : AV) (st : List AV) : pushV 308 v st = v :: st := rfl
theorem en309 (a0 a1 a2 a3 a4 : AV) : entryL 309 [a0, a1, a2, a3, a4] = [a0, a1, a2, a3, a4, AU] := rfl
theorem pv309 (v : AV) (st : List AV) : pushV 309 v st = v :: st := rfl
theorem en310 (a0 a1 : AV) : entryL 310 [a0, a1] = [a0, a1, AU] := rfl
theorem pv310 (v : AV) (st : List AV) : pushV 310 v st = v :: st := rfl
theorem en311 (a0 a1 : AV) : entryL 311 [a0, a1] = [a0, a1, AU] := rfl
theorem pv311 (v : AV) (st : List AV) : pushV 311 v st = v :: st := rfl
theorem en312 (a0 : AV) : entryL 312 [a0] = [a0, AU, AU, AU, AU, AU, AU, AU, AU] := rfl
theorem pv312 (v : AV) (st : List AV) : pushV 312 v st = v :: st := rfl
