theorem dX3_init_0 : decode cX3_init 0 = .ok (.aload_n 0, 1) := by decide +kernel
theorem dX3_init_1 : decode cX3_init 1 = .ok (.invokespecial 3, 3) := by decide +kernel
theorem dX3_init_4 : decode cX3_init 4 = .ok (.aload_n 0, 1) := by decide +kernel
theorem dX3_init_5 : decode cX3_init 5 = .ok (.iconst 0, 1) := by decide +kernel
theorem dX3_init_6 : decode cX3_init 6 = .ok (.putfield 11, 3) := by decide +kernel
theorem dX3_init_9 : decode cX3_init 9 = .ok (.aload_n 0, 1) := by decide +kernel
theorem dX3_init_10 : decode cX3_init 10 = .ok (.iconst 0, 1) := by decide +kernel
theorem dX3_init_11 : decode cX3_init 11 = .ok (.putfield 15, 3) := by decide +kernel
theorem dX3_init_14 : decode cX3_init 14 = .ok (.aload_n 0, 1) := by decide +kernel
theorem dX3_init_15 : decode cX3_init 15 = .ok (.iconst 0, 1) := by decide +kernel
theorem dX3_init_16 : decode cX3_init 16 = .ok (.putfield 18, 3) := by decide +kernel
theorem dX3_init_19 : decode cX3_init 19 = .ok (.aload_n 0, 1) := by decide +kernel
theorem dX3_init_20 : decode cX3_init 20 = .ok (.lconst 0, 1) := by decide +kernel
theorem dX3_init_21 : decode cX3_init 21 = .ok (.putfield 21, 3) := by decide +kernel
theorem dX3_init_24 : decode cX3_init 24 = .ok (.aload_n 0, 1) := by decide +kernel
theorem dX3_init_25 : decode cX3_init 25 = .ok (.bipush 60, 2) := by decide +kernel
theorem dX3_init_27 : decode cX3_init 27 = .ok (.newarray .long, 2) := by decide +kernel
theorem dX3_init_29 : decode cX3_init 29 = .ok (.putfield 25, 3) := by decide +kernel
theorem dX3_init_32 : decode cX3_init 32 = .ok (.return_, 1) := by decide +kernel
theorem dX3_takeLoan_0 : decode cX3_takeLoan 0 = .ok (.aload_n 0, 1) := by decide +kernel
theorem dX3_takeLoan_1 : decode cX3_takeLoan 1 = .ok (.iconst 1, 1) := by decide +kernel
theorem dX3_takeLoan_2 : decode cX3_takeLoan 2 = .ok (.putfield 11, 3) := by decide +kernel
theorem dX3_takeLoan_5 : decode cX3_takeLoan 5 = .ok (.aload_n 0, 1) := by decide +kernel
theorem dX3_takeLoan_6 : decode cX3_takeLoan 6 = .ok (.iload_n 1, 1) := by decide +kernel
theorem dX3_takeLoan_7 : decode cX3_takeLoan 7 = .ok (.putfield 15, 3) := by decide +kernel
theorem dX3_takeLoan_10 : decode cX3_takeLoan 10 = .ok (.return_, 1) := by decide +kernel
theorem dX3_takeBill_0 : decode cX3_takeBill 0 = .ok (.aload_n 0, 1) := by decide +kernel
theorem dX3_takeBill_1 : decode cX3_takeBill 1 = .ok (.iconst 2, 1) := by decide +kernel
theorem dX3_takeBill_2 : decode cX3_takeBill 2 = .ok (.putfield 11, 3) := by decide +kernel
theorem dX3_takeBill_5 : decode cX3_takeBill 5 = .ok (.aload_n 0, 1) := by decide +kernel
theorem dX3_takeBill_6 : decode cX3_takeBill 6 = .ok (.iload_n 1, 1) := by decide +kernel
theorem dX3_takeBill_7 : decode cX3_takeBill 7 = .ok (.putfield 15, 3) := by decide +kernel
theorem dX3_takeBill_10 : decode cX3_takeBill 10 = .ok (.aload_n 0, 1) := by decide +kernel
theorem dX3_takeBill_11 : decode cX3_takeBill 11 = .ok (.lload_n 2, 1) := by decide +kernel
theorem dX3_takeBill_12 : decode cX3_takeBill 12 = .ok (.putfield 21, 3) := by decide +kernel
theorem dX3_takeBill_15 : decode cX3_takeBill 15 = .ok (.return_, 1) := by decide +kernel
theorem dX3_takeRow_0 : decode cX3_takeRow 0 = .ok (.aload_n 0, 1) := by decide +kernel
theorem dX3_takeRow_1 : decode cX3_takeRow 1 = .ok (.iconst 3, 1) := by decide +kernel
theorem dX3_takeRow_2 : decode cX3_takeRow 2 = .ok (.putfield 11, 3) := by decide +kernel
theorem dX3_takeRow_5 : decode cX3_takeRow 5 = .ok (.aload_n 0, 1) := by decide +kernel
theorem dX3_takeRow_6 : decode cX3_takeRow 6 = .ok (.iload_n 1, 1) := by decide +kernel
theorem dX3_takeRow_7 : decode cX3_takeRow 7 = .ok (.putfield 18, 3) := by decide +kernel
theorem dX3_takeRow_10 : decode cX3_takeRow 10 = .ok (.aload_n 0, 1) := by decide +kernel
theorem dX3_takeRow_11 : decode cX3_takeRow 11 = .ok (.getfield 25, 3) := by decide +kernel
theorem dX3_takeRow_14 : decode cX3_takeRow 14 = .ok (.lconst 0, 1) := by decide +kernel
theorem dX3_takeRow_15 : decode cX3_takeRow 15 = .ok (.invokestatic 29, 3) := by decide +kernel
theorem dX3_takeRow_18 : decode cX3_takeRow 18 = .ok (.return_, 1) := by decide +kernel
