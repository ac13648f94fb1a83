theorem d_RS_init_0 : decode b_RS_init 0 = .ok (.aload_n 0, 1) := by decide +kernel
theorem d_RS_init_1 : decode b_RS_init 1 = .ok (.invokespecial 3, 3) := by decide +kernel
theorem d_RS_init_4 : decode b_RS_init 4 = .ok (.aload_n 0, 1) := by decide +kernel
theorem d_RS_init_5 : decode b_RS_init 5 = .ok (.iconst 5, 1) := by decide +kernel
theorem d_RS_init_6 : decode b_RS_init 6 = .ok (.newarray .int, 2) := by decide +kernel
theorem d_RS_init_8 : decode b_RS_init 8 = .ok (.putfield 9, 3) := by decide +kernel
theorem d_RS_init_11 : decode b_RS_init 11 = .ok (.aload_n 0, 1) := by decide +kernel
theorem d_RS_init_12 : decode b_RS_init 12 = .ok (.iconst 5, 1) := by decide +kernel
theorem d_RS_init_13 : decode b_RS_init 13 = .ok (.newarray .int, 2) := by decide +kernel
theorem d_RS_init_15 : decode b_RS_init 15 = .ok (.putfield 15, 3) := by decide +kernel
theorem d_RS_init_18 : decode b_RS_init 18 = .ok (.aload_n 0, 1) := by decide +kernel
theorem d_RS_init_19 : decode b_RS_init 19 = .ok (.invokevirtual 18, 3) := by decide +kernel
theorem d_RS_init_22 : decode b_RS_init 22 = .ok (.return_, 1) := by decide +kernel
theorem d_RS_setAsAtFirst_0 : decode b_RS_setAsAtFirst 0 = .ok (.aload_n 0, 1) := by decide +kernel
theorem d_RS_setAsAtFirst_1 : decode b_RS_setAsAtFirst 1 = .ok (.iconst 0, 1) := by decide +kernel
theorem d_RS_setAsAtFirst_2 : decode b_RS_setAsAtFirst 2 = .ok (.putfield 21, 3) := by decide +kernel
theorem d_RS_setAsAtFirst_5 : decode b_RS_setAsAtFirst 5 = .ok (.aload_n 0, 1) := by decide +kernel
theorem d_RS_setAsAtFirst_6 : decode b_RS_setAsAtFirst 6 = .ok (.bipush 50, 2) := by decide +kernel
theorem d_RS_setAsAtFirst_8 : decode b_RS_setAsAtFirst 8 = .ok (.bipush 100, 2) := by decide +kernel
theorem d_RS_setAsAtFirst_10 : decode b_RS_setAsAtFirst 10 = .ok (.invokevirtual 25, 3) := by decide +kernel
theorem d_RS_setAsAtFirst_13 : decode b_RS_setAsAtFirst 13 = .ok (.aload_n 0, 1) := by decide +kernel
theorem d_RS_setAsAtFirst_14 : decode b_RS_setAsAtFirst 14 = .ok (.iconst 0, 1) := by decide +kernel
theorem d_RS_setAsAtFirst_15 : decode b_RS_setAsAtFirst 15 = .ok (.putfield 29, 3) := by decide +kernel
theorem d_RS_setAsAtFirst_18 : decode b_RS_setAsAtFirst 18 = .ok (.aload_n 0, 1) := by decide +kernel
theorem d_RS_setAsAtFirst_19 : decode b_RS_setAsAtFirst 19 = .ok (.iconst 0, 1) := by decide +kernel
theorem d_RS_setAsAtFirst_20 : decode b_RS_setAsAtFirst 20 = .ok (.putfield 32, 3) := by decide +kernel
theorem d_RS_setAsAtFirst_23 : decode b_RS_setAsAtFirst 23 = .ok (.aload_n 0, 1) := by decide +kernel
theorem d_RS_setAsAtFirst_24 : decode b_RS_setAsAtFirst 24 = .ok (.bipush 116, 2) := by decide +kernel
theorem d_RS_setAsAtFirst_26 : decode b_RS_setAsAtFirst 26 = .ok (.putfield 35, 3) := by decide +kernel
theorem d_RS_setAsAtFirst_29 : decode b_RS_setAsAtFirst 29 = .ok (.return_, 1) := by decide +kernel
theorem d_RS_addStep_0 : decode b_RS_addStep 0 = .ok (.aload_n 0, 1) := by decide +kernel
theorem d_RS_addStep_1 : decode b_RS_addStep 1 = .ok (.getfield 21, 3) := by decide +kernel
theorem d_RS_addStep_4 : decode b_RS_addStep 4 = .ok (.iconst 5, 1) := by decide +kernel
theorem d_RS_addStep_5 : decode b_RS_addStep 5 = .ok (.if_icmp .ge 33, 3) := by decide +kernel
theorem d_RS_addStep_8 : decode b_RS_addStep 8 = .ok (.aload_n 0, 1) := by decide +kernel
theorem d_RS_addStep_9 : decode b_RS_addStep 9 = .ok (.getfield 9, 3) := by decide +kernel
theorem d_RS_addStep_12 : decode b_RS_addStep 12 = .ok (.aload_n 0, 1) := by decide +kernel
theorem d_RS_addStep_13 : decode b_RS_addStep 13 = .ok (.getfield 21, 3) := by decide +kernel
theorem d_RS_addStep_16 : decode b_RS_addStep 16 = .ok (.iload_n 1, 1) := by decide +kernel
theorem d_RS_addStep_17 : decode b_RS_addStep 17 = .ok (.iastore, 1) := by decide +kernel
theorem d_RS_addStep_18 : decode b_RS_addStep 18 = .ok (.aload_n 0, 1) := by decide +kernel
theorem d_RS_addStep_19 : decode b_RS_addStep 19 = .ok (.getfield 15, 3) := by decide +kernel
theorem d_RS_addStep_22 : decode b_RS_addStep 22 = .ok (.aload_n 0, 1) := by decide +kernel
theorem d_RS_addStep_23 : decode b_RS_addStep 23 = .ok (.getfield 21, 3) := by decide +kernel
theorem d_RS_addStep_26 : decode b_RS_addStep 26 = .ok (.iload_n 2, 1) := by decide +kernel
theorem d_RS_addStep_27 : decode b_RS_addStep 27 = .ok (.iastore, 1) := by decide +kernel
theorem d_RS_addStep_28 : decode b_RS_addStep 28 = .ok (.aload_n 0, 1) := by decide +kernel
theorem d_RS_addStep_29 : decode b_RS_addStep 29 = .ok (.dup, 1) := by decide +kernel
theorem d_RS_addStep_30 : decode b_RS_addStep 30 = .ok (.getfield 21, 3) := by decide +kernel
theorem d_RS_addStep_33 : decode b_RS_addStep 33 = .ok (.iconst 1, 1) := by decide +kernel
theorem d_RS_addStep_34 : decode b_RS_addStep 34 = .ok (.iadd, 1) := by decide +kernel
theorem d_RS_addStep_35 : decode b_RS_addStep 35 = .ok (.putfield 21, 3) := by decide +kernel
theorem d_RS_addStep_38 : decode b_RS_addStep 38 = .ok (.return_, 1) := by decide +kernel
theorem d_RS_heightAt_0 : decode b_RS_heightAt 0 = .ok (.iconst 0, 1) := by decide +kernel
theorem d_RS_heightAt_1 : decode b_RS_heightAt 1 = .ok (.istore_n 2, 1) := by decide +kernel
theorem d_RS_heightAt_2 : decode b_RS_heightAt 2 = .ok (.iconst 0, 1) := by decide +kernel
theorem d_RS_heightAt_3 : decode b_RS_heightAt 3 = .ok (.istore_n 3, 1) := by decide +kernel
theorem d_RS_heightAt_4 : decode b_RS_heightAt 4 = .ok (.iload_n 3, 1) := by decide +kernel
theorem d_RS_heightAt_5 : decode b_RS_heightAt 5 = .ok (.aload_n 0, 1) := by decide +kernel
theorem d_RS_heightAt_6 : decode b_RS_heightAt 6 = .ok (.getfield 21, 3) := by decide +kernel
theorem d_RS_heightAt_9 : decode b_RS_heightAt 9 = .ok (.if_icmp .ge 29, 3) := by decide +kernel
theorem d_RS_heightAt_12 : decode b_RS_heightAt 12 = .ok (.aload_n 0, 1) := by decide +kernel
theorem d_RS_heightAt_13 : decode b_RS_heightAt 13 = .ok (.getfield 15, 3) := by decide +kernel
theorem d_RS_heightAt_16 : decode b_RS_heightAt 16 = .ok (.iload_n 3, 1) := by decide +kernel
theorem d_RS_heightAt_17 : decode b_RS_heightAt 17 = .ok (.iaload, 1) := by decide +kernel
theorem d_RS_heightAt_18 : decode b_RS_heightAt 18 = .ok (.istore_n 2, 1) := by decide +kernel
theorem d_RS_heightAt_19 : decode b_RS_heightAt 19 = .ok (.aload_n 0, 1) := by decide +kernel
theorem d_RS_heightAt_20 : decode b_RS_heightAt 20 = .ok (.getfield 9, 3) := by decide +kernel
theorem d_RS_heightAt_23 : decode b_RS_heightAt 23 = .ok (.iload_n 3, 1) := by decide +kernel
theorem d_RS_heightAt_24 : decode b_RS_heightAt 24 = .ok (.iaload, 1) := by decide +kernel
theorem d_RS_heightAt_25 : decode b_RS_heightAt 25 = .ok (.iload_n 1, 1) := by decide +kernel
theorem d_RS_heightAt_26 : decode b_RS_heightAt 26 = .ok (.if_icmp .lt 6, 3) := by decide +kernel
theorem d_RS_heightAt_29 : decode b_RS_heightAt 29 = .ok (.goto 9, 3) := by decide +kernel
theorem d_RS_heightAt_32 : decode b_RS_heightAt 32 = .ok (.iinc 3 1, 3) := by decide +kernel
theorem d_RS_heightAt_35 : decode b_RS_heightAt 35 = .ok (.goto (-31), 3) := by decide +kernel
theorem d_RS_heightAt_38 : decode b_RS_heightAt 38 = .ok (.iload_n 2, 1) := by decide +kernel
theorem d_RS_heightAt_39 : decode b_RS_heightAt 39 = .ok (.ireturn, 1) := by decide +kernel
