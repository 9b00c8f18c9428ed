theorem dG_findLives_1 : decode mG_findLives.2.1 1 = .ok (.istore_n 2, 1) := by decide +kernel
theorem dG_findLives_2 : decode mG_findLives.2.1 2 = .ok (.iload_n 2, 1) := by decide +kernel
theorem dG_findLives_3 : decode mG_findLives.2.1 3 = .ok (.aload_n 0, 1) := by decide +kernel
theorem dG_findLives_4 : decode mG_findLives.2.1 4 = .ok (.getfield 33, 3) := by decide +kernel
theorem dG_findLives_7 : decode mG_findLives.2.1 7 = .ok (.if_icmp .ge 84, 3) := by decide +kernel
theorem dG_findLives_10 : decode mG_findLives.2.1 10 = .ok (.aload_n 0, 1) := by decide +kernel
theorem dG_findLives_11 : decode mG_findLives.2.1 11 = .ok (.getfield 21, 3) := by decide +kernel
theorem dG_findLives_14 : decode mG_findLives.2.1 14 = .ok (.iload_n 2, 1) := by decide +kernel
theorem dG_findLives_15 : decode mG_findLives.2.1 15 = .ok (.iaload, 1) := by decide +kernel
theorem dG_findLives_16 : decode mG_findLives.2.1 16 = .ok (.iconst 2, 1) := by decide +kernel
theorem dG_findLives_17 : decode mG_findLives.2.1 17 = .ok (.if_icmp .ne 68, 3) := by decide +kernel
theorem dG_findLives_20 : decode mG_findLives.2.1 20 = .ok (.aload_n 0, 1) := by decide +kernel
theorem dG_findLives_21 : decode mG_findLives.2.1 21 = .ok (.getfield 30, 3) := by decide +kernel
theorem dG_findLives_24 : decode mG_findLives.2.1 24 = .ok (.iload_n 2, 1) := by decide +kernel
theorem dG_findLives_25 : decode mG_findLives.2.1 25 = .ok (.aload_n 0, 1) := by decide +kernel
theorem dG_findLives_26 : decode mG_findLives.2.1 26 = .ok (.getfield 24, 3) := by decide +kernel
theorem dG_findLives_29 : decode mG_findLives.2.1 29 = .ok (.iload_n 2, 1) := by decide +kernel
theorem dG_findLives_30 : decode mG_findLives.2.1 30 = .ok (.iaload, 1) := by decide +kernel
theorem dG_findLives_31 : decode mG_findLives.2.1 31 = .ok (.iastore, 1) := by decide +kernel
theorem dG_findLives_32 : decode mG_findLives.2.1 32 = .ok (.aload_n 0, 1) := by decide +kernel
theorem dG_findLives_33 : decode mG_findLives.2.1 33 = .ok (.iload_n 2, 1) := by decide +kernel
theorem dG_findLives_34 : decode mG_findLives.2.1 34 = .ok (.invokevirtual 130, 3) := by decide +kernel
theorem dG_findLives_37 : decode mG_findLives.2.1 37 = .ok (.istore_n 3, 1) := by decide +kernel
theorem dG_findLives_38 : decode mG_findLives.2.1 38 = .ok (.aload_n 0, 1) := by decide +kernel
theorem dG_findLives_39 : decode mG_findLives.2.1 39 = .ok (.getfield 11, 3) := by decide +kernel
theorem dG_findLives_42 : decode mG_findLives.2.1 42 = .ok (.iload_n 3, 1) := by decide +kernel
theorem dG_findLives_43 : decode mG_findLives.2.1 43 = .ok (.iconst (-1), 1) := by decide +kernel
theorem dG_findLives_44 : decode mG_findLives.2.1 44 = .ok (.if_icmp .ne 7, 3) := by decide +kernel
theorem dG_findLives_47 : decode mG_findLives.2.1 47 = .ok (.iload_n 2, 1) := by decide +kernel
theorem dG_findLives_48 : decode mG_findLives.2.1 48 = .ok (.goto 4, 3) := by decide +kernel
theorem dG_findLives_51 : decode mG_findLives.2.1 51 = .ok (.iload_n 3, 1) := by decide +kernel
theorem dG_findLives_52 : decode mG_findLives.2.1 52 = .ok (.aaload, 1) := by decide +kernel
theorem dG_findLives_53 : decode mG_findLives.2.1 53 = .ok (.astore 4, 2) := by decide +kernel
theorem dG_findLives_55 : decode mG_findLives.2.1 55 = .ok (.aload_n 0, 1) := by decide +kernel
theorem dG_findLives_56 : decode mG_findLives.2.1 56 = .ok (.aload 4, 2) := by decide +kernel
theorem dG_findLives_58 : decode mG_findLives.2.1 58 = .ok (.getfield 56, 3) := by decide +kernel
theorem dG_findLives_61 : decode mG_findLives.2.1 61 = .ok (.aload_n 0, 1) := by decide +kernel
theorem dG_findLives_62 : decode mG_findLives.2.1 62 = .ok (.getfield 24, 3) := by decide +kernel
theorem dG_findLives_65 : decode mG_findLives.2.1 65 = .ok (.iload_n 2, 1) := by decide +kernel
theorem dG_findLives_66 : decode mG_findLives.2.1 66 = .ok (.iaload, 1) := by decide +kernel
theorem dG_findLives_67 : decode mG_findLives.2.1 67 = .ok (.invokevirtual 133, 3) := by decide +kernel
theorem dG_findLives_70 : decode mG_findLives.2.1 70 = .ok (.aload_n 0, 1) := by decide +kernel
theorem dG_findLives_71 : decode mG_findLives.2.1 71 = .ok (.aload 4, 2) := by decide +kernel
theorem dG_findLives_73 : decode mG_findLives.2.1 73 = .ok (.getfield 103, 3) := by decide +kernel
theorem dG_findLives_76 : decode mG_findLives.2.1 76 = .ok (.aload_n 0, 1) := by decide +kernel
theorem dG_findLives_77 : decode mG_findLives.2.1 77 = .ok (.getfield 24, 3) := by decide +kernel
theorem dG_findLives_80 : decode mG_findLives.2.1 80 = .ok (.iload_n 2, 1) := by decide +kernel
theorem dG_findLives_81 : decode mG_findLives.2.1 81 = .ok (.iaload, 1) := by decide +kernel
theorem dG_findLives_82 : decode mG_findLives.2.1 82 = .ok (.invokevirtual 133, 3) := by decide +kernel
theorem dG_findLives_85 : decode mG_findLives.2.1 85 = .ok (.iinc 2 1, 3) := by decide +kernel
theorem dG_findLives_88 : decode mG_findLives.2.1 88 = .ok (.goto (-86), 3) := by decide +kernel
theorem dG_findLives_91 : decode mG_findLives.2.1 91 = .ok (.aload_n 0, 1) := by decide +kernel
theorem dG_findLives_92 : decode mG_findLives.2.1 92 = .ok (.getfield 30, 3) := by decide +kernel
theorem dG_findLives_95 : decode mG_findLives.2.1 95 = .ok (.iload_n 1, 1) := by decide +kernel
theorem dG_findLives_96 : decode mG_findLives.2.1 96 = .ok (.aload_n 0, 1) := by decide +kernel
theorem dG_findLives_97 : decode mG_findLives.2.1 97 = .ok (.getfield 127, 3) := by decide +kernel
theorem dG_findLives_100 : decode mG_findLives.2.1 100 = .ok (.iconst 1, 1) := by decide +kernel
theorem dG_findLives_101 : decode mG_findLives.2.1 101 = .ok (.isub, 1) := by decide +kernel
theorem dG_findLives_102 : decode mG_findLives.2.1 102 = .ok (.iastore, 1) := by decide +kernel
theorem dG_findLives_103 : decode mG_findLives.2.1 103 = .ok (.return_, 1) := by decide +kernel
theorem dG_fusedInto_0 : decode mG_fusedInto.2.1 0 = .ok (.aload_n 0, 1) := by decide +kernel
theorem dG_fusedInto_1 : decode mG_fusedInto.2.1 1 = .ok (.aload_n 0, 1) := by decide +kernel
theorem dG_fusedInto_2 : decode mG_fusedInto.2.1 2 = .ok (.getfield 11, 3) := by decide +kernel
theorem dG_fusedInto_5 : decode mG_fusedInto.2.1 5 = .ok (.iload_n 1, 1) := by decide +kernel
theorem dG_fusedInto_6 : decode mG_fusedInto.2.1 6 = .ok (.aaload, 1) := by decide +kernel
theorem dG_fusedInto_7 : decode mG_fusedInto.2.1 7 = .ok (.getfield 56, 3) := by decide +kernel
theorem dG_fusedInto_10 : decode mG_fusedInto.2.1 10 = .ok (.invokevirtual 59, 3) := by decide +kernel
theorem dG_fusedInto_13 : decode mG_fusedInto.2.1 13 = .ok (.istore_n 2, 1) := by decide +kernel
theorem dG_fusedInto_14 : decode mG_fusedInto.2.1 14 = .ok (.iload_n 2, 1) := by decide +kernel
theorem dG_fusedInto_15 : decode mG_fusedInto.2.1 15 = .ok (.iconst (-1), 1) := by decide +kernel
theorem dG_fusedInto_16 : decode mG_fusedInto.2.1 16 = .ok (.if_icmp .eq 17, 3) := by decide +kernel
theorem dG_fusedInto_19 : decode mG_fusedInto.2.1 19 = .ok (.aload_n 0, 1) := by decide +kernel
theorem dG_fusedInto_20 : decode mG_fusedInto.2.1 20 = .ok (.getfield 21, 3) := by decide +kernel
theorem dG_fusedInto_23 : decode mG_fusedInto.2.1 23 = .ok (.iload_n 2, 1) := by decide +kernel
theorem dG_fusedInto_24 : decode mG_fusedInto.2.1 24 = .ok (.iaload, 1) := by decide +kernel
theorem dG_fusedInto_25 : decode mG_fusedInto.2.1 25 = .ok (.iconst 1, 1) := by decide +kernel
theorem dG_fusedInto_26 : decode mG_fusedInto.2.1 26 = .ok (.if_icmp .ne 7, 3) := by decide +kernel
theorem dG_fusedInto_29 : decode mG_fusedInto.2.1 29 = .ok (.iload_n 2, 1) := by decide +kernel
theorem dG_fusedInto_30 : decode mG_fusedInto.2.1 30 = .ok (.goto 4, 3) := by decide +kernel
theorem dG_fusedInto_33 : decode mG_fusedInto.2.1 33 = .ok (.iconst (-1), 1) := by decide +kernel
theorem dG_fusedInto_34 : decode mG_fusedInto.2.1 34 = .ok (.ireturn, 1) := by decide +kernel
theorem dG_keepAlive_0 : decode mG_keepAlive.2.1 0 = .ok (.iload_n 1, 1) := by decide +kernel
theorem dG_keepAlive_1 : decode mG_keepAlive.2.1 1 = .ok (.iconst (-1), 1) := by decide +kernel
theorem dG_keepAlive_2 : decode mG_keepAlive.2.1 2 = .ok (.if_icmp .eq 15, 3) := by decide +kernel
theorem dG_keepAlive_5 : decode mG_keepAlive.2.1 5 = .ok (.aload_n 0, 1) := by decide +kernel
theorem dG_keepAlive_6 : decode mG_keepAlive.2.1 6 = .ok (.getfield 30, 3) := by decide +kernel
theorem dG_keepAlive_9 : decode mG_keepAlive.2.1 9 = .ok (.aload_n 0, 1) := by decide +kernel
theorem dG_keepAlive_10 : decode mG_keepAlive.2.1 10 = .ok (.getfield 17, 3) := by decide +kernel
theorem dG_keepAlive_13 : decode mG_keepAlive.2.1 13 = .ok (.iload_n 1, 1) := by decide +kernel
theorem dG_keepAlive_14 : decode mG_keepAlive.2.1 14 = .ok (.iaload, 1) := by decide +kernel
theorem dG_keepAlive_15 : decode mG_keepAlive.2.1 15 = .ok (.iload_n 2, 1) := by decide +kernel
theorem dG_keepAlive_16 : decode mG_keepAlive.2.1 16 = .ok (.iastore, 1) := by decide +kernel
theorem dG_keepAlive_17 : decode mG_keepAlive.2.1 17 = .ok (.return_, 1) := by decide +kernel
theorem dG_givePlaces_0 : decode mG_givePlaces.2.1 0 = .ok (.aload_n 0, 1) := by decide +kernel
theorem dG_givePlaces_1 : decode mG_givePlaces.2.1 1 = .ok (.iconst 0, 1) := by decide +kernel
theorem dG_givePlaces_2 : decode mG_givePlaces.2.1 2 = .ok (.putfield 137, 3) := by decide +kernel
theorem dG_givePlaces_5 : decode mG_givePlaces.2.1 5 = .ok (.aload_n 0, 1) := by decide +kernel
theorem dG_givePlaces_6 : decode mG_givePlaces.2.1 6 = .ok (.getfield 27, 3) := by decide +kernel
theorem dG_givePlaces_9 : decode mG_givePlaces.2.1 9 = .ok (.iconst (-1), 1) := by decide +kernel
theorem dG_givePlaces_10 : decode mG_givePlaces.2.1 10 = .ok (.invokestatic 106, 3) := by decide +kernel
theorem dG_givePlaces_13 : decode mG_givePlaces.2.1 13 = .ok (.iconst 0, 1) := by decide +kernel
theorem dG_givePlaces_14 : decode mG_givePlaces.2.1 14 = .ok (.istore_n 1, 1) := by decide +kernel
theorem dG_givePlaces_15 : decode mG_givePlaces.2.1 15 = .ok (.iload_n 1, 1) := by decide +kernel
theorem dG_givePlaces_16 : decode mG_givePlaces.2.1 16 = .ok (.aload_n 0, 1) := by decide +kernel
theorem dG_givePlaces_17 : decode mG_givePlaces.2.1 17 = .ok (.getfield 127, 3) := by decide +kernel
theorem dG_givePlaces_20 : decode mG_givePlaces.2.1 20 = .ok (.if_icmp .ge 57, 3) := by decide +kernel
theorem dG_givePlaces_23 : decode mG_givePlaces.2.1 23 = .ok (.aload_n 0, 1) := by decide +kernel
theorem dG_givePlaces_24 : decode mG_givePlaces.2.1 24 = .ok (.invokevirtual 140, 3) := by decide +kernel
theorem dG_givePlaces_27 : decode mG_givePlaces.2.1 27 = .ok (.istore_n 2, 1) := by decide +kernel
theorem dG_givePlaces_28 : decode mG_givePlaces.2.1 28 = .ok (.iload_n 2, 1) := by decide +kernel
theorem dG_givePlaces_29 : decode mG_givePlaces.2.1 29 = .ok (.iconst (-1), 1) := by decide +kernel
theorem dG_givePlaces_30 : decode mG_givePlaces.2.1 30 = .ok (.if_icmp .eq 41, 3) := by decide +kernel
theorem dG_givePlaces_33 : decode mG_givePlaces.2.1 33 = .ok (.aload_n 0, 1) := by decide +kernel
theorem dG_givePlaces_34 : decode mG_givePlaces.2.1 34 = .ok (.getfield 27, 3) := by decide +kernel
theorem dG_givePlaces_37 : decode mG_givePlaces.2.1 37 = .ok (.iload_n 2, 1) := by decide +kernel
theorem dG_givePlaces_38 : decode mG_givePlaces.2.1 38 = .ok (.aload_n 0, 1) := by decide +kernel
theorem dG_givePlaces_39 : decode mG_givePlaces.2.1 39 = .ok (.iload_n 2, 1) := by decide +kernel
theorem dG_givePlaces_40 : decode mG_givePlaces.2.1 40 = .ok (.invokevirtual 144, 3) := by decide +kernel
theorem dG_givePlaces_43 : decode mG_givePlaces.2.1 43 = .ok (.iastore, 1) := by decide +kernel
theorem dG_givePlaces_44 : decode mG_givePlaces.2.1 44 = .ok (.aload_n 0, 1) := by decide +kernel
theorem dG_givePlaces_45 : decode mG_givePlaces.2.1 45 = .ok (.aload_n 0, 1) := by decide +kernel
theorem dG_givePlaces_46 : decode mG_givePlaces.2.1 46 = .ok (.getfield 137, 3) := by decide +kernel
theorem dG_givePlaces_49 : decode mG_givePlaces.2.1 49 = .ok (.aload_n 0, 1) := by decide +kernel
theorem dG_givePlaces_50 : decode mG_givePlaces.2.1 50 = .ok (.getfield 27, 3) := by decide +kernel
theorem dG_givePlaces_53 : decode mG_givePlaces.2.1 53 = .ok (.iload_n 2, 1) := by decide +kernel
theorem dG_givePlaces_54 : decode mG_givePlaces.2.1 54 = .ok (.iaload, 1) := by decide +kernel
theorem dG_givePlaces_55 : decode mG_givePlaces.2.1 55 = .ok (.aload_n 0, 1) := by decide +kernel
theorem dG_givePlaces_56 : decode mG_givePlaces.2.1 56 = .ok (.getfield 11, 3) := by decide +kernel
theorem dG_givePlaces_59 : decode mG_givePlaces.2.1 59 = .ok (.iload_n 2, 1) := by decide +kernel
theorem dG_givePlaces_60 : decode mG_givePlaces.2.1 60 = .ok (.aaload, 1) := by decide +kernel
theorem dG_givePlaces_61 : decode mG_givePlaces.2.1 61 = .ok (.getfield 147, 3) := by decide +kernel
theorem dG_givePlaces_64 : decode mG_givePlaces.2.1 64 = .ok (.iadd, 1) := by decide +kernel
theorem dG_givePlaces_65 : decode mG_givePlaces.2.1 65 = .ok (.invokestatic 150, 3) := by decide +kernel
theorem dG_givePlaces_68 : decode mG_givePlaces.2.1 68 = .ok (.putfield 137, 3) := by decide +kernel
theorem dG_givePlaces_71 : decode mG_givePlaces.2.1 71 = .ok (.iinc 1 1, 3) := by decide +kernel
theorem dG_givePlaces_74 : decode mG_givePlaces.2.1 74 = .ok (.goto (-59), 3) := by decide +kernel
theorem dG_givePlaces_77 : decode mG_givePlaces.2.1 77 = .ok (.return_, 1) := by decide +kernel
theorem dG_largestWithoutPlace_0 : decode mG_largestWithoutPlace.2.1 0 = .ok (.iconst (-1), 1) := by decide +kernel
theorem dG_largestWithoutPlace_1 : decode mG_largestWithoutPlace.2.1 1 = .ok (.istore_n 1, 1) := by decide +kernel
theorem dG_largestWithoutPlace_2 : decode mG_largestWithoutPlace.2.1 2 = .ok (.iconst 0, 1) := by decide +kernel
theorem dG_largestWithoutPlace_3 : decode mG_largestWithoutPlace.2.1 3 = .ok (.istore_n 2, 1) := by decide +kernel
theorem dG_largestWithoutPlace_4 : decode mG_largestWithoutPlace.2.1 4 = .ok (.iload_n 2, 1) := by decide +kernel
theorem dG_largestWithoutPlace_5 : decode mG_largestWithoutPlace.2.1 5 = .ok (.aload_n 0, 1) := by decide +kernel
theorem dG_largestWithoutPlace_6 : decode mG_largestWithoutPlace.2.1 6 = .ok (.getfield 33, 3) := by decide +kernel
theorem dG_largestWithoutPlace_9 : decode mG_largestWithoutPlace.2.1 9 = .ok (.if_icmp .ge 67, 3) := by decide +kernel
theorem dG_largestWithoutPlace_12 : decode mG_largestWithoutPlace.2.1 12 = .ok (.aload_n 0, 1) := by decide +kernel
theorem dG_largestWithoutPlace_13 : decode mG_largestWithoutPlace.2.1 13 = .ok (.getfield 21, 3) := by decide +kernel
theorem dG_largestWithoutPlace_16 : decode mG_largestWithoutPlace.2.1 16 = .ok (.iload_n 2, 1) := by decide +kernel
theorem dG_largestWithoutPlace_17 : decode mG_largestWithoutPlace.2.1 17 = .ok (.iaload, 1) := by decide +kernel
theorem dG_largestWithoutPlace_18 : decode mG_largestWithoutPlace.2.1 18 = .ok (.iconst 2, 1) := by decide +kernel
theorem dG_largestWithoutPlace_19 : decode mG_largestWithoutPlace.2.1 19 = .ok (.if_icmp .ne 17, 3) := by decide +kernel
theorem dG_largestWithoutPlace_22 : decode mG_largestWithoutPlace.2.1 22 = .ok (.aload_n 0, 1) := by decide +kernel
theorem dG_largestWithoutPlace_23 : decode mG_largestWithoutPlace.2.1 23 = .ok (.getfield 27, 3) := by decide +kernel
theorem dG_largestWithoutPlace_26 : decode mG_largestWithoutPlace.2.1 26 = .ok (.iload_n 2, 1) := by decide +kernel
theorem dG_largestWithoutPlace_27 : decode mG_largestWithoutPlace.2.1 27 = .ok (.iaload, 1) := by decide +kernel
theorem dG_largestWithoutPlace_28 : decode mG_largestWithoutPlace.2.1 28 = .ok (.iconst (-1), 1) := by decide +kernel
theorem dG_largestWithoutPlace_29 : decode mG_largestWithoutPlace.2.1 29 = .ok (.if_icmp .ne 7, 3) := by decide +kernel
theorem dG_largestWithoutPlace_32 : decode mG_largestWithoutPlace.2.1 32 = .ok (.iconst 1, 1) := by decide +kernel
theorem dG_largestWithoutPlace_33 : decode mG_largestWithoutPlace.2.1 33 = .ok (.goto 4, 3) := by decide +kernel
theorem dG_largestWithoutPlace_36 : decode mG_largestWithoutPlace.2.1 36 = .ok (.iconst 0, 1) := by decide +kernel
theorem dG_largestWithoutPlace_37 : decode mG_largestWithoutPlace.2.1 37 = .ok (.istore_n 3, 1) := by decide +kernel
theorem dG_largestWithoutPlace_38 : decode mG_largestWithoutPlace.2.1 38 = .ok (.iload_n 3, 1) := by decide +kernel
theorem dG_largestWithoutPlace_39 : decode mG_largestWithoutPlace.2.1 39 = .ok (.ifCond .eq 31, 3) := by decide +kernel
theorem dG_largestWithoutPlace_42 : decode mG_largestWithoutPlace.2.1 42 = .ok (.iload_n 1, 1) := by decide +kernel
theorem dG_largestWithoutPlace_43 : decode mG_largestWithoutPlace.2.1 43 = .ok (.iconst (-1), 1) := by decide +kernel
theorem dG_largestWithoutPlace_44 : decode mG_largestWithoutPlace.2.1 44 = .ok (.if_icmp .eq 24, 3) := by decide +kernel
theorem dG_largestWithoutPlace_47 : decode mG_largestWithoutPlace.2.1 47 = .ok (.aload_n 0, 1) := by decide +kernel
theorem dG_largestWithoutPlace_48 : decode mG_largestWithoutPlace.2.1 48 = .ok (.getfield 11, 3) := by decide +kernel
theorem dG_largestWithoutPlace_51 : decode mG_largestWithoutPlace.2.1 51 = .ok (.iload_n 2, 1) := by decide +kernel
theorem dG_largestWithoutPlace_52 : decode mG_largestWithoutPlace.2.1 52 = .ok (.aaload, 1) := by decide +kernel
theorem dG_largestWithoutPlace_53 : decode mG_largestWithoutPlace.2.1 53 = .ok (.getfield 147, 3) := by decide +kernel
theorem dG_largestWithoutPlace_56 : decode mG_largestWithoutPlace.2.1 56 = .ok (.aload_n 0, 1) := by decide +kernel
theorem dG_largestWithoutPlace_57 : decode mG_largestWithoutPlace.2.1 57 = .ok (.getfield 11, 3) := by decide +kernel
theorem dG_largestWithoutPlace_60 : decode mG_largestWithoutPlace.2.1 60 = .ok (.iload_n 1, 1) := by decide +kernel
theorem dG_largestWithoutPlace_61 : decode mG_largestWithoutPlace.2.1 61 = .ok (.aaload, 1) := by decide +kernel
theorem dG_largestWithoutPlace_62 : decode mG_largestWithoutPlace.2.1 62 = .ok (.getfield 147, 3) := by decide +kernel
theorem dG_largestWithoutPlace_65 : decode mG_largestWithoutPlace.2.1 65 = .ok (.if_icmp .le 5, 3) := by decide +kernel
theorem dG_largestWithoutPlace_68 : decode mG_largestWithoutPlace.2.1 68 = .ok (.iload_n 2, 1) := by decide +kernel
theorem dG_largestWithoutPlace_69 : decode mG_largestWithoutPlace.2.1 69 = .ok (.istore_n 1, 1) := by decide +kernel
theorem dG_largestWithoutPlace_70 : decode mG_largestWithoutPlace.2.1 70 = .ok (.iinc 2 1, 3) := by decide +kernel
theorem dG_largestWithoutPlace_73 : decode mG_largestWithoutPlace.2.1 73 = .ok (.goto (-69), 3) := by decide +kernel
theorem dG_largestWithoutPlace_76 : decode mG_largestWithoutPlace.2.1 76 = .ok (.iload_n 1, 1) := by decide +kernel
theorem dG_largestWithoutPlace_77 : decode mG_largestWithoutPlace.2.1 77 = .ok (.ireturn, 1) := by decide +kernel
theorem dG_leastFreePlace_0 : decode mG_leastFreePlace.2.1 0 = .ok (.iconst 0, 1) := by decide +kernel
theorem dG_leastFreePlace_1 : decode mG_leastFreePlace.2.1 1 = .ok (.istore_n 2, 1) := by decide +kernel
theorem dG_leastFreePlace_2 : decode mG_leastFreePlace.2.1 2 = .ok (.iconst 0, 1) := by decide +kernel
theorem dG_leastFreePlace_3 : decode mG_leastFreePlace.2.1 3 = .ok (.istore_n 3, 1) := by decide +kernel
theorem dG_leastFreePlace_4 : decode mG_leastFreePlace.2.1 4 = .ok (.iload_n 3, 1) := by decide +kernel
theorem dG_leastFreePlace_5 : decode mG_leastFreePlace.2.1 5 = .ok (.bipush 14, 2) := by decide +kernel
theorem dG_leastFreePlace_7 : decode mG_leastFreePlace.2.1 7 = .ok (.if_icmp .ge 44, 3) := by decide +kernel
theorem dG_leastFreePlace_10 : decode mG_leastFreePlace.2.1 10 = .ok (.aload_n 0, 1) := by decide +kernel
theorem dG_leastFreePlace_11 : decode mG_leastFreePlace.2.1 11 = .ok (.iload_n 1, 1) := by decide +kernel
theorem dG_leastFreePlace_12 : decode mG_leastFreePlace.2.1 12 = .ok (.iload_n 2, 1) := by decide +kernel
theorem dG_leastFreePlace_13 : decode mG_leastFreePlace.2.1 13 = .ok (.invokevirtual 156, 3) := by decide +kernel
theorem dG_leastFreePlace_16 : decode mG_leastFreePlace.2.1 16 = .ok (.istore 4, 2) := by decide +kernel
theorem dG_leastFreePlace_18 : decode mG_leastFreePlace.2.1 18 = .ok (.iload 4, 2) := by decide +kernel
theorem dG_leastFreePlace_20 : decode mG_leastFreePlace.2.1 20 = .ok (.iconst (-1), 1) := by decide +kernel
theorem dG_leastFreePlace_21 : decode mG_leastFreePlace.2.1 21 = .ok (.if_icmp .ne 5, 3) := by decide +kernel
theorem dG_leastFreePlace_24 : decode mG_leastFreePlace.2.1 24 = .ok (.iload_n 2, 1) := by decide +kernel
theorem dG_leastFreePlace_25 : decode mG_leastFreePlace.2.1 25 = .ok (.ireturn, 1) := by decide +kernel
theorem dG_leastFreePlace_26 : decode mG_leastFreePlace.2.1 26 = .ok (.aload_n 0, 1) := by decide +kernel
theorem dG_leastFreePlace_27 : decode mG_leastFreePlace.2.1 27 = .ok (.getfield 27, 3) := by decide +kernel
theorem dG_leastFreePlace_30 : decode mG_leastFreePlace.2.1 30 = .ok (.iload 4, 2) := by decide +kernel
theorem dG_leastFreePlace_32 : decode mG_leastFreePlace.2.1 32 = .ok (.iaload, 1) := by decide +kernel
theorem dG_leastFreePlace_33 : decode mG_leastFreePlace.2.1 33 = .ok (.aload_n 0, 1) := by decide +kernel
theorem dG_leastFreePlace_34 : decode mG_leastFreePlace.2.1 34 = .ok (.getfield 11, 3) := by decide +kernel
theorem dG_leastFreePlace_37 : decode mG_leastFreePlace.2.1 37 = .ok (.iload 4, 2) := by decide +kernel
theorem dG_leastFreePlace_39 : decode mG_leastFreePlace.2.1 39 = .ok (.aaload, 1) := by decide +kernel
theorem dG_leastFreePlace_40 : decode mG_leastFreePlace.2.1 40 = .ok (.getfield 147, 3) := by decide +kernel
theorem dG_leastFreePlace_43 : decode mG_leastFreePlace.2.1 43 = .ok (.iadd, 1) := by decide +kernel
theorem dG_leastFreePlace_44 : decode mG_leastFreePlace.2.1 44 = .ok (.istore_n 2, 1) := by decide +kernel
theorem dG_leastFreePlace_45 : decode mG_leastFreePlace.2.1 45 = .ok (.iinc 3 1, 3) := by decide +kernel
theorem dG_leastFreePlace_48 : decode mG_leastFreePlace.2.1 48 = .ok (.goto (-44), 3) := by decide +kernel
theorem dG_leastFreePlace_51 : decode mG_leastFreePlace.2.1 51 = .ok (.iload_n 2, 1) := by decide +kernel
theorem dG_leastFreePlace_52 : decode mG_leastFreePlace.2.1 52 = .ok (.ireturn, 1) := by decide +kernel
theorem dG_nodeInTheWay_0 : decode mG_nodeInTheWay.2.1 0 = .ok (.iconst 0, 1) := by decide +kernel
theorem dG_nodeInTheWay_1 : decode mG_nodeInTheWay.2.1 1 = .ok (.istore_n 3, 1) := by decide +kernel
theorem dG_nodeInTheWay_2 : decode mG_nodeInTheWay.2.1 2 = .ok (.iload_n 3, 1) := by decide +kernel
theorem dG_nodeInTheWay_3 : decode mG_nodeInTheWay.2.1 3 = .ok (.aload_n 0, 1) := by decide +kernel
theorem dG_nodeInTheWay_4 : decode mG_nodeInTheWay.2.1 4 = .ok (.getfield 33, 3) := by decide +kernel
theorem dG_nodeInTheWay_7 : decode mG_nodeInTheWay.2.1 7 = .ok (.if_icmp .ge 70, 3) := by decide +kernel
theorem dG_nodeInTheWay_10 : decode mG_nodeInTheWay.2.1 10 = .ok (.aload_n 0, 1) := by decide +kernel
theorem dG_nodeInTheWay_11 : decode mG_nodeInTheWay.2.1 11 = .ok (.getfield 27, 3) := by decide +kernel
theorem dG_nodeInTheWay_14 : decode mG_nodeInTheWay.2.1 14 = .ok (.iload_n 3, 1) := by decide +kernel
theorem dG_nodeInTheWay_15 : decode mG_nodeInTheWay.2.1 15 = .ok (.iaload, 1) := by decide +kernel
theorem dG_nodeInTheWay_16 : decode mG_nodeInTheWay.2.1 16 = .ok (.iconst (-1), 1) := by decide +kernel
theorem dG_nodeInTheWay_17 : decode mG_nodeInTheWay.2.1 17 = .ok (.if_icmp .eq 54, 3) := by decide +kernel
theorem dG_nodeInTheWay_20 : decode mG_nodeInTheWay.2.1 20 = .ok (.aload_n 0, 1) := by decide +kernel
theorem dG_nodeInTheWay_21 : decode mG_nodeInTheWay.2.1 21 = .ok (.iload_n 1, 1) := by decide +kernel
theorem dG_nodeInTheWay_22 : decode mG_nodeInTheWay.2.1 22 = .ok (.iload_n 3, 1) := by decide +kernel
theorem dG_nodeInTheWay_23 : decode mG_nodeInTheWay.2.1 23 = .ok (.invokevirtual 159, 3) := by decide +kernel
theorem dG_nodeInTheWay_26 : decode mG_nodeInTheWay.2.1 26 = .ok (.ifCond .eq 45, 3) := by decide +kernel
theorem dG_nodeInTheWay_29 : decode mG_nodeInTheWay.2.1 29 = .ok (.iload_n 2, 1) := by decide +kernel
theorem dG_nodeInTheWay_30 : decode mG_nodeInTheWay.2.1 30 = .ok (.aload_n 0, 1) := by decide +kernel
theorem dG_nodeInTheWay_31 : decode mG_nodeInTheWay.2.1 31 = .ok (.getfield 27, 3) := by decide +kernel
theorem dG_nodeInTheWay_34 : decode mG_nodeInTheWay.2.1 34 = .ok (.iload_n 3, 1) := by decide +kernel
theorem dG_nodeInTheWay_35 : decode mG_nodeInTheWay.2.1 35 = .ok (.iaload, 1) := by decide +kernel
theorem dG_nodeInTheWay_36 : decode mG_nodeInTheWay.2.1 36 = .ok (.aload_n 0, 1) := by decide +kernel
theorem dG_nodeInTheWay_37 : decode mG_nodeInTheWay.2.1 37 = .ok (.getfield 11, 3) := by decide +kernel
theorem dG_nodeInTheWay_40 : decode mG_nodeInTheWay.2.1 40 = .ok (.iload_n 3, 1) := by decide +kernel
theorem dG_nodeInTheWay_41 : decode mG_nodeInTheWay.2.1 41 = .ok (.aaload, 1) := by decide +kernel
theorem dG_nodeInTheWay_42 : decode mG_nodeInTheWay.2.1 42 = .ok (.getfield 147, 3) := by decide +kernel
theorem dG_nodeInTheWay_45 : decode mG_nodeInTheWay.2.1 45 = .ok (.iadd, 1) := by decide +kernel
theorem dG_nodeInTheWay_46 : decode mG_nodeInTheWay.2.1 46 = .ok (.if_icmp .ge 25, 3) := by decide +kernel
theorem dG_nodeInTheWay_49 : decode mG_nodeInTheWay.2.1 49 = .ok (.aload_n 0, 1) := by decide +kernel
theorem dG_nodeInTheWay_50 : decode mG_nodeInTheWay.2.1 50 = .ok (.getfield 27, 3) := by decide +kernel
theorem dG_nodeInTheWay_53 : decode mG_nodeInTheWay.2.1 53 = .ok (.iload_n 3, 1) := by decide +kernel
theorem dG_nodeInTheWay_54 : decode mG_nodeInTheWay.2.1 54 = .ok (.iaload, 1) := by decide +kernel
theorem dG_nodeInTheWay_55 : decode mG_nodeInTheWay.2.1 55 = .ok (.iload_n 2, 1) := by decide +kernel
theorem dG_nodeInTheWay_56 : decode mG_nodeInTheWay.2.1 56 = .ok (.aload_n 0, 1) := by decide +kernel
theorem dG_nodeInTheWay_57 : decode mG_nodeInTheWay.2.1 57 = .ok (.getfield 11, 3) := by decide +kernel
theorem dG_nodeInTheWay_60 : decode mG_nodeInTheWay.2.1 60 = .ok (.iload_n 1, 1) := by decide +kernel
theorem dG_nodeInTheWay_61 : decode mG_nodeInTheWay.2.1 61 = .ok (.aaload, 1) := by decide +kernel
theorem dG_nodeInTheWay_62 : decode mG_nodeInTheWay.2.1 62 = .ok (.getfield 147, 3) := by decide +kernel
theorem dG_nodeInTheWay_65 : decode mG_nodeInTheWay.2.1 65 = .ok (.iadd, 1) := by decide +kernel
theorem dG_nodeInTheWay_66 : decode mG_nodeInTheWay.2.1 66 = .ok (.if_icmp .ge 5, 3) := by decide +kernel
theorem dG_nodeInTheWay_69 : decode mG_nodeInTheWay.2.1 69 = .ok (.iload_n 3, 1) := by decide +kernel
theorem dG_nodeInTheWay_70 : decode mG_nodeInTheWay.2.1 70 = .ok (.ireturn, 1) := by decide +kernel
theorem dG_nodeInTheWay_71 : decode mG_nodeInTheWay.2.1 71 = .ok (.iinc 3 1, 3) := by decide +kernel
theorem dG_nodeInTheWay_74 : decode mG_nodeInTheWay.2.1 74 = .ok (.goto (-72), 3) := by decide +kernel
theorem dG_nodeInTheWay_77 : decode mG_nodeInTheWay.2.1 77 = .ok (.iconst (-1), 1) := by decide +kernel
theorem dG_nodeInTheWay_78 : decode mG_nodeInTheWay.2.1 78 = .ok (.ireturn, 1) := by decide +kernel
theorem dG_liveTogether_0 : decode mG_liveTogether.2.1 0 = .ok (.aload_n 0, 1) := by decide +kernel
theorem dG_liveTogether_1 : decode mG_liveTogether.2.1 1 = .ok (.getfield 24, 3) := by decide +kernel
theorem dG_liveTogether_4 : decode mG_liveTogether.2.1 4 = .ok (.iload_n 1, 1) := by decide +kernel
theorem dG_liveTogether_5 : decode mG_liveTogether.2.1 5 = .ok (.iaload, 1) := by decide +kernel
theorem dG_liveTogether_6 : decode mG_liveTogether.2.1 6 = .ok (.aload_n 0, 1) := by decide +kernel
theorem dG_liveTogether_7 : decode mG_liveTogether.2.1 7 = .ok (.getfield 30, 3) := by decide +kernel
theorem dG_liveTogether_10 : decode mG_liveTogether.2.1 10 = .ok (.iload_n 2, 1) := by decide +kernel
theorem dG_liveTogether_11 : decode mG_liveTogether.2.1 11 = .ok (.iaload, 1) := by decide +kernel
theorem dG_liveTogether_12 : decode mG_liveTogether.2.1 12 = .ok (.if_icmp .gt 22, 3) := by decide +kernel
theorem dG_liveTogether_15 : decode mG_liveTogether.2.1 15 = .ok (.aload_n 0, 1) := by decide +kernel
theorem dG_liveTogether_16 : decode mG_liveTogether.2.1 16 = .ok (.getfield 24, 3) := by decide +kernel
theorem dG_liveTogether_19 : decode mG_liveTogether.2.1 19 = .ok (.iload_n 2, 1) := by decide +kernel
theorem dG_liveTogether_20 : decode mG_liveTogether.2.1 20 = .ok (.iaload, 1) := by decide +kernel
theorem dG_liveTogether_21 : decode mG_liveTogether.2.1 21 = .ok (.aload_n 0, 1) := by decide +kernel
theorem dG_liveTogether_22 : decode mG_liveTogether.2.1 22 = .ok (.getfield 30, 3) := by decide +kernel
theorem dG_liveTogether_25 : decode mG_liveTogether.2.1 25 = .ok (.iload_n 1, 1) := by decide +kernel
theorem dG_liveTogether_26 : decode mG_liveTogether.2.1 26 = .ok (.iaload, 1) := by decide +kernel
theorem dG_liveTogether_27 : decode mG_liveTogether.2.1 27 = .ok (.if_icmp .gt 7, 3) := by decide +kernel
theorem dG_liveTogether_30 : decode mG_liveTogether.2.1 30 = .ok (.iconst 1, 1) := by decide +kernel
theorem dG_liveTogether_31 : decode mG_liveTogether.2.1 31 = .ok (.goto 4, 3) := by decide +kernel
theorem dG_liveTogether_34 : decode mG_liveTogether.2.1 34 = .ok (.iconst 0, 1) := by decide +kernel
theorem dG_liveTogether_35 : decode mG_liveTogether.2.1 35 = .ok (.ireturn, 1) := by decide +kernel
theorem dL_feed_0 : decode mL_feed.2.1 0 = .ok (.aload 5, 2) := by decide +kernel
theorem dL_feed_2 : decode mL_feed.2.1 2 = .ok (.iconst 0, 1) := by decide +kernel
theorem dL_feed_3 : decode mL_feed.2.1 3 = .ok (.aload_n 0, 1) := by decide +kernel
theorem dL_feed_4 : decode mL_feed.2.1 4 = .ok (.iload_n 1, 1) := by decide +kernel
theorem dL_feed_5 : decode mL_feed.2.1 5 = .ok (.iload_n 2, 1) := by decide +kernel
theorem dL_feed_6 : decode mL_feed.2.1 6 = .ok (.lload_n 3, 1) := by decide +kernel
theorem dL_feed_7 : decode mL_feed.2.1 7 = .ok (.invokevirtual 66, 3) := by decide +kernel
theorem dL_feed_10 : decode mL_feed.2.1 10 = .ok (.i2l, 1) := by decide +kernel
theorem dL_feed_11 : decode mL_feed.2.1 11 = .ok (.lastore, 1) := by decide +kernel
theorem dL_feed_12 : decode mL_feed.2.1 12 = .ok (.goto 7, 3) := by decide +kernel
theorem dL_feed_15 : decode mL_feed.2.1 15 = .ok (.astore 6, 2) := by decide +kernel
theorem dL_feed_17 : decode mL_feed.2.1 17 = .ok (.iconst 1, 1) := by decide +kernel
theorem dL_feed_18 : decode mL_feed.2.1 18 = .ok (.ireturn, 1) := by decide +kernel
theorem dL_feed_19 : decode mL_feed.2.1 19 = .ok (.iconst 0, 1) := by decide +kernel
theorem dL_feed_20 : decode mL_feed.2.1 20 = .ok (.ireturn, 1) := by decide +kernel
theorem dT_feed_0 : decode mT_feed.2.1 0 = .ok (.aload_n 0, 1) := by decide +kernel
theorem dT_feed_1 : decode mT_feed.2.1 1 = .ok (.iload_n 1, 1) := by decide +kernel
theorem dT_feed_2 : decode mT_feed.2.1 2 = .ok (.invokevirtual 66, 3) := by decide +kernel
theorem dT_feed_5 : decode mT_feed.2.1 5 = .ok (.aload_n 0, 1) := by decide +kernel
theorem dT_feed_6 : decode mT_feed.2.1 6 = .ok (.getfield 12, 3) := by decide +kernel
theorem dT_feed_9 : decode mT_feed.2.1 9 = .ok (.getfield 74, 3) := by decide +kernel
theorem dT_feed_12 : decode mT_feed.2.1 12 = .ok (.iload_n 1, 1) := by decide +kernel
theorem dT_feed_13 : decode mT_feed.2.1 13 = .ok (.aaload, 1) := by decide +kernel
theorem dT_feed_14 : decode mT_feed.2.1 14 = .ok (.astore 5, 2) := by decide +kernel
theorem dT_feed_16 : decode mT_feed.2.1 16 = .ok (.aload 5, 2) := by decide +kernel
theorem dT_feed_18 : decode mT_feed.2.1 18 = .ok (.getfield 157, 3) := by decide +kernel
theorem dT_feed_21 : decode mT_feed.2.1 21 = .ok (.ifCond .ne 7, 3) := by decide +kernel
theorem dT_feed_24 : decode mT_feed.2.1 24 = .ok (.iconst 1, 1) := by decide +kernel
theorem dT_feed_25 : decode mT_feed.2.1 25 = .ok (.goto 4, 3) := by decide +kernel
theorem dT_feed_28 : decode mT_feed.2.1 28 = .ok (.iconst 0, 1) := by decide +kernel
theorem dT_feed_29 : decode mT_feed.2.1 29 = .ok (.invokestatic 125, 3) := by decide +kernel
theorem dT_feed_32 : decode mT_feed.2.1 32 = .ok (.iload_n 2, 1) := by decide +kernel
theorem dT_feed_33 : decode mT_feed.2.1 33 = .ok (.iconst 0, 1) := by decide +kernel
theorem dT_feed_34 : decode mT_feed.2.1 34 = .ok (.aload 5, 2) := by decide +kernel
theorem dT_feed_36 : decode mT_feed.2.1 36 = .ok (.getfield 118, 3) := by decide +kernel
theorem dT_feed_39 : decode mT_feed.2.1 39 = .ok (.iconst 1, 1) := by decide +kernel
theorem dT_feed_40 : decode mT_feed.2.1 40 = .ok (.isub, 1) := by decide +kernel
theorem dT_feed_41 : decode mT_feed.2.1 41 = .ok (.invokestatic 35, 3) := by decide +kernel
theorem dT_feed_44 : decode mT_feed.2.1 44 = .ok (.lload_n 3, 1) := by decide +kernel
theorem dT_feed_45 : decode mT_feed.2.1 45 = .ok (.aload 5, 2) := by decide +kernel
theorem dT_feed_47 : decode mT_feed.2.1 47 = .ok (.getfield 160, 3) := by decide +kernel
theorem dT_feed_50 : decode mT_feed.2.1 50 = .ok (.iload_n 2, 1) := by decide +kernel
theorem dT_feed_51 : decode mT_feed.2.1 51 = .ok (.invokestatic 43, 3) := by decide +kernel
theorem dT_feed_54 : decode mT_feed.2.1 54 = .ok (.ireturn, 1) := by decide +kernel
theorem dL_run_0 : decode mL_run.2.1 0 = .ok (.aload_n 2, 1) := by decide +kernel
theorem dL_run_1 : decode mL_run.2.1 1 = .ok (.iconst 0, 1) := by decide +kernel
theorem dL_run_2 : decode mL_run.2.1 2 = .ok (.aload_n 0, 1) := by decide +kernel
theorem dL_run_3 : decode mL_run.2.1 3 = .ok (.iload_n 1, 1) := by decide +kernel
theorem dL_run_4 : decode mL_run.2.1 4 = .ok (.invokevirtual 70, 3) := by decide +kernel
theorem dL_run_7 : decode mL_run.2.1 7 = .ok (.i2l, 1) := by decide +kernel
theorem dL_run_8 : decode mL_run.2.1 8 = .ok (.lastore, 1) := by decide +kernel
theorem dL_run_9 : decode mL_run.2.1 9 = .ok (.goto 12, 3) := by decide +kernel
theorem dL_run_12 : decode mL_run.2.1 12 = .ok (.astore_n 3, 1) := by decide +kernel
theorem dL_run_13 : decode mL_run.2.1 13 = .ok (.iconst 1, 1) := by decide +kernel
theorem dL_run_14 : decode mL_run.2.1 14 = .ok (.ireturn, 1) := by decide +kernel
theorem dL_run_15 : decode mL_run.2.1 15 = .ok (.astore_n 3, 1) := by decide +kernel
theorem dL_run_16 : decode mL_run.2.1 16 = .ok (.iconst 2, 1) := by decide +kernel
theorem dL_run_17 : decode mL_run.2.1 17 = .ok (.ireturn, 1) := by decide +kernel
theorem dL_run_18 : decode mL_run.2.1 18 = .ok (.astore_n 3, 1) := by decide +kernel
theorem dL_run_19 : decode mL_run.2.1 19 = .ok (.iconst 3, 1) := by decide +kernel
theorem dL_run_20 : decode mL_run.2.1 20 = .ok (.ireturn, 1) := by decide +kernel
theorem dL_run_21 : decode mL_run.2.1 21 = .ok (.iconst 0, 1) := by decide +kernel
theorem dL_run_22 : decode mL_run.2.1 22 = .ok (.ireturn, 1) := by decide +kernel
theorem dT_run_0 : decode mT_run.2.1 0 = .ok (.iload_n 1, 1) := by decide +kernel
theorem dT_run_1 : decode mT_run.2.1 1 = .ok (.ifCond .lt 7, 3) := by decide +kernel
theorem dT_run_4 : decode mT_run.2.1 4 = .ok (.iconst 1, 1) := by decide +kernel
theorem dT_run_5 : decode mT_run.2.1 5 = .ok (.goto 4, 3) := by decide +kernel
theorem dT_run_8 : decode mT_run.2.1 8 = .ok (.iconst 0, 1) := by decide +kernel
theorem dT_run_9 : decode mT_run.2.1 9 = .ok (.invokestatic 125, 3) := by decide +kernel
theorem dT_run_12 : decode mT_run.2.1 12 = .ok (.aload_n 0, 1) := by decide +kernel
theorem dT_run_13 : decode mT_run.2.1 13 = .ok (.invokevirtual 163, 3) := by decide +kernel
theorem dT_run_16 : decode mT_run.2.1 16 = .ok (.iload_n 1, 1) := by decide +kernel
theorem dT_run_17 : decode mT_run.2.1 17 = .ok (.aload_n 0, 1) := by decide +kernel
theorem dT_run_18 : decode mT_run.2.1 18 = .ok (.getfield 12, 3) := by decide +kernel
theorem dT_run_21 : decode mT_run.2.1 21 = .ok (.getfield 166, 3) := by decide +kernel
theorem dT_run_24 : decode mT_run.2.1 24 = .ok (.if_icmp .ge 13, 3) := by decide +kernel
theorem dT_run_27 : decode mT_run.2.1 27 = .ok (.new 169, 3) := by decide +kernel
theorem dT_run_30 : decode mT_run.2.1 30 = .ok (.dup, 1) := by decide +kernel
theorem dT_run_31 : decode mT_run.2.1 31 = .ok (.ldc 171, 2) := by decide +kernel
theorem dT_run_33 : decode mT_run.2.1 33 = .ok (.invokespecial 173, 3) := by decide +kernel
theorem dT_run_36 : decode mT_run.2.1 36 = .ok (.athrow, 1) := by decide +kernel
theorem dT_run_37 : decode mT_run.2.1 37 = .ok (.aload_n 0, 1) := by decide +kernel
theorem dT_run_38 : decode mT_run.2.1 38 = .ok (.getfield 19, 3) := by decide +kernel
theorem dT_run_41 : decode mT_run.2.1 41 = .ok (.aload_n 0, 1) := by decide +kernel
theorem dT_run_42 : decode mT_run.2.1 42 = .ok (.getfield 12, 3) := by decide +kernel
theorem dT_run_45 : decode mT_run.2.1 45 = .ok (.aload_n 0, 1) := by decide +kernel
theorem dT_run_46 : decode mT_run.2.1 46 = .ok (.getfield 27, 3) := by decide +kernel
theorem dT_run_49 : decode mT_run.2.1 49 = .ok (.invokevirtual 174, 3) := by decide +kernel
theorem dT_run_52 : decode mT_run.2.1 52 = .ok (.ireturn, 1) := by decide +kernel
theorem dT_requireCompiled_0 : decode mT_requireCompiled.2.1 0 = .ok (.aload_n 0, 1) := by decide +kernel
theorem dT_requireCompiled_1 : decode mT_requireCompiled.2.1 1 = .ok (.getfield 31, 3) := by decide +kernel
theorem dT_requireCompiled_4 : decode mT_requireCompiled.2.1 4 = .ok (.ifCond .ne 13, 3) := by decide +kernel
theorem dT_requireCompiled_7 : decode mT_requireCompiled.2.1 7 = .ok (.new 144, 3) := by decide +kernel
theorem dT_requireCompiled_10 : decode mT_requireCompiled.2.1 10 = .ok (.dup, 1) := by decide +kernel
theorem dT_requireCompiled_11 : decode mT_requireCompiled.2.1 11 = .ok (.ldc 249, 2) := by decide +kernel
theorem dT_requireCompiled_13 : decode mT_requireCompiled.2.1 13 = .ok (.invokespecial 148, 3) := by decide +kernel
theorem dT_requireCompiled_16 : decode mT_requireCompiled.2.1 16 = .ok (.athrow, 1) := by decide +kernel
theorem dT_requireCompiled_17 : decode mT_requireCompiled.2.1 17 = .ok (.return_, 1) := by decide +kernel
theorem dM_perform_0 : decode mM_perform.2.1 0 = .ok (.aload_n 0, 1) := by decide +kernel
theorem dM_perform_1 : decode mM_perform.2.1 1 = .ok (.getfield 15, 3) := by decide +kernel
theorem dM_perform_4 : decode mM_perform.2.1 4 = .ok (.iconst 0, 1) := by decide +kernel
theorem dM_perform_5 : decode mM_perform.2.1 5 = .ok (.invokestatic 35, 3) := by decide +kernel
theorem dM_perform_8 : decode mM_perform.2.1 8 = .ok (.aload_n 1, 1) := by decide +kernel
theorem dM_perform_9 : decode mM_perform.2.1 9 = .ok (.iload_n 2, 1) := by decide +kernel
theorem dM_perform_10 : decode mM_perform.2.1 10 = .ok (.invokevirtual 41, 3) := by decide +kernel
theorem dM_perform_13 : decode mM_perform.2.1 13 = .ok (.istore_n 3, 1) := by decide +kernel
theorem dM_perform_14 : decode mM_perform.2.1 14 = .ok (.iconst 0, 1) := by decide +kernel
theorem dM_perform_15 : decode mM_perform.2.1 15 = .ok (.istore 4, 2) := by decide +kernel
theorem dM_perform_17 : decode mM_perform.2.1 17 = .ok (.iload 4, 2) := by decide +kernel
theorem dM_perform_19 : decode mM_perform.2.1 19 = .ok (.iload_n 3, 1) := by decide +kernel
theorem dM_perform_20 : decode mM_perform.2.1 20 = .ok (.if_icmp .gt 27, 3) := by decide +kernel
theorem dM_perform_23 : decode mM_perform.2.1 23 = .ok (.aload_n 1, 1) := by decide +kernel
theorem dM_perform_24 : decode mM_perform.2.1 24 = .ok (.getfield 47, 3) := by decide +kernel
theorem dM_perform_27 : decode mM_perform.2.1 27 = .ok (.iload 4, 2) := by decide +kernel
theorem dM_perform_29 : decode mM_perform.2.1 29 = .ok (.iaload, 1) := by decide +kernel
theorem dM_perform_30 : decode mM_perform.2.1 30 = .ok (.iconst 2, 1) := by decide +kernel
theorem dM_perform_31 : decode mM_perform.2.1 31 = .ok (.if_icmp .ne 10, 3) := by decide +kernel
theorem dM_perform_34 : decode mM_perform.2.1 34 = .ok (.aload_n 0, 1) := by decide +kernel
theorem dM_perform_35 : decode mM_perform.2.1 35 = .ok (.aload_n 1, 1) := by decide +kernel
theorem dM_perform_36 : decode mM_perform.2.1 36 = .ok (.iload 4, 2) := by decide +kernel
theorem dM_perform_38 : decode mM_perform.2.1 38 = .ok (.invokevirtual 50, 3) := by decide +kernel
theorem dM_perform_41 : decode mM_perform.2.1 41 = .ok (.iinc 4 1, 3) := by decide +kernel
theorem dM_perform_44 : decode mM_perform.2.1 44 = .ok (.goto (-27), 3) := by decide +kernel
theorem dM_perform_47 : decode mM_perform.2.1 47 = .ok (.aload_n 0, 1) := by decide +kernel
theorem dM_perform_48 : decode mM_perform.2.1 48 = .ok (.aload_n 1, 1) := by decide +kernel
theorem dM_perform_49 : decode mM_perform.2.1 49 = .ok (.getfield 54, 3) := by decide +kernel
theorem dM_perform_52 : decode mM_perform.2.1 52 = .ok (.putfield 58, 3) := by decide +kernel
theorem dM_perform_55 : decode mM_perform.2.1 55 = .ok (.aload_n 0, 1) := by decide +kernel
theorem dM_perform_56 : decode mM_perform.2.1 56 = .ok (.aload_n 1, 1) := by decide +kernel
theorem dM_perform_57 : decode mM_perform.2.1 57 = .ok (.getfield 61, 3) := by decide +kernel
theorem dM_perform_60 : decode mM_perform.2.1 60 = .ok (.iload_n 3, 1) := by decide +kernel
theorem dM_perform_61 : decode mM_perform.2.1 61 = .ok (.iaload, 1) := by decide +kernel
theorem dM_perform_62 : decode mM_perform.2.1 62 = .ok (.putfield 64, 3) := by decide +kernel
theorem dM_perform_65 : decode mM_perform.2.1 65 = .ok (.aload_n 0, 1) := by decide +kernel
theorem dM_perform_66 : decode mM_perform.2.1 66 = .ok (.aload_n 1, 1) := by decide +kernel
theorem dM_perform_67 : decode mM_perform.2.1 67 = .ok (.getfield 67, 3) := by decide +kernel
theorem dM_perform_70 : decode mM_perform.2.1 70 = .ok (.iload_n 3, 1) := by decide +kernel
theorem dM_perform_71 : decode mM_perform.2.1 71 = .ok (.aaload, 1) := by decide +kernel
theorem dM_perform_72 : decode mM_perform.2.1 72 = .ok (.getfield 71, 3) := by decide +kernel
theorem dM_perform_75 : decode mM_perform.2.1 75 = .ok (.putfield 75, 3) := by decide +kernel
theorem dM_perform_78 : decode mM_perform.2.1 78 = .ok (.aload_n 0, 1) := by decide +kernel
theorem dM_perform_79 : decode mM_perform.2.1 79 = .ok (.aload_n 1, 1) := by decide +kernel
theorem dM_perform_80 : decode mM_perform.2.1 80 = .ok (.getfield 67, 3) := by decide +kernel
theorem dM_perform_83 : decode mM_perform.2.1 83 = .ok (.iload_n 3, 1) := by decide +kernel
theorem dM_perform_84 : decode mM_perform.2.1 84 = .ok (.aaload, 1) := by decide +kernel
theorem dM_perform_85 : decode mM_perform.2.1 85 = .ok (.getfield 78, 3) := by decide +kernel
theorem dM_perform_88 : decode mM_perform.2.1 88 = .ok (.putfield 82, 3) := by decide +kernel
theorem dM_perform_91 : decode mM_perform.2.1 91 = .ok (.aload_n 0, 1) := by decide +kernel
theorem dM_perform_92 : decode mM_perform.2.1 92 = .ok (.invokevirtual 85, 3) := by decide +kernel
theorem dM_perform_95 : decode mM_perform.2.1 95 = .ok (.ireturn, 1) := by decide +kernel
theorem dM_doStep_0 : decode mM_doStep.2.1 0 = .ok (.aload_n 1, 1) := by decide +kernel
theorem dM_doStep_1 : decode mM_doStep.2.1 1 = .ok (.getfield 61, 3) := by decide +kernel
theorem dM_doStep_4 : decode mM_doStep.2.1 4 = .ok (.iload_n 2, 1) := by decide +kernel
theorem dM_doStep_5 : decode mM_doStep.2.1 5 = .ok (.iaload, 1) := by decide +kernel
theorem dM_doStep_6 : decode mM_doStep.2.1 6 = .ok (.istore_n 3, 1) := by decide +kernel
theorem dM_doStep_7 : decode mM_doStep.2.1 7 = .ok (.aload_n 1, 1) := by decide +kernel
theorem dM_doStep_8 : decode mM_doStep.2.1 8 = .ok (.iload_n 2, 1) := by decide +kernel
theorem dM_doStep_9 : decode mM_doStep.2.1 9 = .ok (.invokevirtual 89, 3) := by decide +kernel
theorem dM_doStep_12 : decode mM_doStep.2.1 12 = .ok (.istore 4, 2) := by decide +kernel
theorem dM_doStep_14 : decode mM_doStep.2.1 14 = .ok (.iload 4, 2) := by decide +kernel
theorem dM_doStep_16 : decode mM_doStep.2.1 16 = .ok (.iconst (-1), 1) := by decide +kernel
theorem dM_doStep_17 : decode mM_doStep.2.1 17 = .ok (.if_icmp .ne 18, 3) := by decide +kernel
theorem dM_doStep_20 : decode mM_doStep.2.1 20 = .ok (.aload_n 0, 1) := by decide +kernel
theorem dM_doStep_21 : decode mM_doStep.2.1 21 = .ok (.aload_n 1, 1) := by decide +kernel
theorem dM_doStep_22 : decode mM_doStep.2.1 22 = .ok (.aload_n 1, 1) := by decide +kernel
theorem dM_doStep_23 : decode mM_doStep.2.1 23 = .ok (.getfield 67, 3) := by decide +kernel
theorem dM_doStep_26 : decode mM_doStep.2.1 26 = .ok (.iload_n 2, 1) := by decide +kernel
theorem dM_doStep_27 : decode mM_doStep.2.1 27 = .ok (.aaload, 1) := by decide +kernel
theorem dM_doStep_28 : decode mM_doStep.2.1 28 = .ok (.iload_n 3, 1) := by decide +kernel
theorem dM_doStep_29 : decode mM_doStep.2.1 29 = .ok (.invokevirtual 92, 3) := by decide +kernel
theorem dM_doStep_32 : decode mM_doStep.2.1 32 = .ok (.goto 28, 3) := by decide +kernel
theorem dM_doStep_35 : decode mM_doStep.2.1 35 = .ok (.aload_n 0, 1) := by decide +kernel
theorem dM_doStep_36 : decode mM_doStep.2.1 36 = .ok (.aload_n 1, 1) := by decide +kernel
theorem dM_doStep_37 : decode mM_doStep.2.1 37 = .ok (.aload_n 1, 1) := by decide +kernel
theorem dM_doStep_38 : decode mM_doStep.2.1 38 = .ok (.getfield 67, 3) := by decide +kernel
theorem dM_doStep_41 : decode mM_doStep.2.1 41 = .ok (.iload 4, 2) := by decide +kernel
theorem dM_doStep_43 : decode mM_doStep.2.1 43 = .ok (.aaload, 1) := by decide +kernel
theorem dM_doStep_44 : decode mM_doStep.2.1 44 = .ok (.iload_n 3, 1) := by decide +kernel
theorem dM_doStep_45 : decode mM_doStep.2.1 45 = .ok (.invokevirtual 92, 3) := by decide +kernel
theorem dM_doStep_48 : decode mM_doStep.2.1 48 = .ok (.aload_n 0, 1) := by decide +kernel
theorem dM_doStep_49 : decode mM_doStep.2.1 49 = .ok (.aload_n 1, 1) := by decide +kernel
theorem dM_doStep_50 : decode mM_doStep.2.1 50 = .ok (.getfield 67, 3) := by decide +kernel
theorem dM_doStep_53 : decode mM_doStep.2.1 53 = .ok (.iload_n 2, 1) := by decide +kernel
theorem dM_doStep_54 : decode mM_doStep.2.1 54 = .ok (.aaload, 1) := by decide +kernel
theorem dM_doStep_55 : decode mM_doStep.2.1 55 = .ok (.iload_n 3, 1) := by decide +kernel
theorem dM_doStep_56 : decode mM_doStep.2.1 56 = .ok (.iload_n 3, 1) := by decide +kernel
theorem dM_doStep_57 : decode mM_doStep.2.1 57 = .ok (.invokevirtual 96, 3) := by decide +kernel
theorem dM_doStep_60 : decode mM_doStep.2.1 60 = .ok (.return_, 1) := by decide +kernel
theorem dM_compute_0 : decode mM_compute.2.1 0 = .ok (.aload_n 2, 1) := by decide +kernel
theorem dM_compute_1 : decode mM_compute.2.1 1 = .ok (.getfield 100, 3) := by decide +kernel
theorem dM_compute_4 : decode mM_compute.2.1 4 = .ok (.iconst (-1), 1) := by decide +kernel
theorem dM_compute_5 : decode mM_compute.2.1 5 = .ok (.if_icmp .ne 21, 3) := by decide +kernel
theorem dM_compute_8 : decode mM_compute.2.1 8 = .ok (.aload_n 2, 1) := by decide +kernel
theorem dM_compute_9 : decode mM_compute.2.1 9 = .ok (.getfield 103, 3) := by decide +kernel
theorem dM_compute_12 : decode mM_compute.2.1 12 = .ok (.iconst 0, 1) := by decide +kernel
theorem dM_compute_13 : decode mM_compute.2.1 13 = .ok (.aload_n 0, 1) := by decide +kernel
theorem dM_compute_14 : decode mM_compute.2.1 14 = .ok (.getfield 15, 3) := by decide +kernel
theorem dM_compute_17 : decode mM_compute.2.1 17 = .ok (.iload_n 3, 1) := by decide +kernel
theorem dM_compute_18 : decode mM_compute.2.1 18 = .ok (.aload_n 2, 1) := by decide +kernel
theorem dM_compute_19 : decode mM_compute.2.1 19 = .ok (.getfield 71, 3) := by decide +kernel
theorem dM_compute_22 : decode mM_compute.2.1 22 = .ok (.invokestatic 106, 3) := by decide +kernel
theorem dM_compute_25 : decode mM_compute.2.1 25 = .ok (.return_, 1) := by decide +kernel
theorem dM_compute_26 : decode mM_compute.2.1 26 = .ok (.aload_n 1, 1) := by decide +kernel
theorem dM_compute_27 : decode mM_compute.2.1 27 = .ok (.getfield 67, 3) := by decide +kernel
theorem dM_compute_30 : decode mM_compute.2.1 30 = .ok (.aload_n 2, 1) := by decide +kernel
theorem dM_compute_31 : decode mM_compute.2.1 31 = .ok (.getfield 100, 3) := by decide +kernel
theorem dM_compute_34 : decode mM_compute.2.1 34 = .ok (.aaload, 1) := by decide +kernel
theorem dM_compute_35 : decode mM_compute.2.1 35 = .ok (.astore 4, 2) := by decide +kernel
theorem dM_compute_37 : decode mM_compute.2.1 37 = .ok (.aload_n 1, 1) := by decide +kernel
theorem dM_compute_38 : decode mM_compute.2.1 38 = .ok (.aload_n 2, 1) := by decide +kernel
theorem dM_compute_39 : decode mM_compute.2.1 39 = .ok (.getfield 100, 3) := by decide +kernel
theorem dM_compute_42 : decode mM_compute.2.1 42 = .ok (.invokevirtual 112, 3) := by decide +kernel
theorem dM_compute_45 : decode mM_compute.2.1 45 = .ok (.istore 5, 2) := by decide +kernel
theorem dM_compute_47 : decode mM_compute.2.1 47 = .ok (.aload_n 2, 1) := by decide +kernel
theorem dM_compute_48 : decode mM_compute.2.1 48 = .ok (.getfield 115, 3) := by decide +kernel
theorem dM_compute_51 : decode mM_compute.2.1 51 = .ok (.tableswitch 141 3 10 #[45, 58, 77, 98, 141, 141, 119, 130], 45) := by decide +kernel
theorem dM_compute_96 : decode mM_compute.2.1 96 = .ok (.aload_n 0, 1) := by decide +kernel
theorem dM_compute_97 : decode mM_compute.2.1 97 = .ok (.aload_n 2, 1) := by decide +kernel
theorem dM_compute_98 : decode mM_compute.2.1 98 = .ok (.aload 4, 2) := by decide +kernel
theorem dM_compute_100 : decode mM_compute.2.1 100 = .ok (.iload 5, 2) := by decide +kernel
theorem dM_compute_102 : decode mM_compute.2.1 102 = .ok (.iload_n 3, 1) := by decide +kernel
theorem dM_compute_103 : decode mM_compute.2.1 103 = .ok (.invokevirtual 118, 3) := by decide +kernel
theorem dM_compute_106 : decode mM_compute.2.1 106 = .ok (.goto 96, 3) := by decide +kernel
theorem dM_compute_109 : decode mM_compute.2.1 109 = .ok (.aload_n 0, 1) := by decide +kernel
theorem dM_compute_110 : decode mM_compute.2.1 110 = .ok (.aload_n 2, 1) := by decide +kernel
theorem dM_compute_111 : decode mM_compute.2.1 111 = .ok (.iload 5, 2) := by decide +kernel
theorem dM_compute_113 : decode mM_compute.2.1 113 = .ok (.aload_n 1, 1) := by decide +kernel
theorem dM_compute_114 : decode mM_compute.2.1 114 = .ok (.aload_n 2, 1) := by decide +kernel
theorem dM_compute_115 : decode mM_compute.2.1 115 = .ok (.getfield 122, 3) := by decide +kernel
theorem dM_compute_118 : decode mM_compute.2.1 118 = .ok (.invokevirtual 112, 3) := by decide +kernel
theorem dM_compute_121 : decode mM_compute.2.1 121 = .ok (.iload_n 3, 1) := by decide +kernel
theorem dM_compute_122 : decode mM_compute.2.1 122 = .ok (.invokevirtual 125, 3) := by decide +kernel
theorem dM_compute_125 : decode mM_compute.2.1 125 = .ok (.goto 77, 3) := by decide +kernel
theorem dM_compute_128 : decode mM_compute.2.1 128 = .ok (.aload_n 0, 1) := by decide +kernel
theorem dM_compute_129 : decode mM_compute.2.1 129 = .ok (.aload_n 2, 1) := by decide +kernel
theorem dM_compute_130 : decode mM_compute.2.1 130 = .ok (.aload 4, 2) := by decide +kernel
theorem dM_compute_132 : decode mM_compute.2.1 132 = .ok (.iload 5, 2) := by decide +kernel
theorem dM_compute_134 : decode mM_compute.2.1 134 = .ok (.aload_n 1, 1) := by decide +kernel
theorem dM_compute_135 : decode mM_compute.2.1 135 = .ok (.aload_n 2, 1) := by decide +kernel
theorem dM_compute_136 : decode mM_compute.2.1 136 = .ok (.getfield 122, 3) := by decide +kernel
theorem dM_compute_139 : decode mM_compute.2.1 139 = .ok (.invokevirtual 112, 3) := by decide +kernel
theorem dM_compute_142 : decode mM_compute.2.1 142 = .ok (.iload_n 3, 1) := by decide +kernel
theorem dM_compute_143 : decode mM_compute.2.1 143 = .ok (.invokevirtual 129, 3) := by decide +kernel
theorem dM_compute_146 : decode mM_compute.2.1 146 = .ok (.goto 56, 3) := by decide +kernel
theorem dM_compute_149 : decode mM_compute.2.1 149 = .ok (.aload_n 0, 1) := by decide +kernel
theorem dM_compute_150 : decode mM_compute.2.1 150 = .ok (.getfield 15, 3) := by decide +kernel
theorem dM_compute_153 : decode mM_compute.2.1 153 = .ok (.iload 5, 2) := by decide +kernel
theorem dM_compute_155 : decode mM_compute.2.1 155 = .ok (.aload_n 0, 1) := by decide +kernel
theorem dM_compute_156 : decode mM_compute.2.1 156 = .ok (.getfield 15, 3) := by decide +kernel
theorem dM_compute_159 : decode mM_compute.2.1 159 = .ok (.iload_n 3, 1) := by decide +kernel
theorem dM_compute_160 : decode mM_compute.2.1 160 = .ok (.aload_n 2, 1) := by decide +kernel
theorem dM_compute_161 : decode mM_compute.2.1 161 = .ok (.getfield 71, 3) := by decide +kernel
theorem dM_compute_164 : decode mM_compute.2.1 164 = .ok (.invokestatic 106, 3) := by decide +kernel
theorem dM_compute_167 : decode mM_compute.2.1 167 = .ok (.goto 35, 3) := by decide +kernel
theorem dM_compute_170 : decode mM_compute.2.1 170 = .ok (.aload_n 0, 1) := by decide +kernel
theorem dM_compute_171 : decode mM_compute.2.1 171 = .ok (.aload_n 2, 1) := by decide +kernel
theorem dM_compute_172 : decode mM_compute.2.1 172 = .ok (.iload 5, 2) := by decide +kernel
theorem dM_compute_174 : decode mM_compute.2.1 174 = .ok (.iload_n 3, 1) := by decide +kernel
theorem dM_compute_175 : decode mM_compute.2.1 175 = .ok (.invokevirtual 96, 3) := by decide +kernel
theorem dM_compute_178 : decode mM_compute.2.1 178 = .ok (.goto 24, 3) := by decide +kernel
theorem dM_compute_181 : decode mM_compute.2.1 181 = .ok (.aload_n 0, 1) := by decide +kernel
theorem dM_compute_182 : decode mM_compute.2.1 182 = .ok (.aload_n 2, 1) := by decide +kernel
theorem dM_compute_183 : decode mM_compute.2.1 183 = .ok (.iload 5, 2) := by decide +kernel
theorem dM_compute_185 : decode mM_compute.2.1 185 = .ok (.iload_n 3, 1) := by decide +kernel
theorem dM_compute_186 : decode mM_compute.2.1 186 = .ok (.invokevirtual 133, 3) := by decide +kernel
theorem dM_compute_189 : decode mM_compute.2.1 189 = .ok (.goto 13, 3) := by decide +kernel
theorem dM_compute_192 : decode mM_compute.2.1 192 = .ok (.aload_n 0, 1) := by decide +kernel
theorem dM_compute_193 : decode mM_compute.2.1 193 = .ok (.aload_n 2, 1) := by decide +kernel
theorem dM_compute_194 : decode mM_compute.2.1 194 = .ok (.aload 4, 2) := by decide +kernel
theorem dM_compute_196 : decode mM_compute.2.1 196 = .ok (.iload 5, 2) := by decide +kernel
theorem dM_compute_198 : decode mM_compute.2.1 198 = .ok (.iload_n 3, 1) := by decide +kernel
theorem dM_compute_199 : decode mM_compute.2.1 199 = .ok (.invokevirtual 136, 3) := by decide +kernel
theorem dM_compute_202 : decode mM_compute.2.1 202 = .ok (.return_, 1) := by decide +kernel
theorem dG_placeMeant_0 : decode mG_placeMeant.2.1 0 = .ok (.aload_n 0, 1) := by decide +kernel
theorem dG_placeMeant_1 : decode mG_placeMeant.2.1 1 = .ok (.getfield 27, 3) := by decide +kernel
theorem dG_placeMeant_4 : decode mG_placeMeant.2.1 4 = .ok (.aload_n 0, 1) := by decide +kernel
theorem dG_placeMeant_5 : decode mG_placeMeant.2.1 5 = .ok (.getfield 17, 3) := by decide +kernel
theorem dG_placeMeant_8 : decode mG_placeMeant.2.1 8 = .ok (.iload_n 1, 1) := by decide +kernel
theorem dG_placeMeant_9 : decode mG_placeMeant.2.1 9 = .ok (.iaload, 1) := by decide +kernel
theorem dG_placeMeant_10 : decode mG_placeMeant.2.1 10 = .ok (.iaload, 1) := by decide +kernel
theorem dG_placeMeant_11 : decode mG_placeMeant.2.1 11 = .ok (.ireturn, 1) := by decide +kernel
theorem dM_connect_0 : decode mM_connect.2.1 0 = .ok (.aload_n 0, 1) := by decide +kernel
theorem dM_connect_1 : decode mM_connect.2.1 1 = .ok (.getfield 28, 3) := by decide +kernel
theorem dM_connect_4 : decode mM_connect.2.1 4 = .ok (.aload_n 1, 1) := by decide +kernel
theorem dM_connect_5 : decode mM_connect.2.1 5 = .ok (.getfield 147, 3) := by decide +kernel
theorem dM_connect_8 : decode mM_connect.2.1 8 = .ok (.invokevirtual 150, 3) := by decide +kernel
theorem dM_connect_11 : decode mM_connect.2.1 11 = .ok (.iconst 0, 1) := by decide +kernel
theorem dM_connect_12 : decode mM_connect.2.1 12 = .ok (.istore 5, 2) := by decide +kernel
theorem dM_connect_14 : decode mM_connect.2.1 14 = .ok (.iload 5, 2) := by decide +kernel
theorem dM_connect_16 : decode mM_connect.2.1 16 = .ok (.aload_n 1, 1) := by decide +kernel
theorem dM_connect_17 : decode mM_connect.2.1 17 = .ok (.getfield 164, 3) := by decide +kernel
theorem dM_connect_20 : decode mM_connect.2.1 20 = .ok (.if_icmp .ge 101, 3) := by decide +kernel
theorem dM_connect_23 : decode mM_connect.2.1 23 = .ok (.aload_n 0, 1) := by decide +kernel
theorem dM_connect_24 : decode mM_connect.2.1 24 = .ok (.aload_n 1, 1) := by decide +kernel
theorem dM_connect_25 : decode mM_connect.2.1 25 = .ok (.aload_n 2, 1) := by decide +kernel
theorem dM_connect_26 : decode mM_connect.2.1 26 = .ok (.getfield 71, 3) := by decide +kernel
theorem dM_connect_29 : decode mM_connect.2.1 29 = .ok (.iload 5, 2) := by decide +kernel
theorem dM_connect_31 : decode mM_connect.2.1 31 = .ok (.invokevirtual 174, 3) := by decide +kernel
theorem dM_connect_34 : decode mM_connect.2.1 34 = .ok (.istore 6, 2) := by decide +kernel
theorem dM_connect_36 : decode mM_connect.2.1 36 = .ok (.aload_n 1, 1) := by decide +kernel
theorem dM_connect_37 : decode mM_connect.2.1 37 = .ok (.getfield 217, 3) := by decide +kernel
theorem dM_connect_40 : decode mM_connect.2.1 40 = .ok (.iload 5, 2) := by decide +kernel
theorem dM_connect_42 : decode mM_connect.2.1 42 = .ok (.aload_n 2, 1) := by decide +kernel
theorem dM_connect_43 : decode mM_connect.2.1 43 = .ok (.getfield 71, 3) := by decide +kernel
theorem dM_connect_46 : decode mM_connect.2.1 46 = .ok (.imul, 1) := by decide +kernel
theorem dM_connect_47 : decode mM_connect.2.1 47 = .ok (.iadd, 1) := by decide +kernel
theorem dM_connect_48 : decode mM_connect.2.1 48 = .ok (.istore 7, 2) := by decide +kernel
theorem dM_connect_50 : decode mM_connect.2.1 50 = .ok (.iconst 0, 1) := by decide +kernel
theorem dM_connect_51 : decode mM_connect.2.1 51 = .ok (.istore 8, 2) := by decide +kernel
theorem dM_connect_53 : decode mM_connect.2.1 53 = .ok (.iload 8, 2) := by decide +kernel
theorem dM_connect_55 : decode mM_connect.2.1 55 = .ok (.aload_n 2, 1) := by decide +kernel
theorem dM_connect_56 : decode mM_connect.2.1 56 = .ok (.getfield 71, 3) := by decide +kernel
theorem dM_connect_59 : decode mM_connect.2.1 59 = .ok (.if_icmp .ge 34, 3) := by decide +kernel
theorem dM_connect_62 : decode mM_connect.2.1 62 = .ok (.iload 6, 2) := by decide +kernel
theorem dM_connect_64 : decode mM_connect.2.1 64 = .ok (.aload_n 0, 1) := by decide +kernel
theorem dM_connect_65 : decode mM_connect.2.1 65 = .ok (.getfield 15, 3) := by decide +kernel
theorem dM_connect_68 : decode mM_connect.2.1 68 = .ok (.iload_n 3, 1) := by decide +kernel
theorem dM_connect_69 : decode mM_connect.2.1 69 = .ok (.iload 8, 2) := by decide +kernel
theorem dM_connect_71 : decode mM_connect.2.1 71 = .ok (.iadd, 1) := by decide +kernel
theorem dM_connect_72 : decode mM_connect.2.1 72 = .ok (.iaload, 1) := by decide +kernel
theorem dM_connect_73 : decode mM_connect.2.1 73 = .ok (.aload_n 0, 1) := by decide +kernel
theorem dM_connect_74 : decode mM_connect.2.1 74 = .ok (.getfield 9, 3) := by decide +kernel
theorem dM_connect_77 : decode mM_connect.2.1 77 = .ok (.iload 7, 2) := by decide +kernel
theorem dM_connect_79 : decode mM_connect.2.1 79 = .ok (.iload 8, 2) := by decide +kernel
theorem dM_connect_81 : decode mM_connect.2.1 81 = .ok (.iadd, 1) := by decide +kernel
theorem dM_connect_82 : decode mM_connect.2.1 82 = .ok (.iaload, 1) := by decide +kernel
theorem dM_connect_83 : decode mM_connect.2.1 83 = .ok (.imul, 1) := by decide +kernel
theorem dM_connect_84 : decode mM_connect.2.1 84 = .ok (.iadd, 1) := by decide +kernel
theorem dM_connect_85 : decode mM_connect.2.1 85 = .ok (.istore 6, 2) := by decide +kernel
theorem dM_connect_87 : decode mM_connect.2.1 87 = .ok (.iinc 8 1, 3) := by decide +kernel
theorem dM_connect_90 : decode mM_connect.2.1 90 = .ok (.goto (-37), 3) := by decide +kernel
theorem dM_connect_93 : decode mM_connect.2.1 93 = .ok (.aload_n 0, 1) := by decide +kernel
theorem dM_connect_94 : decode mM_connect.2.1 94 = .ok (.getfield 15, 3) := by decide +kernel
theorem dM_connect_97 : decode mM_connect.2.1 97 = .ok (.iload 4, 2) := by decide +kernel
theorem dM_connect_99 : decode mM_connect.2.1 99 = .ok (.iload 5, 2) := by decide +kernel
theorem dM_connect_101 : decode mM_connect.2.1 101 = .ok (.iadd, 1) := by decide +kernel
theorem dM_connect_102 : decode mM_connect.2.1 102 = .ok (.aload_n 0, 1) := by decide +kernel
theorem dM_connect_103 : decode mM_connect.2.1 103 = .ok (.getfield 28, 3) := by decide +kernel
theorem dM_connect_106 : decode mM_connect.2.1 106 = .ok (.iload 6, 2) := by decide +kernel
theorem dM_connect_108 : decode mM_connect.2.1 108 = .ok (.invokevirtual 181, 3) := by decide +kernel
theorem dM_connect_111 : decode mM_connect.2.1 111 = .ok (.invokestatic 185, 3) := by decide +kernel
theorem dM_connect_114 : decode mM_connect.2.1 114 = .ok (.iastore, 1) := by decide +kernel
theorem dM_connect_115 : decode mM_connect.2.1 115 = .ok (.iinc 5 1, 3) := by decide +kernel
theorem dM_connect_118 : decode mM_connect.2.1 118 = .ok (.goto (-104), 3) := by decide +kernel
theorem dM_connect_121 : decode mM_connect.2.1 121 = .ok (.return_, 1) := by decide +kernel
theorem dS_take_0 : decode mS_take.2.1 0 = .ok (.dload_n 1, 1) := by decide +kernel
theorem dS_take_1 : decode mS_take.2.1 1 = .ok (.dstore_n 3, 1) := by decide +kernel
theorem dS_take_2 : decode mS_take.2.1 2 = .ok (.iconst 0, 1) := by decide +kernel
theorem dS_take_3 : decode mS_take.2.1 3 = .ok (.istore 5, 2) := by decide +kernel
theorem dS_take_5 : decode mS_take.2.1 5 = .ok (.dload_n 3, 1) := by decide +kernel
theorem dS_take_6 : decode mS_take.2.1 6 = .ok (.dconst 1, 1) := by decide +kernel
theorem dS_take_7 : decode mS_take.2.1 7 = .ok (.dcmp .l, 1) := by decide +kernel
theorem dS_take_8 : decode mS_take.2.1 8 = .ok (.ifCond .lt 22, 3) := by decide +kernel
theorem dS_take_11 : decode mS_take.2.1 11 = .ok (.iload 5, 2) := by decide +kernel
theorem dS_take_13 : decode mS_take.2.1 13 = .ok (.bipush 31, 2) := by decide +kernel
theorem dS_take_15 : decode mS_take.2.1 15 = .ok (.if_icmp .ge 15, 3) := by decide +kernel
theorem dS_take_18 : decode mS_take.2.1 18 = .ok (.dload_n 3, 1) := by decide +kernel
theorem dS_take_19 : decode mS_take.2.1 19 = .ok (.ldc2_w 13, 3) := by decide +kernel
theorem dS_take_22 : decode mS_take.2.1 22 = .ok (.ddiv, 1) := by decide +kernel
theorem dS_take_23 : decode mS_take.2.1 23 = .ok (.dstore_n 3, 1) := by decide +kernel
theorem dS_take_24 : decode mS_take.2.1 24 = .ok (.iinc 5 1, 3) := by decide +kernel
theorem dS_take_27 : decode mS_take.2.1 27 = .ok (.goto (-22), 3) := by decide +kernel
theorem dS_take_30 : decode mS_take.2.1 30 = .ok (.dload_n 3, 1) := by decide +kernel
theorem dS_take_31 : decode mS_take.2.1 31 = .ok (.ldc2_w 15, 3) := by decide +kernel
theorem dS_take_34 : decode mS_take.2.1 34 = .ok (.dcmp .g, 1) := by decide +kernel
theorem dS_take_35 : decode mS_take.2.1 35 = .ok (.ifCond .ge 22, 3) := by decide +kernel
theorem dS_take_38 : decode mS_take.2.1 38 = .ok (.iload 5, 2) := by decide +kernel
theorem dS_take_40 : decode mS_take.2.1 40 = .ok (.bipush (-31), 2) := by decide +kernel
theorem dS_take_42 : decode mS_take.2.1 42 = .ok (.if_icmp .le 15, 3) := by decide +kernel
theorem dS_take_45 : decode mS_take.2.1 45 = .ok (.dload_n 3, 1) := by decide +kernel
theorem dS_take_46 : decode mS_take.2.1 46 = .ok (.ldc2_w 13, 3) := by decide +kernel
theorem dS_take_49 : decode mS_take.2.1 49 = .ok (.dmul, 1) := by decide +kernel
theorem dS_take_50 : decode mS_take.2.1 50 = .ok (.dstore_n 3, 1) := by decide +kernel
theorem dS_take_51 : decode mS_take.2.1 51 = .ok (.iinc 5 (-1), 3) := by decide +kernel
theorem dS_take_54 : decode mS_take.2.1 54 = .ok (.goto (-24), 3) := by decide +kernel
theorem dS_take_57 : decode mS_take.2.1 57 = .ok (.aload_n 0, 1) := by decide +kernel
theorem dS_take_58 : decode mS_take.2.1 58 = .ok (.dload_n 3, 1) := by decide +kernel
theorem dS_take_59 : decode mS_take.2.1 59 = .ok (.ldc2_w 17, 3) := by decide +kernel
theorem dS_take_62 : decode mS_take.2.1 62 = .ok (.dmul, 1) := by decide +kernel
theorem dS_take_63 : decode mS_take.2.1 63 = .ok (.ldc2_w 15, 3) := by decide +kernel
theorem dS_take_66 : decode mS_take.2.1 66 = .ok (.dadd, 1) := by decide +kernel
theorem dS_take_67 : decode mS_take.2.1 67 = .ok (.d2l, 1) := by decide +kernel
theorem dS_take_68 : decode mS_take.2.1 68 = .ok (.putfield 19, 3) := by decide +kernel
theorem dS_take_71 : decode mS_take.2.1 71 = .ok (.aload_n 0, 1) := by decide +kernel
theorem dS_take_72 : decode mS_take.2.1 72 = .ok (.getfield 19, 3) := by decide +kernel
theorem dS_take_75 : decode mS_take.2.1 75 = .ok (.ldc2_w 23, 3) := by decide +kernel
theorem dS_take_78 : decode mS_take.2.1 78 = .ok (.lcmp, 1) := by decide +kernel
theorem dS_take_79 : decode mS_take.2.1 79 = .ok (.ifCond .ne 13, 3) := by decide +kernel
theorem dS_take_82 : decode mS_take.2.1 82 = .ok (.aload_n 0, 1) := by decide +kernel
theorem dS_take_83 : decode mS_take.2.1 83 = .ok (.ldc2_w 25, 3) := by decide +kernel
theorem dS_take_86 : decode mS_take.2.1 86 = .ok (.putfield 19, 3) := by decide +kernel
theorem dS_take_89 : decode mS_take.2.1 89 = .ok (.iinc 5 1, 3) := by decide +kernel
theorem dS_take_92 : decode mS_take.2.1 92 = .ok (.aload_n 0, 1) := by decide +kernel
theorem dS_take_93 : decode mS_take.2.1 93 = .ok (.bipush 31, 2) := by decide +kernel
theorem dS_take_95 : decode mS_take.2.1 95 = .ok (.iload 5, 2) := by decide +kernel
theorem dS_take_97 : decode mS_take.2.1 97 = .ok (.isub, 1) := by decide +kernel
theorem dS_take_98 : decode mS_take.2.1 98 = .ok (.putfield 27, 3) := by decide +kernel
theorem dS_take_101 : decode mS_take.2.1 101 = .ok (.return_, 1) := by decide +kernel
theorem dM_bias_0 : decode mM_bias.2.1 0 = .ok (.bipush 16, 2) := by decide +kernel
theorem dM_bias_2 : decode mM_bias.2.1 2 = .ok (.aload_n 0, 1) := by decide +kernel
theorem dM_bias_3 : decode mM_bias.2.1 3 = .ok (.getfield 9, 3) := by decide +kernel
theorem dM_bias_6 : decode mM_bias.2.1 6 = .ok (.aload_n 1, 1) := by decide +kernel
theorem dM_bias_7 : decode mM_bias.2.1 7 = .ok (.getfield 217, 3) := by decide +kernel
theorem dM_bias_10 : decode mM_bias.2.1 10 = .ok (.aload_n 1, 1) := by decide +kernel
theorem dM_bias_11 : decode mM_bias.2.1 11 = .ok (.getfield 164, 3) := by decide +kernel
theorem dM_bias_14 : decode mM_bias.2.1 14 = .ok (.iload_n 2, 1) := by decide +kernel
theorem dM_bias_15 : decode mM_bias.2.1 15 = .ok (.imul, 1) := by decide +kernel
theorem dM_bias_16 : decode mM_bias.2.1 16 = .ok (.iadd, 1) := by decide +kernel
theorem dM_bias_17 : decode mM_bias.2.1 17 = .ok (.iload_n 3, 1) := by decide +kernel
theorem dM_bias_18 : decode mM_bias.2.1 18 = .ok (.iadd, 1) := by decide +kernel
theorem dM_bias_19 : decode mM_bias.2.1 19 = .ok (.iaload, 1) := by decide +kernel
theorem dM_bias_20 : decode mM_bias.2.1 20 = .ok (.imul, 1) := by decide +kernel
theorem dM_bias_21 : decode mM_bias.2.1 21 = .ok (.ireturn, 1) := by decide +kernel
theorem dS_scaled_0 : decode mS_scaled.2.1 0 = .ok (.lconst 1, 1) := by decide +kernel
theorem dS_scaled_1 : decode mS_scaled.2.1 1 = .ok (.aload_n 0, 1) := by decide +kernel
theorem dS_scaled_2 : decode mS_scaled.2.1 2 = .ok (.getfield 27, 3) := by decide +kernel
theorem dS_scaled_5 : decode mS_scaled.2.1 5 = .ok (.iconst 1, 1) := by decide +kernel
theorem dS_scaled_6 : decode mS_scaled.2.1 6 = .ok (.isub, 1) := by decide +kernel
theorem dS_scaled_7 : decode mS_scaled.2.1 7 = .ok (.lshl, 1) := by decide +kernel
theorem dS_scaled_8 : decode mS_scaled.2.1 8 = .ok (.lstore_n 2, 1) := by decide +kernel
theorem dS_scaled_9 : decode mS_scaled.2.1 9 = .ok (.iload_n 1, 1) := by decide +kernel
theorem dS_scaled_10 : decode mS_scaled.2.1 10 = .ok (.i2l, 1) := by decide +kernel
theorem dS_scaled_11 : decode mS_scaled.2.1 11 = .ok (.invokestatic 31, 3) := by decide +kernel
theorem dS_scaled_14 : decode mS_scaled.2.1 14 = .ok (.aload_n 0, 1) := by decide +kernel
theorem dS_scaled_15 : decode mS_scaled.2.1 15 = .ok (.getfield 19, 3) := by decide +kernel
theorem dS_scaled_18 : decode mS_scaled.2.1 18 = .ok (.lmul, 1) := by decide +kernel
theorem dS_scaled_19 : decode mS_scaled.2.1 19 = .ok (.lload_n 2, 1) := by decide +kernel
theorem dS_scaled_20 : decode mS_scaled.2.1 20 = .ok (.ladd, 1) := by decide +kernel
theorem dS_scaled_21 : decode mS_scaled.2.1 21 = .ok (.aload_n 0, 1) := by decide +kernel
theorem dS_scaled_22 : decode mS_scaled.2.1 22 = .ok (.getfield 27, 3) := by decide +kernel
theorem dS_scaled_25 : decode mS_scaled.2.1 25 = .ok (.lshr, 1) := by decide +kernel
theorem dS_scaled_26 : decode mS_scaled.2.1 26 = .ok (.lstore 4, 2) := by decide +kernel
theorem dS_scaled_28 : decode mS_scaled.2.1 28 = .ok (.iload_n 1, 1) := by decide +kernel
theorem dS_scaled_29 : decode mS_scaled.2.1 29 = .ok (.ifCond .ge 9, 3) := by decide +kernel
theorem dS_scaled_32 : decode mS_scaled.2.1 32 = .ok (.lload 4, 2) := by decide +kernel
theorem dS_scaled_34 : decode mS_scaled.2.1 34 = .ok (.lneg, 1) := by decide +kernel
theorem dS_scaled_35 : decode mS_scaled.2.1 35 = .ok (.goto 5, 3) := by decide +kernel
theorem dS_scaled_38 : decode mS_scaled.2.1 38 = .ok (.lload 4, 2) := by decide +kernel
theorem dS_scaled_40 : decode mS_scaled.2.1 40 = .ok (.lreturn, 1) := by decide +kernel
theorem dM_cut_0 : decode mM_cut.2.1 0 = .ok (.ldc2_w 241, 3) := by decide +kernel
theorem dM_cut_3 : decode mM_cut.2.1 3 = .ok (.ldc2_w 243, 3) := by decide +kernel
theorem dM_cut_6 : decode mM_cut.2.1 6 = .ok (.lload_n 0, 1) := by decide +kernel
theorem dM_cut_7 : decode mM_cut.2.1 7 = .ok (.invokestatic 245, 3) := by decide +kernel
theorem dM_cut_10 : decode mM_cut.2.1 10 = .ok (.invokestatic 248, 3) := by decide +kernel
theorem dM_cut_13 : decode mM_cut.2.1 13 = .ok (.l2i, 1) := by decide +kernel
theorem dM_cut_14 : decode mM_cut.2.1 14 = .ok (.ireturn, 1) := by decide +kernel
theorem dM_addUp_0 : decode mM_addUp.2.1 0 = .ok (.aload_n 0, 1) := by decide +kernel
theorem dM_addUp_1 : decode mM_addUp.2.1 1 = .ok (.getfield 28, 3) := by decide +kernel
theorem dM_addUp_4 : decode mM_addUp.2.1 4 = .ok (.aload_n 1, 1) := by decide +kernel
theorem dM_addUp_5 : decode mM_addUp.2.1 5 = .ok (.getfield 147, 3) := by decide +kernel
theorem dM_addUp_8 : decode mM_addUp.2.1 8 = .ok (.invokevirtual 150, 3) := by decide +kernel
theorem dM_addUp_11 : decode mM_addUp.2.1 11 = .ok (.aload_n 0, 1) := by decide +kernel
theorem dM_addUp_12 : decode mM_addUp.2.1 12 = .ok (.getfield 32, 3) := by decide +kernel
theorem dM_addUp_15 : decode mM_addUp.2.1 15 = .ok (.aload_n 1, 1) := by decide +kernel
theorem dM_addUp_16 : decode mM_addUp.2.1 16 = .ok (.getfield 229, 3) := by decide +kernel
theorem dM_addUp_19 : decode mM_addUp.2.1 19 = .ok (.invokevirtual 150, 3) := by decide +kernel
theorem dM_addUp_22 : decode mM_addUp.2.1 22 = .ok (.iconst 0, 1) := by decide +kernel
theorem dM_addUp_23 : decode mM_addUp.2.1 23 = .ok (.istore 5, 2) := by decide +kernel
theorem dM_addUp_25 : decode mM_addUp.2.1 25 = .ok (.iload 5, 2) := by decide +kernel
theorem dM_addUp_27 : decode mM_addUp.2.1 27 = .ok (.aload_n 1, 1) := by decide +kernel
theorem dM_addUp_28 : decode mM_addUp.2.1 28 = .ok (.getfield 71, 3) := by decide +kernel
theorem dM_addUp_31 : decode mM_addUp.2.1 31 = .ok (.if_icmp .ge 55, 3) := by decide +kernel
theorem dM_addUp_34 : decode mM_addUp.2.1 34 = .ok (.aload_n 0, 1) := by decide +kernel
theorem dM_addUp_35 : decode mM_addUp.2.1 35 = .ok (.getfield 15, 3) := by decide +kernel
theorem dM_addUp_38 : decode mM_addUp.2.1 38 = .ok (.iload 4, 2) := by decide +kernel
theorem dM_addUp_40 : decode mM_addUp.2.1 40 = .ok (.iload 5, 2) := by decide +kernel
theorem dM_addUp_42 : decode mM_addUp.2.1 42 = .ok (.iadd, 1) := by decide +kernel
theorem dM_addUp_43 : decode mM_addUp.2.1 43 = .ok (.aload_n 0, 1) := by decide +kernel
theorem dM_addUp_44 : decode mM_addUp.2.1 44 = .ok (.getfield 28, 3) := by decide +kernel
theorem dM_addUp_47 : decode mM_addUp.2.1 47 = .ok (.aload_n 0, 1) := by decide +kernel
theorem dM_addUp_48 : decode mM_addUp.2.1 48 = .ok (.getfield 15, 3) := by decide +kernel
theorem dM_addUp_51 : decode mM_addUp.2.1 51 = .ok (.iload_n 2, 1) := by decide +kernel
theorem dM_addUp_52 : decode mM_addUp.2.1 52 = .ok (.iload 5, 2) := by decide +kernel
theorem dM_addUp_54 : decode mM_addUp.2.1 54 = .ok (.iadd, 1) := by decide +kernel
theorem dM_addUp_55 : decode mM_addUp.2.1 55 = .ok (.iaload, 1) := by decide +kernel
theorem dM_addUp_56 : decode mM_addUp.2.1 56 = .ok (.invokevirtual 181, 3) := by decide +kernel
theorem dM_addUp_59 : decode mM_addUp.2.1 59 = .ok (.aload_n 0, 1) := by decide +kernel
theorem dM_addUp_60 : decode mM_addUp.2.1 60 = .ok (.getfield 32, 3) := by decide +kernel
theorem dM_addUp_63 : decode mM_addUp.2.1 63 = .ok (.aload_n 0, 1) := by decide +kernel
theorem dM_addUp_64 : decode mM_addUp.2.1 64 = .ok (.getfield 15, 3) := by decide +kernel
theorem dM_addUp_67 : decode mM_addUp.2.1 67 = .ok (.iload_n 3, 1) := by decide +kernel
theorem dM_addUp_68 : decode mM_addUp.2.1 68 = .ok (.iload 5, 2) := by decide +kernel
theorem dM_addUp_70 : decode mM_addUp.2.1 70 = .ok (.iadd, 1) := by decide +kernel
theorem dM_addUp_71 : decode mM_addUp.2.1 71 = .ok (.iaload, 1) := by decide +kernel
theorem dM_addUp_72 : decode mM_addUp.2.1 72 = .ok (.invokevirtual 181, 3) := by decide +kernel
theorem dM_addUp_75 : decode mM_addUp.2.1 75 = .ok (.ladd, 1) := by decide +kernel
theorem dM_addUp_76 : decode mM_addUp.2.1 76 = .ok (.invokestatic 185, 3) := by decide +kernel
theorem dM_addUp_79 : decode mM_addUp.2.1 79 = .ok (.iastore, 1) := by decide +kernel
theorem dM_addUp_80 : decode mM_addUp.2.1 80 = .ok (.iinc 5 1, 3) := by decide +kernel
theorem dM_addUp_83 : decode mM_addUp.2.1 83 = .ok (.goto (-58), 3) := by decide +kernel
theorem dM_addUp_86 : decode mM_addUp.2.1 86 = .ok (.return_, 1) := by decide +kernel
theorem dM_join_0 : decode mM_join.2.1 0 = .ok (.aload_n 2, 1) := by decide +kernel
theorem dM_join_1 : decode mM_join.2.1 1 = .ok (.getfield 164, 3) := by decide +kernel
theorem dM_join_4 : decode mM_join.2.1 4 = .ok (.istore 6, 2) := by decide +kernel
theorem dM_join_6 : decode mM_join.2.1 6 = .ok (.aload_n 1, 1) := by decide +kernel
theorem dM_join_7 : decode mM_join.2.1 7 = .ok (.getfield 164, 3) := by decide +kernel
theorem dM_join_10 : decode mM_join.2.1 10 = .ok (.iload 6, 2) := by decide +kernel
theorem dM_join_12 : decode mM_join.2.1 12 = .ok (.isub, 1) := by decide +kernel
theorem dM_join_13 : decode mM_join.2.1 13 = .ok (.istore 7, 2) := by decide +kernel
theorem dM_join_15 : decode mM_join.2.1 15 = .ok (.iconst 0, 1) := by decide +kernel
theorem dM_join_16 : decode mM_join.2.1 16 = .ok (.istore 8, 2) := by decide +kernel
theorem dM_join_18 : decode mM_join.2.1 18 = .ok (.iload 8, 2) := by decide +kernel
theorem dM_join_20 : decode mM_join.2.1 20 = .ok (.aload_n 1, 1) := by decide +kernel
theorem dM_join_21 : decode mM_join.2.1 21 = .ok (.getfield 154, 3) := by decide +kernel
theorem dM_join_24 : decode mM_join.2.1 24 = .ok (.aload_n 1, 1) := by decide +kernel
theorem dM_join_25 : decode mM_join.2.1 25 = .ok (.getfield 157, 3) := by decide +kernel
theorem dM_join_28 : decode mM_join.2.1 28 = .ok (.imul, 1) := by decide +kernel
theorem dM_join_29 : decode mM_join.2.1 29 = .ok (.if_icmp .ge 69, 3) := by decide +kernel
theorem dM_join_32 : decode mM_join.2.1 32 = .ok (.iload 5, 2) := by decide +kernel
theorem dM_join_34 : decode mM_join.2.1 34 = .ok (.iload 8, 2) := by decide +kernel
theorem dM_join_36 : decode mM_join.2.1 36 = .ok (.aload_n 1, 1) := by decide +kernel
theorem dM_join_37 : decode mM_join.2.1 37 = .ok (.getfield 164, 3) := by decide +kernel
theorem dM_join_40 : decode mM_join.2.1 40 = .ok (.imul, 1) := by decide +kernel
theorem dM_join_41 : decode mM_join.2.1 41 = .ok (.iadd, 1) := by decide +kernel
theorem dM_join_42 : decode mM_join.2.1 42 = .ok (.istore 9, 2) := by decide +kernel
theorem dM_join_44 : decode mM_join.2.1 44 = .ok (.aload_n 0, 1) := by decide +kernel
theorem dM_join_45 : decode mM_join.2.1 45 = .ok (.getfield 15, 3) := by decide +kernel
theorem dM_join_48 : decode mM_join.2.1 48 = .ok (.iload_n 3, 1) := by decide +kernel
theorem dM_join_49 : decode mM_join.2.1 49 = .ok (.iload 8, 2) := by decide +kernel
theorem dM_join_51 : decode mM_join.2.1 51 = .ok (.iload 6, 2) := by decide +kernel
theorem dM_join_53 : decode mM_join.2.1 53 = .ok (.imul, 1) := by decide +kernel
theorem dM_join_54 : decode mM_join.2.1 54 = .ok (.iadd, 1) := by decide +kernel
theorem dM_join_55 : decode mM_join.2.1 55 = .ok (.aload_n 0, 1) := by decide +kernel
theorem dM_join_56 : decode mM_join.2.1 56 = .ok (.getfield 15, 3) := by decide +kernel
theorem dM_join_59 : decode mM_join.2.1 59 = .ok (.iload 9, 2) := by decide +kernel
theorem dM_join_61 : decode mM_join.2.1 61 = .ok (.iload 6, 2) := by decide +kernel
theorem dM_join_63 : decode mM_join.2.1 63 = .ok (.invokestatic 106, 3) := by decide +kernel
theorem dM_join_66 : decode mM_join.2.1 66 = .ok (.aload_n 0, 1) := by decide +kernel
theorem dM_join_67 : decode mM_join.2.1 67 = .ok (.getfield 15, 3) := by decide +kernel
theorem dM_join_70 : decode mM_join.2.1 70 = .ok (.iload 4, 2) := by decide +kernel
theorem dM_join_72 : decode mM_join.2.1 72 = .ok (.iload 8, 2) := by decide +kernel
theorem dM_join_74 : decode mM_join.2.1 74 = .ok (.iload 7, 2) := by decide +kernel
theorem dM_join_76 : decode mM_join.2.1 76 = .ok (.imul, 1) := by decide +kernel
theorem dM_join_77 : decode mM_join.2.1 77 = .ok (.iadd, 1) := by decide +kernel
theorem dM_join_78 : decode mM_join.2.1 78 = .ok (.aload_n 0, 1) := by decide +kernel
theorem dM_join_79 : decode mM_join.2.1 79 = .ok (.getfield 15, 3) := by decide +kernel
theorem dM_join_82 : decode mM_join.2.1 82 = .ok (.iload 9, 2) := by decide +kernel
theorem dM_join_84 : decode mM_join.2.1 84 = .ok (.iload 6, 2) := by decide +kernel
theorem dM_join_86 : decode mM_join.2.1 86 = .ok (.iadd, 1) := by decide +kernel
theorem dM_join_87 : decode mM_join.2.1 87 = .ok (.iload 7, 2) := by decide +kernel
theorem dM_join_89 : decode mM_join.2.1 89 = .ok (.invokestatic 106, 3) := by decide +kernel
theorem dM_join_92 : decode mM_join.2.1 92 = .ok (.iinc 8 1, 3) := by decide +kernel
theorem dM_join_95 : decode mM_join.2.1 95 = .ok (.goto (-77), 3) := by decide +kernel
theorem dM_join_98 : decode mM_join.2.1 98 = .ok (.return_, 1) := by decide +kernel
theorem dM_hold_0 : decode mM_hold.2.1 0 = .ok (.iconst 0, 1) := by decide +kernel
theorem dM_hold_1 : decode mM_hold.2.1 1 = .ok (.istore 4, 2) := by decide +kernel
theorem dM_hold_3 : decode mM_hold.2.1 3 = .ok (.iload 4, 2) := by decide +kernel
theorem dM_hold_5 : decode mM_hold.2.1 5 = .ok (.aload_n 1, 1) := by decide +kernel
theorem dM_hold_6 : decode mM_hold.2.1 6 = .ok (.getfield 71, 3) := by decide +kernel
theorem dM_hold_9 : decode mM_hold.2.1 9 = .ok (.if_icmp .ge 41, 3) := by decide +kernel
theorem dM_hold_12 : decode mM_hold.2.1 12 = .ok (.aload_n 0, 1) := by decide +kernel
theorem dM_hold_13 : decode mM_hold.2.1 13 = .ok (.getfield 15, 3) := by decide +kernel
theorem dM_hold_16 : decode mM_hold.2.1 16 = .ok (.iload_n 3, 1) := by decide +kernel
theorem dM_hold_17 : decode mM_hold.2.1 17 = .ok (.iload 4, 2) := by decide +kernel
theorem dM_hold_19 : decode mM_hold.2.1 19 = .ok (.iadd, 1) := by decide +kernel
theorem dM_hold_20 : decode mM_hold.2.1 20 = .ok (.aload_n 1, 1) := by decide +kernel
theorem dM_hold_21 : decode mM_hold.2.1 21 = .ok (.getfield 232, 3) := by decide +kernel
theorem dM_hold_24 : decode mM_hold.2.1 24 = .ok (.aload_n 1, 1) := by decide +kernel
theorem dM_hold_25 : decode mM_hold.2.1 25 = .ok (.getfield 235, 3) := by decide +kernel
theorem dM_hold_28 : decode mM_hold.2.1 28 = .ok (.aload_n 0, 1) := by decide +kernel
theorem dM_hold_29 : decode mM_hold.2.1 29 = .ok (.getfield 15, 3) := by decide +kernel
theorem dM_hold_32 : decode mM_hold.2.1 32 = .ok (.iload_n 2, 1) := by decide +kernel
theorem dM_hold_33 : decode mM_hold.2.1 33 = .ok (.iload 4, 2) := by decide +kernel
theorem dM_hold_35 : decode mM_hold.2.1 35 = .ok (.iadd, 1) := by decide +kernel
theorem dM_hold_36 : decode mM_hold.2.1 36 = .ok (.iaload, 1) := by decide +kernel
theorem dM_hold_37 : decode mM_hold.2.1 37 = .ok (.invokestatic 238, 3) := by decide +kernel
theorem dM_hold_40 : decode mM_hold.2.1 40 = .ok (.invokestatic 220, 3) := by decide +kernel
theorem dM_hold_43 : decode mM_hold.2.1 43 = .ok (.iastore, 1) := by decide +kernel
theorem dM_hold_44 : decode mM_hold.2.1 44 = .ok (.iinc 4 1, 3) := by decide +kernel
theorem dM_hold_47 : decode mM_hold.2.1 47 = .ok (.goto (-44), 3) := by decide +kernel
theorem dM_hold_50 : decode mM_hold.2.1 50 = .ok (.return_, 1) := by decide +kernel
theorem dM_changeScale_0 : decode mM_changeScale.2.1 0 = .ok (.aload_n 0, 1) := by decide +kernel
theorem dM_changeScale_1 : decode mM_changeScale.2.1 1 = .ok (.getfield 28, 3) := by decide +kernel
theorem dM_changeScale_4 : decode mM_changeScale.2.1 4 = .ok (.aload_n 1, 1) := by decide +kernel
theorem dM_changeScale_5 : decode mM_changeScale.2.1 5 = .ok (.getfield 147, 3) := by decide +kernel
theorem dM_changeScale_8 : decode mM_changeScale.2.1 8 = .ok (.invokevirtual 150, 3) := by decide +kernel
theorem dM_changeScale_11 : decode mM_changeScale.2.1 11 = .ok (.iconst 0, 1) := by decide +kernel
theorem dM_changeScale_12 : decode mM_changeScale.2.1 12 = .ok (.istore 4, 2) := by decide +kernel
theorem dM_changeScale_14 : decode mM_changeScale.2.1 14 = .ok (.iload 4, 2) := by decide +kernel
theorem dM_changeScale_16 : decode mM_changeScale.2.1 16 = .ok (.aload_n 1, 1) := by decide +kernel
theorem dM_changeScale_17 : decode mM_changeScale.2.1 17 = .ok (.getfield 71, 3) := by decide +kernel
theorem dM_changeScale_20 : decode mM_changeScale.2.1 20 = .ok (.if_icmp .ge 37, 3) := by decide +kernel
theorem dM_changeScale_23 : decode mM_changeScale.2.1 23 = .ok (.aload_n 0, 1) := by decide +kernel
theorem dM_changeScale_24 : decode mM_changeScale.2.1 24 = .ok (.getfield 15, 3) := by decide +kernel
theorem dM_changeScale_27 : decode mM_changeScale.2.1 27 = .ok (.iload_n 3, 1) := by decide +kernel
theorem dM_changeScale_28 : decode mM_changeScale.2.1 28 = .ok (.iload 4, 2) := by decide +kernel
theorem dM_changeScale_30 : decode mM_changeScale.2.1 30 = .ok (.iadd, 1) := by decide +kernel
theorem dM_changeScale_31 : decode mM_changeScale.2.1 31 = .ok (.aload_n 0, 1) := by decide +kernel
theorem dM_changeScale_32 : decode mM_changeScale.2.1 32 = .ok (.getfield 28, 3) := by decide +kernel
theorem dM_changeScale_35 : decode mM_changeScale.2.1 35 = .ok (.aload_n 0, 1) := by decide +kernel
theorem dM_changeScale_36 : decode mM_changeScale.2.1 36 = .ok (.getfield 15, 3) := by decide +kernel
theorem dM_changeScale_39 : decode mM_changeScale.2.1 39 = .ok (.iload_n 2, 1) := by decide +kernel
theorem dM_changeScale_40 : decode mM_changeScale.2.1 40 = .ok (.iload 4, 2) := by decide +kernel
theorem dM_changeScale_42 : decode mM_changeScale.2.1 42 = .ok (.iadd, 1) := by decide +kernel
theorem dM_changeScale_43 : decode mM_changeScale.2.1 43 = .ok (.iaload, 1) := by decide +kernel
theorem dM_changeScale_44 : decode mM_changeScale.2.1 44 = .ok (.invokevirtual 181, 3) := by decide +kernel
theorem dM_changeScale_47 : decode mM_changeScale.2.1 47 = .ok (.invokestatic 185, 3) := by decide +kernel
theorem dM_changeScale_50 : decode mM_changeScale.2.1 50 = .ok (.iastore, 1) := by decide +kernel
theorem dM_changeScale_51 : decode mM_changeScale.2.1 51 = .ok (.iinc 4 1, 3) := by decide +kernel
theorem dM_changeScale_54 : decode mM_changeScale.2.1 54 = .ok (.goto (-40), 3) := by decide +kernel
theorem dM_changeScale_57 : decode mM_changeScale.2.1 57 = .ok (.return_, 1) := by decide +kernel
theorem dM_slide_0 : decode mM_slide.2.1 0 = .ok (.aload_n 0, 1) := by decide +kernel
theorem dM_slide_1 : decode mM_slide.2.1 1 = .ok (.getfield 21, 3) := by decide +kernel
theorem dM_slide_4 : decode mM_slide.2.1 4 = .ok (.aload_n 1, 1) := by decide +kernel
theorem dM_slide_5 : decode mM_slide.2.1 5 = .ok (.aload_n 2, 1) := by decide +kernel
theorem dM_slide_6 : decode mM_slide.2.1 6 = .ok (.invokevirtual 139, 3) := by decide +kernel
theorem dM_slide_9 : decode mM_slide.2.1 9 = .ok (.aload_n 1, 1) := by decide +kernel
theorem dM_slide_10 : decode mM_slide.2.1 10 = .ok (.invokevirtual 143, 3) := by decide +kernel
theorem dM_slide_13 : decode mM_slide.2.1 13 = .ok (.ifCond .eq 14, 3) := by decide +kernel
theorem dM_slide_16 : decode mM_slide.2.1 16 = .ok (.aload_n 0, 1) := by decide +kernel
theorem dM_slide_17 : decode mM_slide.2.1 17 = .ok (.getfield 28, 3) := by decide +kernel
theorem dM_slide_20 : decode mM_slide.2.1 20 = .ok (.aload_n 1, 1) := by decide +kernel
theorem dM_slide_21 : decode mM_slide.2.1 21 = .ok (.getfield 147, 3) := by decide +kernel
theorem dM_slide_24 : decode mM_slide.2.1 24 = .ok (.invokevirtual 150, 3) := by decide +kernel
theorem dM_slide_27 : decode mM_slide.2.1 27 = .ok (.iload 4, 2) := by decide +kernel
theorem dM_slide_29 : decode mM_slide.2.1 29 = .ok (.istore 5, 2) := by decide +kernel
theorem dM_slide_31 : decode mM_slide.2.1 31 = .ok (.iconst 0, 1) := by decide +kernel
theorem dM_slide_32 : decode mM_slide.2.1 32 = .ok (.istore 6, 2) := by decide +kernel
theorem dM_slide_34 : decode mM_slide.2.1 34 = .ok (.iload 6, 2) := by decide +kernel
theorem dM_slide_36 : decode mM_slide.2.1 36 = .ok (.aload_n 1, 1) := by decide +kernel
theorem dM_slide_37 : decode mM_slide.2.1 37 = .ok (.getfield 154, 3) := by decide +kernel
theorem dM_slide_40 : decode mM_slide.2.1 40 = .ok (.if_icmp .ge 75, 3) := by decide +kernel
theorem dM_slide_43 : decode mM_slide.2.1 43 = .ok (.iconst 0, 1) := by decide +kernel
theorem dM_slide_44 : decode mM_slide.2.1 44 = .ok (.istore 7, 2) := by decide +kernel
theorem dM_slide_46 : decode mM_slide.2.1 46 = .ok (.iload 7, 2) := by decide +kernel
theorem dM_slide_48 : decode mM_slide.2.1 48 = .ok (.aload_n 1, 1) := by decide +kernel
theorem dM_slide_49 : decode mM_slide.2.1 49 = .ok (.getfield 157, 3) := by decide +kernel
theorem dM_slide_52 : decode mM_slide.2.1 52 = .ok (.if_icmp .ge 57, 3) := by decide +kernel
theorem dM_slide_55 : decode mM_slide.2.1 55 = .ok (.aload_n 0, 1) := by decide +kernel
theorem dM_slide_56 : decode mM_slide.2.1 56 = .ok (.getfield 21, 3) := by decide +kernel
theorem dM_slide_59 : decode mM_slide.2.1 59 = .ok (.iload 6, 2) := by decide +kernel
theorem dM_slide_61 : decode mM_slide.2.1 61 = .ok (.iload 7, 2) := by decide +kernel
theorem dM_slide_63 : decode mM_slide.2.1 63 = .ok (.invokevirtual 160, 3) := by decide +kernel
theorem dM_slide_66 : decode mM_slide.2.1 66 = .ok (.iconst 0, 1) := by decide +kernel
theorem dM_slide_67 : decode mM_slide.2.1 67 = .ok (.istore 8, 2) := by decide +kernel
theorem dM_slide_69 : decode mM_slide.2.1 69 = .ok (.iload 8, 2) := by decide +kernel
theorem dM_slide_71 : decode mM_slide.2.1 71 = .ok (.aload_n 1, 1) := by decide +kernel
theorem dM_slide_72 : decode mM_slide.2.1 72 = .ok (.getfield 164, 3) := by decide +kernel
theorem dM_slide_75 : decode mM_slide.2.1 75 = .ok (.if_icmp .ge 28, 3) := by decide +kernel
theorem dM_slide_78 : decode mM_slide.2.1 78 = .ok (.aload_n 0, 1) := by decide +kernel
theorem dM_slide_79 : decode mM_slide.2.1 79 = .ok (.getfield 15, 3) := by decide +kernel
theorem dM_slide_82 : decode mM_slide.2.1 82 = .ok (.iload 5, 2) := by decide +kernel
theorem dM_slide_84 : decode mM_slide.2.1 84 = .ok (.aload_n 0, 1) := by decide +kernel
theorem dM_slide_85 : decode mM_slide.2.1 85 = .ok (.aload_n 1, 1) := by decide +kernel
theorem dM_slide_86 : decode mM_slide.2.1 86 = .ok (.aload_n 2, 1) := by decide +kernel
theorem dM_slide_87 : decode mM_slide.2.1 87 = .ok (.iload_n 3, 1) := by decide +kernel
theorem dM_slide_88 : decode mM_slide.2.1 88 = .ok (.iload 8, 2) := by decide +kernel
theorem dM_slide_90 : decode mM_slide.2.1 90 = .ok (.invokevirtual 167, 3) := by decide +kernel
theorem dM_slide_93 : decode mM_slide.2.1 93 = .ok (.iastore, 1) := by decide +kernel
theorem dM_slide_94 : decode mM_slide.2.1 94 = .ok (.iinc 5 1, 3) := by decide +kernel
theorem dM_slide_97 : decode mM_slide.2.1 97 = .ok (.iinc 8 1, 3) := by decide +kernel
theorem dM_slide_100 : decode mM_slide.2.1 100 = .ok (.goto (-31), 3) := by decide +kernel
theorem dM_slide_103 : decode mM_slide.2.1 103 = .ok (.iinc 7 1, 3) := by decide +kernel
theorem dM_slide_106 : decode mM_slide.2.1 106 = .ok (.goto (-60), 3) := by decide +kernel
theorem dM_slide_109 : decode mM_slide.2.1 109 = .ok (.iinc 6 1, 3) := by decide +kernel
theorem dM_slide_112 : decode mM_slide.2.1 112 = .ok (.goto (-78), 3) := by decide +kernel
theorem dM_slide_115 : decode mM_slide.2.1 115 = .ok (.return_, 1) := by decide +kernel
theorem dW_lay_0 : decode mW_lay.2.1 0 = .ok (.aload_n 0, 1) := by decide +kernel
theorem dW_lay_1 : decode mW_lay.2.1 1 = .ok (.aload_n 1, 1) := by decide +kernel
theorem dW_lay_2 : decode mW_lay.2.1 2 = .ok (.getfield 20, 3) := by decide +kernel
theorem dW_lay_5 : decode mW_lay.2.1 5 = .ok (.invokestatic 13, 3) := by decide +kernel
theorem dW_lay_8 : decode mW_lay.2.1 8 = .ok (.putfield 26, 3) := by decide +kernel
theorem dW_lay_11 : decode mW_lay.2.1 11 = .ok (.aload_n 0, 1) := by decide +kernel
theorem dW_lay_12 : decode mW_lay.2.1 12 = .ok (.aload_n 1, 1) := by decide +kernel
theorem dW_lay_13 : decode mW_lay.2.1 13 = .ok (.getfield 20, 3) := by decide +kernel
theorem dW_lay_16 : decode mW_lay.2.1 16 = .ok (.invokestatic 17, 3) := by decide +kernel
theorem dW_lay_19 : decode mW_lay.2.1 19 = .ok (.putfield 29, 3) := by decide +kernel
theorem dW_lay_22 : decode mW_lay.2.1 22 = .ok (.aload_n 0, 1) := by decide +kernel
theorem dW_lay_23 : decode mW_lay.2.1 23 = .ok (.aload_n 2, 1) := by decide +kernel
theorem dW_lay_24 : decode mW_lay.2.1 24 = .ok (.getfield 32, 3) := by decide +kernel
theorem dW_lay_27 : decode mW_lay.2.1 27 = .ok (.putfield 35, 3) := by decide +kernel
theorem dW_lay_30 : decode mW_lay.2.1 30 = .ok (.aload_n 0, 1) := by decide +kernel
theorem dW_lay_31 : decode mW_lay.2.1 31 = .ok (.aload_n 2, 1) := by decide +kernel
theorem dW_lay_32 : decode mW_lay.2.1 32 = .ok (.getfield 38, 3) := by decide +kernel
theorem dW_lay_35 : decode mW_lay.2.1 35 = .ok (.putfield 41, 3) := by decide +kernel
theorem dW_lay_38 : decode mW_lay.2.1 38 = .ok (.aload_n 0, 1) := by decide +kernel
theorem dW_lay_39 : decode mW_lay.2.1 39 = .ok (.aload_n 0, 1) := by decide +kernel
theorem dW_lay_40 : decode mW_lay.2.1 40 = .ok (.aload_n 1, 1) := by decide +kernel
theorem dW_lay_41 : decode mW_lay.2.1 41 = .ok (.getfield 32, 3) := by decide +kernel
theorem dW_lay_44 : decode mW_lay.2.1 44 = .ok (.aload_n 2, 1) := by decide +kernel
theorem dW_lay_45 : decode mW_lay.2.1 45 = .ok (.getfield 32, 3) := by decide +kernel
theorem dW_lay_48 : decode mW_lay.2.1 48 = .ok (.invokevirtual 44, 3) := by decide +kernel
theorem dW_lay_51 : decode mW_lay.2.1 51 = .ok (.putfield 48, 3) := by decide +kernel
theorem dW_lay_54 : decode mW_lay.2.1 54 = .ok (.aload_n 0, 1) := by decide +kernel
theorem dW_lay_55 : decode mW_lay.2.1 55 = .ok (.aload_n 0, 1) := by decide +kernel
theorem dW_lay_56 : decode mW_lay.2.1 56 = .ok (.aload_n 1, 1) := by decide +kernel
theorem dW_lay_57 : decode mW_lay.2.1 57 = .ok (.getfield 38, 3) := by decide +kernel
theorem dW_lay_60 : decode mW_lay.2.1 60 = .ok (.aload_n 2, 1) := by decide +kernel
theorem dW_lay_61 : decode mW_lay.2.1 61 = .ok (.getfield 38, 3) := by decide +kernel
theorem dW_lay_64 : decode mW_lay.2.1 64 = .ok (.invokevirtual 44, 3) := by decide +kernel
theorem dW_lay_67 : decode mW_lay.2.1 67 = .ok (.putfield 51, 3) := by decide +kernel
theorem dW_lay_70 : decode mW_lay.2.1 70 = .ok (.return_, 1) := by decide +kernel
theorem dW_before_0 : decode mW_before.2.1 0 = .ok (.iload_n 1, 1) := by decide +kernel
theorem dW_before_1 : decode mW_before.2.1 1 = .ok (.iconst 1, 1) := by decide +kernel
theorem dW_before_2 : decode mW_before.2.1 2 = .ok (.isub, 1) := by decide +kernel
theorem dW_before_3 : decode mW_before.2.1 3 = .ok (.aload_n 0, 1) := by decide +kernel
theorem dW_before_4 : decode mW_before.2.1 4 = .ok (.getfield 29, 3) := by decide +kernel
theorem dW_before_7 : decode mW_before.2.1 7 = .ok (.imul, 1) := by decide +kernel
theorem dW_before_8 : decode mW_before.2.1 8 = .ok (.aload_n 0, 1) := by decide +kernel
theorem dW_before_9 : decode mW_before.2.1 9 = .ok (.getfield 26, 3) := by decide +kernel
theorem dW_before_12 : decode mW_before.2.1 12 = .ok (.iadd, 1) := by decide +kernel
theorem dW_before_13 : decode mW_before.2.1 13 = .ok (.iload_n 2, 1) := by decide +kernel
theorem dW_before_14 : decode mW_before.2.1 14 = .ok (.isub, 1) := by decide +kernel
theorem dW_before_15 : decode mW_before.2.1 15 = .ok (.istore_n 3, 1) := by decide +kernel
theorem dW_before_16 : decode mW_before.2.1 16 = .ok (.iload_n 3, 1) := by decide +kernel
theorem dW_before_17 : decode mW_before.2.1 17 = .ok (.iconst 0, 1) := by decide +kernel
theorem dW_before_18 : decode mW_before.2.1 18 = .ok (.invokestatic 54, 3) := by decide +kernel
theorem dW_before_21 : decode mW_before.2.1 21 = .ok (.iconst 2, 1) := by decide +kernel
theorem dW_before_22 : decode mW_before.2.1 22 = .ok (.idiv, 1) := by decide +kernel
theorem dW_before_23 : decode mW_before.2.1 23 = .ok (.ireturn, 1) := by decide +kernel
theorem dW_move_0 : decode mW_move.2.1 0 = .ok (.aload_n 0, 1) := by decide +kernel
theorem dW_move_1 : decode mW_move.2.1 1 = .ok (.iload_n 1, 1) := by decide +kernel
theorem dW_move_2 : decode mW_move.2.1 2 = .ok (.aload_n 0, 1) := by decide +kernel
theorem dW_move_3 : decode mW_move.2.1 3 = .ok (.getfield 29, 3) := by decide +kernel
theorem dW_move_6 : decode mW_move.2.1 6 = .ok (.imul, 1) := by decide +kernel
theorem dW_move_7 : decode mW_move.2.1 7 = .ok (.aload_n 0, 1) := by decide +kernel
theorem dW_move_8 : decode mW_move.2.1 8 = .ok (.getfield 48, 3) := by decide +kernel
theorem dW_move_11 : decode mW_move.2.1 11 = .ok (.isub, 1) := by decide +kernel
theorem dW_move_12 : decode mW_move.2.1 12 = .ok (.putfield 59, 3) := by decide +kernel
theorem dW_move_15 : decode mW_move.2.1 15 = .ok (.aload_n 0, 1) := by decide +kernel
theorem dW_move_16 : decode mW_move.2.1 16 = .ok (.iload_n 2, 1) := by decide +kernel
theorem dW_move_17 : decode mW_move.2.1 17 = .ok (.aload_n 0, 1) := by decide +kernel
theorem dW_move_18 : decode mW_move.2.1 18 = .ok (.getfield 29, 3) := by decide +kernel
theorem dW_move_21 : decode mW_move.2.1 21 = .ok (.imul, 1) := by decide +kernel
theorem dW_move_22 : decode mW_move.2.1 22 = .ok (.aload_n 0, 1) := by decide +kernel
theorem dW_move_23 : decode mW_move.2.1 23 = .ok (.getfield 51, 3) := by decide +kernel
theorem dW_move_26 : decode mW_move.2.1 26 = .ok (.isub, 1) := by decide +kernel
theorem dW_move_27 : decode mW_move.2.1 27 = .ok (.putfield 62, 3) := by decide +kernel
theorem dW_move_30 : decode mW_move.2.1 30 = .ok (.aload_n 0, 1) := by decide +kernel
theorem dW_move_31 : decode mW_move.2.1 31 = .ok (.aload_n 0, 1) := by decide +kernel
theorem dW_move_32 : decode mW_move.2.1 32 = .ok (.getfield 59, 3) := by decide +kernel
theorem dW_move_35 : decode mW_move.2.1 35 = .ok (.iconst 0, 1) := by decide +kernel
theorem dW_move_36 : decode mW_move.2.1 36 = .ok (.invokestatic 54, 3) := by decide +kernel
theorem dW_move_39 : decode mW_move.2.1 39 = .ok (.putfield 65, 3) := by decide +kernel
theorem dW_move_42 : decode mW_move.2.1 42 = .ok (.aload_n 0, 1) := by decide +kernel
theorem dW_move_43 : decode mW_move.2.1 43 = .ok (.aload_n 0, 1) := by decide +kernel
theorem dW_move_44 : decode mW_move.2.1 44 = .ok (.getfield 59, 3) := by decide +kernel
theorem dW_move_47 : decode mW_move.2.1 47 = .ok (.aload_n 0, 1) := by decide +kernel
theorem dW_move_48 : decode mW_move.2.1 48 = .ok (.getfield 26, 3) := by decide +kernel
theorem dW_move_51 : decode mW_move.2.1 51 = .ok (.iadd, 1) := by decide +kernel
theorem dW_move_52 : decode mW_move.2.1 52 = .ok (.aload_n 0, 1) := by decide +kernel
theorem dW_move_53 : decode mW_move.2.1 53 = .ok (.getfield 35, 3) := by decide +kernel
theorem dW_move_56 : decode mW_move.2.1 56 = .ok (.invokestatic 68, 3) := by decide +kernel
theorem dW_move_59 : decode mW_move.2.1 59 = .ok (.putfield 71, 3) := by decide +kernel
theorem dW_move_62 : decode mW_move.2.1 62 = .ok (.aload_n 0, 1) := by decide +kernel
theorem dW_move_63 : decode mW_move.2.1 63 = .ok (.aload_n 0, 1) := by decide +kernel
theorem dW_move_64 : decode mW_move.2.1 64 = .ok (.getfield 62, 3) := by decide +kernel
theorem dW_move_67 : decode mW_move.2.1 67 = .ok (.iconst 0, 1) := by decide +kernel
theorem dW_move_68 : decode mW_move.2.1 68 = .ok (.invokestatic 54, 3) := by decide +kernel
theorem dW_move_71 : decode mW_move.2.1 71 = .ok (.putfield 74, 3) := by decide +kernel
theorem dW_move_74 : decode mW_move.2.1 74 = .ok (.aload_n 0, 1) := by decide +kernel
theorem dW_move_75 : decode mW_move.2.1 75 = .ok (.aload_n 0, 1) := by decide +kernel
theorem dW_move_76 : decode mW_move.2.1 76 = .ok (.getfield 62, 3) := by decide +kernel
theorem dW_move_79 : decode mW_move.2.1 79 = .ok (.aload_n 0, 1) := by decide +kernel
theorem dW_move_80 : decode mW_move.2.1 80 = .ok (.getfield 26, 3) := by decide +kernel
theorem dW_move_83 : decode mW_move.2.1 83 = .ok (.iadd, 1) := by decide +kernel
theorem dW_move_84 : decode mW_move.2.1 84 = .ok (.aload_n 0, 1) := by decide +kernel
theorem dW_move_85 : decode mW_move.2.1 85 = .ok (.getfield 41, 3) := by decide +kernel
theorem dW_move_88 : decode mW_move.2.1 88 = .ok (.invokestatic 68, 3) := by decide +kernel
theorem dW_move_91 : decode mW_move.2.1 91 = .ok (.putfield 77, 3) := by decide +kernel
theorem dW_move_94 : decode mW_move.2.1 94 = .ok (.return_, 1) := by decide +kernel
theorem dM_ofWindow_0 : decode mM_ofWindow.2.1 0 = .ok (.aload_n 0, 1) := by decide +kernel
theorem dM_ofWindow_1 : decode mM_ofWindow.2.1 1 = .ok (.getfield 21, 3) := by decide +kernel
theorem dM_ofWindow_4 : decode mM_ofWindow.2.1 4 = .ok (.getfield 171, 3) := by decide +kernel
theorem dM_ofWindow_7 : decode mM_ofWindow.2.1 7 = .ok (.aload_n 0, 1) := by decide +kernel
theorem dM_ofWindow_8 : decode mM_ofWindow.2.1 8 = .ok (.getfield 21, 3) := by decide +kernel
theorem dM_ofWindow_11 : decode mM_ofWindow.2.1 11 = .ok (.getfield 171, 3) := by decide +kernel
theorem dM_ofWindow_14 : decode mM_ofWindow.2.1 14 = .ok (.imul, 1) := by decide +kernel
theorem dM_ofWindow_15 : decode mM_ofWindow.2.1 15 = .ok (.istore 5, 2) := by decide +kernel
theorem dM_ofWindow_17 : decode mM_ofWindow.2.1 17 = .ok (.aload_n 1, 1) := by decide +kernel
theorem dM_ofWindow_18 : decode mM_ofWindow.2.1 18 = .ok (.getfield 115, 3) := by decide +kernel
theorem dM_ofWindow_21 : decode mM_ofWindow.2.1 21 = .ok (.lookupswitch 118 #[(1, 35), (2, 74), (7, 108)], 35) := by decide +kernel
theorem dM_ofWindow_56 : decode mM_ofWindow.2.1 56 = .ok (.aload_n 0, 1) := by decide +kernel
theorem dM_ofWindow_57 : decode mM_ofWindow.2.1 57 = .ok (.aload_n 1, 1) := by decide +kernel
theorem dM_ofWindow_58 : decode mM_ofWindow.2.1 58 = .ok (.iload 5, 2) := by decide +kernel
theorem dM_ofWindow_60 : decode mM_ofWindow.2.1 60 = .ok (.aload_n 2, 1) := by decide +kernel
theorem dM_ofWindow_61 : decode mM_ofWindow.2.1 61 = .ok (.getfield 164, 3) := by decide +kernel
theorem dM_ofWindow_64 : decode mM_ofWindow.2.1 64 = .ok (.imul, 1) := by decide +kernel
theorem dM_ofWindow_65 : decode mM_ofWindow.2.1 65 = .ok (.iload 4, 2) := by decide +kernel
theorem dM_ofWindow_67 : decode mM_ofWindow.2.1 67 = .ok (.invokevirtual 174, 3) := by decide +kernel
theorem dM_ofWindow_70 : decode mM_ofWindow.2.1 70 = .ok (.aload_n 0, 1) := by decide +kernel
theorem dM_ofWindow_71 : decode mM_ofWindow.2.1 71 = .ok (.aload_n 1, 1) := by decide +kernel
theorem dM_ofWindow_72 : decode mM_ofWindow.2.1 72 = .ok (.aload_n 2, 1) := by decide +kernel
theorem dM_ofWindow_73 : decode mM_ofWindow.2.1 73 = .ok (.iload_n 3, 1) := by decide +kernel
theorem dM_ofWindow_74 : decode mM_ofWindow.2.1 74 = .ok (.iload 4, 2) := by decide +kernel
theorem dM_ofWindow_76 : decode mM_ofWindow.2.1 76 = .ok (.invokevirtual 178, 3) := by decide +kernel
theorem dM_ofWindow_79 : decode mM_ofWindow.2.1 79 = .ok (.iadd, 1) := by decide +kernel
theorem dM_ofWindow_80 : decode mM_ofWindow.2.1 80 = .ok (.istore 6, 2) := by decide +kernel
theorem dM_ofWindow_82 : decode mM_ofWindow.2.1 82 = .ok (.aload_n 0, 1) := by decide +kernel
theorem dM_ofWindow_83 : decode mM_ofWindow.2.1 83 = .ok (.getfield 28, 3) := by decide +kernel
theorem dM_ofWindow_86 : decode mM_ofWindow.2.1 86 = .ok (.iload 6, 2) := by decide +kernel
theorem dM_ofWindow_88 : decode mM_ofWindow.2.1 88 = .ok (.invokevirtual 181, 3) := by decide +kernel
theorem dM_ofWindow_91 : decode mM_ofWindow.2.1 91 = .ok (.invokestatic 185, 3) := by decide +kernel
theorem dM_ofWindow_94 : decode mM_ofWindow.2.1 94 = .ok (.ireturn, 1) := by decide +kernel
theorem dM_ofWindow_95 : decode mM_ofWindow.2.1 95 = .ok (.aload_n 0, 1) := by decide +kernel
theorem dM_ofWindow_96 : decode mM_ofWindow.2.1 96 = .ok (.aload_n 1, 1) := by decide +kernel
theorem dM_ofWindow_97 : decode mM_ofWindow.2.1 97 = .ok (.iload 5, 2) := by decide +kernel
theorem dM_ofWindow_99 : decode mM_ofWindow.2.1 99 = .ok (.iload 4, 2) := by decide +kernel
theorem dM_ofWindow_101 : decode mM_ofWindow.2.1 101 = .ok (.invokevirtual 174, 3) := by decide +kernel
theorem dM_ofWindow_104 : decode mM_ofWindow.2.1 104 = .ok (.aload_n 0, 1) := by decide +kernel
theorem dM_ofWindow_105 : decode mM_ofWindow.2.1 105 = .ok (.aload_n 1, 1) := by decide +kernel
theorem dM_ofWindow_106 : decode mM_ofWindow.2.1 106 = .ok (.aload_n 2, 1) := by decide +kernel
theorem dM_ofWindow_107 : decode mM_ofWindow.2.1 107 = .ok (.iload_n 3, 1) := by decide +kernel
theorem dM_ofWindow_108 : decode mM_ofWindow.2.1 108 = .ok (.iload 4, 2) := by decide +kernel
theorem dM_ofWindow_110 : decode mM_ofWindow.2.1 110 = .ok (.invokevirtual 189, 3) := by decide +kernel
theorem dM_ofWindow_113 : decode mM_ofWindow.2.1 113 = .ok (.iadd, 1) := by decide +kernel
theorem dM_ofWindow_114 : decode mM_ofWindow.2.1 114 = .ok (.istore 6, 2) := by decide +kernel
theorem dM_ofWindow_116 : decode mM_ofWindow.2.1 116 = .ok (.aload_n 0, 1) := by decide +kernel
theorem dM_ofWindow_117 : decode mM_ofWindow.2.1 117 = .ok (.getfield 28, 3) := by decide +kernel
theorem dM_ofWindow_120 : decode mM_ofWindow.2.1 120 = .ok (.iload 6, 2) := by decide +kernel
theorem dM_ofWindow_122 : decode mM_ofWindow.2.1 122 = .ok (.invokevirtual 181, 3) := by decide +kernel
theorem dM_ofWindow_125 : decode mM_ofWindow.2.1 125 = .ok (.invokestatic 185, 3) := by decide +kernel
theorem dM_ofWindow_128 : decode mM_ofWindow.2.1 128 = .ok (.ireturn, 1) := by decide +kernel
theorem dM_ofWindow_129 : decode mM_ofWindow.2.1 129 = .ok (.aload_n 0, 1) := by decide +kernel
theorem dM_ofWindow_130 : decode mM_ofWindow.2.1 130 = .ok (.aload_n 2, 1) := by decide +kernel
theorem dM_ofWindow_131 : decode mM_ofWindow.2.1 131 = .ok (.iload_n 3, 1) := by decide +kernel
theorem dM_ofWindow_132 : decode mM_ofWindow.2.1 132 = .ok (.iload 4, 2) := by decide +kernel
theorem dM_ofWindow_134 : decode mM_ofWindow.2.1 134 = .ok (.iadd, 1) := by decide +kernel
theorem dM_ofWindow_135 : decode mM_ofWindow.2.1 135 = .ok (.invokevirtual 192, 3) := by decide +kernel
theorem dM_ofWindow_138 : decode mM_ofWindow.2.1 138 = .ok (.ireturn, 1) := by decide +kernel
theorem dM_ofWindow_139 : decode mM_ofWindow.2.1 139 = .ok (.aload_n 0, 1) := by decide +kernel
theorem dM_ofWindow_140 : decode mM_ofWindow.2.1 140 = .ok (.aload_n 2, 1) := by decide +kernel
theorem dM_ofWindow_141 : decode mM_ofWindow.2.1 141 = .ok (.iload_n 3, 1) := by decide +kernel
theorem dM_ofWindow_142 : decode mM_ofWindow.2.1 142 = .ok (.iload 4, 2) := by decide +kernel
theorem dM_ofWindow_144 : decode mM_ofWindow.2.1 144 = .ok (.iadd, 1) := by decide +kernel
theorem dM_ofWindow_145 : decode mM_ofWindow.2.1 145 = .ok (.invokevirtual 196, 3) := by decide +kernel
theorem dM_ofWindow_148 : decode mM_ofWindow.2.1 148 = .ok (.ireturn, 1) := by decide +kernel
theorem dM_sumAllChannels_0 : decode mM_sumAllChannels.2.1 0 = .ok (.aload_n 0, 1) := by decide +kernel
theorem dM_sumAllChannels_1 : decode mM_sumAllChannels.2.1 1 = .ok (.getfield 21, 3) := by decide +kernel
theorem dM_sumAllChannels_4 : decode mM_sumAllChannels.2.1 4 = .ok (.getfield 171, 3) := by decide +kernel
theorem dM_sumAllChannels_7 : decode mM_sumAllChannels.2.1 7 = .ok (.istore 5, 2) := by decide +kernel
theorem dM_sumAllChannels_9 : decode mM_sumAllChannels.2.1 9 = .ok (.aload_n 2, 1) := by decide +kernel
theorem dM_sumAllChannels_10 : decode mM_sumAllChannels.2.1 10 = .ok (.getfield 164, 3) := by decide +kernel
theorem dM_sumAllChannels_13 : decode mM_sumAllChannels.2.1 13 = .ok (.istore 6, 2) := by decide +kernel
theorem dM_sumAllChannels_15 : decode mM_sumAllChannels.2.1 15 = .ok (.iconst 0, 1) := by decide +kernel
theorem dM_sumAllChannels_16 : decode mM_sumAllChannels.2.1 16 = .ok (.istore 7, 2) := by decide +kernel
theorem dM_sumAllChannels_18 : decode mM_sumAllChannels.2.1 18 = .ok (.aload_n 0, 1) := by decide +kernel
theorem dM_sumAllChannels_19 : decode mM_sumAllChannels.2.1 19 = .ok (.getfield 21, 3) := by decide +kernel
theorem dM_sumAllChannels_22 : decode mM_sumAllChannels.2.1 22 = .ok (.getfield 199, 3) := by decide +kernel
theorem dM_sumAllChannels_25 : decode mM_sumAllChannels.2.1 25 = .ok (.istore 8, 2) := by decide +kernel
theorem dM_sumAllChannels_27 : decode mM_sumAllChannels.2.1 27 = .ok (.iload 8, 2) := by decide +kernel
theorem dM_sumAllChannels_29 : decode mM_sumAllChannels.2.1 29 = .ok (.aload_n 0, 1) := by decide +kernel
theorem dM_sumAllChannels_30 : decode mM_sumAllChannels.2.1 30 = .ok (.getfield 21, 3) := by decide +kernel
theorem dM_sumAllChannels_33 : decode mM_sumAllChannels.2.1 33 = .ok (.getfield 202, 3) := by decide +kernel
theorem dM_sumAllChannels_36 : decode mM_sumAllChannels.2.1 36 = .ok (.if_icmp .ge 139, 3) := by decide +kernel
theorem dM_sumAllChannels_39 : decode mM_sumAllChannels.2.1 39 = .ok (.aload_n 0, 1) := by decide +kernel
theorem dM_sumAllChannels_40 : decode mM_sumAllChannels.2.1 40 = .ok (.getfield 21, 3) := by decide +kernel
theorem dM_sumAllChannels_43 : decode mM_sumAllChannels.2.1 43 = .ok (.getfield 205, 3) := by decide +kernel
theorem dM_sumAllChannels_46 : decode mM_sumAllChannels.2.1 46 = .ok (.istore 9, 2) := by decide +kernel
theorem dM_sumAllChannels_48 : decode mM_sumAllChannels.2.1 48 = .ok (.iload 9, 2) := by decide +kernel
theorem dM_sumAllChannels_50 : decode mM_sumAllChannels.2.1 50 = .ok (.aload_n 0, 1) := by decide +kernel
theorem dM_sumAllChannels_51 : decode mM_sumAllChannels.2.1 51 = .ok (.getfield 21, 3) := by decide +kernel
theorem dM_sumAllChannels_54 : decode mM_sumAllChannels.2.1 54 = .ok (.getfield 208, 3) := by decide +kernel
theorem dM_sumAllChannels_57 : decode mM_sumAllChannels.2.1 57 = .ok (.if_icmp .ge 112, 3) := by decide +kernel
theorem dM_sumAllChannels_60 : decode mM_sumAllChannels.2.1 60 = .ok (.iload_n 3, 1) := by decide +kernel
theorem dM_sumAllChannels_61 : decode mM_sumAllChannels.2.1 61 = .ok (.iload 8, 2) := by decide +kernel
theorem dM_sumAllChannels_63 : decode mM_sumAllChannels.2.1 63 = .ok (.aload_n 2, 1) := by decide +kernel
theorem dM_sumAllChannels_64 : decode mM_sumAllChannels.2.1 64 = .ok (.getfield 157, 3) := by decide +kernel
theorem dM_sumAllChannels_67 : decode mM_sumAllChannels.2.1 67 = .ok (.imul, 1) := by decide +kernel
theorem dM_sumAllChannels_68 : decode mM_sumAllChannels.2.1 68 = .ok (.iload 9, 2) := by decide +kernel
theorem dM_sumAllChannels_70 : decode mM_sumAllChannels.2.1 70 = .ok (.iadd, 1) := by decide +kernel
theorem dM_sumAllChannels_71 : decode mM_sumAllChannels.2.1 71 = .ok (.iload 6, 2) := by decide +kernel
theorem dM_sumAllChannels_73 : decode mM_sumAllChannels.2.1 73 = .ok (.imul, 1) := by decide +kernel
theorem dM_sumAllChannels_74 : decode mM_sumAllChannels.2.1 74 = .ok (.iadd, 1) := by decide +kernel
theorem dM_sumAllChannels_75 : decode mM_sumAllChannels.2.1 75 = .ok (.istore 10, 2) := by decide +kernel
theorem dM_sumAllChannels_77 : decode mM_sumAllChannels.2.1 77 = .ok (.iload 4, 2) := by decide +kernel
theorem dM_sumAllChannels_79 : decode mM_sumAllChannels.2.1 79 = .ok (.iload 5, 2) := by decide +kernel
theorem dM_sumAllChannels_81 : decode mM_sumAllChannels.2.1 81 = .ok (.imul, 1) := by decide +kernel
theorem dM_sumAllChannels_82 : decode mM_sumAllChannels.2.1 82 = .ok (.iload 8, 2) := by decide +kernel
theorem dM_sumAllChannels_84 : decode mM_sumAllChannels.2.1 84 = .ok (.iadd, 1) := by decide +kernel
theorem dM_sumAllChannels_85 : decode mM_sumAllChannels.2.1 85 = .ok (.aload_n 0, 1) := by decide +kernel
theorem dM_sumAllChannels_86 : decode mM_sumAllChannels.2.1 86 = .ok (.getfield 21, 3) := by decide +kernel
theorem dM_sumAllChannels_89 : decode mM_sumAllChannels.2.1 89 = .ok (.getfield 211, 3) := by decide +kernel
theorem dM_sumAllChannels_92 : decode mM_sumAllChannels.2.1 92 = .ok (.isub, 1) := by decide +kernel
theorem dM_sumAllChannels_93 : decode mM_sumAllChannels.2.1 93 = .ok (.iload 5, 2) := by decide +kernel
theorem dM_sumAllChannels_95 : decode mM_sumAllChannels.2.1 95 = .ok (.imul, 1) := by decide +kernel
theorem dM_sumAllChannels_96 : decode mM_sumAllChannels.2.1 96 = .ok (.iload 9, 2) := by decide +kernel
theorem dM_sumAllChannels_98 : decode mM_sumAllChannels.2.1 98 = .ok (.iadd, 1) := by decide +kernel
theorem dM_sumAllChannels_99 : decode mM_sumAllChannels.2.1 99 = .ok (.aload_n 0, 1) := by decide +kernel
theorem dM_sumAllChannels_100 : decode mM_sumAllChannels.2.1 100 = .ok (.getfield 21, 3) := by decide +kernel
theorem dM_sumAllChannels_103 : decode mM_sumAllChannels.2.1 103 = .ok (.getfield 214, 3) := by decide +kernel
theorem dM_sumAllChannels_106 : decode mM_sumAllChannels.2.1 106 = .ok (.isub, 1) := by decide +kernel
theorem dM_sumAllChannels_107 : decode mM_sumAllChannels.2.1 107 = .ok (.istore 11, 2) := by decide +kernel
theorem dM_sumAllChannels_109 : decode mM_sumAllChannels.2.1 109 = .ok (.aload_n 1, 1) := by decide +kernel
theorem dM_sumAllChannels_110 : decode mM_sumAllChannels.2.1 110 = .ok (.getfield 217, 3) := by decide +kernel
theorem dM_sumAllChannels_113 : decode mM_sumAllChannels.2.1 113 = .ok (.iload 11, 2) := by decide +kernel
theorem dM_sumAllChannels_115 : decode mM_sumAllChannels.2.1 115 = .ok (.iload 6, 2) := by decide +kernel
theorem dM_sumAllChannels_117 : decode mM_sumAllChannels.2.1 117 = .ok (.imul, 1) := by decide +kernel
theorem dM_sumAllChannels_118 : decode mM_sumAllChannels.2.1 118 = .ok (.iadd, 1) := by decide +kernel
theorem dM_sumAllChannels_119 : decode mM_sumAllChannels.2.1 119 = .ok (.istore 12, 2) := by decide +kernel
theorem dM_sumAllChannels_121 : decode mM_sumAllChannels.2.1 121 = .ok (.iconst 0, 1) := by decide +kernel
theorem dM_sumAllChannels_122 : decode mM_sumAllChannels.2.1 122 = .ok (.istore 13, 2) := by decide +kernel
theorem dM_sumAllChannels_124 : decode mM_sumAllChannels.2.1 124 = .ok (.iload 13, 2) := by decide +kernel
theorem dM_sumAllChannels_126 : decode mM_sumAllChannels.2.1 126 = .ok (.iload 6, 2) := by decide +kernel
theorem dM_sumAllChannels_128 : decode mM_sumAllChannels.2.1 128 = .ok (.if_icmp .ge 35, 3) := by decide +kernel
theorem dM_sumAllChannels_131 : decode mM_sumAllChannels.2.1 131 = .ok (.iload 7, 2) := by decide +kernel
theorem dM_sumAllChannels_133 : decode mM_sumAllChannels.2.1 133 = .ok (.aload_n 0, 1) := by decide +kernel
theorem dM_sumAllChannels_134 : decode mM_sumAllChannels.2.1 134 = .ok (.getfield 15, 3) := by decide +kernel
theorem dM_sumAllChannels_137 : decode mM_sumAllChannels.2.1 137 = .ok (.iload 10, 2) := by decide +kernel
theorem dM_sumAllChannels_139 : decode mM_sumAllChannels.2.1 139 = .ok (.iload 13, 2) := by decide +kernel
theorem dM_sumAllChannels_141 : decode mM_sumAllChannels.2.1 141 = .ok (.iadd, 1) := by decide +kernel
theorem dM_sumAllChannels_142 : decode mM_sumAllChannels.2.1 142 = .ok (.iaload, 1) := by decide +kernel
theorem dM_sumAllChannels_143 : decode mM_sumAllChannels.2.1 143 = .ok (.aload_n 0, 1) := by decide +kernel
theorem dM_sumAllChannels_144 : decode mM_sumAllChannels.2.1 144 = .ok (.getfield 9, 3) := by decide +kernel
theorem dM_sumAllChannels_147 : decode mM_sumAllChannels.2.1 147 = .ok (.iload 12, 2) := by decide +kernel
theorem dM_sumAllChannels_149 : decode mM_sumAllChannels.2.1 149 = .ok (.iload 13, 2) := by decide +kernel
theorem dM_sumAllChannels_151 : decode mM_sumAllChannels.2.1 151 = .ok (.iadd, 1) := by decide +kernel
theorem dM_sumAllChannels_152 : decode mM_sumAllChannels.2.1 152 = .ok (.iaload, 1) := by decide +kernel
theorem dM_sumAllChannels_153 : decode mM_sumAllChannels.2.1 153 = .ok (.imul, 1) := by decide +kernel
theorem dM_sumAllChannels_154 : decode mM_sumAllChannels.2.1 154 = .ok (.iadd, 1) := by decide +kernel
theorem dM_sumAllChannels_155 : decode mM_sumAllChannels.2.1 155 = .ok (.istore 7, 2) := by decide +kernel
theorem dM_sumAllChannels_157 : decode mM_sumAllChannels.2.1 157 = .ok (.iinc 13 1, 3) := by decide +kernel
theorem dM_sumAllChannels_160 : decode mM_sumAllChannels.2.1 160 = .ok (.goto (-36), 3) := by decide +kernel
theorem dM_sumAllChannels_163 : decode mM_sumAllChannels.2.1 163 = .ok (.iinc 9 1, 3) := by decide +kernel
theorem dM_sumAllChannels_166 : decode mM_sumAllChannels.2.1 166 = .ok (.goto (-118), 3) := by decide +kernel
theorem dM_sumAllChannels_169 : decode mM_sumAllChannels.2.1 169 = .ok (.iinc 8 1, 3) := by decide +kernel
theorem dM_sumAllChannels_172 : decode mM_sumAllChannels.2.1 172 = .ok (.goto (-145), 3) := by decide +kernel
theorem dM_sumAllChannels_175 : decode mM_sumAllChannels.2.1 175 = .ok (.iload 7, 2) := by decide +kernel
theorem dM_sumAllChannels_177 : decode mM_sumAllChannels.2.1 177 = .ok (.ireturn, 1) := by decide +kernel
theorem dM_sumOneChannel_0 : decode mM_sumOneChannel.2.1 0 = .ok (.aload_n 0, 1) := by decide +kernel
theorem dM_sumOneChannel_1 : decode mM_sumOneChannel.2.1 1 = .ok (.getfield 21, 3) := by decide +kernel
theorem dM_sumOneChannel_4 : decode mM_sumOneChannel.2.1 4 = .ok (.getfield 171, 3) := by decide +kernel
theorem dM_sumOneChannel_7 : decode mM_sumOneChannel.2.1 7 = .ok (.istore 5, 2) := by decide +kernel
theorem dM_sumOneChannel_9 : decode mM_sumOneChannel.2.1 9 = .ok (.iconst 0, 1) := by decide +kernel
theorem dM_sumOneChannel_10 : decode mM_sumOneChannel.2.1 10 = .ok (.istore 6, 2) := by decide +kernel
theorem dM_sumOneChannel_12 : decode mM_sumOneChannel.2.1 12 = .ok (.aload_n 0, 1) := by decide +kernel
theorem dM_sumOneChannel_13 : decode mM_sumOneChannel.2.1 13 = .ok (.getfield 21, 3) := by decide +kernel
theorem dM_sumOneChannel_16 : decode mM_sumOneChannel.2.1 16 = .ok (.getfield 199, 3) := by decide +kernel
theorem dM_sumOneChannel_19 : decode mM_sumOneChannel.2.1 19 = .ok (.istore 7, 2) := by decide +kernel
theorem dM_sumOneChannel_21 : decode mM_sumOneChannel.2.1 21 = .ok (.iload 7, 2) := by decide +kernel
theorem dM_sumOneChannel_23 : decode mM_sumOneChannel.2.1 23 = .ok (.aload_n 0, 1) := by decide +kernel
theorem dM_sumOneChannel_24 : decode mM_sumOneChannel.2.1 24 = .ok (.getfield 21, 3) := by decide +kernel
theorem dM_sumOneChannel_27 : decode mM_sumOneChannel.2.1 27 = .ok (.getfield 202, 3) := by decide +kernel
theorem dM_sumOneChannel_30 : decode mM_sumOneChannel.2.1 30 = .ok (.if_icmp .ge 115, 3) := by decide +kernel
theorem dM_sumOneChannel_33 : decode mM_sumOneChannel.2.1 33 = .ok (.aload_n 0, 1) := by decide +kernel
theorem dM_sumOneChannel_34 : decode mM_sumOneChannel.2.1 34 = .ok (.getfield 21, 3) := by decide +kernel
theorem dM_sumOneChannel_37 : decode mM_sumOneChannel.2.1 37 = .ok (.getfield 205, 3) := by decide +kernel
theorem dM_sumOneChannel_40 : decode mM_sumOneChannel.2.1 40 = .ok (.istore 8, 2) := by decide +kernel
theorem dM_sumOneChannel_42 : decode mM_sumOneChannel.2.1 42 = .ok (.iload 8, 2) := by decide +kernel
theorem dM_sumOneChannel_44 : decode mM_sumOneChannel.2.1 44 = .ok (.aload_n 0, 1) := by decide +kernel
theorem dM_sumOneChannel_45 : decode mM_sumOneChannel.2.1 45 = .ok (.getfield 21, 3) := by decide +kernel
theorem dM_sumOneChannel_48 : decode mM_sumOneChannel.2.1 48 = .ok (.getfield 208, 3) := by decide +kernel
theorem dM_sumOneChannel_51 : decode mM_sumOneChannel.2.1 51 = .ok (.if_icmp .ge 88, 3) := by decide +kernel
theorem dM_sumOneChannel_54 : decode mM_sumOneChannel.2.1 54 = .ok (.iload_n 3, 1) := by decide +kernel
theorem dM_sumOneChannel_55 : decode mM_sumOneChannel.2.1 55 = .ok (.iload 7, 2) := by decide +kernel
theorem dM_sumOneChannel_57 : decode mM_sumOneChannel.2.1 57 = .ok (.aload_n 2, 1) := by decide +kernel
theorem dM_sumOneChannel_58 : decode mM_sumOneChannel.2.1 58 = .ok (.getfield 157, 3) := by decide +kernel
theorem dM_sumOneChannel_61 : decode mM_sumOneChannel.2.1 61 = .ok (.imul, 1) := by decide +kernel
theorem dM_sumOneChannel_62 : decode mM_sumOneChannel.2.1 62 = .ok (.iload 8, 2) := by decide +kernel
theorem dM_sumOneChannel_64 : decode mM_sumOneChannel.2.1 64 = .ok (.iadd, 1) := by decide +kernel
theorem dM_sumOneChannel_65 : decode mM_sumOneChannel.2.1 65 = .ok (.aload_n 2, 1) := by decide +kernel
theorem dM_sumOneChannel_66 : decode mM_sumOneChannel.2.1 66 = .ok (.getfield 164, 3) := by decide +kernel
theorem dM_sumOneChannel_69 : decode mM_sumOneChannel.2.1 69 = .ok (.imul, 1) := by decide +kernel
theorem dM_sumOneChannel_70 : decode mM_sumOneChannel.2.1 70 = .ok (.iadd, 1) := by decide +kernel
theorem dM_sumOneChannel_71 : decode mM_sumOneChannel.2.1 71 = .ok (.iload 4, 2) := by decide +kernel
theorem dM_sumOneChannel_73 : decode mM_sumOneChannel.2.1 73 = .ok (.iadd, 1) := by decide +kernel
theorem dM_sumOneChannel_74 : decode mM_sumOneChannel.2.1 74 = .ok (.istore 9, 2) := by decide +kernel
theorem dM_sumOneChannel_76 : decode mM_sumOneChannel.2.1 76 = .ok (.iload 4, 2) := by decide +kernel
theorem dM_sumOneChannel_78 : decode mM_sumOneChannel.2.1 78 = .ok (.iload 5, 2) := by decide +kernel
theorem dM_sumOneChannel_80 : decode mM_sumOneChannel.2.1 80 = .ok (.imul, 1) := by decide +kernel
theorem dM_sumOneChannel_81 : decode mM_sumOneChannel.2.1 81 = .ok (.iload 7, 2) := by decide +kernel
theorem dM_sumOneChannel_83 : decode mM_sumOneChannel.2.1 83 = .ok (.iadd, 1) := by decide +kernel
theorem dM_sumOneChannel_84 : decode mM_sumOneChannel.2.1 84 = .ok (.aload_n 0, 1) := by decide +kernel
theorem dM_sumOneChannel_85 : decode mM_sumOneChannel.2.1 85 = .ok (.getfield 21, 3) := by decide +kernel
theorem dM_sumOneChannel_88 : decode mM_sumOneChannel.2.1 88 = .ok (.getfield 211, 3) := by decide +kernel
theorem dM_sumOneChannel_91 : decode mM_sumOneChannel.2.1 91 = .ok (.isub, 1) := by decide +kernel
theorem dM_sumOneChannel_92 : decode mM_sumOneChannel.2.1 92 = .ok (.iload 5, 2) := by decide +kernel
theorem dM_sumOneChannel_94 : decode mM_sumOneChannel.2.1 94 = .ok (.imul, 1) := by decide +kernel
theorem dM_sumOneChannel_95 : decode mM_sumOneChannel.2.1 95 = .ok (.iload 8, 2) := by decide +kernel
theorem dM_sumOneChannel_97 : decode mM_sumOneChannel.2.1 97 = .ok (.iadd, 1) := by decide +kernel
theorem dM_sumOneChannel_98 : decode mM_sumOneChannel.2.1 98 = .ok (.aload_n 0, 1) := by decide +kernel
theorem dM_sumOneChannel_99 : decode mM_sumOneChannel.2.1 99 = .ok (.getfield 21, 3) := by decide +kernel
theorem dM_sumOneChannel_102 : decode mM_sumOneChannel.2.1 102 = .ok (.getfield 214, 3) := by decide +kernel
theorem dM_sumOneChannel_105 : decode mM_sumOneChannel.2.1 105 = .ok (.isub, 1) := by decide +kernel
theorem dM_sumOneChannel_106 : decode mM_sumOneChannel.2.1 106 = .ok (.istore 10, 2) := by decide +kernel
theorem dM_sumOneChannel_108 : decode mM_sumOneChannel.2.1 108 = .ok (.iload 6, 2) := by decide +kernel
theorem dM_sumOneChannel_110 : decode mM_sumOneChannel.2.1 110 = .ok (.aload_n 0, 1) := by decide +kernel
theorem dM_sumOneChannel_111 : decode mM_sumOneChannel.2.1 111 = .ok (.getfield 15, 3) := by decide +kernel
theorem dM_sumOneChannel_114 : decode mM_sumOneChannel.2.1 114 = .ok (.iload 9, 2) := by decide +kernel
theorem dM_sumOneChannel_116 : decode mM_sumOneChannel.2.1 116 = .ok (.iaload, 1) := by decide +kernel
theorem dM_sumOneChannel_117 : decode mM_sumOneChannel.2.1 117 = .ok (.aload_n 0, 1) := by decide +kernel
theorem dM_sumOneChannel_118 : decode mM_sumOneChannel.2.1 118 = .ok (.getfield 9, 3) := by decide +kernel
theorem dM_sumOneChannel_121 : decode mM_sumOneChannel.2.1 121 = .ok (.aload_n 1, 1) := by decide +kernel
theorem dM_sumOneChannel_122 : decode mM_sumOneChannel.2.1 122 = .ok (.getfield 217, 3) := by decide +kernel
theorem dM_sumOneChannel_125 : decode mM_sumOneChannel.2.1 125 = .ok (.iload 10, 2) := by decide +kernel
theorem dM_sumOneChannel_127 : decode mM_sumOneChannel.2.1 127 = .ok (.iadd, 1) := by decide +kernel
theorem dM_sumOneChannel_128 : decode mM_sumOneChannel.2.1 128 = .ok (.iaload, 1) := by decide +kernel
theorem dM_sumOneChannel_129 : decode mM_sumOneChannel.2.1 129 = .ok (.imul, 1) := by decide +kernel
theorem dM_sumOneChannel_130 : decode mM_sumOneChannel.2.1 130 = .ok (.iadd, 1) := by decide +kernel
theorem dM_sumOneChannel_131 : decode mM_sumOneChannel.2.1 131 = .ok (.istore 6, 2) := by decide +kernel
theorem dM_sumOneChannel_133 : decode mM_sumOneChannel.2.1 133 = .ok (.iinc 8 1, 3) := by decide +kernel
theorem dM_sumOneChannel_136 : decode mM_sumOneChannel.2.1 136 = .ok (.goto (-94), 3) := by decide +kernel
theorem dM_sumOneChannel_139 : decode mM_sumOneChannel.2.1 139 = .ok (.iinc 7 1, 3) := by decide +kernel
theorem dM_sumOneChannel_142 : decode mM_sumOneChannel.2.1 142 = .ok (.goto (-121), 3) := by decide +kernel
theorem dM_sumOneChannel_145 : decode mM_sumOneChannel.2.1 145 = .ok (.iload 6, 2) := by decide +kernel
theorem dM_sumOneChannel_147 : decode mM_sumOneChannel.2.1 147 = .ok (.ireturn, 1) := by decide +kernel
theorem dM_greatest_0 : decode mM_greatest.2.1 0 = .ok (.bipush (-128), 2) := by decide +kernel
theorem dM_greatest_2 : decode mM_greatest.2.1 2 = .ok (.istore_n 3, 1) := by decide +kernel
theorem dM_greatest_3 : decode mM_greatest.2.1 3 = .ok (.aload_n 0, 1) := by decide +kernel
theorem dM_greatest_4 : decode mM_greatest.2.1 4 = .ok (.getfield 21, 3) := by decide +kernel
theorem dM_greatest_7 : decode mM_greatest.2.1 7 = .ok (.getfield 199, 3) := by decide +kernel
theorem dM_greatest_10 : decode mM_greatest.2.1 10 = .ok (.istore 4, 2) := by decide +kernel
theorem dM_greatest_12 : decode mM_greatest.2.1 12 = .ok (.iload 4, 2) := by decide +kernel
theorem dM_greatest_14 : decode mM_greatest.2.1 14 = .ok (.aload_n 0, 1) := by decide +kernel
theorem dM_greatest_15 : decode mM_greatest.2.1 15 = .ok (.getfield 21, 3) := by decide +kernel
theorem dM_greatest_18 : decode mM_greatest.2.1 18 = .ok (.getfield 202, 3) := by decide +kernel
theorem dM_greatest_21 : decode mM_greatest.2.1 21 = .ok (.if_icmp .ge 63, 3) := by decide +kernel
theorem dM_greatest_24 : decode mM_greatest.2.1 24 = .ok (.aload_n 0, 1) := by decide +kernel
theorem dM_greatest_25 : decode mM_greatest.2.1 25 = .ok (.getfield 21, 3) := by decide +kernel
theorem dM_greatest_28 : decode mM_greatest.2.1 28 = .ok (.getfield 205, 3) := by decide +kernel
theorem dM_greatest_31 : decode mM_greatest.2.1 31 = .ok (.istore 5, 2) := by decide +kernel
theorem dM_greatest_33 : decode mM_greatest.2.1 33 = .ok (.iload 5, 2) := by decide +kernel
theorem dM_greatest_35 : decode mM_greatest.2.1 35 = .ok (.aload_n 0, 1) := by decide +kernel
theorem dM_greatest_36 : decode mM_greatest.2.1 36 = .ok (.getfield 21, 3) := by decide +kernel
theorem dM_greatest_39 : decode mM_greatest.2.1 39 = .ok (.getfield 208, 3) := by decide +kernel
theorem dM_greatest_42 : decode mM_greatest.2.1 42 = .ok (.if_icmp .ge 36, 3) := by decide +kernel
theorem dM_greatest_45 : decode mM_greatest.2.1 45 = .ok (.iload_n 3, 1) := by decide +kernel
theorem dM_greatest_46 : decode mM_greatest.2.1 46 = .ok (.aload_n 0, 1) := by decide +kernel
theorem dM_greatest_47 : decode mM_greatest.2.1 47 = .ok (.getfield 15, 3) := by decide +kernel
theorem dM_greatest_50 : decode mM_greatest.2.1 50 = .ok (.iload_n 2, 1) := by decide +kernel
theorem dM_greatest_51 : decode mM_greatest.2.1 51 = .ok (.iload 4, 2) := by decide +kernel
theorem dM_greatest_53 : decode mM_greatest.2.1 53 = .ok (.aload_n 1, 1) := by decide +kernel
theorem dM_greatest_54 : decode mM_greatest.2.1 54 = .ok (.getfield 157, 3) := by decide +kernel
theorem dM_greatest_57 : decode mM_greatest.2.1 57 = .ok (.imul, 1) := by decide +kernel
theorem dM_greatest_58 : decode mM_greatest.2.1 58 = .ok (.iload 5, 2) := by decide +kernel
theorem dM_greatest_60 : decode mM_greatest.2.1 60 = .ok (.iadd, 1) := by decide +kernel
theorem dM_greatest_61 : decode mM_greatest.2.1 61 = .ok (.aload_n 1, 1) := by decide +kernel
theorem dM_greatest_62 : decode mM_greatest.2.1 62 = .ok (.getfield 164, 3) := by decide +kernel
theorem dM_greatest_65 : decode mM_greatest.2.1 65 = .ok (.imul, 1) := by decide +kernel
theorem dM_greatest_66 : decode mM_greatest.2.1 66 = .ok (.iadd, 1) := by decide +kernel
theorem dM_greatest_67 : decode mM_greatest.2.1 67 = .ok (.iaload, 1) := by decide +kernel
theorem dM_greatest_68 : decode mM_greatest.2.1 68 = .ok (.invokestatic 220, 3) := by decide +kernel
theorem dM_greatest_71 : decode mM_greatest.2.1 71 = .ok (.istore_n 3, 1) := by decide +kernel
theorem dM_greatest_72 : decode mM_greatest.2.1 72 = .ok (.iinc 5 1, 3) := by decide +kernel
theorem dM_greatest_75 : decode mM_greatest.2.1 75 = .ok (.goto (-42), 3) := by decide +kernel
theorem dM_greatest_78 : decode mM_greatest.2.1 78 = .ok (.iinc 4 1, 3) := by decide +kernel
theorem dM_greatest_81 : decode mM_greatest.2.1 81 = .ok (.goto (-69), 3) := by decide +kernel
theorem dM_greatest_84 : decode mM_greatest.2.1 84 = .ok (.iload_n 3, 1) := by decide +kernel
theorem dM_greatest_85 : decode mM_greatest.2.1 85 = .ok (.ireturn, 1) := by decide +kernel
theorem dM_average_0 : decode mM_average.2.1 0 = .ok (.iconst 0, 1) := by decide +kernel
theorem dM_average_1 : decode mM_average.2.1 1 = .ok (.istore_n 3, 1) := by decide +kernel
theorem dM_average_2 : decode mM_average.2.1 2 = .ok (.iconst 0, 1) := by decide +kernel
theorem dM_average_3 : decode mM_average.2.1 3 = .ok (.istore 4, 2) := by decide +kernel
theorem dM_average_5 : decode mM_average.2.1 5 = .ok (.aload_n 0, 1) := by decide +kernel
theorem dM_average_6 : decode mM_average.2.1 6 = .ok (.getfield 21, 3) := by decide +kernel
theorem dM_average_9 : decode mM_average.2.1 9 = .ok (.getfield 199, 3) := by decide +kernel
theorem dM_average_12 : decode mM_average.2.1 12 = .ok (.istore 5, 2) := by decide +kernel
theorem dM_average_14 : decode mM_average.2.1 14 = .ok (.iload 5, 2) := by decide +kernel
theorem dM_average_16 : decode mM_average.2.1 16 = .ok (.aload_n 0, 1) := by decide +kernel
theorem dM_average_17 : decode mM_average.2.1 17 = .ok (.getfield 21, 3) := by decide +kernel
theorem dM_average_20 : decode mM_average.2.1 20 = .ok (.getfield 202, 3) := by decide +kernel
theorem dM_average_23 : decode mM_average.2.1 23 = .ok (.if_icmp .ge 64, 3) := by decide +kernel
theorem dM_average_26 : decode mM_average.2.1 26 = .ok (.aload_n 0, 1) := by decide +kernel
theorem dM_average_27 : decode mM_average.2.1 27 = .ok (.getfield 21, 3) := by decide +kernel
theorem dM_average_30 : decode mM_average.2.1 30 = .ok (.getfield 205, 3) := by decide +kernel
theorem dM_average_33 : decode mM_average.2.1 33 = .ok (.istore 6, 2) := by decide +kernel
theorem dM_average_35 : decode mM_average.2.1 35 = .ok (.iload 6, 2) := by decide +kernel
theorem dM_average_37 : decode mM_average.2.1 37 = .ok (.aload_n 0, 1) := by decide +kernel
theorem dM_average_38 : decode mM_average.2.1 38 = .ok (.getfield 21, 3) := by decide +kernel
theorem dM_average_41 : decode mM_average.2.1 41 = .ok (.getfield 208, 3) := by decide +kernel
theorem dM_average_44 : decode mM_average.2.1 44 = .ok (.if_icmp .ge 37, 3) := by decide +kernel
theorem dM_average_47 : decode mM_average.2.1 47 = .ok (.iload_n 3, 1) := by decide +kernel
theorem dM_average_48 : decode mM_average.2.1 48 = .ok (.aload_n 0, 1) := by decide +kernel
theorem dM_average_49 : decode mM_average.2.1 49 = .ok (.getfield 15, 3) := by decide +kernel
theorem dM_average_52 : decode mM_average.2.1 52 = .ok (.iload_n 2, 1) := by decide +kernel
theorem dM_average_53 : decode mM_average.2.1 53 = .ok (.iload 5, 2) := by decide +kernel
theorem dM_average_55 : decode mM_average.2.1 55 = .ok (.aload_n 1, 1) := by decide +kernel
theorem dM_average_56 : decode mM_average.2.1 56 = .ok (.getfield 157, 3) := by decide +kernel
theorem dM_average_59 : decode mM_average.2.1 59 = .ok (.imul, 1) := by decide +kernel
theorem dM_average_60 : decode mM_average.2.1 60 = .ok (.iload 6, 2) := by decide +kernel
theorem dM_average_62 : decode mM_average.2.1 62 = .ok (.iadd, 1) := by decide +kernel
theorem dM_average_63 : decode mM_average.2.1 63 = .ok (.aload_n 1, 1) := by decide +kernel
theorem dM_average_64 : decode mM_average.2.1 64 = .ok (.getfield 164, 3) := by decide +kernel
theorem dM_average_67 : decode mM_average.2.1 67 = .ok (.imul, 1) := by decide +kernel
theorem dM_average_68 : decode mM_average.2.1 68 = .ok (.iadd, 1) := by decide +kernel
theorem dM_average_69 : decode mM_average.2.1 69 = .ok (.iaload, 1) := by decide +kernel
theorem dM_average_70 : decode mM_average.2.1 70 = .ok (.iadd, 1) := by decide +kernel
theorem dM_average_71 : decode mM_average.2.1 71 = .ok (.istore_n 3, 1) := by decide +kernel
theorem dM_average_72 : decode mM_average.2.1 72 = .ok (.iinc 4 1, 3) := by decide +kernel
theorem dM_average_75 : decode mM_average.2.1 75 = .ok (.iinc 6 1, 3) := by decide +kernel
theorem dM_average_78 : decode mM_average.2.1 78 = .ok (.goto (-43), 3) := by decide +kernel
theorem dM_average_81 : decode mM_average.2.1 81 = .ok (.iinc 5 1, 3) := by decide +kernel
theorem dM_average_84 : decode mM_average.2.1 84 = .ok (.goto (-70), 3) := by decide +kernel
theorem dM_average_87 : decode mM_average.2.1 87 = .ok (.iload 4, 2) := by decide +kernel
theorem dM_average_89 : decode mM_average.2.1 89 = .ok (.ifCond .ne 5, 3) := by decide +kernel
theorem dM_average_92 : decode mM_average.2.1 92 = .ok (.iconst 0, 1) := by decide +kernel
theorem dM_average_93 : decode mM_average.2.1 93 = .ok (.ireturn, 1) := by decide +kernel
theorem dM_average_94 : decode mM_average.2.1 94 = .ok (.iconst 2, 1) := by decide +kernel
theorem dM_average_95 : decode mM_average.2.1 95 = .ok (.iload_n 3, 1) := by decide +kernel
theorem dM_average_96 : decode mM_average.2.1 96 = .ok (.invokestatic 226, 3) := by decide +kernel
theorem dM_average_99 : decode mM_average.2.1 99 = .ok (.imul, 1) := by decide +kernel
theorem dM_average_100 : decode mM_average.2.1 100 = .ok (.iload 4, 2) := by decide +kernel
theorem dM_average_102 : decode mM_average.2.1 102 = .ok (.iadd, 1) := by decide +kernel
theorem dM_average_103 : decode mM_average.2.1 103 = .ok (.iconst 2, 1) := by decide +kernel
theorem dM_average_104 : decode mM_average.2.1 104 = .ok (.iload 4, 2) := by decide +kernel
theorem dM_average_106 : decode mM_average.2.1 106 = .ok (.imul, 1) := by decide +kernel
theorem dM_average_107 : decode mM_average.2.1 107 = .ok (.idiv, 1) := by decide +kernel
theorem dM_average_108 : decode mM_average.2.1 108 = .ok (.istore 5, 2) := by decide +kernel
theorem dM_average_110 : decode mM_average.2.1 110 = .ok (.iload_n 3, 1) := by decide +kernel
theorem dM_average_111 : decode mM_average.2.1 111 = .ok (.ifCond .ge 9, 3) := by decide +kernel
theorem dM_average_114 : decode mM_average.2.1 114 = .ok (.iload 5, 2) := by decide +kernel
theorem dM_average_116 : decode mM_average.2.1 116 = .ok (.ineg, 1) := by decide +kernel
theorem dM_average_117 : decode mM_average.2.1 117 = .ok (.goto 5, 3) := by decide +kernel
theorem dM_average_120 : decode mM_average.2.1 120 = .ok (.iload 5, 2) := by decide +kernel
theorem dM_average_122 : decode mM_average.2.1 122 = .ok (.ireturn, 1) := by decide +kernel
theorem dM_sumOfResult_0 : decode mM_sumOfResult.2.1 0 = .ok (.iconst 0, 1) := by decide +kernel
theorem dM_sumOfResult_1 : decode mM_sumOfResult.2.1 1 = .ok (.istore_n 1, 1) := by decide +kernel
theorem dM_sumOfResult_2 : decode mM_sumOfResult.2.1 2 = .ok (.iconst 0, 1) := by decide +kernel
theorem dM_sumOfResult_3 : decode mM_sumOfResult.2.1 3 = .ok (.istore_n 2, 1) := by decide +kernel
theorem dM_sumOfResult_4 : decode mM_sumOfResult.2.1 4 = .ok (.iload_n 2, 1) := by decide +kernel
theorem dM_sumOfResult_5 : decode mM_sumOfResult.2.1 5 = .ok (.aload_n 0, 1) := by decide +kernel
theorem dM_sumOfResult_6 : decode mM_sumOfResult.2.1 6 = .ok (.getfield 75, 3) := by decide +kernel
theorem dM_sumOfResult_9 : decode mM_sumOfResult.2.1 9 = .ok (.if_icmp .ge 23, 3) := by decide +kernel
theorem dM_sumOfResult_12 : decode mM_sumOfResult.2.1 12 = .ok (.iload_n 1, 1) := by decide +kernel
theorem dM_sumOfResult_13 : decode mM_sumOfResult.2.1 13 = .ok (.aload_n 0, 1) := by decide +kernel
theorem dM_sumOfResult_14 : decode mM_sumOfResult.2.1 14 = .ok (.getfield 15, 3) := by decide +kernel
theorem dM_sumOfResult_17 : decode mM_sumOfResult.2.1 17 = .ok (.aload_n 0, 1) := by decide +kernel
theorem dM_sumOfResult_18 : decode mM_sumOfResult.2.1 18 = .ok (.getfield 64, 3) := by decide +kernel
theorem dM_sumOfResult_21 : decode mM_sumOfResult.2.1 21 = .ok (.iload_n 2, 1) := by decide +kernel
theorem dM_sumOfResult_22 : decode mM_sumOfResult.2.1 22 = .ok (.iadd, 1) := by decide +kernel
theorem dM_sumOfResult_23 : decode mM_sumOfResult.2.1 23 = .ok (.iaload, 1) := by decide +kernel
theorem dM_sumOfResult_24 : decode mM_sumOfResult.2.1 24 = .ok (.iadd, 1) := by decide +kernel
theorem dM_sumOfResult_25 : decode mM_sumOfResult.2.1 25 = .ok (.istore_n 1, 1) := by decide +kernel
theorem dM_sumOfResult_26 : decode mM_sumOfResult.2.1 26 = .ok (.iinc 2 1, 3) := by decide +kernel
theorem dM_sumOfResult_29 : decode mM_sumOfResult.2.1 29 = .ok (.goto (-25), 3) := by decide +kernel
theorem dM_sumOfResult_32 : decode mM_sumOfResult.2.1 32 = .ok (.iload_n 1, 1) := by decide +kernel
theorem dM_sumOfResult_33 : decode mM_sumOfResult.2.1 33 = .ok (.ireturn, 1) := by decide +kernel
theorem dL_arena_0 : decode mL_arena.2.1 0 = .ok (.aload_n 2, 1) := by decide +kernel
theorem dL_arena_1 : decode mL_arena.2.1 1 = .ok (.iconst 0, 1) := by decide +kernel
theorem dL_arena_2 : decode mL_arena.2.1 2 = .ok (.aload_n 0, 1) := by decide +kernel
theorem dL_arena_3 : decode mL_arena.2.1 3 = .ok (.iload_n 1, 1) := by decide +kernel
theorem dL_arena_4 : decode mL_arena.2.1 4 = .ok (.invokevirtual 75, 3) := by decide +kernel
theorem dL_arena_7 : decode mL_arena.2.1 7 = .ok (.i2l, 1) := by decide +kernel
theorem dL_arena_8 : decode mL_arena.2.1 8 = .ok (.lastore, 1) := by decide +kernel
theorem dL_arena_9 : decode mL_arena.2.1 9 = .ok (.goto 6, 3) := by decide +kernel
theorem dL_arena_12 : decode mL_arena.2.1 12 = .ok (.astore_n 3, 1) := by decide +kernel
theorem dL_arena_13 : decode mL_arena.2.1 13 = .ok (.iconst 1, 1) := by decide +kernel
theorem dL_arena_14 : decode mL_arena.2.1 14 = .ok (.ireturn, 1) := by decide +kernel
theorem dL_arena_15 : decode mL_arena.2.1 15 = .ok (.iconst 0, 1) := by decide +kernel
theorem dL_arena_16 : decode mL_arena.2.1 16 = .ok (.ireturn, 1) := by decide +kernel
theorem dT_arena_0 : decode mT_arena.2.1 0 = .ok (.iload_n 1, 1) := by decide +kernel
theorem dT_arena_1 : decode mT_arena.2.1 1 = .ok (.ifCond .lt 18, 3) := by decide +kernel
theorem dT_arena_4 : decode mT_arena.2.1 4 = .ok (.iload_n 1, 1) := by decide +kernel
theorem dT_arena_5 : decode mT_arena.2.1 5 = .ok (.aload_n 0, 1) := by decide +kernel
theorem dT_arena_6 : decode mT_arena.2.1 6 = .ok (.getfield 19, 3) := by decide +kernel
theorem dT_arena_9 : decode mT_arena.2.1 9 = .ok (.getfield 178, 3) := by decide +kernel
theorem dT_arena_12 : decode mT_arena.2.1 12 = .ok (.if_icmp .ge 7, 3) := by decide +kernel
theorem dT_arena_15 : decode mT_arena.2.1 15 = .ok (.iconst 1, 1) := by decide +kernel
theorem dT_arena_16 : decode mT_arena.2.1 16 = .ok (.goto 4, 3) := by decide +kernel
theorem dT_arena_19 : decode mT_arena.2.1 19 = .ok (.iconst 0, 1) := by decide +kernel
theorem dT_arena_20 : decode mT_arena.2.1 20 = .ok (.invokestatic 181, 3) := by decide +kernel
theorem dT_arena_23 : decode mT_arena.2.1 23 = .ok (.aload_n 0, 1) := by decide +kernel
theorem dT_arena_24 : decode mT_arena.2.1 24 = .ok (.getfield 19, 3) := by decide +kernel
theorem dT_arena_27 : decode mT_arena.2.1 27 = .ok (.getfield 184, 3) := by decide +kernel
theorem dT_arena_30 : decode mT_arena.2.1 30 = .ok (.iload_n 1, 1) := by decide +kernel
theorem dT_arena_31 : decode mT_arena.2.1 31 = .ok (.iaload, 1) := by decide +kernel
theorem dT_arena_32 : decode mT_arena.2.1 32 = .ok (.ireturn, 1) := by decide +kernel
theorem dT_requirePresent_0 : decode mT_requirePresent.2.1 0 = .ok (.iload_n 0, 1) := by decide +kernel
theorem dT_requirePresent_1 : decode mT_requirePresent.2.1 1 = .ok (.ifCond .ne 13, 3) := by decide +kernel
theorem dT_requirePresent_4 : decode mT_requirePresent.2.1 4 = .ok (.new 251, 3) := by decide +kernel
theorem dT_requirePresent_7 : decode mT_requirePresent.2.1 7 = .ok (.dup, 1) := by decide +kernel
theorem dT_requirePresent_8 : decode mT_requirePresent.2.1 8 = .ok (.ldc 253, 2) := by decide +kernel
theorem dT_requirePresent_10 : decode mT_requirePresent.2.1 10 = .ok (.invokespecial 255, 3) := by decide +kernel
theorem dT_requirePresent_13 : decode mT_requirePresent.2.1 13 = .ok (.athrow, 1) := by decide +kernel
theorem dT_requirePresent_14 : decode mT_requirePresent.2.1 14 = .ok (.return_, 1) := by decide +kernel
theorem dL_result_0 : decode mL_result.2.1 0 = .ok (.aload_n 2, 1) := by decide +kernel
theorem dL_result_1 : decode mL_result.2.1 1 = .ok (.iconst 0, 1) := by decide +kernel
theorem dL_result_2 : decode mL_result.2.1 2 = .ok (.aload_n 0, 1) := by decide +kernel
theorem dL_result_3 : decode mL_result.2.1 3 = .ok (.iload_n 1, 1) := by decide +kernel
theorem dL_result_4 : decode mL_result.2.1 4 = .ok (.invokevirtual 80, 3) := by decide +kernel
theorem dL_result_7 : decode mL_result.2.1 7 = .ok (.dastore, 1) := by decide +kernel
theorem dL_result_8 : decode mL_result.2.1 8 = .ok (.goto 6, 3) := by decide +kernel
theorem dL_result_11 : decode mL_result.2.1 11 = .ok (.astore_n 3, 1) := by decide +kernel
theorem dL_result_12 : decode mL_result.2.1 12 = .ok (.iconst 1, 1) := by decide +kernel
theorem dL_result_13 : decode mL_result.2.1 13 = .ok (.ireturn, 1) := by decide +kernel
theorem dL_result_14 : decode mL_result.2.1 14 = .ok (.iconst 0, 1) := by decide +kernel
theorem dL_result_15 : decode mL_result.2.1 15 = .ok (.ireturn, 1) := by decide +kernel
theorem dT_result_0 : decode mT_result.2.1 0 = .ok (.iload_n 1, 1) := by decide +kernel
theorem dT_result_1 : decode mT_result.2.1 1 = .ok (.ifCond .lt 18, 3) := by decide +kernel
theorem dT_result_4 : decode mT_result.2.1 4 = .ok (.iload_n 1, 1) := by decide +kernel
theorem dT_result_5 : decode mT_result.2.1 5 = .ok (.aload_n 0, 1) := by decide +kernel
theorem dT_result_6 : decode mT_result.2.1 6 = .ok (.getfield 19, 3) := by decide +kernel
theorem dT_result_9 : decode mT_result.2.1 9 = .ok (.getfield 186, 3) := by decide +kernel
theorem dT_result_12 : decode mT_result.2.1 12 = .ok (.if_icmp .ge 7, 3) := by decide +kernel
theorem dT_result_15 : decode mT_result.2.1 15 = .ok (.iconst 1, 1) := by decide +kernel
theorem dT_result_16 : decode mT_result.2.1 16 = .ok (.goto 4, 3) := by decide +kernel
theorem dT_result_19 : decode mT_result.2.1 19 = .ok (.iconst 0, 1) := by decide +kernel
theorem dT_result_20 : decode mT_result.2.1 20 = .ok (.invokestatic 181, 3) := by decide +kernel
theorem dT_result_23 : decode mT_result.2.1 23 = .ok (.aload_n 0, 1) := by decide +kernel
theorem dT_result_24 : decode mT_result.2.1 24 = .ok (.getfield 19, 3) := by decide +kernel
theorem dT_result_27 : decode mT_result.2.1 27 = .ok (.getfield 184, 3) := by decide +kernel
theorem dT_result_30 : decode mT_result.2.1 30 = .ok (.aload_n 0, 1) := by decide +kernel
theorem dT_result_31 : decode mT_result.2.1 31 = .ok (.getfield 19, 3) := by decide +kernel
theorem dT_result_34 : decode mT_result.2.1 34 = .ok (.getfield 189, 3) := by decide +kernel
theorem dT_result_37 : decode mT_result.2.1 37 = .ok (.iload_n 1, 1) := by decide +kernel
theorem dT_result_38 : decode mT_result.2.1 38 = .ok (.iadd, 1) := by decide +kernel
theorem dT_result_39 : decode mT_result.2.1 39 = .ok (.iaload, 1) := by decide +kernel
theorem dT_result_40 : decode mT_result.2.1 40 = .ok (.i2d, 1) := by decide +kernel
theorem dT_result_41 : decode mT_result.2.1 41 = .ok (.aload_n 0, 1) := by decide +kernel
theorem dT_result_42 : decode mT_result.2.1 42 = .ok (.getfield 19, 3) := by decide +kernel
theorem dT_result_45 : decode mT_result.2.1 45 = .ok (.getfield 192, 3) := by decide +kernel
theorem dT_result_48 : decode mT_result.2.1 48 = .ok (.dmul, 1) := by decide +kernel
theorem dT_result_49 : decode mT_result.2.1 49 = .ok (.dreturn, 1) := by decide +kernel
theorem dL_about_0 : decode mL_about.2.1 0 = .ok (.aload_n 3, 1) := by decide +kernel
theorem dL_about_1 : decode mL_about.2.1 1 = .ok (.iconst 0, 1) := by decide +kernel
theorem dL_about_2 : decode mL_about.2.1 2 = .ok (.aload_n 0, 1) := by decide +kernel
theorem dL_about_3 : decode mL_about.2.1 3 = .ok (.iload_n 1, 1) := by decide +kernel
theorem dL_about_4 : decode mL_about.2.1 4 = .ok (.iload_n 2, 1) := by decide +kernel
theorem dL_about_5 : decode mL_about.2.1 5 = .ok (.invokevirtual 84, 3) := by decide +kernel
theorem dL_about_8 : decode mL_about.2.1 8 = .ok (.i2l, 1) := by decide +kernel
theorem dL_about_9 : decode mL_about.2.1 9 = .ok (.lastore, 1) := by decide +kernel
theorem dL_about_10 : decode mL_about.2.1 10 = .ok (.goto 15, 3) := by decide +kernel
theorem dL_about_13 : decode mL_about.2.1 13 = .ok (.astore 4, 2) := by decide +kernel
theorem dL_about_15 : decode mL_about.2.1 15 = .ok (.iconst 1, 1) := by decide +kernel
theorem dL_about_16 : decode mL_about.2.1 16 = .ok (.ireturn, 1) := by decide +kernel
theorem dL_about_17 : decode mL_about.2.1 17 = .ok (.astore 4, 2) := by decide +kernel
theorem dL_about_19 : decode mL_about.2.1 19 = .ok (.iconst 2, 1) := by decide +kernel
theorem dL_about_20 : decode mL_about.2.1 20 = .ok (.ireturn, 1) := by decide +kernel
theorem dL_about_21 : decode mL_about.2.1 21 = .ok (.astore 4, 2) := by decide +kernel
theorem dL_about_23 : decode mL_about.2.1 23 = .ok (.iconst 3, 1) := by decide +kernel
theorem dL_about_24 : decode mL_about.2.1 24 = .ok (.ireturn, 1) := by decide +kernel
theorem dL_about_25 : decode mL_about.2.1 25 = .ok (.iconst 0, 1) := by decide +kernel
theorem dL_about_26 : decode mL_about.2.1 26 = .ok (.ireturn, 1) := by decide +kernel
theorem dT_about_0 : decode mT_about.2.1 0 = .ok (.aload_n 0, 1) := by decide +kernel
theorem dT_about_1 : decode mT_about.2.1 1 = .ok (.iload_n 1, 1) := by decide +kernel
theorem dT_about_2 : decode mT_about.2.1 2 = .ok (.invokevirtual 66, 3) := by decide +kernel
theorem dT_about_5 : decode mT_about.2.1 5 = .ok (.iload_n 2, 1) := by decide +kernel
theorem dT_about_6 : decode mT_about.2.1 6 = .ok (.iconst 0, 1) := by decide +kernel
theorem dT_about_7 : decode mT_about.2.1 7 = .ok (.bipush 7, 2) := by decide +kernel
theorem dT_about_9 : decode mT_about.2.1 9 = .ok (.invokestatic 35, 3) := by decide +kernel
theorem dT_about_12 : decode mT_about.2.1 12 = .ok (.iload_n 2, 1) := by decide +kernel
theorem dT_about_13 : decode mT_about.2.1 13 = .ok (.iconst 4, 1) := by decide +kernel
theorem dT_about_14 : decode mT_about.2.1 14 = .ok (.if_icmp .ge 19, 3) := by decide +kernel
theorem dT_about_17 : decode mT_about.2.1 17 = .ok (.aload_n 0, 1) := by decide +kernel
theorem dT_about_18 : decode mT_about.2.1 18 = .ok (.getfield 12, 3) := by decide +kernel
theorem dT_about_21 : decode mT_about.2.1 21 = .ok (.getfield 74, 3) := by decide +kernel
theorem dT_about_24 : decode mT_about.2.1 24 = .ok (.iload_n 1, 1) := by decide +kernel
theorem dT_about_25 : decode mT_about.2.1 25 = .ok (.aaload, 1) := by decide +kernel
theorem dT_about_26 : decode mT_about.2.1 26 = .ok (.iload_n 2, 1) := by decide +kernel
theorem dT_about_27 : decode mT_about.2.1 27 = .ok (.invokestatic 195, 3) := by decide +kernel
theorem dT_about_30 : decode mT_about.2.1 30 = .ok (.goto 9, 3) := by decide +kernel
theorem dT_about_33 : decode mT_about.2.1 33 = .ok (.aload_n 0, 1) := by decide +kernel
theorem dT_about_34 : decode mT_about.2.1 34 = .ok (.iload_n 1, 1) := by decide +kernel
theorem dT_about_35 : decode mT_about.2.1 35 = .ok (.iload_n 2, 1) := by decide +kernel
theorem dT_about_36 : decode mT_about.2.1 36 = .ok (.invokevirtual 199, 3) := by decide +kernel
theorem dT_about_39 : decode mT_about.2.1 39 = .ok (.ireturn, 1) := by decide +kernel
theorem dT_aboutMade_0 : decode mT_aboutMade.2.1 0 = .ok (.iload_n 1, 1) := by decide +kernel
theorem dT_aboutMade_1 : decode mT_aboutMade.2.1 1 = .ok (.tableswitch 42 1 3 #[27, 32, 37], 27) := by decide +kernel
theorem dT_aboutMade_28 : decode mT_aboutMade.2.1 28 = .ok (.aload_n 0, 1) := by decide +kernel
theorem dT_aboutMade_29 : decode mT_aboutMade.2.1 29 = .ok (.getfield 101, 3) := by decide +kernel
theorem dT_aboutMade_32 : decode mT_aboutMade.2.1 32 = .ok (.ireturn, 1) := by decide +kernel
theorem dT_aboutMade_33 : decode mT_aboutMade.2.1 33 = .ok (.aload_n 0, 1) := by decide +kernel
theorem dT_aboutMade_34 : decode mT_aboutMade.2.1 34 = .ok (.getfield 108, 3) := by decide +kernel
theorem dT_aboutMade_37 : decode mT_aboutMade.2.1 37 = .ok (.ireturn, 1) := by decide +kernel
theorem dT_aboutMade_38 : decode mT_aboutMade.2.1 38 = .ok (.aload_n 0, 1) := by decide +kernel
theorem dT_aboutMade_39 : decode mT_aboutMade.2.1 39 = .ok (.getfield 88, 3) := by decide +kernel
theorem dT_aboutMade_42 : decode mT_aboutMade.2.1 42 = .ok (.ireturn, 1) := by decide +kernel
theorem dT_aboutMade_43 : decode mT_aboutMade.2.1 43 = .ok (.aload_n 0, 1) := by decide +kernel
theorem dT_aboutMade_44 : decode mT_aboutMade.2.1 44 = .ok (.getfield 157, 3) := by decide +kernel
theorem dT_aboutMade_47 : decode mT_aboutMade.2.1 47 = .ok (.ireturn, 1) := by decide +kernel
theorem dT_aboutPlanned_0 : decode mT_aboutPlanned.2.1 0 = .ok (.aload_n 0, 1) := by decide +kernel
theorem dT_aboutPlanned_1 : decode mT_aboutPlanned.2.1 1 = .ok (.invokevirtual 163, 3) := by decide +kernel
theorem dT_aboutPlanned_4 : decode mT_aboutPlanned.2.1 4 = .ok (.aload_n 0, 1) := by decide +kernel
theorem dT_aboutPlanned_5 : decode mT_aboutPlanned.2.1 5 = .ok (.getfield 12, 3) := by decide +kernel
theorem dT_aboutPlanned_8 : decode mT_aboutPlanned.2.1 8 = .ok (.getfield 202, 3) := by decide +kernel
theorem dT_aboutPlanned_11 : decode mT_aboutPlanned.2.1 11 = .ok (.iload_n 1, 1) := by decide +kernel
theorem dT_aboutPlanned_12 : decode mT_aboutPlanned.2.1 12 = .ok (.iaload, 1) := by decide +kernel
theorem dT_aboutPlanned_13 : decode mT_aboutPlanned.2.1 13 = .ok (.istore_n 3, 1) := by decide +kernel
theorem dT_aboutPlanned_14 : decode mT_aboutPlanned.2.1 14 = .ok (.iload_n 2, 1) := by decide +kernel
theorem dT_aboutPlanned_15 : decode mT_aboutPlanned.2.1 15 = .ok (.iconst 4, 1) := by decide +kernel
theorem dT_aboutPlanned_16 : decode mT_aboutPlanned.2.1 16 = .ok (.if_icmp .ne 5, 3) := by decide +kernel
theorem dT_aboutPlanned_19 : decode mT_aboutPlanned.2.1 19 = .ok (.iload_n 3, 1) := by decide +kernel
theorem dT_aboutPlanned_20 : decode mT_aboutPlanned.2.1 20 = .ok (.ireturn, 1) := by decide +kernel
theorem dT_aboutPlanned_21 : decode mT_aboutPlanned.2.1 21 = .ok (.iload_n 2, 1) := by decide +kernel
theorem dT_aboutPlanned_22 : decode mT_aboutPlanned.2.1 22 = .ok (.iconst 5, 1) := by decide +kernel
theorem dT_aboutPlanned_23 : decode mT_aboutPlanned.2.1 23 = .ok (.if_icmp .ne 13, 3) := by decide +kernel
theorem dT_aboutPlanned_26 : decode mT_aboutPlanned.2.1 26 = .ok (.aload_n 0, 1) := by decide +kernel
theorem dT_aboutPlanned_27 : decode mT_aboutPlanned.2.1 27 = .ok (.getfield 12, 3) := by decide +kernel
theorem dT_aboutPlanned_30 : decode mT_aboutPlanned.2.1 30 = .ok (.getfield 205, 3) := by decide +kernel
theorem dT_aboutPlanned_33 : decode mT_aboutPlanned.2.1 33 = .ok (.iload_n 3, 1) := by decide +kernel
theorem dT_aboutPlanned_34 : decode mT_aboutPlanned.2.1 34 = .ok (.iaload, 1) := by decide +kernel
theorem dT_aboutPlanned_35 : decode mT_aboutPlanned.2.1 35 = .ok (.ireturn, 1) := by decide +kernel
theorem dT_aboutPlanned_36 : decode mT_aboutPlanned.2.1 36 = .ok (.aload_n 0, 1) := by decide +kernel
theorem dT_aboutPlanned_37 : decode mT_aboutPlanned.2.1 37 = .ok (.getfield 12, 3) := by decide +kernel
theorem dT_aboutPlanned_40 : decode mT_aboutPlanned.2.1 40 = .ok (.getfield 205, 3) := by decide +kernel
theorem dT_aboutPlanned_43 : decode mT_aboutPlanned.2.1 43 = .ok (.iload_n 3, 1) := by decide +kernel
theorem dT_aboutPlanned_44 : decode mT_aboutPlanned.2.1 44 = .ok (.iaload, 1) := by decide +kernel
theorem dT_aboutPlanned_45 : decode mT_aboutPlanned.2.1 45 = .ok (.iconst 2, 1) := by decide +kernel
theorem dT_aboutPlanned_46 : decode mT_aboutPlanned.2.1 46 = .ok (.if_icmp .ne 7, 3) := by decide +kernel
theorem dT_aboutPlanned_49 : decode mT_aboutPlanned.2.1 49 = .ok (.iconst 1, 1) := by decide +kernel
theorem dT_aboutPlanned_50 : decode mT_aboutPlanned.2.1 50 = .ok (.goto 4, 3) := by decide +kernel
theorem dT_aboutPlanned_53 : decode mT_aboutPlanned.2.1 53 = .ok (.iconst 0, 1) := by decide +kernel
theorem dT_aboutPlanned_54 : decode mT_aboutPlanned.2.1 54 = .ok (.invokestatic 181, 3) := by decide +kernel
theorem dT_aboutPlanned_57 : decode mT_aboutPlanned.2.1 57 = .ok (.iload_n 2, 1) := by decide +kernel
theorem dT_aboutPlanned_58 : decode mT_aboutPlanned.2.1 58 = .ok (.bipush 6, 2) := by decide +kernel
theorem dT_aboutPlanned_60 : decode mT_aboutPlanned.2.1 60 = .ok (.if_icmp .ne 15, 3) := by decide +kernel
theorem dT_aboutPlanned_63 : decode mT_aboutPlanned.2.1 63 = .ok (.aload_n 0, 1) := by decide +kernel
theorem dT_aboutPlanned_64 : decode mT_aboutPlanned.2.1 64 = .ok (.getfield 12, 3) := by decide +kernel
theorem dT_aboutPlanned_67 : decode mT_aboutPlanned.2.1 67 = .ok (.getfield 208, 3) := by decide +kernel
theorem dT_aboutPlanned_70 : decode mT_aboutPlanned.2.1 70 = .ok (.iload_n 3, 1) := by decide +kernel
theorem dT_aboutPlanned_71 : decode mT_aboutPlanned.2.1 71 = .ok (.iaload, 1) := by decide +kernel
theorem dT_aboutPlanned_72 : decode mT_aboutPlanned.2.1 72 = .ok (.goto 12, 3) := by decide +kernel
theorem dT_aboutPlanned_75 : decode mT_aboutPlanned.2.1 75 = .ok (.aload_n 0, 1) := by decide +kernel
theorem dT_aboutPlanned_76 : decode mT_aboutPlanned.2.1 76 = .ok (.getfield 12, 3) := by decide +kernel
theorem dT_aboutPlanned_79 : decode mT_aboutPlanned.2.1 79 = .ok (.getfield 211, 3) := by decide +kernel
theorem dT_aboutPlanned_82 : decode mT_aboutPlanned.2.1 82 = .ok (.iload_n 3, 1) := by decide +kernel
theorem dT_aboutPlanned_83 : decode mT_aboutPlanned.2.1 83 = .ok (.iaload, 1) := by decide +kernel
theorem dT_aboutPlanned_84 : decode mT_aboutPlanned.2.1 84 = .ok (.ireturn, 1) := by decide +kernel
theorem dL_peak_0 : decode mL_peak.2.1 0 = .ok (.aload_n 1, 1) := by decide +kernel
theorem dL_peak_1 : decode mL_peak.2.1 1 = .ok (.iconst 0, 1) := by decide +kernel
theorem dL_peak_2 : decode mL_peak.2.1 2 = .ok (.aload_n 0, 1) := by decide +kernel
theorem dL_peak_3 : decode mL_peak.2.1 3 = .ok (.invokevirtual 87, 3) := by decide +kernel
theorem dL_peak_6 : decode mL_peak.2.1 6 = .ok (.i2l, 1) := by decide +kernel
theorem dL_peak_7 : decode mL_peak.2.1 7 = .ok (.lastore, 1) := by decide +kernel
theorem dL_peak_8 : decode mL_peak.2.1 8 = .ok (.goto 6, 3) := by decide +kernel
theorem dL_peak_11 : decode mL_peak.2.1 11 = .ok (.astore_n 2, 1) := by decide +kernel
