theorem d_Lw_law_1484 : decode code 1484 = .ok (.invokevirtual 170, 3) := by decide +kernel
theorem d_Lw_law_1487 : decode code 1487 = .ok (.istore 6, 2) := by decide +kernel
theorem d_Lw_law_1489 : decode code 1489 = .ok (.aload_n 2, 1) := by decide +kernel
theorem d_Lw_law_1490 : decode code 1490 = .ok (.invokevirtual 96, 3) := by decide +kernel
theorem d_Lw_law_1493 : decode code 1493 = .ok (.iload 5, 2) := by decide +kernel
theorem d_Lw_law_1495 : decode code 1495 = .ok (.if_icmp .eq 5, 3) := by decide +kernel
theorem d_Lw_law_1498 : decode code 1498 = .ok (.iconst 0, 1) := by decide +kernel
theorem d_Lw_law_1499 : decode code 1499 = .ok (.ireturn, 1) := by decide +kernel
theorem d_Lw_law_1500 : decode code 1500 = .ok (.iload 5, 2) := by decide +kernel
theorem d_Lw_law_1502 : decode code 1502 = .ok (.ifCond .ne 15, 3) := by decide +kernel
theorem d_Lw_law_1505 : decode code 1505 = .ok (.aload_n 3, 1) := by decide +kernel
theorem d_Lw_law_1506 : decode code 1506 = .ok (.iconst 0, 1) := by decide +kernel
theorem d_Lw_law_1507 : decode code 1507 = .ok (.laload, 1) := by decide +kernel
theorem d_Lw_law_1508 : decode code 1508 = .ok (.iload 6, 2) := by decide +kernel
theorem d_Lw_law_1510 : decode code 1510 = .ok (.i2l, 1) := by decide +kernel
theorem d_Lw_law_1511 : decode code 1511 = .ok (.lcmp, 1) := by decide +kernel
theorem d_Lw_law_1512 : decode code 1512 = .ok (.ifCond .eq 5, 3) := by decide +kernel
theorem d_Lw_law_1515 : decode code 1515 = .ok (.iconst 0, 1) := by decide +kernel
theorem d_Lw_law_1516 : decode code 1516 = .ok (.ireturn, 1) := by decide +kernel
theorem d_Lw_law_1517 : decode code 1517 = .ok (.goto 16, 3) := by decide +kernel
theorem d_Lw_law_1520 : decode code 1520 = .ok (.aload_n 1, 1) := by decide +kernel
theorem d_Lw_law_1521 : decode code 1521 = .ok (.invokevirtual 171, 3) := by decide +kernel
theorem d_Lw_law_1524 : decode code 1524 = .ok (.aload_n 2, 1) := by decide +kernel
theorem d_Lw_law_1525 : decode code 1525 = .ok (.invokevirtual 175, 3) := by decide +kernel
theorem d_Lw_law_1528 : decode code 1528 = .ok (.if_icmp .eq 5, 3) := by decide +kernel
theorem d_Lw_law_1531 : decode code 1531 = .ok (.iconst 0, 1) := by decide +kernel
theorem d_Lw_law_1532 : decode code 1532 = .ok (.ireturn, 1) := by decide +kernel
theorem d_Lw_law_1533 : decode code 1533 = .ok (.iinc 4 4, 3) := by decide +kernel
theorem d_Lw_law_1536 : decode code 1536 = .ok (.goto (-1513), 3) := by decide +kernel
theorem d_Lw_law_1539 : decode code 1539 = .ok (.iconst 1, 1) := by decide +kernel
theorem d_Lw_law_1540 : decode code 1540 = .ok (.ireturn, 1) := by decide +kernel
