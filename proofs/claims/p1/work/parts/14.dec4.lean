theorem d_Law_law_677 : decode b_Law_law 677 = .ok (.aload_n 0, 1) := by decide +kernel
theorem d_Law_law_678 : decode b_Law_law 678 = .ok (.iload 4, 2) := by decide +kernel
theorem d_Law_law_680 : decode b_Law_law 680 = .ok (.iconst 1, 1) := by decide +kernel
theorem d_Law_law_681 : decode b_Law_law 681 = .ok (.iadd, 1) := by decide +kernel
theorem d_Law_law_682 : decode b_Law_law 682 = .ok (.iaload, 1) := by decide +kernel
theorem d_Law_law_683 : decode b_Law_law 683 = .ok (.aload_n 0, 1) := by decide +kernel
theorem d_Law_law_684 : decode b_Law_law 684 = .ok (.iload 4, 2) := by decide +kernel
theorem d_Law_law_686 : decode b_Law_law 686 = .ok (.iconst 2, 1) := by decide +kernel
theorem d_Law_law_687 : decode b_Law_law 687 = .ok (.iadd, 1) := by decide +kernel
theorem d_Law_law_688 : decode b_Law_law 688 = .ok (.iaload, 1) := by decide +kernel
theorem d_Law_law_689 : decode b_Law_law 689 = .ok (.invokevirtual 88, 3) := by decide +kernel
theorem d_Law_law_692 : decode b_Law_law 692 = .ok (.if_icmp .eq 5, 3) := by decide +kernel
theorem d_Law_law_695 : decode b_Law_law 695 = .ok (.iconst 0, 1) := by decide +kernel
theorem d_Law_law_696 : decode b_Law_law 696 = .ok (.ireturn, 1) := by decide +kernel
theorem d_Law_law_697 : decode b_Law_law 697 = .ok (.iinc 4 6, 3) := by decide +kernel
theorem d_Law_law_700 : decode b_Law_law 700 = .ok (.goto (-677), 3) := by decide +kernel
theorem d_Law_law_703 : decode b_Law_law 703 = .ok (.iconst 1, 1) := by decide +kernel
theorem d_Law_law_704 : decode b_Law_law 704 = .ok (.ireturn, 1) := by decide +kernel
