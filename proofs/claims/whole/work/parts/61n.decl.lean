/-! decode rows of the law, 13 -/
theorem dL_law_2619 : decode cL_law 2619 = .ok (.iload 4, 2) := by decide +kernel
theorem dL_law_2621 : decode cL_law 2621 = .ok (.iconst 3, 1) := by decide +kernel
theorem dL_law_2622 : decode cL_law 2622 = .ok (.iadd, 1) := by decide +kernel
theorem dL_law_2623 : decode cL_law 2623 = .ok (.iaload, 1) := by decide +kernel
theorem dL_law_2624 : decode cL_law 2624 = .ok (.aload_n 3, 1) := by decide +kernel
theorem dL_law_2625 : decode cL_law 2625 = .ok (.invokestatic 344, 3) := by decide +kernel
theorem dL_law_2628 : decode cL_law 2628 = .ok (.istore 5, 2) := by decide +kernel
theorem dL_law_2630 : decode cL_law 2630 = .ok (.aload_n 2, 1) := by decide +kernel
theorem dL_law_2631 : decode cL_law 2631 = .ok (.aload_n 0, 1) := by decide +kernel
theorem dL_law_2632 : decode cL_law 2632 = .ok (.iload 4, 2) := by decide +kernel
theorem dL_law_2634 : decode cL_law 2634 = .ok (.iconst 1, 1) := by decide +kernel
theorem dL_law_2635 : decode cL_law 2635 = .ok (.iadd, 1) := by decide +kernel
theorem dL_law_2636 : decode cL_law 2636 = .ok (.iaload, 1) := by decide +kernel
theorem dL_law_2637 : decode cL_law 2637 = .ok (.aload_n 0, 1) := by decide +kernel
theorem dL_law_2638 : decode cL_law 2638 = .ok (.iload 4, 2) := by decide +kernel
theorem dL_law_2640 : decode cL_law 2640 = .ok (.iconst 2, 1) := by decide +kernel
theorem dL_law_2641 : decode cL_law 2641 = .ok (.iadd, 1) := by decide +kernel
theorem dL_law_2642 : decode cL_law 2642 = .ok (.iaload, 1) := by decide +kernel
theorem dL_law_2643 : decode cL_law 2643 = .ok (.aload_n 0, 1) := by decide +kernel
theorem dL_law_2644 : decode cL_law 2644 = .ok (.iload 4, 2) := by decide +kernel
theorem dL_law_2646 : decode cL_law 2646 = .ok (.iconst 3, 1) := by decide +kernel
theorem dL_law_2647 : decode cL_law 2647 = .ok (.iadd, 1) := by decide +kernel
theorem dL_law_2648 : decode cL_law 2648 = .ok (.iaload, 1) := by decide +kernel
theorem dL_law_2649 : decode cL_law 2649 = .ok (.invokevirtual 346, 3) := by decide +kernel
theorem dL_law_2652 : decode cL_law 2652 = .ok (.istore 6, 2) := by decide +kernel
theorem dL_law_2654 : decode cL_law 2654 = .ok (.aload_n 2, 1) := by decide +kernel
theorem dL_law_2655 : decode cL_law 2655 = .ok (.invokevirtual 159, 3) := by decide +kernel
theorem dL_law_2658 : decode cL_law 2658 = .ok (.iload 5, 2) := by decide +kernel
theorem dL_law_2660 : decode cL_law 2660 = .ok (.if_icmp .eq 5, 3) := by decide +kernel
theorem dL_law_2665 : decode cL_law 2665 = .ok (.iload 5, 2) := by decide +kernel
theorem dL_law_2667 : decode cL_law 2667 = .ok (.ifCond .ne 15, 3) := by decide +kernel
theorem dL_law_2670 : decode cL_law 2670 = .ok (.aload_n 3, 1) := by decide +kernel
theorem dL_law_2671 : decode cL_law 2671 = .ok (.iconst 0, 1) := by decide +kernel
theorem dL_law_2672 : decode cL_law 2672 = .ok (.laload, 1) := by decide +kernel
theorem dL_law_2673 : decode cL_law 2673 = .ok (.iload 6, 2) := by decide +kernel
theorem dL_law_2675 : decode cL_law 2675 = .ok (.i2l, 1) := by decide +kernel
theorem dL_law_2676 : decode cL_law 2676 = .ok (.lcmp, 1) := by decide +kernel
theorem dL_law_2677 : decode cL_law 2677 = .ok (.ifCond .eq 5, 3) := by decide +kernel
theorem dL_law_2682 : decode cL_law 2682 = .ok (.goto 556, 3) := by decide +kernel
theorem dL_law_2685 : decode cL_law 2685 = .ok (.aload_n 1, 1) := by decide +kernel
theorem dL_law_2686 : decode cL_law 2686 = .ok (.aload_n 0, 1) := by decide +kernel
theorem dL_law_2687 : decode cL_law 2687 = .ok (.iload 4, 2) := by decide +kernel
theorem dL_law_2689 : decode cL_law 2689 = .ok (.iconst 1, 1) := by decide +kernel
theorem dL_law_2690 : decode cL_law 2690 = .ok (.iadd, 1) := by decide +kernel
theorem dL_law_2691 : decode cL_law 2691 = .ok (.iaload, 1) := by decide +kernel
theorem dL_law_2692 : decode cL_law 2692 = .ok (.aload_n 0, 1) := by decide +kernel
theorem dL_law_2693 : decode cL_law 2693 = .ok (.iload 4, 2) := by decide +kernel
theorem dL_law_2695 : decode cL_law 2695 = .ok (.iconst 2, 1) := by decide +kernel
theorem dL_law_2696 : decode cL_law 2696 = .ok (.iadd, 1) := by decide +kernel
theorem dL_law_2697 : decode cL_law 2697 = .ok (.iaload, 1) := by decide +kernel
theorem dL_law_2698 : decode cL_law 2698 = .ok (.aload_n 3, 1) := by decide +kernel
theorem dL_law_2699 : decode cL_law 2699 = .ok (.invokestatic 347, 3) := by decide +kernel
theorem dL_law_2702 : decode cL_law 2702 = .ok (.istore 5, 2) := by decide +kernel
theorem dL_law_2704 : decode cL_law 2704 = .ok (.aload_n 2, 1) := by decide +kernel
theorem dL_law_2705 : decode cL_law 2705 = .ok (.aload_n 0, 1) := by decide +kernel
theorem dL_law_2706 : decode cL_law 2706 = .ok (.iload 4, 2) := by decide +kernel
theorem dL_law_2708 : decode cL_law 2708 = .ok (.iconst 1, 1) := by decide +kernel
theorem dL_law_2709 : decode cL_law 2709 = .ok (.iadd, 1) := by decide +kernel
theorem dL_law_2710 : decode cL_law 2710 = .ok (.iaload, 1) := by decide +kernel
theorem dL_law_2711 : decode cL_law 2711 = .ok (.aload_n 0, 1) := by decide +kernel
theorem dL_law_2712 : decode cL_law 2712 = .ok (.iload 4, 2) := by decide +kernel
theorem dL_law_2714 : decode cL_law 2714 = .ok (.iconst 2, 1) := by decide +kernel
theorem dL_law_2715 : decode cL_law 2715 = .ok (.iadd, 1) := by decide +kernel
theorem dL_law_2716 : decode cL_law 2716 = .ok (.iaload, 1) := by decide +kernel
theorem dL_law_2717 : decode cL_law 2717 = .ok (.invokevirtual 349, 3) := by decide +kernel
theorem dL_law_2720 : decode cL_law 2720 = .ok (.istore 6, 2) := by decide +kernel
theorem dL_law_2722 : decode cL_law 2722 = .ok (.aload_n 2, 1) := by decide +kernel
theorem dL_law_2723 : decode cL_law 2723 = .ok (.invokevirtual 159, 3) := by decide +kernel
theorem dL_law_2726 : decode cL_law 2726 = .ok (.iload 5, 2) := by decide +kernel
theorem dL_law_2728 : decode cL_law 2728 = .ok (.if_icmp .eq 5, 3) := by decide +kernel
theorem dL_law_2733 : decode cL_law 2733 = .ok (.iload 5, 2) := by decide +kernel
theorem dL_law_2735 : decode cL_law 2735 = .ok (.ifCond .ne 15, 3) := by decide +kernel
theorem dL_law_2738 : decode cL_law 2738 = .ok (.aload_n 3, 1) := by decide +kernel
theorem dL_law_2739 : decode cL_law 2739 = .ok (.iconst 0, 1) := by decide +kernel
theorem dL_law_2740 : decode cL_law 2740 = .ok (.laload, 1) := by decide +kernel
theorem dL_law_2741 : decode cL_law 2741 = .ok (.iload 6, 2) := by decide +kernel
theorem dL_law_2743 : decode cL_law 2743 = .ok (.i2l, 1) := by decide +kernel
theorem dL_law_2744 : decode cL_law 2744 = .ok (.lcmp, 1) := by decide +kernel
theorem dL_law_2745 : decode cL_law 2745 = .ok (.ifCond .eq 5, 3) := by decide +kernel
theorem dL_law_2750 : decode cL_law 2750 = .ok (.goto 488, 3) := by decide +kernel
theorem dL_law_2753 : decode cL_law 2753 = .ok (.aload_n 1, 1) := by decide +kernel
theorem dL_law_2754 : decode cL_law 2754 = .ok (.aload_n 0, 1) := by decide +kernel
theorem dL_law_2755 : decode cL_law 2755 = .ok (.iload 4, 2) := by decide +kernel
theorem dL_law_2757 : decode cL_law 2757 = .ok (.iconst 1, 1) := by decide +kernel
theorem dL_law_2758 : decode cL_law 2758 = .ok (.iadd, 1) := by decide +kernel
theorem dL_law_2759 : decode cL_law 2759 = .ok (.iaload, 1) := by decide +kernel
theorem dL_law_2760 : decode cL_law 2760 = .ok (.aload_n 0, 1) := by decide +kernel
theorem dL_law_2761 : decode cL_law 2761 = .ok (.iload 4, 2) := by decide +kernel
theorem dL_law_2763 : decode cL_law 2763 = .ok (.iconst 2, 1) := by decide +kernel
theorem dL_law_2764 : decode cL_law 2764 = .ok (.iadd, 1) := by decide +kernel
theorem dL_law_2765 : decode cL_law 2765 = .ok (.iaload, 1) := by decide +kernel
theorem dL_law_2766 : decode cL_law 2766 = .ok (.aload_n 0, 1) := by decide +kernel
theorem dL_law_2767 : decode cL_law 2767 = .ok (.iload 4, 2) := by decide +kernel
theorem dL_law_2769 : decode cL_law 2769 = .ok (.iconst 3, 1) := by decide +kernel
theorem dL_law_2770 : decode cL_law 2770 = .ok (.iadd, 1) := by decide +kernel
theorem dL_law_2771 : decode cL_law 2771 = .ok (.iaload, 1) := by decide +kernel
theorem dL_law_2772 : decode cL_law 2772 = .ok (.aload_n 3, 1) := by decide +kernel
theorem dL_law_2773 : decode cL_law 2773 = .ok (.invokestatic 350, 3) := by decide +kernel
theorem dL_law_2776 : decode cL_law 2776 = .ok (.istore 5, 2) := by decide +kernel
theorem dL_law_2778 : decode cL_law 2778 = .ok (.aload_n 2, 1) := by decide +kernel
