theorem dL_law_2593 : decode cL_law 2593 = .ok (.i2l, 1) := by decide +kernel
theorem dL_law_2594 : decode cL_law 2594 = .ok (.lcmp, 1) := by decide +kernel
theorem dL_law_2595 : decode cL_law 2595 = .ok (.ifCond .eq 5, 3) := by decide +kernel
theorem dL_law_2598 : decode cL_law 2598 = .ok (.iconst 0, 1) := by decide +kernel
theorem dL_law_2599 : decode cL_law 2599 = .ok (.ireturn, 1) := by decide +kernel
theorem dL_law_2600 : decode cL_law 2600 = .ok (.goto 662, 3) := by decide +kernel
theorem dL_law_2603 : decode cL_law 2603 = .ok (.aload_n 1, 1) := by decide +kernel
theorem dL_law_2604 : decode cL_law 2604 = .ok (.aload_n 0, 1) := by decide +kernel
theorem dL_law_2605 : decode cL_law 2605 = .ok (.iload 4, 2) := by decide +kernel
theorem dL_law_2607 : decode cL_law 2607 = .ok (.iconst 1, 1) := by decide +kernel
theorem dL_law_2608 : decode cL_law 2608 = .ok (.iadd, 1) := by decide +kernel
theorem dL_law_2609 : decode cL_law 2609 = .ok (.iaload, 1) := by decide +kernel
theorem dL_law_2610 : decode cL_law 2610 = .ok (.aload_n 0, 1) := by decide +kernel
theorem dL_law_2611 : decode cL_law 2611 = .ok (.iload 4, 2) := by decide +kernel
theorem dL_law_2613 : decode cL_law 2613 = .ok (.iconst 2, 1) := by decide +kernel
theorem dL_law_2614 : decode cL_law 2614 = .ok (.iadd, 1) := by decide +kernel
theorem dL_law_2615 : decode cL_law 2615 = .ok (.iaload, 1) := by decide +kernel
theorem dL_law_2616 : decode cL_law 2616 = .ok (.aload_n 0, 1) := by decide +kernel
theorem dL_law_2617 : decode cL_law 2617 = .ok (.iload 4, 2) := by decide +kernel
theorem dL_law_2619 : decode cL_law 2619 = .ok (.iconst 3, 1) := by decide +kernel
theorem dL_law_2620 : decode cL_law 2620 = .ok (.iadd, 1) := by decide +kernel
theorem dL_law_2621 : decode cL_law 2621 = .ok (.iaload, 1) := by decide +kernel
theorem dL_law_2622 : decode cL_law 2622 = .ok (.aload_n 3, 1) := by decide +kernel
theorem dL_law_2623 : decode cL_law 2623 = .ok (.invokestatic 267, 3) := by decide +kernel
theorem dL_law_2626 : decode cL_law 2626 = .ok (.istore 5, 2) := by decide +kernel
theorem dL_law_2628 : decode cL_law 2628 = .ok (.aload_n 2, 1) := by decide +kernel
theorem dL_law_2629 : decode cL_law 2629 = .ok (.aload_n 0, 1) := by decide +kernel
theorem dL_law_2630 : decode cL_law 2630 = .ok (.iload 4, 2) := by decide +kernel
theorem dL_law_2632 : decode cL_law 2632 = .ok (.iconst 1, 1) := by decide +kernel
theorem dL_law_2633 : decode cL_law 2633 = .ok (.iadd, 1) := by decide +kernel
theorem dL_law_2634 : decode cL_law 2634 = .ok (.iaload, 1) := by decide +kernel
theorem dL_law_2635 : decode cL_law 2635 = .ok (.aload_n 0, 1) := by decide +kernel
theorem dL_law_2636 : decode cL_law 2636 = .ok (.iload 4, 2) := by decide +kernel
theorem dL_law_2638 : decode cL_law 2638 = .ok (.iconst 2, 1) := by decide +kernel
theorem dL_law_2639 : decode cL_law 2639 = .ok (.iadd, 1) := by decide +kernel
theorem dL_law_2640 : decode cL_law 2640 = .ok (.iaload, 1) := by decide +kernel
theorem dL_law_2641 : decode cL_law 2641 = .ok (.aload_n 0, 1) := by decide +kernel
theorem dL_law_2642 : decode cL_law 2642 = .ok (.iload 4, 2) := by decide +kernel
theorem dL_law_2644 : decode cL_law 2644 = .ok (.iconst 3, 1) := by decide +kernel
theorem dL_law_2645 : decode cL_law 2645 = .ok (.iadd, 1) := by decide +kernel
theorem dL_law_2646 : decode cL_law 2646 = .ok (.iaload, 1) := by decide +kernel
theorem dL_law_2647 : decode cL_law 2647 = .ok (.invokevirtual 269, 3) := by decide +kernel
theorem dL_law_2650 : decode cL_law 2650 = .ok (.istore 6, 2) := by decide +kernel
theorem dL_law_2652 : decode cL_law 2652 = .ok (.aload_n 2, 1) := by decide +kernel
theorem dL_law_2653 : decode cL_law 2653 = .ok (.invokevirtual 156, 3) := by decide +kernel
theorem dL_law_2656 : decode cL_law 2656 = .ok (.iload 5, 2) := by decide +kernel
theorem dL_law_2658 : decode cL_law 2658 = .ok (.if_icmp .eq 5, 3) := by decide +kernel
theorem dL_law_2661 : decode cL_law 2661 = .ok (.iconst 0, 1) := by decide +kernel
theorem dL_law_2662 : decode cL_law 2662 = .ok (.ireturn, 1) := by decide +kernel
theorem dL_law_2663 : decode cL_law 2663 = .ok (.iload 5, 2) := by decide +kernel
theorem dL_law_2665 : decode cL_law 2665 = .ok (.ifCond .ne 15, 3) := by decide +kernel
theorem dL_law_2668 : decode cL_law 2668 = .ok (.aload_n 3, 1) := by decide +kernel
theorem dL_law_2669 : decode cL_law 2669 = .ok (.iconst 0, 1) := by decide +kernel
theorem dL_law_2670 : decode cL_law 2670 = .ok (.laload, 1) := by decide +kernel
theorem dL_law_2671 : decode cL_law 2671 = .ok (.iload 6, 2) := by decide +kernel
theorem dL_law_2673 : decode cL_law 2673 = .ok (.i2l, 1) := by decide +kernel
theorem dL_law_2674 : decode cL_law 2674 = .ok (.lcmp, 1) := by decide +kernel
theorem dL_law_2675 : decode cL_law 2675 = .ok (.ifCond .eq 5, 3) := by decide +kernel
theorem dL_law_2678 : decode cL_law 2678 = .ok (.iconst 0, 1) := by decide +kernel
theorem dL_law_2679 : decode cL_law 2679 = .ok (.ireturn, 1) := by decide +kernel
theorem dL_law_2680 : decode cL_law 2680 = .ok (.goto 582, 3) := by decide +kernel
theorem dL_law_2683 : decode cL_law 2683 = .ok (.aload_n 1, 1) := by decide +kernel
theorem dL_law_2684 : decode cL_law 2684 = .ok (.aload_n 0, 1) := by decide +kernel
theorem dL_law_2685 : decode cL_law 2685 = .ok (.iload 4, 2) := by decide +kernel
theorem dL_law_2687 : decode cL_law 2687 = .ok (.iconst 1, 1) := by decide +kernel
theorem dL_law_2688 : decode cL_law 2688 = .ok (.iadd, 1) := by decide +kernel
theorem dL_law_2689 : decode cL_law 2689 = .ok (.iaload, 1) := by decide +kernel
theorem dL_law_2690 : decode cL_law 2690 = .ok (.aload_n 0, 1) := by decide +kernel
theorem dL_law_2691 : decode cL_law 2691 = .ok (.iload 4, 2) := by decide +kernel
theorem dL_law_2693 : decode cL_law 2693 = .ok (.iconst 2, 1) := by decide +kernel
theorem dL_law_2694 : decode cL_law 2694 = .ok (.iadd, 1) := by decide +kernel
theorem dL_law_2695 : decode cL_law 2695 = .ok (.iaload, 1) := by decide +kernel
theorem dL_law_2696 : decode cL_law 2696 = .ok (.aload_n 0, 1) := by decide +kernel
theorem dL_law_2697 : decode cL_law 2697 = .ok (.iload 4, 2) := by decide +kernel
theorem dL_law_2699 : decode cL_law 2699 = .ok (.iconst 3, 1) := by decide +kernel
theorem dL_law_2700 : decode cL_law 2700 = .ok (.iadd, 1) := by decide +kernel
theorem dL_law_2701 : decode cL_law 2701 = .ok (.iaload, 1) := by decide +kernel
theorem dL_law_2702 : decode cL_law 2702 = .ok (.aload_n 3, 1) := by decide +kernel
theorem dL_law_2703 : decode cL_law 2703 = .ok (.invokestatic 270, 3) := by decide +kernel
theorem dL_law_2706 : decode cL_law 2706 = .ok (.istore 5, 2) := by decide +kernel
theorem dL_law_2708 : decode cL_law 2708 = .ok (.aload_n 2, 1) := by decide +kernel
theorem dL_law_2709 : decode cL_law 2709 = .ok (.aload_n 0, 1) := by decide +kernel
theorem dL_law_2710 : decode cL_law 2710 = .ok (.iload 4, 2) := by decide +kernel
theorem dL_law_2712 : decode cL_law 2712 = .ok (.iconst 1, 1) := by decide +kernel
theorem dL_law_2713 : decode cL_law 2713 = .ok (.iadd, 1) := by decide +kernel
theorem dL_law_2714 : decode cL_law 2714 = .ok (.iaload, 1) := by decide +kernel
theorem dL_law_2715 : decode cL_law 2715 = .ok (.aload_n 0, 1) := by decide +kernel
theorem dL_law_2716 : decode cL_law 2716 = .ok (.iload 4, 2) := by decide +kernel
theorem dL_law_2718 : decode cL_law 2718 = .ok (.iconst 2, 1) := by decide +kernel
theorem dL_law_2719 : decode cL_law 2719 = .ok (.iadd, 1) := by decide +kernel
theorem dL_law_2720 : decode cL_law 2720 = .ok (.iaload, 1) := by decide +kernel
theorem dL_law_2721 : decode cL_law 2721 = .ok (.aload_n 0, 1) := by decide +kernel
theorem dL_law_2722 : decode cL_law 2722 = .ok (.iload 4, 2) := by decide +kernel
theorem dL_law_2724 : decode cL_law 2724 = .ok (.iconst 3, 1) := by decide +kernel
theorem dL_law_2725 : decode cL_law 2725 = .ok (.iadd, 1) := by decide +kernel
theorem dL_law_2726 : decode cL_law 2726 = .ok (.iaload, 1) := by decide +kernel
theorem dL_law_2727 : decode cL_law 2727 = .ok (.invokevirtual 272, 3) := by decide +kernel
theorem dL_law_2730 : decode cL_law 2730 = .ok (.istore 6, 2) := by decide +kernel
theorem dL_law_2732 : decode cL_law 2732 = .ok (.aload_n 2, 1) := by decide +kernel
theorem dL_law_2733 : decode cL_law 2733 = .ok (.invokevirtual 156, 3) := by decide +kernel
theorem dL_law_2736 : decode cL_law 2736 = .ok (.iload 5, 2) := by decide +kernel
theorem dL_law_2738 : decode cL_law 2738 = .ok (.if_icmp .eq 5, 3) := by decide +kernel
theorem dL_law_2741 : decode cL_law 2741 = .ok (.iconst 0, 1) := by decide +kernel
theorem dL_law_2742 : decode cL_law 2742 = .ok (.ireturn, 1) := by decide +kernel
theorem dL_law_2743 : decode cL_law 2743 = .ok (.iload 5, 2) := by decide +kernel
theorem dL_law_2745 : decode cL_law 2745 = .ok (.ifCond .ne 15, 3) := by decide +kernel
theorem dL_law_2748 : decode cL_law 2748 = .ok (.aload_n 3, 1) := by decide +kernel
theorem dL_law_2749 : decode cL_law 2749 = .ok (.iconst 0, 1) := by decide +kernel
theorem dL_law_2750 : decode cL_law 2750 = .ok (.laload, 1) := by decide +kernel
theorem dL_law_2751 : decode cL_law 2751 = .ok (.iload 6, 2) := by decide +kernel
theorem dL_law_2753 : decode cL_law 2753 = .ok (.i2l, 1) := by decide +kernel
theorem dL_law_2754 : decode cL_law 2754 = .ok (.lcmp, 1) := by decide +kernel
theorem dL_law_2755 : decode cL_law 2755 = .ok (.ifCond .eq 5, 3) := by decide +kernel
theorem dL_law_2758 : decode cL_law 2758 = .ok (.iconst 0, 1) := by decide +kernel
theorem dL_law_2759 : decode cL_law 2759 = .ok (.ireturn, 1) := by decide +kernel
theorem dL_law_2760 : decode cL_law 2760 = .ok (.goto 502, 3) := by decide +kernel
theorem dL_law_2763 : decode cL_law 2763 = .ok (.aload_n 1, 1) := by decide +kernel
theorem dL_law_2764 : decode cL_law 2764 = .ok (.aload_n 0, 1) := by decide +kernel
theorem dL_law_2765 : decode cL_law 2765 = .ok (.iload 4, 2) := by decide +kernel
theorem dL_law_2767 : decode cL_law 2767 = .ok (.iconst 1, 1) := by decide +kernel
theorem dL_law_2768 : decode cL_law 2768 = .ok (.iadd, 1) := by decide +kernel
theorem dL_law_2769 : decode cL_law 2769 = .ok (.iaload, 1) := by decide +kernel
theorem dL_law_2770 : decode cL_law 2770 = .ok (.aload_n 0, 1) := by decide +kernel
theorem dL_law_2771 : decode cL_law 2771 = .ok (.iload 4, 2) := by decide +kernel
theorem dL_law_2773 : decode cL_law 2773 = .ok (.iconst 2, 1) := by decide +kernel
theorem dL_law_2774 : decode cL_law 2774 = .ok (.iadd, 1) := by decide +kernel
theorem dL_law_2775 : decode cL_law 2775 = .ok (.iaload, 1) := by decide +kernel
theorem dL_law_2776 : decode cL_law 2776 = .ok (.aload_n 0, 1) := by decide +kernel
theorem dL_law_2777 : decode cL_law 2777 = .ok (.iload 4, 2) := by decide +kernel
theorem dL_law_2779 : decode cL_law 2779 = .ok (.iconst 3, 1) := by decide +kernel
theorem dL_law_2780 : decode cL_law 2780 = .ok (.iadd, 1) := by decide +kernel
theorem dL_law_2781 : decode cL_law 2781 = .ok (.iaload, 1) := by decide +kernel
theorem dL_law_2782 : decode cL_law 2782 = .ok (.aload_n 3, 1) := by decide +kernel
theorem dL_law_2783 : decode cL_law 2783 = .ok (.invokestatic 273, 3) := by decide +kernel
theorem dL_law_2786 : decode cL_law 2786 = .ok (.istore 5, 2) := by decide +kernel
theorem dL_law_2788 : decode cL_law 2788 = .ok (.aload_n 2, 1) := by decide +kernel
theorem dL_law_2789 : decode cL_law 2789 = .ok (.aload_n 0, 1) := by decide +kernel
theorem dL_law_2790 : decode cL_law 2790 = .ok (.iload 4, 2) := by decide +kernel
theorem dL_law_2792 : decode cL_law 2792 = .ok (.iconst 1, 1) := by decide +kernel
theorem dL_law_2793 : decode cL_law 2793 = .ok (.iadd, 1) := by decide +kernel
theorem dL_law_2794 : decode cL_law 2794 = .ok (.iaload, 1) := by decide +kernel
theorem dL_law_2795 : decode cL_law 2795 = .ok (.aload_n 0, 1) := by decide +kernel
theorem dL_law_2796 : decode cL_law 2796 = .ok (.iload 4, 2) := by decide +kernel
theorem dL_law_2798 : decode cL_law 2798 = .ok (.iconst 2, 1) := by decide +kernel
theorem dL_law_2799 : decode cL_law 2799 = .ok (.iadd, 1) := by decide +kernel
theorem dL_law_2800 : decode cL_law 2800 = .ok (.iaload, 1) := by decide +kernel
theorem dL_law_2801 : decode cL_law 2801 = .ok (.aload_n 0, 1) := by decide +kernel
theorem dL_law_2802 : decode cL_law 2802 = .ok (.iload 4, 2) := by decide +kernel
theorem dL_law_2804 : decode cL_law 2804 = .ok (.iconst 3, 1) := by decide +kernel
theorem dL_law_2805 : decode cL_law 2805 = .ok (.iadd, 1) := by decide +kernel
theorem dL_law_2806 : decode cL_law 2806 = .ok (.iaload, 1) := by decide +kernel
theorem dL_law_2807 : decode cL_law 2807 = .ok (.invokevirtual 275, 3) := by decide +kernel
theorem dL_law_2810 : decode cL_law 2810 = .ok (.istore 6, 2) := by decide +kernel
theorem dL_law_2812 : decode cL_law 2812 = .ok (.aload_n 2, 1) := by decide +kernel
theorem dL_law_2813 : decode cL_law 2813 = .ok (.invokevirtual 156, 3) := by decide +kernel
theorem dL_law_2816 : decode cL_law 2816 = .ok (.iload 5, 2) := by decide +kernel
theorem dL_law_2818 : decode cL_law 2818 = .ok (.if_icmp .eq 5, 3) := by decide +kernel
theorem dL_law_2821 : decode cL_law 2821 = .ok (.iconst 0, 1) := by decide +kernel
theorem dL_law_2822 : decode cL_law 2822 = .ok (.ireturn, 1) := by decide +kernel
theorem dL_law_2823 : decode cL_law 2823 = .ok (.iload 5, 2) := by decide +kernel
theorem dL_law_2825 : decode cL_law 2825 = .ok (.ifCond .ne 15, 3) := by decide +kernel
theorem dL_law_2828 : decode cL_law 2828 = .ok (.aload_n 3, 1) := by decide +kernel
theorem dL_law_2829 : decode cL_law 2829 = .ok (.iconst 0, 1) := by decide +kernel
theorem dL_law_2830 : decode cL_law 2830 = .ok (.laload, 1) := by decide +kernel
theorem dL_law_2831 : decode cL_law 2831 = .ok (.iload 6, 2) := by decide +kernel
theorem dL_law_2833 : decode cL_law 2833 = .ok (.i2l, 1) := by decide +kernel
theorem dL_law_2834 : decode cL_law 2834 = .ok (.lcmp, 1) := by decide +kernel
theorem dL_law_2835 : decode cL_law 2835 = .ok (.ifCond .eq 5, 3) := by decide +kernel
theorem dL_law_2838 : decode cL_law 2838 = .ok (.iconst 0, 1) := by decide +kernel
theorem dL_law_2839 : decode cL_law 2839 = .ok (.ireturn, 1) := by decide +kernel
theorem dL_law_2840 : decode cL_law 2840 = .ok (.goto 422, 3) := by decide +kernel
theorem dL_law_2843 : decode cL_law 2843 = .ok (.aload_n 1, 1) := by decide +kernel
theorem dL_law_2844 : decode cL_law 2844 = .ok (.aload_n 3, 1) := by decide +kernel
theorem dL_law_2845 : decode cL_law 2845 = .ok (.invokestatic 276, 3) := by decide +kernel
theorem dL_law_2848 : decode cL_law 2848 = .ok (.istore 5, 2) := by decide +kernel
theorem dL_law_2850 : decode cL_law 2850 = .ok (.aload_n 2, 1) := by decide +kernel
theorem dL_law_2851 : decode cL_law 2851 = .ok (.invokevirtual 278, 3) := by decide +kernel
theorem dL_law_2854 : decode cL_law 2854 = .ok (.istore 6, 2) := by decide +kernel
theorem dL_law_2856 : decode cL_law 2856 = .ok (.aload_n 2, 1) := by decide +kernel
theorem dL_law_2857 : decode cL_law 2857 = .ok (.invokevirtual 156, 3) := by decide +kernel
theorem dL_law_2860 : decode cL_law 2860 = .ok (.iload 5, 2) := by decide +kernel
theorem dL_law_2862 : decode cL_law 2862 = .ok (.if_icmp .eq 5, 3) := by decide +kernel
theorem dL_law_2865 : decode cL_law 2865 = .ok (.iconst 0, 1) := by decide +kernel
theorem dL_law_2866 : decode cL_law 2866 = .ok (.ireturn, 1) := by decide +kernel
theorem dL_law_2867 : decode cL_law 2867 = .ok (.iload 5, 2) := by decide +kernel
theorem dL_law_2869 : decode cL_law 2869 = .ok (.ifCond .ne 15, 3) := by decide +kernel
theorem dL_law_2872 : decode cL_law 2872 = .ok (.aload_n 3, 1) := by decide +kernel
theorem dL_law_2873 : decode cL_law 2873 = .ok (.iconst 0, 1) := by decide +kernel
theorem dL_law_2874 : decode cL_law 2874 = .ok (.laload, 1) := by decide +kernel
theorem dL_law_2875 : decode cL_law 2875 = .ok (.iload 6, 2) := by decide +kernel
theorem dL_law_2877 : decode cL_law 2877 = .ok (.i2l, 1) := by decide +kernel
theorem dL_law_2878 : decode cL_law 2878 = .ok (.lcmp, 1) := by decide +kernel
theorem dL_law_2879 : decode cL_law 2879 = .ok (.ifCond .eq 5, 3) := by decide +kernel
theorem dL_law_2882 : decode cL_law 2882 = .ok (.iconst 0, 1) := by decide +kernel
theorem dL_law_2883 : decode cL_law 2883 = .ok (.ireturn, 1) := by decide +kernel
theorem dL_law_2884 : decode cL_law 2884 = .ok (.goto 378, 3) := by decide +kernel
theorem dL_law_2887 : decode cL_law 2887 = .ok (.aload_n 1, 1) := by decide +kernel
theorem dL_law_2888 : decode cL_law 2888 = .ok (.aload_n 0, 1) := by decide +kernel
theorem dL_law_2889 : decode cL_law 2889 = .ok (.iload 4, 2) := by decide +kernel
theorem dL_law_2891 : decode cL_law 2891 = .ok (.iconst 1, 1) := by decide +kernel
theorem dL_law_2892 : decode cL_law 2892 = .ok (.iadd, 1) := by decide +kernel
theorem dL_law_2893 : decode cL_law 2893 = .ok (.iaload, 1) := by decide +kernel
theorem dL_law_2894 : decode cL_law 2894 = .ok (.aload_n 0, 1) := by decide +kernel
theorem dL_law_2895 : decode cL_law 2895 = .ok (.iload 4, 2) := by decide +kernel
theorem dL_law_2897 : decode cL_law 2897 = .ok (.iconst 2, 1) := by decide +kernel
theorem dL_law_2898 : decode cL_law 2898 = .ok (.iadd, 1) := by decide +kernel
theorem dL_law_2899 : decode cL_law 2899 = .ok (.iaload, 1) := by decide +kernel
theorem dL_law_2900 : decode cL_law 2900 = .ok (.aload_n 0, 1) := by decide +kernel
theorem dL_law_2901 : decode cL_law 2901 = .ok (.iload 4, 2) := by decide +kernel
theorem dL_law_2903 : decode cL_law 2903 = .ok (.iconst 3, 1) := by decide +kernel
theorem dL_law_2904 : decode cL_law 2904 = .ok (.iadd, 1) := by decide +kernel
theorem dL_law_2905 : decode cL_law 2905 = .ok (.iaload, 1) := by decide +kernel
theorem dL_law_2906 : decode cL_law 2906 = .ok (.aload_n 3, 1) := by decide +kernel
theorem dL_law_2907 : decode cL_law 2907 = .ok (.invokestatic 279, 3) := by decide +kernel
theorem dL_law_2910 : decode cL_law 2910 = .ok (.istore 5, 2) := by decide +kernel
theorem dL_law_2912 : decode cL_law 2912 = .ok (.aload_n 2, 1) := by decide +kernel
theorem dL_law_2913 : decode cL_law 2913 = .ok (.aload_n 0, 1) := by decide +kernel
theorem dL_law_2914 : decode cL_law 2914 = .ok (.iload 4, 2) := by decide +kernel
theorem dL_law_2916 : decode cL_law 2916 = .ok (.iconst 1, 1) := by decide +kernel
theorem dL_law_2917 : decode cL_law 2917 = .ok (.iadd, 1) := by decide +kernel
theorem dL_law_2918 : decode cL_law 2918 = .ok (.iaload, 1) := by decide +kernel
theorem dL_law_2919 : decode cL_law 2919 = .ok (.aload_n 0, 1) := by decide +kernel
theorem dL_law_2920 : decode cL_law 2920 = .ok (.iload 4, 2) := by decide +kernel
theorem dL_law_2922 : decode cL_law 2922 = .ok (.iconst 2, 1) := by decide +kernel
theorem dL_law_2923 : decode cL_law 2923 = .ok (.iadd, 1) := by decide +kernel
theorem dL_law_2924 : decode cL_law 2924 = .ok (.iaload, 1) := by decide +kernel
theorem dL_law_2925 : decode cL_law 2925 = .ok (.aload_n 0, 1) := by decide +kernel
theorem dL_law_2926 : decode cL_law 2926 = .ok (.iload 4, 2) := by decide +kernel
theorem dL_law_2928 : decode cL_law 2928 = .ok (.iconst 3, 1) := by decide +kernel
theorem dL_law_2929 : decode cL_law 2929 = .ok (.iadd, 1) := by decide +kernel
theorem dL_law_2930 : decode cL_law 2930 = .ok (.iaload, 1) := by decide +kernel
theorem dL_law_2931 : decode cL_law 2931 = .ok (.invokevirtual 281, 3) := by decide +kernel
theorem dL_law_2934 : decode cL_law 2934 = .ok (.istore 6, 2) := by decide +kernel
theorem dL_law_2936 : decode cL_law 2936 = .ok (.aload_n 2, 1) := by decide +kernel
theorem dL_law_2937 : decode cL_law 2937 = .ok (.invokevirtual 156, 3) := by decide +kernel
theorem dL_law_2940 : decode cL_law 2940 = .ok (.iload 5, 2) := by decide +kernel
theorem dL_law_2942 : decode cL_law 2942 = .ok (.if_icmp .eq 5, 3) := by decide +kernel
theorem dL_law_2945 : decode cL_law 2945 = .ok (.iconst 0, 1) := by decide +kernel
theorem dL_law_2946 : decode cL_law 2946 = .ok (.ireturn, 1) := by decide +kernel
theorem dL_law_2947 : decode cL_law 2947 = .ok (.iload 5, 2) := by decide +kernel
theorem dL_law_2949 : decode cL_law 2949 = .ok (.ifCond .ne 15, 3) := by decide +kernel
theorem dL_law_2952 : decode cL_law 2952 = .ok (.aload_n 3, 1) := by decide +kernel
theorem dL_law_2953 : decode cL_law 2953 = .ok (.iconst 0, 1) := by decide +kernel
theorem dL_law_2954 : decode cL_law 2954 = .ok (.laload, 1) := by decide +kernel
theorem dL_law_2955 : decode cL_law 2955 = .ok (.iload 6, 2) := by decide +kernel
theorem dL_law_2957 : decode cL_law 2957 = .ok (.i2l, 1) := by decide +kernel
theorem dL_law_2958 : decode cL_law 2958 = .ok (.lcmp, 1) := by decide +kernel
theorem dL_law_2959 : decode cL_law 2959 = .ok (.ifCond .eq 5, 3) := by decide +kernel
theorem dL_law_2962 : decode cL_law 2962 = .ok (.iconst 0, 1) := by decide +kernel
theorem dL_law_2963 : decode cL_law 2963 = .ok (.ireturn, 1) := by decide +kernel
theorem dL_law_2964 : decode cL_law 2964 = .ok (.goto 298, 3) := by decide +kernel
theorem dL_law_2967 : decode cL_law 2967 = .ok (.aload_n 1, 1) := by decide +kernel
theorem dL_law_2968 : decode cL_law 2968 = .ok (.aload_n 0, 1) := by decide +kernel
theorem dL_law_2969 : decode cL_law 2969 = .ok (.iload 4, 2) := by decide +kernel
theorem dL_law_2971 : decode cL_law 2971 = .ok (.iconst 1, 1) := by decide +kernel
theorem dL_law_2972 : decode cL_law 2972 = .ok (.iadd, 1) := by decide +kernel
theorem dL_law_2973 : decode cL_law 2973 = .ok (.iaload, 1) := by decide +kernel
theorem dL_law_2974 : decode cL_law 2974 = .ok (.aload_n 0, 1) := by decide +kernel
theorem dL_law_2975 : decode cL_law 2975 = .ok (.iload 4, 2) := by decide +kernel
theorem dL_law_2977 : decode cL_law 2977 = .ok (.iconst 2, 1) := by decide +kernel
theorem dL_law_2978 : decode cL_law 2978 = .ok (.iadd, 1) := by decide +kernel
theorem dL_law_2979 : decode cL_law 2979 = .ok (.iaload, 1) := by decide +kernel
theorem dL_law_2980 : decode cL_law 2980 = .ok (.aload_n 3, 1) := by decide +kernel
theorem dL_law_2981 : decode cL_law 2981 = .ok (.invokestatic 282, 3) := by decide +kernel
theorem dL_law_2984 : decode cL_law 2984 = .ok (.istore 5, 2) := by decide +kernel
theorem dL_law_2986 : decode cL_law 2986 = .ok (.aload_n 2, 1) := by decide +kernel
theorem dL_law_2987 : decode cL_law 2987 = .ok (.aload_n 0, 1) := by decide +kernel
theorem dL_law_2988 : decode cL_law 2988 = .ok (.iload 4, 2) := by decide +kernel
theorem dL_law_2990 : decode cL_law 2990 = .ok (.iconst 1, 1) := by decide +kernel
theorem dL_law_2991 : decode cL_law 2991 = .ok (.iadd, 1) := by decide +kernel
theorem dL_law_2992 : decode cL_law 2992 = .ok (.iaload, 1) := by decide +kernel
theorem dL_law_2993 : decode cL_law 2993 = .ok (.aload_n 0, 1) := by decide +kernel
theorem dL_law_2994 : decode cL_law 2994 = .ok (.iload 4, 2) := by decide +kernel
theorem dL_law_2996 : decode cL_law 2996 = .ok (.iconst 2, 1) := by decide +kernel
theorem dL_law_2997 : decode cL_law 2997 = .ok (.iadd, 1) := by decide +kernel
theorem dL_law_2998 : decode cL_law 2998 = .ok (.iaload, 1) := by decide +kernel
theorem dL_law_2999 : decode cL_law 2999 = .ok (.invokevirtual 284, 3) := by decide +kernel
theorem dL_law_3002 : decode cL_law 3002 = .ok (.istore 6, 2) := by decide +kernel
theorem dL_law_3004 : decode cL_law 3004 = .ok (.aload_n 2, 1) := by decide +kernel
theorem dL_law_3005 : decode cL_law 3005 = .ok (.invokevirtual 156, 3) := by decide +kernel
theorem dL_law_3008 : decode cL_law 3008 = .ok (.iload 5, 2) := by decide +kernel
theorem dL_law_3010 : decode cL_law 3010 = .ok (.if_icmp .eq 5, 3) := by decide +kernel
theorem dL_law_3013 : decode cL_law 3013 = .ok (.iconst 0, 1) := by decide +kernel
theorem dL_law_3014 : decode cL_law 3014 = .ok (.ireturn, 1) := by decide +kernel
theorem dL_law_3015 : decode cL_law 3015 = .ok (.iload 5, 2) := by decide +kernel
theorem dL_law_3017 : decode cL_law 3017 = .ok (.ifCond .ne 15, 3) := by decide +kernel
theorem dL_law_3020 : decode cL_law 3020 = .ok (.aload_n 3, 1) := by decide +kernel
theorem dL_law_3021 : decode cL_law 3021 = .ok (.iconst 0, 1) := by decide +kernel
theorem dL_law_3022 : decode cL_law 3022 = .ok (.laload, 1) := by decide +kernel
theorem dL_law_3023 : decode cL_law 3023 = .ok (.iload 6, 2) := by decide +kernel
theorem dL_law_3025 : decode cL_law 3025 = .ok (.i2l, 1) := by decide +kernel
theorem dL_law_3026 : decode cL_law 3026 = .ok (.lcmp, 1) := by decide +kernel
theorem dL_law_3027 : decode cL_law 3027 = .ok (.ifCond .eq 5, 3) := by decide +kernel
theorem dL_law_3030 : decode cL_law 3030 = .ok (.iconst 0, 1) := by decide +kernel
theorem dL_law_3031 : decode cL_law 3031 = .ok (.ireturn, 1) := by decide +kernel
theorem dL_law_3032 : decode cL_law 3032 = .ok (.goto 230, 3) := by decide +kernel
theorem dL_law_3035 : decode cL_law 3035 = .ok (.aload_n 1, 1) := by decide +kernel
theorem dL_law_3036 : decode cL_law 3036 = .ok (.aload_n 0, 1) := by decide +kernel
theorem dL_law_3037 : decode cL_law 3037 = .ok (.iload 4, 2) := by decide +kernel
theorem dL_law_3039 : decode cL_law 3039 = .ok (.iconst 1, 1) := by decide +kernel
theorem dL_law_3040 : decode cL_law 3040 = .ok (.iadd, 1) := by decide +kernel
theorem dL_law_3041 : decode cL_law 3041 = .ok (.iaload, 1) := by decide +kernel
theorem dL_law_3042 : decode cL_law 3042 = .ok (.aload_n 0, 1) := by decide +kernel
theorem dL_law_3043 : decode cL_law 3043 = .ok (.iload 4, 2) := by decide +kernel
theorem dL_law_3045 : decode cL_law 3045 = .ok (.iconst 2, 1) := by decide +kernel
theorem dL_law_3046 : decode cL_law 3046 = .ok (.iadd, 1) := by decide +kernel
theorem dL_law_3047 : decode cL_law 3047 = .ok (.iaload, 1) := by decide +kernel
theorem dL_law_3048 : decode cL_law 3048 = .ok (.aload_n 0, 1) := by decide +kernel
theorem dL_law_3049 : decode cL_law 3049 = .ok (.iload 4, 2) := by decide +kernel
theorem dL_law_3051 : decode cL_law 3051 = .ok (.iconst 3, 1) := by decide +kernel
theorem dL_law_3052 : decode cL_law 3052 = .ok (.iadd, 1) := by decide +kernel
theorem dL_law_3053 : decode cL_law 3053 = .ok (.iaload, 1) := by decide +kernel
theorem dL_law_3054 : decode cL_law 3054 = .ok (.aload_n 0, 1) := by decide +kernel
theorem dL_law_3055 : decode cL_law 3055 = .ok (.iload 4, 2) := by decide +kernel
theorem dL_law_3057 : decode cL_law 3057 = .ok (.iconst 4, 1) := by decide +kernel
theorem dL_law_3058 : decode cL_law 3058 = .ok (.iadd, 1) := by decide +kernel
theorem dL_law_3059 : decode cL_law 3059 = .ok (.iaload, 1) := by decide +kernel
theorem dL_law_3060 : decode cL_law 3060 = .ok (.aload_n 0, 1) := by decide +kernel
theorem dL_law_3061 : decode cL_law 3061 = .ok (.iload 4, 2) := by decide +kernel
theorem dL_law_3063 : decode cL_law 3063 = .ok (.iconst 5, 1) := by decide +kernel
theorem dL_law_3064 : decode cL_law 3064 = .ok (.iadd, 1) := by decide +kernel
theorem dL_law_3065 : decode cL_law 3065 = .ok (.iaload, 1) := by decide +kernel
theorem dL_law_3066 : decode cL_law 3066 = .ok (.aload_n 3, 1) := by decide +kernel
theorem dL_law_3067 : decode cL_law 3067 = .ok (.invokestatic 285, 3) := by decide +kernel
theorem dL_law_3070 : decode cL_law 3070 = .ok (.istore 5, 2) := by decide +kernel
theorem dL_law_3072 : decode cL_law 3072 = .ok (.aload_n 2, 1) := by decide +kernel
theorem dL_law_3073 : decode cL_law 3073 = .ok (.aload_n 0, 1) := by decide +kernel
theorem dL_law_3074 : decode cL_law 3074 = .ok (.iload 4, 2) := by decide +kernel
theorem dL_law_3076 : decode cL_law 3076 = .ok (.iconst 1, 1) := by decide +kernel
theorem dL_law_3077 : decode cL_law 3077 = .ok (.iadd, 1) := by decide +kernel
theorem dL_law_3078 : decode cL_law 3078 = .ok (.iaload, 1) := by decide +kernel
theorem dL_law_3079 : decode cL_law 3079 = .ok (.aload_n 0, 1) := by decide +kernel
theorem dL_law_3080 : decode cL_law 3080 = .ok (.iload 4, 2) := by decide +kernel
theorem dL_law_3082 : decode cL_law 3082 = .ok (.iconst 2, 1) := by decide +kernel
theorem dL_law_3083 : decode cL_law 3083 = .ok (.iadd, 1) := by decide +kernel
theorem dL_law_3084 : decode cL_law 3084 = .ok (.iaload, 1) := by decide +kernel
theorem dL_law_3085 : decode cL_law 3085 = .ok (.aload_n 0, 1) := by decide +kernel
theorem dL_law_3086 : decode cL_law 3086 = .ok (.iload 4, 2) := by decide +kernel
theorem dL_law_3088 : decode cL_law 3088 = .ok (.iconst 3, 1) := by decide +kernel
theorem dL_law_3089 : decode cL_law 3089 = .ok (.iadd, 1) := by decide +kernel
theorem dL_law_3090 : decode cL_law 3090 = .ok (.iaload, 1) := by decide +kernel
theorem dL_law_3091 : decode cL_law 3091 = .ok (.aload_n 0, 1) := by decide +kernel
theorem dL_law_3092 : decode cL_law 3092 = .ok (.iload 4, 2) := by decide +kernel
theorem dL_law_3094 : decode cL_law 3094 = .ok (.iconst 4, 1) := by decide +kernel
theorem dL_law_3095 : decode cL_law 3095 = .ok (.iadd, 1) := by decide +kernel
theorem dL_law_3096 : decode cL_law 3096 = .ok (.iaload, 1) := by decide +kernel
theorem dL_law_3097 : decode cL_law 3097 = .ok (.aload_n 0, 1) := by decide +kernel
theorem dL_law_3098 : decode cL_law 3098 = .ok (.iload 4, 2) := by decide +kernel
theorem dL_law_3100 : decode cL_law 3100 = .ok (.iconst 5, 1) := by decide +kernel
theorem dL_law_3101 : decode cL_law 3101 = .ok (.iadd, 1) := by decide +kernel
theorem dL_law_3102 : decode cL_law 3102 = .ok (.iaload, 1) := by decide +kernel
theorem dL_law_3103 : decode cL_law 3103 = .ok (.invokevirtual 287, 3) := by decide +kernel
theorem dL_law_3106 : decode cL_law 3106 = .ok (.lstore 6, 2) := by decide +kernel
theorem dL_law_3108 : decode cL_law 3108 = .ok (.aload_n 2, 1) := by decide +kernel
theorem dL_law_3109 : decode cL_law 3109 = .ok (.invokevirtual 156, 3) := by decide +kernel
theorem dL_law_3112 : decode cL_law 3112 = .ok (.iload 5, 2) := by decide +kernel
theorem dL_law_3114 : decode cL_law 3114 = .ok (.if_icmp .eq 5, 3) := by decide +kernel
theorem dL_law_3117 : decode cL_law 3117 = .ok (.iconst 0, 1) := by decide +kernel
theorem dL_law_3118 : decode cL_law 3118 = .ok (.ireturn, 1) := by decide +kernel
theorem dL_law_3119 : decode cL_law 3119 = .ok (.iload 5, 2) := by decide +kernel
theorem dL_law_3121 : decode cL_law 3121 = .ok (.ifCond .ne 14, 3) := by decide +kernel
theorem dL_law_3124 : decode cL_law 3124 = .ok (.aload_n 3, 1) := by decide +kernel
theorem dL_law_3125 : decode cL_law 3125 = .ok (.iconst 0, 1) := by decide +kernel
theorem dL_law_3126 : decode cL_law 3126 = .ok (.laload, 1) := by decide +kernel
theorem dL_law_3127 : decode cL_law 3127 = .ok (.lload 6, 2) := by decide +kernel
theorem dL_law_3129 : decode cL_law 3129 = .ok (.lcmp, 1) := by decide +kernel
theorem dL_law_3130 : decode cL_law 3130 = .ok (.ifCond .eq 5, 3) := by decide +kernel
theorem dL_law_3133 : decode cL_law 3133 = .ok (.iconst 0, 1) := by decide +kernel
theorem dL_law_3134 : decode cL_law 3134 = .ok (.ireturn, 1) := by decide +kernel
theorem dL_law_3135 : decode cL_law 3135 = .ok (.goto 127, 3) := by decide +kernel
theorem dL_law_3138 : decode cL_law 3138 = .ok (.aload_n 1, 1) := by decide +kernel
theorem dL_law_3139 : decode cL_law 3139 = .ok (.aload_n 0, 1) := by decide +kernel
theorem dL_law_3140 : decode cL_law 3140 = .ok (.iload 4, 2) := by decide +kernel
theorem dL_law_3142 : decode cL_law 3142 = .ok (.iconst 1, 1) := by decide +kernel
theorem dL_law_3143 : decode cL_law 3143 = .ok (.iadd, 1) := by decide +kernel
theorem dL_law_3144 : decode cL_law 3144 = .ok (.iaload, 1) := by decide +kernel
theorem dL_law_3145 : decode cL_law 3145 = .ok (.aload_n 0, 1) := by decide +kernel
theorem dL_law_3146 : decode cL_law 3146 = .ok (.iload 4, 2) := by decide +kernel
theorem dL_law_3148 : decode cL_law 3148 = .ok (.iconst 2, 1) := by decide +kernel
theorem dL_law_3149 : decode cL_law 3149 = .ok (.iadd, 1) := by decide +kernel
theorem dL_law_3150 : decode cL_law 3150 = .ok (.iaload, 1) := by decide +kernel
theorem dL_law_3151 : decode cL_law 3151 = .ok (.aload_n 0, 1) := by decide +kernel
theorem dL_law_3152 : decode cL_law 3152 = .ok (.iload 4, 2) := by decide +kernel
theorem dL_law_3154 : decode cL_law 3154 = .ok (.iconst 3, 1) := by decide +kernel
theorem dL_law_3155 : decode cL_law 3155 = .ok (.iadd, 1) := by decide +kernel
theorem dL_law_3156 : decode cL_law 3156 = .ok (.iaload, 1) := by decide +kernel
theorem dL_law_3157 : decode cL_law 3157 = .ok (.aload_n 0, 1) := by decide +kernel
theorem dL_law_3158 : decode cL_law 3158 = .ok (.iload 4, 2) := by decide +kernel
theorem dL_law_3160 : decode cL_law 3160 = .ok (.iconst 4, 1) := by decide +kernel
theorem dL_law_3161 : decode cL_law 3161 = .ok (.iadd, 1) := by decide +kernel
theorem dL_law_3162 : decode cL_law 3162 = .ok (.iaload, 1) := by decide +kernel
theorem dL_law_3163 : decode cL_law 3163 = .ok (.aload_n 3, 1) := by decide +kernel
theorem dL_law_3164 : decode cL_law 3164 = .ok (.invokestatic 288, 3) := by decide +kernel
theorem dL_law_3167 : decode cL_law 3167 = .ok (.istore 5, 2) := by decide +kernel
theorem dL_law_3169 : decode cL_law 3169 = .ok (.aload_n 2, 1) := by decide +kernel
theorem dL_law_3170 : decode cL_law 3170 = .ok (.aload_n 0, 1) := by decide +kernel
theorem dL_law_3171 : decode cL_law 3171 = .ok (.iload 4, 2) := by decide +kernel
theorem dL_law_3173 : decode cL_law 3173 = .ok (.iconst 1, 1) := by decide +kernel
theorem dL_law_3174 : decode cL_law 3174 = .ok (.iadd, 1) := by decide +kernel
theorem dL_law_3175 : decode cL_law 3175 = .ok (.iaload, 1) := by decide +kernel
theorem dL_law_3176 : decode cL_law 3176 = .ok (.aload_n 0, 1) := by decide +kernel
theorem dL_law_3177 : decode cL_law 3177 = .ok (.iload 4, 2) := by decide +kernel
theorem dL_law_3179 : decode cL_law 3179 = .ok (.iconst 2, 1) := by decide +kernel
theorem dL_law_3180 : decode cL_law 3180 = .ok (.iadd, 1) := by decide +kernel
theorem dL_law_3181 : decode cL_law 3181 = .ok (.iaload, 1) := by decide +kernel
theorem dL_law_3182 : decode cL_law 3182 = .ok (.aload_n 0, 1) := by decide +kernel
theorem dL_law_3183 : decode cL_law 3183 = .ok (.iload 4, 2) := by decide +kernel
theorem dL_law_3185 : decode cL_law 3185 = .ok (.iconst 3, 1) := by decide +kernel
theorem dL_law_3186 : decode cL_law 3186 = .ok (.iadd, 1) := by decide +kernel
theorem dL_law_3187 : decode cL_law 3187 = .ok (.iaload, 1) := by decide +kernel
theorem dL_law_3188 : decode cL_law 3188 = .ok (.aload_n 0, 1) := by decide +kernel
theorem dL_law_3189 : decode cL_law 3189 = .ok (.iload 4, 2) := by decide +kernel
theorem dL_law_3191 : decode cL_law 3191 = .ok (.iconst 4, 1) := by decide +kernel
theorem dL_law_3192 : decode cL_law 3192 = .ok (.iadd, 1) := by decide +kernel
theorem dL_law_3193 : decode cL_law 3193 = .ok (.iaload, 1) := by decide +kernel
theorem dL_law_3194 : decode cL_law 3194 = .ok (.invokevirtual 290, 3) := by decide +kernel
theorem dL_law_3197 : decode cL_law 3197 = .ok (.istore 6, 2) := by decide +kernel
theorem dL_law_3199 : decode cL_law 3199 = .ok (.aload_n 2, 1) := by decide +kernel
theorem dL_law_3200 : decode cL_law 3200 = .ok (.invokevirtual 156, 3) := by decide +kernel
theorem dL_law_3203 : decode cL_law 3203 = .ok (.iload 5, 2) := by decide +kernel
theorem dL_law_3205 : decode cL_law 3205 = .ok (.if_icmp .eq 5, 3) := by decide +kernel
theorem dL_law_3208 : decode cL_law 3208 = .ok (.iconst 0, 1) := by decide +kernel
theorem dL_law_3209 : decode cL_law 3209 = .ok (.ireturn, 1) := by decide +kernel
theorem dL_law_3210 : decode cL_law 3210 = .ok (.iload 5, 2) := by decide +kernel
theorem dL_law_3212 : decode cL_law 3212 = .ok (.ifCond .ne 22, 3) := by decide +kernel
theorem dL_law_3215 : decode cL_law 3215 = .ok (.aload_n 3, 1) := by decide +kernel
theorem dL_law_3216 : decode cL_law 3216 = .ok (.iconst 0, 1) := by decide +kernel
theorem dL_law_3217 : decode cL_law 3217 = .ok (.laload, 1) := by decide +kernel
theorem dL_law_3218 : decode cL_law 3218 = .ok (.iload 6, 2) := by decide +kernel
theorem dL_law_3220 : decode cL_law 3220 = .ok (.ifCond .eq 7, 3) := by decide +kernel
theorem dL_law_3223 : decode cL_law 3223 = .ok (.lconst 1, 1) := by decide +kernel
theorem dL_law_3224 : decode cL_law 3224 = .ok (.goto 4, 3) := by decide +kernel
theorem dL_law_3227 : decode cL_law 3227 = .ok (.lconst 0, 1) := by decide +kernel
theorem dL_law_3228 : decode cL_law 3228 = .ok (.lcmp, 1) := by decide +kernel
theorem dL_law_3229 : decode cL_law 3229 = .ok (.ifCond .eq 5, 3) := by decide +kernel
theorem dL_law_3232 : decode cL_law 3232 = .ok (.iconst 0, 1) := by decide +kernel
theorem dL_law_3233 : decode cL_law 3233 = .ok (.ireturn, 1) := by decide +kernel
theorem dL_law_3234 : decode cL_law 3234 = .ok (.goto 28, 3) := by decide +kernel
theorem dL_law_3237 : decode cL_law 3237 = .ok (.aload_n 1, 1) := by decide +kernel
theorem dL_law_3238 : decode cL_law 3238 = .ok (.aload_n 0, 1) := by decide +kernel
theorem dL_law_3239 : decode cL_law 3239 = .ok (.iload 4, 2) := by decide +kernel
theorem dL_law_3241 : decode cL_law 3241 = .ok (.iconst 1, 1) := by decide +kernel
theorem dL_law_3242 : decode cL_law 3242 = .ok (.iadd, 1) := by decide +kernel
theorem dL_law_3243 : decode cL_law 3243 = .ok (.iaload, 1) := by decide +kernel
theorem dL_law_3244 : decode cL_law 3244 = .ok (.invokevirtual 291, 3) := by decide +kernel
theorem dL_law_3247 : decode cL_law 3247 = .ok (.aload_n 2, 1) := by decide +kernel
theorem dL_law_3248 : decode cL_law 3248 = .ok (.aload_n 0, 1) := by decide +kernel
theorem dL_law_3249 : decode cL_law 3249 = .ok (.iload 4, 2) := by decide +kernel
theorem dL_law_3251 : decode cL_law 3251 = .ok (.iconst 1, 1) := by decide +kernel
theorem dL_law_3252 : decode cL_law 3252 = .ok (.iadd, 1) := by decide +kernel
theorem dL_law_3253 : decode cL_law 3253 = .ok (.iaload, 1) := by decide +kernel
theorem dL_law_3254 : decode cL_law 3254 = .ok (.invokevirtual 294, 3) := by decide +kernel
theorem dL_law_3257 : decode cL_law 3257 = .ok (.if_icmp .eq 5, 3) := by decide +kernel
theorem dL_law_3260 : decode cL_law 3260 = .ok (.iconst 0, 1) := by decide +kernel
theorem dL_law_3261 : decode cL_law 3261 = .ok (.ireturn, 1) := by decide +kernel
theorem dL_law_3262 : decode cL_law 3262 = .ok (.iinc 4 7, 3) := by decide +kernel
theorem dL_law_3265 : decode cL_law 3265 = .ok (.goto (-3242), 3) := by decide +kernel
theorem dL_law_3268 : decode cL_law 3268 = .ok (.iconst 1, 1) := by decide +kernel
theorem dL_law_3269 : decode cL_law 3269 = .ok (.ireturn, 1) := by decide +kernel
