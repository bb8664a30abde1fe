theorem dL_law_2611 : decode cL_law 2611 = .ok (.istore 6, 2) := by decide +kernel
theorem dL_law_2613 : decode cL_law 2613 = .ok (.aload_n 2, 1) := by decide +kernel
theorem dL_law_2614 : decode cL_law 2614 = .ok (.aload_n 0, 1) := by decide +kernel
theorem dL_law_2615 : decode cL_law 2615 = .ok (.iload 5, 2) := by decide +kernel
theorem dL_law_2617 : decode cL_law 2617 = .ok (.iconst 1, 1) := by decide +kernel
theorem dL_law_2618 : decode cL_law 2618 = .ok (.iadd, 1) := by decide +kernel
theorem dL_law_2619 : decode cL_law 2619 = .ok (.iaload, 1) := by decide +kernel
theorem dL_law_2620 : decode cL_law 2620 = .ok (.aload_n 0, 1) := by decide +kernel
theorem dL_law_2621 : decode cL_law 2621 = .ok (.iload 5, 2) := by decide +kernel
theorem dL_law_2623 : decode cL_law 2623 = .ok (.iconst 2, 1) := by decide +kernel
theorem dL_law_2624 : decode cL_law 2624 = .ok (.iadd, 1) := by decide +kernel
theorem dL_law_2625 : decode cL_law 2625 = .ok (.iaload, 1) := by decide +kernel
theorem dL_law_2626 : decode cL_law 2626 = .ok (.invokevirtual 285, 3) := by decide +kernel
theorem dL_law_2629 : decode cL_law 2629 = .ok (.istore 7, 2) := by decide +kernel
theorem dL_law_2631 : decode cL_law 2631 = .ok (.aload_n 2, 1) := by decide +kernel
theorem dL_law_2632 : decode cL_law 2632 = .ok (.invokevirtual 175, 3) := by decide +kernel
theorem dL_law_2635 : decode cL_law 2635 = .ok (.iload 6, 2) := by decide +kernel
theorem dL_law_2637 : decode cL_law 2637 = .ok (.if_icmp .eq 5, 3) := by decide +kernel
theorem dL_law_2640 : decode cL_law 2640 = .ok (.iconst 0, 1) := by decide +kernel
theorem dL_law_2641 : decode cL_law 2641 = .ok (.ireturn, 1) := by decide +kernel
theorem dL_law_2642 : decode cL_law 2642 = .ok (.iload 6, 2) := by decide +kernel
theorem dL_law_2644 : decode cL_law 2644 = .ok (.ifCond .ne 15, 3) := by decide +kernel
theorem dL_law_2647 : decode cL_law 2647 = .ok (.aload_n 3, 1) := by decide +kernel
theorem dL_law_2648 : decode cL_law 2648 = .ok (.iconst 0, 1) := by decide +kernel
theorem dL_law_2649 : decode cL_law 2649 = .ok (.laload, 1) := by decide +kernel
theorem dL_law_2650 : decode cL_law 2650 = .ok (.iload 7, 2) := by decide +kernel
theorem dL_law_2652 : decode cL_law 2652 = .ok (.i2l, 1) := by decide +kernel
theorem dL_law_2653 : decode cL_law 2653 = .ok (.lcmp, 1) := by decide +kernel
theorem dL_law_2654 : decode cL_law 2654 = .ok (.ifCond .eq 5, 3) := by decide +kernel
theorem dL_law_2657 : decode cL_law 2657 = .ok (.iconst 0, 1) := by decide +kernel
theorem dL_law_2658 : decode cL_law 2658 = .ok (.ireturn, 1) := by decide +kernel
theorem dL_law_2659 : decode cL_law 2659 = .ok (.goto 728, 3) := by decide +kernel
theorem dL_law_2662 : decode cL_law 2662 = .ok (.aload_n 1, 1) := by decide +kernel
theorem dL_law_2663 : decode cL_law 2663 = .ok (.aload_n 0, 1) := by decide +kernel
theorem dL_law_2664 : decode cL_law 2664 = .ok (.iload 5, 2) := by decide +kernel
theorem dL_law_2666 : decode cL_law 2666 = .ok (.iconst 1, 1) := by decide +kernel
theorem dL_law_2667 : decode cL_law 2667 = .ok (.iadd, 1) := by decide +kernel
theorem dL_law_2668 : decode cL_law 2668 = .ok (.iaload, 1) := by decide +kernel
theorem dL_law_2669 : decode cL_law 2669 = .ok (.aload_n 0, 1) := by decide +kernel
theorem dL_law_2670 : decode cL_law 2670 = .ok (.iload 5, 2) := by decide +kernel
theorem dL_law_2672 : decode cL_law 2672 = .ok (.iconst 2, 1) := by decide +kernel
theorem dL_law_2673 : decode cL_law 2673 = .ok (.iadd, 1) := by decide +kernel
theorem dL_law_2674 : decode cL_law 2674 = .ok (.iaload, 1) := by decide +kernel
theorem dL_law_2675 : decode cL_law 2675 = .ok (.aload_n 3, 1) := by decide +kernel
theorem dL_law_2676 : decode cL_law 2676 = .ok (.invokestatic 286, 3) := by decide +kernel
theorem dL_law_2679 : decode cL_law 2679 = .ok (.istore 6, 2) := by decide +kernel
theorem dL_law_2681 : decode cL_law 2681 = .ok (.aload_n 2, 1) := by decide +kernel
theorem dL_law_2682 : decode cL_law 2682 = .ok (.aload_n 0, 1) := by decide +kernel
theorem dL_law_2683 : decode cL_law 2683 = .ok (.iload 5, 2) := by decide +kernel
theorem dL_law_2685 : decode cL_law 2685 = .ok (.iconst 1, 1) := by decide +kernel
theorem dL_law_2686 : decode cL_law 2686 = .ok (.iadd, 1) := by decide +kernel
theorem dL_law_2687 : decode cL_law 2687 = .ok (.iaload, 1) := by decide +kernel
theorem dL_law_2688 : decode cL_law 2688 = .ok (.aload_n 0, 1) := by decide +kernel
theorem dL_law_2689 : decode cL_law 2689 = .ok (.iload 5, 2) := by decide +kernel
theorem dL_law_2691 : decode cL_law 2691 = .ok (.iconst 2, 1) := by decide +kernel
theorem dL_law_2692 : decode cL_law 2692 = .ok (.iadd, 1) := by decide +kernel
theorem dL_law_2693 : decode cL_law 2693 = .ok (.iaload, 1) := by decide +kernel
theorem dL_law_2694 : decode cL_law 2694 = .ok (.invokevirtual 288, 3) := by decide +kernel
theorem dL_law_2697 : decode cL_law 2697 = .ok (.istore 7, 2) := by decide +kernel
theorem dL_law_2699 : decode cL_law 2699 = .ok (.aload_n 2, 1) := by decide +kernel
theorem dL_law_2700 : decode cL_law 2700 = .ok (.invokevirtual 175, 3) := by decide +kernel
theorem dL_law_2703 : decode cL_law 2703 = .ok (.iload 6, 2) := by decide +kernel
theorem dL_law_2705 : decode cL_law 2705 = .ok (.if_icmp .eq 5, 3) := by decide +kernel
theorem dL_law_2708 : decode cL_law 2708 = .ok (.iconst 0, 1) := by decide +kernel
theorem dL_law_2709 : decode cL_law 2709 = .ok (.ireturn, 1) := by decide +kernel
theorem dL_law_2710 : decode cL_law 2710 = .ok (.iload 6, 2) := by decide +kernel
theorem dL_law_2712 : decode cL_law 2712 = .ok (.ifCond .ne 15, 3) := by decide +kernel
theorem dL_law_2715 : decode cL_law 2715 = .ok (.aload_n 3, 1) := by decide +kernel
theorem dL_law_2716 : decode cL_law 2716 = .ok (.iconst 0, 1) := by decide +kernel
theorem dL_law_2717 : decode cL_law 2717 = .ok (.laload, 1) := by decide +kernel
theorem dL_law_2718 : decode cL_law 2718 = .ok (.iload 7, 2) := by decide +kernel
theorem dL_law_2720 : decode cL_law 2720 = .ok (.i2l, 1) := by decide +kernel
theorem dL_law_2721 : decode cL_law 2721 = .ok (.lcmp, 1) := by decide +kernel
theorem dL_law_2722 : decode cL_law 2722 = .ok (.ifCond .eq 5, 3) := by decide +kernel
theorem dL_law_2725 : decode cL_law 2725 = .ok (.iconst 0, 1) := by decide +kernel
theorem dL_law_2726 : decode cL_law 2726 = .ok (.ireturn, 1) := by decide +kernel
theorem dL_law_2727 : decode cL_law 2727 = .ok (.goto 660, 3) := by decide +kernel
theorem dL_law_2730 : decode cL_law 2730 = .ok (.aload_n 1, 1) := by decide +kernel
theorem dL_law_2731 : decode cL_law 2731 = .ok (.aload_n 0, 1) := by decide +kernel
theorem dL_law_2732 : decode cL_law 2732 = .ok (.iload 5, 2) := by decide +kernel
theorem dL_law_2734 : decode cL_law 2734 = .ok (.iconst 1, 1) := by decide +kernel
theorem dL_law_2735 : decode cL_law 2735 = .ok (.iadd, 1) := by decide +kernel
theorem dL_law_2736 : decode cL_law 2736 = .ok (.iaload, 1) := by decide +kernel
theorem dL_law_2737 : decode cL_law 2737 = .ok (.aload_n 0, 1) := by decide +kernel
theorem dL_law_2738 : decode cL_law 2738 = .ok (.iload 5, 2) := by decide +kernel
theorem dL_law_2740 : decode cL_law 2740 = .ok (.iconst 2, 1) := by decide +kernel
theorem dL_law_2741 : decode cL_law 2741 = .ok (.iadd, 1) := by decide +kernel
theorem dL_law_2742 : decode cL_law 2742 = .ok (.iaload, 1) := by decide +kernel
theorem dL_law_2743 : decode cL_law 2743 = .ok (.aload_n 3, 1) := by decide +kernel
theorem dL_law_2744 : decode cL_law 2744 = .ok (.invokestatic 289, 3) := by decide +kernel
theorem dL_law_2747 : decode cL_law 2747 = .ok (.istore 6, 2) := by decide +kernel
theorem dL_law_2749 : decode cL_law 2749 = .ok (.aload_n 2, 1) := by decide +kernel
theorem dL_law_2750 : decode cL_law 2750 = .ok (.aload_n 0, 1) := by decide +kernel
theorem dL_law_2751 : decode cL_law 2751 = .ok (.iload 5, 2) := by decide +kernel
theorem dL_law_2753 : decode cL_law 2753 = .ok (.iconst 1, 1) := by decide +kernel
theorem dL_law_2754 : decode cL_law 2754 = .ok (.iadd, 1) := by decide +kernel
theorem dL_law_2755 : decode cL_law 2755 = .ok (.iaload, 1) := by decide +kernel
theorem dL_law_2756 : decode cL_law 2756 = .ok (.aload_n 0, 1) := by decide +kernel
theorem dL_law_2757 : decode cL_law 2757 = .ok (.iload 5, 2) := by decide +kernel
theorem dL_law_2759 : decode cL_law 2759 = .ok (.iconst 2, 1) := by decide +kernel
theorem dL_law_2760 : decode cL_law 2760 = .ok (.iadd, 1) := by decide +kernel
theorem dL_law_2761 : decode cL_law 2761 = .ok (.iaload, 1) := by decide +kernel
theorem dL_law_2762 : decode cL_law 2762 = .ok (.invokevirtual 291, 3) := by decide +kernel
theorem dL_law_2765 : decode cL_law 2765 = .ok (.istore 7, 2) := by decide +kernel
theorem dL_law_2767 : decode cL_law 2767 = .ok (.aload_n 2, 1) := by decide +kernel
theorem dL_law_2768 : decode cL_law 2768 = .ok (.invokevirtual 175, 3) := by decide +kernel
theorem dL_law_2771 : decode cL_law 2771 = .ok (.iload 6, 2) := by decide +kernel
theorem dL_law_2773 : decode cL_law 2773 = .ok (.if_icmp .eq 5, 3) := by decide +kernel
theorem dL_law_2776 : decode cL_law 2776 = .ok (.iconst 0, 1) := by decide +kernel
theorem dL_law_2777 : decode cL_law 2777 = .ok (.ireturn, 1) := by decide +kernel
theorem dL_law_2778 : decode cL_law 2778 = .ok (.iload 6, 2) := by decide +kernel
theorem dL_law_2780 : decode cL_law 2780 = .ok (.ifCond .ne 15, 3) := by decide +kernel
theorem dL_law_2783 : decode cL_law 2783 = .ok (.aload_n 3, 1) := by decide +kernel
theorem dL_law_2784 : decode cL_law 2784 = .ok (.iconst 0, 1) := by decide +kernel
theorem dL_law_2785 : decode cL_law 2785 = .ok (.laload, 1) := by decide +kernel
theorem dL_law_2786 : decode cL_law 2786 = .ok (.iload 7, 2) := by decide +kernel
theorem dL_law_2788 : decode cL_law 2788 = .ok (.i2l, 1) := by decide +kernel
theorem dL_law_2789 : decode cL_law 2789 = .ok (.lcmp, 1) := by decide +kernel
theorem dL_law_2790 : decode cL_law 2790 = .ok (.ifCond .eq 5, 3) := by decide +kernel
theorem dL_law_2793 : decode cL_law 2793 = .ok (.iconst 0, 1) := by decide +kernel
theorem dL_law_2794 : decode cL_law 2794 = .ok (.ireturn, 1) := by decide +kernel
theorem dL_law_2795 : decode cL_law 2795 = .ok (.goto 592, 3) := by decide +kernel
theorem dL_law_2798 : decode cL_law 2798 = .ok (.aload_n 1, 1) := by decide +kernel
theorem dL_law_2799 : decode cL_law 2799 = .ok (.aload_n 0, 1) := by decide +kernel
theorem dL_law_2800 : decode cL_law 2800 = .ok (.iload 5, 2) := by decide +kernel
theorem dL_law_2802 : decode cL_law 2802 = .ok (.iconst 1, 1) := by decide +kernel
theorem dL_law_2803 : decode cL_law 2803 = .ok (.iadd, 1) := by decide +kernel
theorem dL_law_2804 : decode cL_law 2804 = .ok (.iaload, 1) := by decide +kernel
theorem dL_law_2805 : decode cL_law 2805 = .ok (.aload_n 0, 1) := by decide +kernel
theorem dL_law_2806 : decode cL_law 2806 = .ok (.iload 5, 2) := by decide +kernel
theorem dL_law_2808 : decode cL_law 2808 = .ok (.iconst 2, 1) := by decide +kernel
theorem dL_law_2809 : decode cL_law 2809 = .ok (.iadd, 1) := by decide +kernel
theorem dL_law_2810 : decode cL_law 2810 = .ok (.iaload, 1) := by decide +kernel
theorem dL_law_2811 : decode cL_law 2811 = .ok (.aload_n 3, 1) := by decide +kernel
theorem dL_law_2812 : decode cL_law 2812 = .ok (.invokestatic 292, 3) := by decide +kernel
theorem dL_law_2815 : decode cL_law 2815 = .ok (.istore 6, 2) := by decide +kernel
theorem dL_law_2817 : decode cL_law 2817 = .ok (.aload_n 2, 1) := by decide +kernel
theorem dL_law_2818 : decode cL_law 2818 = .ok (.aload_n 0, 1) := by decide +kernel
theorem dL_law_2819 : decode cL_law 2819 = .ok (.iload 5, 2) := by decide +kernel
theorem dL_law_2821 : decode cL_law 2821 = .ok (.iconst 1, 1) := by decide +kernel
theorem dL_law_2822 : decode cL_law 2822 = .ok (.iadd, 1) := by decide +kernel
theorem dL_law_2823 : decode cL_law 2823 = .ok (.iaload, 1) := by decide +kernel
theorem dL_law_2824 : decode cL_law 2824 = .ok (.aload_n 0, 1) := by decide +kernel
theorem dL_law_2825 : decode cL_law 2825 = .ok (.iload 5, 2) := by decide +kernel
theorem dL_law_2827 : decode cL_law 2827 = .ok (.iconst 2, 1) := by decide +kernel
theorem dL_law_2828 : decode cL_law 2828 = .ok (.iadd, 1) := by decide +kernel
theorem dL_law_2829 : decode cL_law 2829 = .ok (.iaload, 1) := by decide +kernel
theorem dL_law_2830 : decode cL_law 2830 = .ok (.invokevirtual 294, 3) := by decide +kernel
theorem dL_law_2833 : decode cL_law 2833 = .ok (.istore 7, 2) := by decide +kernel
theorem dL_law_2835 : decode cL_law 2835 = .ok (.aload_n 2, 1) := by decide +kernel
theorem dL_law_2836 : decode cL_law 2836 = .ok (.invokevirtual 175, 3) := by decide +kernel
theorem dL_law_2839 : decode cL_law 2839 = .ok (.iload 6, 2) := by decide +kernel
theorem dL_law_2841 : decode cL_law 2841 = .ok (.if_icmp .eq 5, 3) := by decide +kernel
theorem dL_law_2844 : decode cL_law 2844 = .ok (.iconst 0, 1) := by decide +kernel
theorem dL_law_2845 : decode cL_law 2845 = .ok (.ireturn, 1) := by decide +kernel
theorem dL_law_2846 : decode cL_law 2846 = .ok (.iload 6, 2) := by decide +kernel
theorem dL_law_2848 : decode cL_law 2848 = .ok (.ifCond .ne 15, 3) := by decide +kernel
theorem dL_law_2851 : decode cL_law 2851 = .ok (.aload_n 3, 1) := by decide +kernel
theorem dL_law_2852 : decode cL_law 2852 = .ok (.iconst 0, 1) := by decide +kernel
theorem dL_law_2853 : decode cL_law 2853 = .ok (.laload, 1) := by decide +kernel
theorem dL_law_2854 : decode cL_law 2854 = .ok (.iload 7, 2) := by decide +kernel
theorem dL_law_2856 : decode cL_law 2856 = .ok (.i2l, 1) := by decide +kernel
theorem dL_law_2857 : decode cL_law 2857 = .ok (.lcmp, 1) := by decide +kernel
theorem dL_law_2858 : decode cL_law 2858 = .ok (.ifCond .eq 5, 3) := by decide +kernel
theorem dL_law_2861 : decode cL_law 2861 = .ok (.iconst 0, 1) := by decide +kernel
theorem dL_law_2862 : decode cL_law 2862 = .ok (.ireturn, 1) := by decide +kernel
theorem dL_law_2863 : decode cL_law 2863 = .ok (.goto 524, 3) := by decide +kernel
theorem dL_law_2866 : decode cL_law 2866 = .ok (.aload_n 1, 1) := by decide +kernel
theorem dL_law_2867 : decode cL_law 2867 = .ok (.aload_n 0, 1) := by decide +kernel
theorem dL_law_2868 : decode cL_law 2868 = .ok (.iload 5, 2) := by decide +kernel
theorem dL_law_2870 : decode cL_law 2870 = .ok (.iconst 1, 1) := by decide +kernel
theorem dL_law_2871 : decode cL_law 2871 = .ok (.iadd, 1) := by decide +kernel
theorem dL_law_2872 : decode cL_law 2872 = .ok (.iaload, 1) := by decide +kernel
theorem dL_law_2873 : decode cL_law 2873 = .ok (.aload_n 3, 1) := by decide +kernel
theorem dL_law_2874 : decode cL_law 2874 = .ok (.invokestatic 295, 3) := by decide +kernel
theorem dL_law_2877 : decode cL_law 2877 = .ok (.istore 6, 2) := by decide +kernel
theorem dL_law_2879 : decode cL_law 2879 = .ok (.aload_n 2, 1) := by decide +kernel
theorem dL_law_2880 : decode cL_law 2880 = .ok (.aload_n 0, 1) := by decide +kernel
theorem dL_law_2881 : decode cL_law 2881 = .ok (.iload 5, 2) := by decide +kernel
theorem dL_law_2883 : decode cL_law 2883 = .ok (.iconst 1, 1) := by decide +kernel
theorem dL_law_2884 : decode cL_law 2884 = .ok (.iadd, 1) := by decide +kernel
theorem dL_law_2885 : decode cL_law 2885 = .ok (.iaload, 1) := by decide +kernel
theorem dL_law_2886 : decode cL_law 2886 = .ok (.invokevirtual 297, 3) := by decide +kernel
theorem dL_law_2889 : decode cL_law 2889 = .ok (.istore 7, 2) := by decide +kernel
theorem dL_law_2891 : decode cL_law 2891 = .ok (.aload_n 2, 1) := by decide +kernel
theorem dL_law_2892 : decode cL_law 2892 = .ok (.invokevirtual 175, 3) := by decide +kernel
theorem dL_law_2895 : decode cL_law 2895 = .ok (.iload 6, 2) := by decide +kernel
theorem dL_law_2897 : decode cL_law 2897 = .ok (.if_icmp .eq 5, 3) := by decide +kernel
theorem dL_law_2900 : decode cL_law 2900 = .ok (.iconst 0, 1) := by decide +kernel
theorem dL_law_2901 : decode cL_law 2901 = .ok (.ireturn, 1) := by decide +kernel
theorem dL_law_2902 : decode cL_law 2902 = .ok (.iload 6, 2) := by decide +kernel
theorem dL_law_2904 : decode cL_law 2904 = .ok (.ifCond .ne 15, 3) := by decide +kernel
theorem dL_law_2907 : decode cL_law 2907 = .ok (.aload_n 3, 1) := by decide +kernel
theorem dL_law_2908 : decode cL_law 2908 = .ok (.iconst 0, 1) := by decide +kernel
theorem dL_law_2909 : decode cL_law 2909 = .ok (.laload, 1) := by decide +kernel
theorem dL_law_2910 : decode cL_law 2910 = .ok (.iload 7, 2) := by decide +kernel
theorem dL_law_2912 : decode cL_law 2912 = .ok (.i2l, 1) := by decide +kernel
theorem dL_law_2913 : decode cL_law 2913 = .ok (.lcmp, 1) := by decide +kernel
theorem dL_law_2914 : decode cL_law 2914 = .ok (.ifCond .eq 5, 3) := by decide +kernel
theorem dL_law_2917 : decode cL_law 2917 = .ok (.iconst 0, 1) := by decide +kernel
theorem dL_law_2918 : decode cL_law 2918 = .ok (.ireturn, 1) := by decide +kernel
theorem dL_law_2919 : decode cL_law 2919 = .ok (.goto 468, 3) := by decide +kernel
theorem dL_law_2922 : decode cL_law 2922 = .ok (.aload_n 1, 1) := by decide +kernel
theorem dL_law_2923 : decode cL_law 2923 = .ok (.aload_n 0, 1) := by decide +kernel
theorem dL_law_2924 : decode cL_law 2924 = .ok (.iload 5, 2) := by decide +kernel
theorem dL_law_2926 : decode cL_law 2926 = .ok (.iconst 1, 1) := by decide +kernel
theorem dL_law_2927 : decode cL_law 2927 = .ok (.iadd, 1) := by decide +kernel
theorem dL_law_2928 : decode cL_law 2928 = .ok (.iaload, 1) := by decide +kernel
theorem dL_law_2929 : decode cL_law 2929 = .ok (.aload_n 3, 1) := by decide +kernel
theorem dL_law_2930 : decode cL_law 2930 = .ok (.invokestatic 298, 3) := by decide +kernel
theorem dL_law_2933 : decode cL_law 2933 = .ok (.istore 6, 2) := by decide +kernel
theorem dL_law_2935 : decode cL_law 2935 = .ok (.aload_n 2, 1) := by decide +kernel
theorem dL_law_2936 : decode cL_law 2936 = .ok (.aload_n 0, 1) := by decide +kernel
theorem dL_law_2937 : decode cL_law 2937 = .ok (.iload 5, 2) := by decide +kernel
theorem dL_law_2939 : decode cL_law 2939 = .ok (.iconst 1, 1) := by decide +kernel
theorem dL_law_2940 : decode cL_law 2940 = .ok (.iadd, 1) := by decide +kernel
theorem dL_law_2941 : decode cL_law 2941 = .ok (.iaload, 1) := by decide +kernel
theorem dL_law_2942 : decode cL_law 2942 = .ok (.invokevirtual 300, 3) := by decide +kernel
theorem dL_law_2945 : decode cL_law 2945 = .ok (.istore 7, 2) := by decide +kernel
theorem dL_law_2947 : decode cL_law 2947 = .ok (.aload_n 2, 1) := by decide +kernel
theorem dL_law_2948 : decode cL_law 2948 = .ok (.invokevirtual 175, 3) := by decide +kernel
theorem dL_law_2951 : decode cL_law 2951 = .ok (.iload 6, 2) := by decide +kernel
theorem dL_law_2953 : decode cL_law 2953 = .ok (.if_icmp .eq 5, 3) := by decide +kernel
theorem dL_law_2956 : decode cL_law 2956 = .ok (.iconst 0, 1) := by decide +kernel
theorem dL_law_2957 : decode cL_law 2957 = .ok (.ireturn, 1) := by decide +kernel
theorem dL_law_2958 : decode cL_law 2958 = .ok (.iload 6, 2) := by decide +kernel
theorem dL_law_2960 : decode cL_law 2960 = .ok (.ifCond .ne 15, 3) := by decide +kernel
theorem dL_law_2963 : decode cL_law 2963 = .ok (.aload_n 3, 1) := by decide +kernel
theorem dL_law_2964 : decode cL_law 2964 = .ok (.iconst 0, 1) := by decide +kernel
theorem dL_law_2965 : decode cL_law 2965 = .ok (.laload, 1) := by decide +kernel
theorem dL_law_2966 : decode cL_law 2966 = .ok (.iload 7, 2) := by decide +kernel
theorem dL_law_2968 : decode cL_law 2968 = .ok (.i2l, 1) := by decide +kernel
theorem dL_law_2969 : decode cL_law 2969 = .ok (.lcmp, 1) := by decide +kernel
theorem dL_law_2970 : decode cL_law 2970 = .ok (.ifCond .eq 5, 3) := by decide +kernel
theorem dL_law_2973 : decode cL_law 2973 = .ok (.iconst 0, 1) := by decide +kernel
theorem dL_law_2974 : decode cL_law 2974 = .ok (.ireturn, 1) := by decide +kernel
theorem dL_law_2975 : decode cL_law 2975 = .ok (.goto 412, 3) := by decide +kernel
theorem dL_law_2978 : decode cL_law 2978 = .ok (.aload_n 1, 1) := by decide +kernel
theorem dL_law_2979 : decode cL_law 2979 = .ok (.aload_n 0, 1) := by decide +kernel
theorem dL_law_2980 : decode cL_law 2980 = .ok (.iload 5, 2) := by decide +kernel
theorem dL_law_2982 : decode cL_law 2982 = .ok (.iconst 1, 1) := by decide +kernel
theorem dL_law_2983 : decode cL_law 2983 = .ok (.iadd, 1) := by decide +kernel
theorem dL_law_2984 : decode cL_law 2984 = .ok (.iaload, 1) := by decide +kernel
theorem dL_law_2985 : decode cL_law 2985 = .ok (.aload_n 3, 1) := by decide +kernel
theorem dL_law_2986 : decode cL_law 2986 = .ok (.invokestatic 301, 3) := by decide +kernel
theorem dL_law_2989 : decode cL_law 2989 = .ok (.istore 6, 2) := by decide +kernel
theorem dL_law_2991 : decode cL_law 2991 = .ok (.aload_n 2, 1) := by decide +kernel
theorem dL_law_2992 : decode cL_law 2992 = .ok (.aload_n 0, 1) := by decide +kernel
theorem dL_law_2993 : decode cL_law 2993 = .ok (.iload 5, 2) := by decide +kernel
theorem dL_law_2995 : decode cL_law 2995 = .ok (.iconst 1, 1) := by decide +kernel
theorem dL_law_2996 : decode cL_law 2996 = .ok (.iadd, 1) := by decide +kernel
theorem dL_law_2997 : decode cL_law 2997 = .ok (.iaload, 1) := by decide +kernel
theorem dL_law_2998 : decode cL_law 2998 = .ok (.invokevirtual 303, 3) := by decide +kernel
theorem dL_law_3001 : decode cL_law 3001 = .ok (.istore 7, 2) := by decide +kernel
theorem dL_law_3003 : decode cL_law 3003 = .ok (.aload_n 2, 1) := by decide +kernel
theorem dL_law_3004 : decode cL_law 3004 = .ok (.invokevirtual 175, 3) := by decide +kernel
theorem dL_law_3007 : decode cL_law 3007 = .ok (.iload 6, 2) := by decide +kernel
theorem dL_law_3009 : decode cL_law 3009 = .ok (.if_icmp .eq 5, 3) := by decide +kernel
theorem dL_law_3012 : decode cL_law 3012 = .ok (.iconst 0, 1) := by decide +kernel
theorem dL_law_3013 : decode cL_law 3013 = .ok (.ireturn, 1) := by decide +kernel
theorem dL_law_3014 : decode cL_law 3014 = .ok (.iload 6, 2) := by decide +kernel
theorem dL_law_3016 : decode cL_law 3016 = .ok (.ifCond .ne 15, 3) := by decide +kernel
theorem dL_law_3019 : decode cL_law 3019 = .ok (.aload_n 3, 1) := by decide +kernel
theorem dL_law_3020 : decode cL_law 3020 = .ok (.iconst 0, 1) := by decide +kernel
theorem dL_law_3021 : decode cL_law 3021 = .ok (.laload, 1) := by decide +kernel
theorem dL_law_3022 : decode cL_law 3022 = .ok (.iload 7, 2) := by decide +kernel
theorem dL_law_3024 : decode cL_law 3024 = .ok (.i2l, 1) := by decide +kernel
theorem dL_law_3025 : decode cL_law 3025 = .ok (.lcmp, 1) := by decide +kernel
theorem dL_law_3026 : decode cL_law 3026 = .ok (.ifCond .eq 5, 3) := by decide +kernel
theorem dL_law_3029 : decode cL_law 3029 = .ok (.iconst 0, 1) := by decide +kernel
theorem dL_law_3030 : decode cL_law 3030 = .ok (.ireturn, 1) := by decide +kernel
theorem dL_law_3031 : decode cL_law 3031 = .ok (.goto 356, 3) := by decide +kernel
theorem dL_law_3034 : decode cL_law 3034 = .ok (.aload_n 1, 1) := by decide +kernel
theorem dL_law_3035 : decode cL_law 3035 = .ok (.aload_n 0, 1) := by decide +kernel
theorem dL_law_3036 : decode cL_law 3036 = .ok (.iload 5, 2) := by decide +kernel
theorem dL_law_3038 : decode cL_law 3038 = .ok (.iconst 1, 1) := by decide +kernel
theorem dL_law_3039 : decode cL_law 3039 = .ok (.iadd, 1) := by decide +kernel
theorem dL_law_3040 : decode cL_law 3040 = .ok (.iaload, 1) := by decide +kernel
theorem dL_law_3041 : decode cL_law 3041 = .ok (.aload_n 0, 1) := by decide +kernel
theorem dL_law_3042 : decode cL_law 3042 = .ok (.iload 5, 2) := by decide +kernel
theorem dL_law_3044 : decode cL_law 3044 = .ok (.iconst 2, 1) := by decide +kernel
theorem dL_law_3045 : decode cL_law 3045 = .ok (.iadd, 1) := by decide +kernel
theorem dL_law_3046 : decode cL_law 3046 = .ok (.iaload, 1) := by decide +kernel
theorem dL_law_3047 : decode cL_law 3047 = .ok (.aload_n 3, 1) := by decide +kernel
theorem dL_law_3048 : decode cL_law 3048 = .ok (.invokestatic 304, 3) := by decide +kernel
theorem dL_law_3051 : decode cL_law 3051 = .ok (.istore 6, 2) := by decide +kernel
theorem dL_law_3053 : decode cL_law 3053 = .ok (.aload_n 2, 1) := by decide +kernel
theorem dL_law_3054 : decode cL_law 3054 = .ok (.aload_n 0, 1) := by decide +kernel
theorem dL_law_3055 : decode cL_law 3055 = .ok (.iload 5, 2) := by decide +kernel
theorem dL_law_3057 : decode cL_law 3057 = .ok (.iconst 1, 1) := by decide +kernel
theorem dL_law_3058 : decode cL_law 3058 = .ok (.iadd, 1) := by decide +kernel
theorem dL_law_3059 : decode cL_law 3059 = .ok (.iaload, 1) := by decide +kernel
theorem dL_law_3060 : decode cL_law 3060 = .ok (.aload_n 0, 1) := by decide +kernel
theorem dL_law_3061 : decode cL_law 3061 = .ok (.iload 5, 2) := by decide +kernel
theorem dL_law_3063 : decode cL_law 3063 = .ok (.iconst 2, 1) := by decide +kernel
theorem dL_law_3064 : decode cL_law 3064 = .ok (.iadd, 1) := by decide +kernel
theorem dL_law_3065 : decode cL_law 3065 = .ok (.iaload, 1) := by decide +kernel
theorem dL_law_3066 : decode cL_law 3066 = .ok (.invokevirtual 306, 3) := by decide +kernel
theorem dL_law_3069 : decode cL_law 3069 = .ok (.istore 7, 2) := by decide +kernel
theorem dL_law_3071 : decode cL_law 3071 = .ok (.aload_n 2, 1) := by decide +kernel
theorem dL_law_3072 : decode cL_law 3072 = .ok (.invokevirtual 175, 3) := by decide +kernel
theorem dL_law_3075 : decode cL_law 3075 = .ok (.iload 6, 2) := by decide +kernel
theorem dL_law_3077 : decode cL_law 3077 = .ok (.if_icmp .eq 5, 3) := by decide +kernel
theorem dL_law_3080 : decode cL_law 3080 = .ok (.iconst 0, 1) := by decide +kernel
theorem dL_law_3081 : decode cL_law 3081 = .ok (.ireturn, 1) := by decide +kernel
theorem dL_law_3082 : decode cL_law 3082 = .ok (.iload 6, 2) := by decide +kernel
theorem dL_law_3084 : decode cL_law 3084 = .ok (.ifCond .ne 15, 3) := by decide +kernel
theorem dL_law_3087 : decode cL_law 3087 = .ok (.aload_n 3, 1) := by decide +kernel
theorem dL_law_3088 : decode cL_law 3088 = .ok (.iconst 0, 1) := by decide +kernel
theorem dL_law_3089 : decode cL_law 3089 = .ok (.laload, 1) := by decide +kernel
theorem dL_law_3090 : decode cL_law 3090 = .ok (.iload 7, 2) := by decide +kernel
theorem dL_law_3092 : decode cL_law 3092 = .ok (.i2l, 1) := by decide +kernel
theorem dL_law_3093 : decode cL_law 3093 = .ok (.lcmp, 1) := by decide +kernel
theorem dL_law_3094 : decode cL_law 3094 = .ok (.ifCond .eq 5, 3) := by decide +kernel
theorem dL_law_3097 : decode cL_law 3097 = .ok (.iconst 0, 1) := by decide +kernel
theorem dL_law_3098 : decode cL_law 3098 = .ok (.ireturn, 1) := by decide +kernel
theorem dL_law_3099 : decode cL_law 3099 = .ok (.goto 288, 3) := by decide +kernel
theorem dL_law_3102 : decode cL_law 3102 = .ok (.aload_n 1, 1) := by decide +kernel
theorem dL_law_3103 : decode cL_law 3103 = .ok (.aload_n 0, 1) := by decide +kernel
theorem dL_law_3104 : decode cL_law 3104 = .ok (.iload 5, 2) := by decide +kernel
theorem dL_law_3106 : decode cL_law 3106 = .ok (.iconst 1, 1) := by decide +kernel
theorem dL_law_3107 : decode cL_law 3107 = .ok (.iadd, 1) := by decide +kernel
theorem dL_law_3108 : decode cL_law 3108 = .ok (.iaload, 1) := by decide +kernel
theorem dL_law_3109 : decode cL_law 3109 = .ok (.aload_n 0, 1) := by decide +kernel
theorem dL_law_3110 : decode cL_law 3110 = .ok (.iload 5, 2) := by decide +kernel
theorem dL_law_3112 : decode cL_law 3112 = .ok (.iconst 2, 1) := by decide +kernel
theorem dL_law_3113 : decode cL_law 3113 = .ok (.iadd, 1) := by decide +kernel
theorem dL_law_3114 : decode cL_law 3114 = .ok (.iaload, 1) := by decide +kernel
theorem dL_law_3115 : decode cL_law 3115 = .ok (.aload_n 3, 1) := by decide +kernel
theorem dL_law_3116 : decode cL_law 3116 = .ok (.invokestatic 307, 3) := by decide +kernel
theorem dL_law_3119 : decode cL_law 3119 = .ok (.istore 6, 2) := by decide +kernel
theorem dL_law_3121 : decode cL_law 3121 = .ok (.aload_n 2, 1) := by decide +kernel
theorem dL_law_3122 : decode cL_law 3122 = .ok (.aload_n 0, 1) := by decide +kernel
theorem dL_law_3123 : decode cL_law 3123 = .ok (.iload 5, 2) := by decide +kernel
theorem dL_law_3125 : decode cL_law 3125 = .ok (.iconst 1, 1) := by decide +kernel
theorem dL_law_3126 : decode cL_law 3126 = .ok (.iadd, 1) := by decide +kernel
theorem dL_law_3127 : decode cL_law 3127 = .ok (.iaload, 1) := by decide +kernel
theorem dL_law_3128 : decode cL_law 3128 = .ok (.aload_n 0, 1) := by decide +kernel
theorem dL_law_3129 : decode cL_law 3129 = .ok (.iload 5, 2) := by decide +kernel
theorem dL_law_3131 : decode cL_law 3131 = .ok (.iconst 2, 1) := by decide +kernel
theorem dL_law_3132 : decode cL_law 3132 = .ok (.iadd, 1) := by decide +kernel
theorem dL_law_3133 : decode cL_law 3133 = .ok (.iaload, 1) := by decide +kernel
theorem dL_law_3134 : decode cL_law 3134 = .ok (.invokevirtual 309, 3) := by decide +kernel
theorem dL_law_3137 : decode cL_law 3137 = .ok (.istore 7, 2) := by decide +kernel
theorem dL_law_3139 : decode cL_law 3139 = .ok (.aload_n 2, 1) := by decide +kernel
theorem dL_law_3140 : decode cL_law 3140 = .ok (.invokevirtual 175, 3) := by decide +kernel
theorem dL_law_3143 : decode cL_law 3143 = .ok (.iload 6, 2) := by decide +kernel
theorem dL_law_3145 : decode cL_law 3145 = .ok (.if_icmp .eq 5, 3) := by decide +kernel
theorem dL_law_3148 : decode cL_law 3148 = .ok (.iconst 0, 1) := by decide +kernel
theorem dL_law_3149 : decode cL_law 3149 = .ok (.ireturn, 1) := by decide +kernel
theorem dL_law_3150 : decode cL_law 3150 = .ok (.iload 6, 2) := by decide +kernel
theorem dL_law_3152 : decode cL_law 3152 = .ok (.ifCond .ne 22, 3) := by decide +kernel
theorem dL_law_3155 : decode cL_law 3155 = .ok (.aload_n 3, 1) := by decide +kernel
theorem dL_law_3156 : decode cL_law 3156 = .ok (.iconst 0, 1) := by decide +kernel
theorem dL_law_3157 : decode cL_law 3157 = .ok (.laload, 1) := by decide +kernel
theorem dL_law_3158 : decode cL_law 3158 = .ok (.iload 7, 2) := by decide +kernel
theorem dL_law_3160 : decode cL_law 3160 = .ok (.ifCond .eq 7, 3) := by decide +kernel
theorem dL_law_3163 : decode cL_law 3163 = .ok (.lconst 1, 1) := by decide +kernel
theorem dL_law_3164 : decode cL_law 3164 = .ok (.goto 4, 3) := by decide +kernel
theorem dL_law_3167 : decode cL_law 3167 = .ok (.lconst 0, 1) := by decide +kernel
theorem dL_law_3168 : decode cL_law 3168 = .ok (.lcmp, 1) := by decide +kernel
theorem dL_law_3169 : decode cL_law 3169 = .ok (.ifCond .eq 5, 3) := by decide +kernel
theorem dL_law_3172 : decode cL_law 3172 = .ok (.iconst 0, 1) := by decide +kernel
theorem dL_law_3173 : decode cL_law 3173 = .ok (.ireturn, 1) := by decide +kernel
theorem dL_law_3174 : decode cL_law 3174 = .ok (.goto 213, 3) := by decide +kernel
theorem dL_law_3177 : decode cL_law 3177 = .ok (.aload_n 1, 1) := by decide +kernel
theorem dL_law_3178 : decode cL_law 3178 = .ok (.aload_n 0, 1) := by decide +kernel
theorem dL_law_3179 : decode cL_law 3179 = .ok (.iload 5, 2) := by decide +kernel
theorem dL_law_3181 : decode cL_law 3181 = .ok (.iconst 1, 1) := by decide +kernel
theorem dL_law_3182 : decode cL_law 3182 = .ok (.iadd, 1) := by decide +kernel
theorem dL_law_3183 : decode cL_law 3183 = .ok (.iaload, 1) := by decide +kernel
theorem dL_law_3184 : decode cL_law 3184 = .ok (.aload 4, 2) := by decide +kernel
theorem dL_law_3186 : decode cL_law 3186 = .ok (.invokestatic 310, 3) := by decide +kernel
theorem dL_law_3189 : decode cL_law 3189 = .ok (.istore 6, 2) := by decide +kernel
theorem dL_law_3191 : decode cL_law 3191 = .ok (.aload_n 2, 1) := by decide +kernel
theorem dL_law_3192 : decode cL_law 3192 = .ok (.aload_n 0, 1) := by decide +kernel
theorem dL_law_3193 : decode cL_law 3193 = .ok (.iload 5, 2) := by decide +kernel
theorem dL_law_3195 : decode cL_law 3195 = .ok (.iconst 1, 1) := by decide +kernel
theorem dL_law_3196 : decode cL_law 3196 = .ok (.iadd, 1) := by decide +kernel
theorem dL_law_3197 : decode cL_law 3197 = .ok (.iaload, 1) := by decide +kernel
theorem dL_law_3198 : decode cL_law 3198 = .ok (.invokevirtual 313, 3) := by decide +kernel
theorem dL_law_3201 : decode cL_law 3201 = .ok (.fstore 7, 2) := by decide +kernel
theorem dL_law_3203 : decode cL_law 3203 = .ok (.aload_n 2, 1) := by decide +kernel
theorem dL_law_3204 : decode cL_law 3204 = .ok (.invokevirtual 175, 3) := by decide +kernel
theorem dL_law_3207 : decode cL_law 3207 = .ok (.iload 6, 2) := by decide +kernel
theorem dL_law_3209 : decode cL_law 3209 = .ok (.if_icmp .eq 5, 3) := by decide +kernel
theorem dL_law_3212 : decode cL_law 3212 = .ok (.iconst 0, 1) := by decide +kernel
theorem dL_law_3213 : decode cL_law 3213 = .ok (.ireturn, 1) := by decide +kernel
theorem dL_law_3214 : decode cL_law 3214 = .ok (.iload 6, 2) := by decide +kernel
theorem dL_law_3216 : decode cL_law 3216 = .ok (.ifCond .ne 36, 3) := by decide +kernel
theorem dL_law_3219 : decode cL_law 3219 = .ok (.aload 4, 2) := by decide +kernel
theorem dL_law_3221 : decode cL_law 3221 = .ok (.iconst 0, 1) := by decide +kernel
theorem dL_law_3222 : decode cL_law 3222 = .ok (.daload, 1) := by decide +kernel
theorem dL_law_3223 : decode cL_law 3223 = .ok (.fload 7, 2) := by decide +kernel
theorem dL_law_3225 : decode cL_law 3225 = .ok (.f2d, 1) := by decide +kernel
theorem dL_law_3226 : decode cL_law 3226 = .ok (.dcmp .l, 1) := by decide +kernel
theorem dL_law_3227 : decode cL_law 3227 = .ok (.ifCond .eq 25, 3) := by decide +kernel
theorem dL_law_3230 : decode cL_law 3230 = .ok (.aload 4, 2) := by decide +kernel
theorem dL_law_3232 : decode cL_law 3232 = .ok (.iconst 0, 1) := by decide +kernel
theorem dL_law_3233 : decode cL_law 3233 = .ok (.daload, 1) := by decide +kernel
theorem dL_law_3234 : decode cL_law 3234 = .ok (.aload 4, 2) := by decide +kernel
theorem dL_law_3236 : decode cL_law 3236 = .ok (.iconst 0, 1) := by decide +kernel
theorem dL_law_3237 : decode cL_law 3237 = .ok (.daload, 1) := by decide +kernel
theorem dL_law_3238 : decode cL_law 3238 = .ok (.dcmp .l, 1) := by decide +kernel
theorem dL_law_3239 : decode cL_law 3239 = .ok (.ifCond .eq 11, 3) := by decide +kernel
theorem dL_law_3242 : decode cL_law 3242 = .ok (.fload 7, 2) := by decide +kernel
theorem dL_law_3244 : decode cL_law 3244 = .ok (.fload 7, 2) := by decide +kernel
theorem dL_law_3246 : decode cL_law 3246 = .ok (.fcmp .l, 1) := by decide +kernel
theorem dL_law_3247 : decode cL_law 3247 = .ok (.ifCond .ne 5, 3) := by decide +kernel
theorem dL_law_3250 : decode cL_law 3250 = .ok (.iconst 0, 1) := by decide +kernel
theorem dL_law_3251 : decode cL_law 3251 = .ok (.ireturn, 1) := by decide +kernel
theorem dL_law_3252 : decode cL_law 3252 = .ok (.goto 135, 3) := by decide +kernel
theorem dL_law_3255 : decode cL_law 3255 = .ok (.aload_n 1, 1) := by decide +kernel
theorem dL_law_3256 : decode cL_law 3256 = .ok (.aload_n 0, 1) := by decide +kernel
theorem dL_law_3257 : decode cL_law 3257 = .ok (.iload 5, 2) := by decide +kernel
theorem dL_law_3259 : decode cL_law 3259 = .ok (.iconst 1, 1) := by decide +kernel
theorem dL_law_3260 : decode cL_law 3260 = .ok (.iadd, 1) := by decide +kernel
theorem dL_law_3261 : decode cL_law 3261 = .ok (.iaload, 1) := by decide +kernel
theorem dL_law_3262 : decode cL_law 3262 = .ok (.aload 4, 2) := by decide +kernel
theorem dL_law_3264 : decode cL_law 3264 = .ok (.invokestatic 314, 3) := by decide +kernel
theorem dL_law_3267 : decode cL_law 3267 = .ok (.istore 6, 2) := by decide +kernel
theorem dL_law_3269 : decode cL_law 3269 = .ok (.aload_n 2, 1) := by decide +kernel
theorem dL_law_3270 : decode cL_law 3270 = .ok (.aload_n 0, 1) := by decide +kernel
theorem dL_law_3271 : decode cL_law 3271 = .ok (.iload 5, 2) := by decide +kernel
theorem dL_law_3273 : decode cL_law 3273 = .ok (.iconst 1, 1) := by decide +kernel
theorem dL_law_3274 : decode cL_law 3274 = .ok (.iadd, 1) := by decide +kernel
theorem dL_law_3275 : decode cL_law 3275 = .ok (.iaload, 1) := by decide +kernel
theorem dL_law_3276 : decode cL_law 3276 = .ok (.invokevirtual 316, 3) := by decide +kernel
theorem dL_law_3279 : decode cL_law 3279 = .ok (.dstore 7, 2) := by decide +kernel
theorem dL_law_3281 : decode cL_law 3281 = .ok (.aload_n 2, 1) := by decide +kernel
theorem dL_law_3282 : decode cL_law 3282 = .ok (.invokevirtual 175, 3) := by decide +kernel
theorem dL_law_3285 : decode cL_law 3285 = .ok (.iload 6, 2) := by decide +kernel
theorem dL_law_3287 : decode cL_law 3287 = .ok (.if_icmp .eq 5, 3) := by decide +kernel
theorem dL_law_3290 : decode cL_law 3290 = .ok (.iconst 0, 1) := by decide +kernel
theorem dL_law_3291 : decode cL_law 3291 = .ok (.ireturn, 1) := by decide +kernel
theorem dL_law_3292 : decode cL_law 3292 = .ok (.iload 6, 2) := by decide +kernel
theorem dL_law_3294 : decode cL_law 3294 = .ok (.ifCond .ne 35, 3) := by decide +kernel
theorem dL_law_3297 : decode cL_law 3297 = .ok (.aload 4, 2) := by decide +kernel
theorem dL_law_3299 : decode cL_law 3299 = .ok (.iconst 0, 1) := by decide +kernel
theorem dL_law_3300 : decode cL_law 3300 = .ok (.daload, 1) := by decide +kernel
theorem dL_law_3301 : decode cL_law 3301 = .ok (.dload 7, 2) := by decide +kernel
theorem dL_law_3303 : decode cL_law 3303 = .ok (.dcmp .l, 1) := by decide +kernel
theorem dL_law_3304 : decode cL_law 3304 = .ok (.ifCond .eq 25, 3) := by decide +kernel
theorem dL_law_3307 : decode cL_law 3307 = .ok (.aload 4, 2) := by decide +kernel
theorem dL_law_3309 : decode cL_law 3309 = .ok (.iconst 0, 1) := by decide +kernel
theorem dL_law_3310 : decode cL_law 3310 = .ok (.daload, 1) := by decide +kernel
theorem dL_law_3311 : decode cL_law 3311 = .ok (.aload 4, 2) := by decide +kernel
theorem dL_law_3313 : decode cL_law 3313 = .ok (.iconst 0, 1) := by decide +kernel
theorem dL_law_3314 : decode cL_law 3314 = .ok (.daload, 1) := by decide +kernel
theorem dL_law_3315 : decode cL_law 3315 = .ok (.dcmp .l, 1) := by decide +kernel
theorem dL_law_3316 : decode cL_law 3316 = .ok (.ifCond .eq 11, 3) := by decide +kernel
theorem dL_law_3319 : decode cL_law 3319 = .ok (.dload 7, 2) := by decide +kernel
theorem dL_law_3321 : decode cL_law 3321 = .ok (.dload 7, 2) := by decide +kernel
theorem dL_law_3323 : decode cL_law 3323 = .ok (.dcmp .l, 1) := by decide +kernel
theorem dL_law_3324 : decode cL_law 3324 = .ok (.ifCond .ne 5, 3) := by decide +kernel
theorem dL_law_3327 : decode cL_law 3327 = .ok (.iconst 0, 1) := by decide +kernel
theorem dL_law_3328 : decode cL_law 3328 = .ok (.ireturn, 1) := by decide +kernel
theorem dL_law_3329 : decode cL_law 3329 = .ok (.goto 58, 3) := by decide +kernel
theorem dL_law_3332 : decode cL_law 3332 = .ok (.aload_n 1, 1) := by decide +kernel
theorem dL_law_3333 : decode cL_law 3333 = .ok (.aload_n 0, 1) := by decide +kernel
theorem dL_law_3334 : decode cL_law 3334 = .ok (.iload 5, 2) := by decide +kernel
theorem dL_law_3336 : decode cL_law 3336 = .ok (.iconst 1, 1) := by decide +kernel
theorem dL_law_3337 : decode cL_law 3337 = .ok (.iadd, 1) := by decide +kernel
theorem dL_law_3338 : decode cL_law 3338 = .ok (.iaload, 1) := by decide +kernel
theorem dL_law_3339 : decode cL_law 3339 = .ok (.aload_n 3, 1) := by decide +kernel
theorem dL_law_3340 : decode cL_law 3340 = .ok (.invokestatic 317, 3) := by decide +kernel
theorem dL_law_3343 : decode cL_law 3343 = .ok (.istore 6, 2) := by decide +kernel
theorem dL_law_3345 : decode cL_law 3345 = .ok (.aload_n 2, 1) := by decide +kernel
theorem dL_law_3346 : decode cL_law 3346 = .ok (.aload_n 0, 1) := by decide +kernel
theorem dL_law_3347 : decode cL_law 3347 = .ok (.iload 5, 2) := by decide +kernel
theorem dL_law_3349 : decode cL_law 3349 = .ok (.iconst 1, 1) := by decide +kernel
theorem dL_law_3350 : decode cL_law 3350 = .ok (.iadd, 1) := by decide +kernel
theorem dL_law_3351 : decode cL_law 3351 = .ok (.iaload, 1) := by decide +kernel
theorem dL_law_3352 : decode cL_law 3352 = .ok (.invokevirtual 319, 3) := by decide +kernel
theorem dL_law_3355 : decode cL_law 3355 = .ok (.lstore 7, 2) := by decide +kernel
theorem dL_law_3357 : decode cL_law 3357 = .ok (.aload_n 2, 1) := by decide +kernel
theorem dL_law_3358 : decode cL_law 3358 = .ok (.invokevirtual 175, 3) := by decide +kernel
theorem dL_law_3361 : decode cL_law 3361 = .ok (.iload 6, 2) := by decide +kernel
theorem dL_law_3363 : decode cL_law 3363 = .ok (.if_icmp .eq 5, 3) := by decide +kernel
theorem dL_law_3366 : decode cL_law 3366 = .ok (.iconst 0, 1) := by decide +kernel
theorem dL_law_3367 : decode cL_law 3367 = .ok (.ireturn, 1) := by decide +kernel
theorem dL_law_3368 : decode cL_law 3368 = .ok (.iload 6, 2) := by decide +kernel
theorem dL_law_3370 : decode cL_law 3370 = .ok (.ifCond .ne 14, 3) := by decide +kernel
theorem dL_law_3373 : decode cL_law 3373 = .ok (.aload_n 3, 1) := by decide +kernel
theorem dL_law_3374 : decode cL_law 3374 = .ok (.iconst 0, 1) := by decide +kernel
theorem dL_law_3375 : decode cL_law 3375 = .ok (.laload, 1) := by decide +kernel
theorem dL_law_3376 : decode cL_law 3376 = .ok (.lload 7, 2) := by decide +kernel
theorem dL_law_3378 : decode cL_law 3378 = .ok (.lcmp, 1) := by decide +kernel
theorem dL_law_3379 : decode cL_law 3379 = .ok (.ifCond .eq 5, 3) := by decide +kernel
theorem dL_law_3382 : decode cL_law 3382 = .ok (.iconst 0, 1) := by decide +kernel
theorem dL_law_3383 : decode cL_law 3383 = .ok (.ireturn, 1) := by decide +kernel
theorem dL_law_3384 : decode cL_law 3384 = .ok (.goto 3, 3) := by decide +kernel
theorem dL_law_3387 : decode cL_law 3387 = .ok (.iinc 5 7, 3) := by decide +kernel
theorem dL_law_3390 : decode cL_law 3390 = .ok (.goto (-3362), 3) := by decide +kernel
theorem dL_law_3393 : decode cL_law 3393 = .ok (.iconst 1, 1) := by decide +kernel
theorem dL_law_3394 : decode cL_law 3394 = .ok (.ireturn, 1) := by decide +kernel
