theorem dL_law_2664 : decode cL_law 2664 = .ok (.iconst 2, 1) := by decide +kernel
theorem dL_law_2665 : decode cL_law 2665 = .ok (.iadd, 1) := by decide +kernel
theorem dL_law_2666 : decode cL_law 2666 = .ok (.iaload, 1) := by decide +kernel
theorem dL_law_2667 : decode cL_law 2667 = .ok (.aload_n 3, 1) := by decide +kernel
theorem dL_law_2668 : decode cL_law 2668 = .ok (.invokestatic 311, 3) := by decide +kernel
theorem dL_law_2671 : decode cL_law 2671 = .ok (.istore 5, 2) := by decide +kernel
theorem dL_law_2673 : decode cL_law 2673 = .ok (.aload_n 2, 1) := by decide +kernel
theorem dL_law_2674 : decode cL_law 2674 = .ok (.aload_n 0, 1) := by decide +kernel
theorem dL_law_2675 : decode cL_law 2675 = .ok (.iload 4, 2) := by decide +kernel
theorem dL_law_2677 : decode cL_law 2677 = .ok (.iconst 1, 1) := by decide +kernel
theorem dL_law_2678 : decode cL_law 2678 = .ok (.iadd, 1) := by decide +kernel
theorem dL_law_2679 : decode cL_law 2679 = .ok (.iaload, 1) := by decide +kernel
theorem dL_law_2680 : decode cL_law 2680 = .ok (.aload_n 0, 1) := by decide +kernel
theorem dL_law_2681 : decode cL_law 2681 = .ok (.iload 4, 2) := by decide +kernel
theorem dL_law_2683 : decode cL_law 2683 = .ok (.iconst 2, 1) := by decide +kernel
theorem dL_law_2684 : decode cL_law 2684 = .ok (.iadd, 1) := by decide +kernel
theorem dL_law_2685 : decode cL_law 2685 = .ok (.iaload, 1) := by decide +kernel
theorem dL_law_2686 : decode cL_law 2686 = .ok (.invokevirtual 313, 3) := by decide +kernel
theorem dL_law_2689 : decode cL_law 2689 = .ok (.istore 6, 2) := by decide +kernel
theorem dL_law_2691 : decode cL_law 2691 = .ok (.aload_n 2, 1) := by decide +kernel
theorem dL_law_2692 : decode cL_law 2692 = .ok (.invokevirtual 184, 3) := by decide +kernel
theorem dL_law_2695 : decode cL_law 2695 = .ok (.iload 5, 2) := by decide +kernel
theorem dL_law_2697 : decode cL_law 2697 = .ok (.if_icmp .eq 5, 3) := by decide +kernel
theorem dL_law_2700 : decode cL_law 2700 = .ok (.iconst 0, 1) := by decide +kernel
theorem dL_law_2701 : decode cL_law 2701 = .ok (.ireturn, 1) := by decide +kernel
theorem dL_law_2702 : decode cL_law 2702 = .ok (.iload 5, 2) := by decide +kernel
theorem dL_law_2704 : decode cL_law 2704 = .ok (.ifCond .ne 22, 3) := by decide +kernel
theorem dL_law_2707 : decode cL_law 2707 = .ok (.aload_n 3, 1) := by decide +kernel
theorem dL_law_2708 : decode cL_law 2708 = .ok (.iconst 0, 1) := by decide +kernel
theorem dL_law_2709 : decode cL_law 2709 = .ok (.laload, 1) := by decide +kernel
theorem dL_law_2710 : decode cL_law 2710 = .ok (.iload 6, 2) := by decide +kernel
theorem dL_law_2712 : decode cL_law 2712 = .ok (.ifCond .eq 7, 3) := by decide +kernel
theorem dL_law_2715 : decode cL_law 2715 = .ok (.lconst 1, 1) := by decide +kernel
theorem dL_law_2716 : decode cL_law 2716 = .ok (.goto 4, 3) := by decide +kernel
theorem dL_law_2719 : decode cL_law 2719 = .ok (.lconst 0, 1) := by decide +kernel
theorem dL_law_2720 : decode cL_law 2720 = .ok (.lcmp, 1) := by decide +kernel
theorem dL_law_2721 : decode cL_law 2721 = .ok (.ifCond .eq 5, 3) := by decide +kernel
theorem dL_law_2724 : decode cL_law 2724 = .ok (.iconst 0, 1) := by decide +kernel
theorem dL_law_2725 : decode cL_law 2725 = .ok (.ireturn, 1) := by decide +kernel
theorem dL_law_2726 : decode cL_law 2726 = .ok (.goto 793, 3) := by decide +kernel
theorem dL_law_2729 : decode cL_law 2729 = .ok (.aload_n 1, 1) := by decide +kernel
theorem dL_law_2730 : decode cL_law 2730 = .ok (.invokevirtual 314, 3) := by decide +kernel
theorem dL_law_2733 : decode cL_law 2733 = .ok (.aload_n 2, 1) := by decide +kernel
theorem dL_law_2734 : decode cL_law 2734 = .ok (.invokevirtual 317, 3) := by decide +kernel
theorem dL_law_2737 : decode cL_law 2737 = .ok (.if_icmp .eq 782, 3) := by decide +kernel
theorem dL_law_2740 : decode cL_law 2740 = .ok (.iconst 0, 1) := by decide +kernel
theorem dL_law_2741 : decode cL_law 2741 = .ok (.ireturn, 1) := by decide +kernel
theorem dL_law_2742 : decode cL_law 2742 = .ok (.aload_n 1, 1) := by decide +kernel
theorem dL_law_2743 : decode cL_law 2743 = .ok (.aload_n 0, 1) := by decide +kernel
theorem dL_law_2744 : decode cL_law 2744 = .ok (.iload 4, 2) := by decide +kernel
theorem dL_law_2746 : decode cL_law 2746 = .ok (.iconst 1, 1) := by decide +kernel
theorem dL_law_2747 : decode cL_law 2747 = .ok (.iadd, 1) := by decide +kernel
theorem dL_law_2748 : decode cL_law 2748 = .ok (.iaload, 1) := by decide +kernel
theorem dL_law_2749 : decode cL_law 2749 = .ok (.i2c, 1) := by decide +kernel
theorem dL_law_2750 : decode cL_law 2750 = .ok (.aload_n 3, 1) := by decide +kernel
theorem dL_law_2751 : decode cL_law 2751 = .ok (.invokestatic 318, 3) := by decide +kernel
theorem dL_law_2754 : decode cL_law 2754 = .ok (.istore 5, 2) := by decide +kernel
theorem dL_law_2756 : decode cL_law 2756 = .ok (.aload_n 2, 1) := by decide +kernel
theorem dL_law_2757 : decode cL_law 2757 = .ok (.aload_n 0, 1) := by decide +kernel
theorem dL_law_2758 : decode cL_law 2758 = .ok (.iload 4, 2) := by decide +kernel
theorem dL_law_2760 : decode cL_law 2760 = .ok (.iconst 1, 1) := by decide +kernel
theorem dL_law_2761 : decode cL_law 2761 = .ok (.iadd, 1) := by decide +kernel
theorem dL_law_2762 : decode cL_law 2762 = .ok (.iaload, 1) := by decide +kernel
theorem dL_law_2763 : decode cL_law 2763 = .ok (.i2c, 1) := by decide +kernel
theorem dL_law_2764 : decode cL_law 2764 = .ok (.invokevirtual 320, 3) := by decide +kernel
theorem dL_law_2767 : decode cL_law 2767 = .ok (.istore 6, 2) := by decide +kernel
theorem dL_law_2769 : decode cL_law 2769 = .ok (.aload_n 2, 1) := by decide +kernel
theorem dL_law_2770 : decode cL_law 2770 = .ok (.invokevirtual 184, 3) := by decide +kernel
theorem dL_law_2773 : decode cL_law 2773 = .ok (.iload 5, 2) := by decide +kernel
theorem dL_law_2775 : decode cL_law 2775 = .ok (.if_icmp .eq 5, 3) := by decide +kernel
theorem dL_law_2778 : decode cL_law 2778 = .ok (.iconst 0, 1) := by decide +kernel
theorem dL_law_2779 : decode cL_law 2779 = .ok (.ireturn, 1) := by decide +kernel
theorem dL_law_2780 : decode cL_law 2780 = .ok (.iload 5, 2) := by decide +kernel
theorem dL_law_2782 : decode cL_law 2782 = .ok (.ifCond .ne 15, 3) := by decide +kernel
theorem dL_law_2785 : decode cL_law 2785 = .ok (.aload_n 3, 1) := by decide +kernel
theorem dL_law_2786 : decode cL_law 2786 = .ok (.iconst 0, 1) := by decide +kernel
theorem dL_law_2787 : decode cL_law 2787 = .ok (.laload, 1) := by decide +kernel
theorem dL_law_2788 : decode cL_law 2788 = .ok (.iload 6, 2) := by decide +kernel
theorem dL_law_2790 : decode cL_law 2790 = .ok (.i2l, 1) := by decide +kernel
theorem dL_law_2791 : decode cL_law 2791 = .ok (.lcmp, 1) := by decide +kernel
theorem dL_law_2792 : decode cL_law 2792 = .ok (.ifCond .eq 5, 3) := by decide +kernel
theorem dL_law_2795 : decode cL_law 2795 = .ok (.iconst 0, 1) := by decide +kernel
theorem dL_law_2796 : decode cL_law 2796 = .ok (.ireturn, 1) := by decide +kernel
theorem dL_law_2797 : decode cL_law 2797 = .ok (.goto 722, 3) := by decide +kernel
theorem dL_law_2800 : decode cL_law 2800 = .ok (.aload_n 1, 1) := by decide +kernel
theorem dL_law_2801 : decode cL_law 2801 = .ok (.aload_n 0, 1) := by decide +kernel
theorem dL_law_2802 : decode cL_law 2802 = .ok (.iload 4, 2) := by decide +kernel
theorem dL_law_2804 : decode cL_law 2804 = .ok (.iconst 1, 1) := by decide +kernel
theorem dL_law_2805 : decode cL_law 2805 = .ok (.iadd, 1) := by decide +kernel
theorem dL_law_2806 : decode cL_law 2806 = .ok (.iaload, 1) := by decide +kernel
theorem dL_law_2807 : decode cL_law 2807 = .ok (.aload_n 3, 1) := by decide +kernel
theorem dL_law_2808 : decode cL_law 2808 = .ok (.invokestatic 321, 3) := by decide +kernel
theorem dL_law_2811 : decode cL_law 2811 = .ok (.istore 5, 2) := by decide +kernel
theorem dL_law_2813 : decode cL_law 2813 = .ok (.aload_n 2, 1) := by decide +kernel
theorem dL_law_2814 : decode cL_law 2814 = .ok (.aload_n 0, 1) := by decide +kernel
theorem dL_law_2815 : decode cL_law 2815 = .ok (.iload 4, 2) := by decide +kernel
theorem dL_law_2817 : decode cL_law 2817 = .ok (.iconst 1, 1) := by decide +kernel
theorem dL_law_2818 : decode cL_law 2818 = .ok (.iadd, 1) := by decide +kernel
theorem dL_law_2819 : decode cL_law 2819 = .ok (.iaload, 1) := by decide +kernel
theorem dL_law_2820 : decode cL_law 2820 = .ok (.invokevirtual 323, 3) := by decide +kernel
theorem dL_law_2823 : decode cL_law 2823 = .ok (.istore 6, 2) := by decide +kernel
theorem dL_law_2825 : decode cL_law 2825 = .ok (.aload_n 2, 1) := by decide +kernel
theorem dL_law_2826 : decode cL_law 2826 = .ok (.invokevirtual 184, 3) := by decide +kernel
theorem dL_law_2829 : decode cL_law 2829 = .ok (.iload 5, 2) := by decide +kernel
theorem dL_law_2831 : decode cL_law 2831 = .ok (.if_icmp .eq 5, 3) := by decide +kernel
theorem dL_law_2834 : decode cL_law 2834 = .ok (.iconst 0, 1) := by decide +kernel
theorem dL_law_2835 : decode cL_law 2835 = .ok (.ireturn, 1) := by decide +kernel
theorem dL_law_2836 : decode cL_law 2836 = .ok (.iload 5, 2) := by decide +kernel
theorem dL_law_2838 : decode cL_law 2838 = .ok (.ifCond .ne 15, 3) := by decide +kernel
theorem dL_law_2841 : decode cL_law 2841 = .ok (.aload_n 3, 1) := by decide +kernel
theorem dL_law_2842 : decode cL_law 2842 = .ok (.iconst 0, 1) := by decide +kernel
theorem dL_law_2843 : decode cL_law 2843 = .ok (.laload, 1) := by decide +kernel
theorem dL_law_2844 : decode cL_law 2844 = .ok (.iload 6, 2) := by decide +kernel
theorem dL_law_2846 : decode cL_law 2846 = .ok (.i2l, 1) := by decide +kernel
theorem dL_law_2847 : decode cL_law 2847 = .ok (.lcmp, 1) := by decide +kernel
theorem dL_law_2848 : decode cL_law 2848 = .ok (.ifCond .eq 5, 3) := by decide +kernel
theorem dL_law_2851 : decode cL_law 2851 = .ok (.iconst 0, 1) := by decide +kernel
theorem dL_law_2852 : decode cL_law 2852 = .ok (.ireturn, 1) := by decide +kernel
theorem dL_law_2853 : decode cL_law 2853 = .ok (.goto 666, 3) := by decide +kernel
theorem dL_law_2856 : decode cL_law 2856 = .ok (.aload_n 1, 1) := by decide +kernel
theorem dL_law_2857 : decode cL_law 2857 = .ok (.invokevirtual 324, 3) := by decide +kernel
theorem dL_law_2860 : decode cL_law 2860 = .ok (.aload_n 2, 1) := by decide +kernel
theorem dL_law_2861 : decode cL_law 2861 = .ok (.invokevirtual 327, 3) := by decide +kernel
theorem dL_law_2864 : decode cL_law 2864 = .ok (.if_icmp .eq 655, 3) := by decide +kernel
theorem dL_law_2867 : decode cL_law 2867 = .ok (.iconst 0, 1) := by decide +kernel
theorem dL_law_2868 : decode cL_law 2868 = .ok (.ireturn, 1) := by decide +kernel
theorem dL_law_2869 : decode cL_law 2869 = .ok (.aload_n 1, 1) := by decide +kernel
theorem dL_law_2870 : decode cL_law 2870 = .ok (.invokevirtual 328, 3) := by decide +kernel
theorem dL_law_2873 : decode cL_law 2873 = .ok (.aload_n 2, 1) := by decide +kernel
theorem dL_law_2874 : decode cL_law 2874 = .ok (.invokevirtual 331, 3) := by decide +kernel
theorem dL_law_2877 : decode cL_law 2877 = .ok (.if_icmp .eq 642, 3) := by decide +kernel
theorem dL_law_2880 : decode cL_law 2880 = .ok (.iconst 0, 1) := by decide +kernel
theorem dL_law_2881 : decode cL_law 2881 = .ok (.ireturn, 1) := by decide +kernel
theorem dL_law_2882 : decode cL_law 2882 = .ok (.aload_n 1, 1) := by decide +kernel
theorem dL_law_2883 : decode cL_law 2883 = .ok (.invokevirtual 332, 3) := by decide +kernel
theorem dL_law_2886 : decode cL_law 2886 = .ok (.dstore 5, 2) := by decide +kernel
theorem dL_law_2888 : decode cL_law 2888 = .ok (.aload_n 2, 1) := by decide +kernel
theorem dL_law_2889 : decode cL_law 2889 = .ok (.invokevirtual 336, 3) := by decide +kernel
theorem dL_law_2892 : decode cL_law 2892 = .ok (.dstore 7, 2) := by decide +kernel
theorem dL_law_2894 : decode cL_law 2894 = .ok (.dload 5, 2) := by decide +kernel
theorem dL_law_2896 : decode cL_law 2896 = .ok (.dload 7, 2) := by decide +kernel
theorem dL_law_2898 : decode cL_law 2898 = .ok (.dcmp .l, 1) := by decide +kernel
theorem dL_law_2899 : decode cL_law 2899 = .ok (.ifCond .eq 21, 3) := by decide +kernel
theorem dL_law_2902 : decode cL_law 2902 = .ok (.dload 5, 2) := by decide +kernel
theorem dL_law_2904 : decode cL_law 2904 = .ok (.dload 5, 2) := by decide +kernel
theorem dL_law_2906 : decode cL_law 2906 = .ok (.dcmp .l, 1) := by decide +kernel
theorem dL_law_2907 : decode cL_law 2907 = .ok (.ifCond .eq 11, 3) := by decide +kernel
theorem dL_law_2910 : decode cL_law 2910 = .ok (.dload 7, 2) := by decide +kernel
theorem dL_law_2912 : decode cL_law 2912 = .ok (.dload 7, 2) := by decide +kernel
theorem dL_law_2914 : decode cL_law 2914 = .ok (.dcmp .l, 1) := by decide +kernel
theorem dL_law_2915 : decode cL_law 2915 = .ok (.ifCond .ne 5, 3) := by decide +kernel
theorem dL_law_2918 : decode cL_law 2918 = .ok (.iconst 0, 1) := by decide +kernel
theorem dL_law_2919 : decode cL_law 2919 = .ok (.ireturn, 1) := by decide +kernel
theorem dL_law_2920 : decode cL_law 2920 = .ok (.goto 599, 3) := by decide +kernel
theorem dL_law_2923 : decode cL_law 2923 = .ok (.aload_n 1, 1) := by decide +kernel
theorem dL_law_2924 : decode cL_law 2924 = .ok (.invokevirtual 337, 3) := by decide +kernel
theorem dL_law_2927 : decode cL_law 2927 = .ok (.f2d, 1) := by decide +kernel
theorem dL_law_2928 : decode cL_law 2928 = .ok (.dstore 5, 2) := by decide +kernel
theorem dL_law_2930 : decode cL_law 2930 = .ok (.aload_n 2, 1) := by decide +kernel
theorem dL_law_2931 : decode cL_law 2931 = .ok (.invokevirtual 341, 3) := by decide +kernel
theorem dL_law_2934 : decode cL_law 2934 = .ok (.f2d, 1) := by decide +kernel
theorem dL_law_2935 : decode cL_law 2935 = .ok (.dstore 7, 2) := by decide +kernel
theorem dL_law_2937 : decode cL_law 2937 = .ok (.dload 5, 2) := by decide +kernel
theorem dL_law_2939 : decode cL_law 2939 = .ok (.dload 7, 2) := by decide +kernel
theorem dL_law_2941 : decode cL_law 2941 = .ok (.dcmp .l, 1) := by decide +kernel
theorem dL_law_2942 : decode cL_law 2942 = .ok (.ifCond .eq 21, 3) := by decide +kernel
theorem dL_law_2945 : decode cL_law 2945 = .ok (.dload 5, 2) := by decide +kernel
theorem dL_law_2947 : decode cL_law 2947 = .ok (.dload 5, 2) := by decide +kernel
theorem dL_law_2949 : decode cL_law 2949 = .ok (.dcmp .l, 1) := by decide +kernel
theorem dL_law_2950 : decode cL_law 2950 = .ok (.ifCond .eq 11, 3) := by decide +kernel
theorem dL_law_2953 : decode cL_law 2953 = .ok (.dload 7, 2) := by decide +kernel
theorem dL_law_2955 : decode cL_law 2955 = .ok (.dload 7, 2) := by decide +kernel
theorem dL_law_2957 : decode cL_law 2957 = .ok (.dcmp .l, 1) := by decide +kernel
theorem dL_law_2958 : decode cL_law 2958 = .ok (.ifCond .ne 5, 3) := by decide +kernel
theorem dL_law_2961 : decode cL_law 2961 = .ok (.iconst 0, 1) := by decide +kernel
theorem dL_law_2962 : decode cL_law 2962 = .ok (.ireturn, 1) := by decide +kernel
theorem dL_law_2963 : decode cL_law 2963 = .ok (.goto 556, 3) := by decide +kernel
theorem dL_law_2966 : decode cL_law 2966 = .ok (.aload_n 1, 1) := by decide +kernel
theorem dL_law_2967 : decode cL_law 2967 = .ok (.invokevirtual 342, 3) := by decide +kernel
theorem dL_law_2970 : decode cL_law 2970 = .ok (.aload_n 2, 1) := by decide +kernel
theorem dL_law_2971 : decode cL_law 2971 = .ok (.invokevirtual 346, 3) := by decide +kernel
theorem dL_law_2974 : decode cL_law 2974 = .ok (.if_icmp .eq 545, 3) := by decide +kernel
theorem dL_law_2977 : decode cL_law 2977 = .ok (.iconst 0, 1) := by decide +kernel
theorem dL_law_2978 : decode cL_law 2978 = .ok (.ireturn, 1) := by decide +kernel
theorem dL_law_2979 : decode cL_law 2979 = .ok (.aload_n 1, 1) := by decide +kernel
theorem dL_law_2980 : decode cL_law 2980 = .ok (.aload_n 0, 1) := by decide +kernel
theorem dL_law_2981 : decode cL_law 2981 = .ok (.iload 4, 2) := by decide +kernel
theorem dL_law_2983 : decode cL_law 2983 = .ok (.iconst 1, 1) := by decide +kernel
theorem dL_law_2984 : decode cL_law 2984 = .ok (.iadd, 1) := by decide +kernel
theorem dL_law_2985 : decode cL_law 2985 = .ok (.iaload, 1) := by decide +kernel
theorem dL_law_2986 : decode cL_law 2986 = .ok (.aload_n 3, 1) := by decide +kernel
theorem dL_law_2987 : decode cL_law 2987 = .ok (.invokestatic 347, 3) := by decide +kernel
theorem dL_law_2990 : decode cL_law 2990 = .ok (.istore 5, 2) := by decide +kernel
theorem dL_law_2992 : decode cL_law 2992 = .ok (.aload_n 2, 1) := by decide +kernel
theorem dL_law_2993 : decode cL_law 2993 = .ok (.aload_n 0, 1) := by decide +kernel
theorem dL_law_2994 : decode cL_law 2994 = .ok (.iload 4, 2) := by decide +kernel
theorem dL_law_2996 : decode cL_law 2996 = .ok (.iconst 1, 1) := by decide +kernel
theorem dL_law_2997 : decode cL_law 2997 = .ok (.iadd, 1) := by decide +kernel
theorem dL_law_2998 : decode cL_law 2998 = .ok (.iaload, 1) := by decide +kernel
theorem dL_law_2999 : decode cL_law 2999 = .ok (.invokevirtual 349, 3) := by decide +kernel
theorem dL_law_3002 : decode cL_law 3002 = .ok (.istore 6, 2) := by decide +kernel
theorem dL_law_3004 : decode cL_law 3004 = .ok (.aload_n 2, 1) := by decide +kernel
theorem dL_law_3005 : decode cL_law 3005 = .ok (.invokevirtual 184, 3) := by decide +kernel
theorem dL_law_3008 : decode cL_law 3008 = .ok (.iload 5, 2) := by decide +kernel
theorem dL_law_3010 : decode cL_law 3010 = .ok (.if_icmp .eq 5, 3) := by decide +kernel
theorem dL_law_3013 : decode cL_law 3013 = .ok (.iconst 0, 1) := by decide +kernel
theorem dL_law_3014 : decode cL_law 3014 = .ok (.ireturn, 1) := by decide +kernel
theorem dL_law_3015 : decode cL_law 3015 = .ok (.iload 5, 2) := by decide +kernel
theorem dL_law_3017 : decode cL_law 3017 = .ok (.ifCond .ne 15, 3) := by decide +kernel
theorem dL_law_3020 : decode cL_law 3020 = .ok (.aload_n 3, 1) := by decide +kernel
theorem dL_law_3021 : decode cL_law 3021 = .ok (.iconst 0, 1) := by decide +kernel
theorem dL_law_3022 : decode cL_law 3022 = .ok (.laload, 1) := by decide +kernel
theorem dL_law_3023 : decode cL_law 3023 = .ok (.iload 6, 2) := by decide +kernel
theorem dL_law_3025 : decode cL_law 3025 = .ok (.i2l, 1) := by decide +kernel
theorem dL_law_3026 : decode cL_law 3026 = .ok (.lcmp, 1) := by decide +kernel
theorem dL_law_3027 : decode cL_law 3027 = .ok (.ifCond .eq 5, 3) := by decide +kernel
theorem dL_law_3030 : decode cL_law 3030 = .ok (.iconst 0, 1) := by decide +kernel
theorem dL_law_3031 : decode cL_law 3031 = .ok (.ireturn, 1) := by decide +kernel
theorem dL_law_3032 : decode cL_law 3032 = .ok (.goto 487, 3) := by decide +kernel
theorem dL_law_3035 : decode cL_law 3035 = .ok (.aload_n 1, 1) := by decide +kernel
theorem dL_law_3036 : decode cL_law 3036 = .ok (.aload_n 0, 1) := by decide +kernel
theorem dL_law_3037 : decode cL_law 3037 = .ok (.iload 4, 2) := by decide +kernel
theorem dL_law_3039 : decode cL_law 3039 = .ok (.iconst 1, 1) := by decide +kernel
theorem dL_law_3040 : decode cL_law 3040 = .ok (.iadd, 1) := by decide +kernel
theorem dL_law_3041 : decode cL_law 3041 = .ok (.iaload, 1) := by decide +kernel
theorem dL_law_3042 : decode cL_law 3042 = .ok (.aload_n 3, 1) := by decide +kernel
theorem dL_law_3043 : decode cL_law 3043 = .ok (.invokestatic 350, 3) := by decide +kernel
theorem dL_law_3046 : decode cL_law 3046 = .ok (.istore 5, 2) := by decide +kernel
theorem dL_law_3048 : decode cL_law 3048 = .ok (.aload_n 2, 1) := by decide +kernel
theorem dL_law_3049 : decode cL_law 3049 = .ok (.aload_n 0, 1) := by decide +kernel
theorem dL_law_3050 : decode cL_law 3050 = .ok (.iload 4, 2) := by decide +kernel
theorem dL_law_3052 : decode cL_law 3052 = .ok (.iconst 1, 1) := by decide +kernel
theorem dL_law_3053 : decode cL_law 3053 = .ok (.iadd, 1) := by decide +kernel
theorem dL_law_3054 : decode cL_law 3054 = .ok (.iaload, 1) := by decide +kernel
theorem dL_law_3055 : decode cL_law 3055 = .ok (.invokevirtual 352, 3) := by decide +kernel
theorem dL_law_3058 : decode cL_law 3058 = .ok (.istore 6, 2) := by decide +kernel
theorem dL_law_3060 : decode cL_law 3060 = .ok (.aload_n 2, 1) := by decide +kernel
theorem dL_law_3061 : decode cL_law 3061 = .ok (.invokevirtual 184, 3) := by decide +kernel
theorem dL_law_3064 : decode cL_law 3064 = .ok (.iload 5, 2) := by decide +kernel
theorem dL_law_3066 : decode cL_law 3066 = .ok (.if_icmp .eq 5, 3) := by decide +kernel
theorem dL_law_3069 : decode cL_law 3069 = .ok (.iconst 0, 1) := by decide +kernel
theorem dL_law_3070 : decode cL_law 3070 = .ok (.ireturn, 1) := by decide +kernel
theorem dL_law_3071 : decode cL_law 3071 = .ok (.iload 5, 2) := by decide +kernel
theorem dL_law_3073 : decode cL_law 3073 = .ok (.ifCond .ne 15, 3) := by decide +kernel
theorem dL_law_3076 : decode cL_law 3076 = .ok (.aload_n 3, 1) := by decide +kernel
theorem dL_law_3077 : decode cL_law 3077 = .ok (.iconst 0, 1) := by decide +kernel
theorem dL_law_3078 : decode cL_law 3078 = .ok (.laload, 1) := by decide +kernel
theorem dL_law_3079 : decode cL_law 3079 = .ok (.iload 6, 2) := by decide +kernel
theorem dL_law_3081 : decode cL_law 3081 = .ok (.i2l, 1) := by decide +kernel
theorem dL_law_3082 : decode cL_law 3082 = .ok (.lcmp, 1) := by decide +kernel
theorem dL_law_3083 : decode cL_law 3083 = .ok (.ifCond .eq 5, 3) := by decide +kernel
theorem dL_law_3086 : decode cL_law 3086 = .ok (.iconst 0, 1) := by decide +kernel
theorem dL_law_3087 : decode cL_law 3087 = .ok (.ireturn, 1) := by decide +kernel
theorem dL_law_3088 : decode cL_law 3088 = .ok (.goto 431, 3) := by decide +kernel
theorem dL_law_3091 : decode cL_law 3091 = .ok (.aload_n 1, 1) := by decide +kernel
theorem dL_law_3092 : decode cL_law 3092 = .ok (.aload_n 0, 1) := by decide +kernel
theorem dL_law_3093 : decode cL_law 3093 = .ok (.iload 4, 2) := by decide +kernel
theorem dL_law_3095 : decode cL_law 3095 = .ok (.iconst 1, 1) := by decide +kernel
theorem dL_law_3096 : decode cL_law 3096 = .ok (.iadd, 1) := by decide +kernel
theorem dL_law_3097 : decode cL_law 3097 = .ok (.iaload, 1) := by decide +kernel
theorem dL_law_3098 : decode cL_law 3098 = .ok (.aload_n 0, 1) := by decide +kernel
theorem dL_law_3099 : decode cL_law 3099 = .ok (.iload 4, 2) := by decide +kernel
theorem dL_law_3101 : decode cL_law 3101 = .ok (.iconst 2, 1) := by decide +kernel
theorem dL_law_3102 : decode cL_law 3102 = .ok (.iadd, 1) := by decide +kernel
theorem dL_law_3103 : decode cL_law 3103 = .ok (.iaload, 1) := by decide +kernel
theorem dL_law_3104 : decode cL_law 3104 = .ok (.aload_n 3, 1) := by decide +kernel
theorem dL_law_3105 : decode cL_law 3105 = .ok (.invokestatic 353, 3) := by decide +kernel
theorem dL_law_3108 : decode cL_law 3108 = .ok (.istore 5, 2) := by decide +kernel
theorem dL_law_3110 : decode cL_law 3110 = .ok (.aload_n 2, 1) := by decide +kernel
theorem dL_law_3111 : decode cL_law 3111 = .ok (.aload_n 0, 1) := by decide +kernel
theorem dL_law_3112 : decode cL_law 3112 = .ok (.iload 4, 2) := by decide +kernel
theorem dL_law_3114 : decode cL_law 3114 = .ok (.iconst 1, 1) := by decide +kernel
theorem dL_law_3115 : decode cL_law 3115 = .ok (.iadd, 1) := by decide +kernel
theorem dL_law_3116 : decode cL_law 3116 = .ok (.iaload, 1) := by decide +kernel
theorem dL_law_3117 : decode cL_law 3117 = .ok (.aload_n 0, 1) := by decide +kernel
theorem dL_law_3118 : decode cL_law 3118 = .ok (.iload 4, 2) := by decide +kernel
theorem dL_law_3120 : decode cL_law 3120 = .ok (.iconst 2, 1) := by decide +kernel
theorem dL_law_3121 : decode cL_law 3121 = .ok (.iadd, 1) := by decide +kernel
theorem dL_law_3122 : decode cL_law 3122 = .ok (.iaload, 1) := by decide +kernel
theorem dL_law_3123 : decode cL_law 3123 = .ok (.invokevirtual 355, 3) := by decide +kernel
theorem dL_law_3126 : decode cL_law 3126 = .ok (.istore 6, 2) := by decide +kernel
theorem dL_law_3128 : decode cL_law 3128 = .ok (.aload_n 2, 1) := by decide +kernel
theorem dL_law_3129 : decode cL_law 3129 = .ok (.invokevirtual 184, 3) := by decide +kernel
theorem dL_law_3132 : decode cL_law 3132 = .ok (.iload 5, 2) := by decide +kernel
theorem dL_law_3134 : decode cL_law 3134 = .ok (.if_icmp .eq 5, 3) := by decide +kernel
theorem dL_law_3137 : decode cL_law 3137 = .ok (.iconst 0, 1) := by decide +kernel
theorem dL_law_3138 : decode cL_law 3138 = .ok (.ireturn, 1) := by decide +kernel
theorem dL_law_3139 : decode cL_law 3139 = .ok (.iload 5, 2) := by decide +kernel
theorem dL_law_3141 : decode cL_law 3141 = .ok (.ifCond .ne 15, 3) := by decide +kernel
theorem dL_law_3144 : decode cL_law 3144 = .ok (.aload_n 3, 1) := by decide +kernel
theorem dL_law_3145 : decode cL_law 3145 = .ok (.iconst 0, 1) := by decide +kernel
theorem dL_law_3146 : decode cL_law 3146 = .ok (.laload, 1) := by decide +kernel
theorem dL_law_3147 : decode cL_law 3147 = .ok (.iload 6, 2) := by decide +kernel
theorem dL_law_3149 : decode cL_law 3149 = .ok (.i2l, 1) := by decide +kernel
theorem dL_law_3150 : decode cL_law 3150 = .ok (.lcmp, 1) := by decide +kernel
theorem dL_law_3151 : decode cL_law 3151 = .ok (.ifCond .eq 5, 3) := by decide +kernel
theorem dL_law_3154 : decode cL_law 3154 = .ok (.iconst 0, 1) := by decide +kernel
theorem dL_law_3155 : decode cL_law 3155 = .ok (.ireturn, 1) := by decide +kernel
theorem dL_law_3156 : decode cL_law 3156 = .ok (.goto 363, 3) := by decide +kernel
theorem dL_law_3159 : decode cL_law 3159 = .ok (.aload_n 1, 1) := by decide +kernel
theorem dL_law_3160 : decode cL_law 3160 = .ok (.aload_n 0, 1) := by decide +kernel
theorem dL_law_3161 : decode cL_law 3161 = .ok (.iload 4, 2) := by decide +kernel
theorem dL_law_3163 : decode cL_law 3163 = .ok (.iconst 1, 1) := by decide +kernel
theorem dL_law_3164 : decode cL_law 3164 = .ok (.iadd, 1) := by decide +kernel
theorem dL_law_3165 : decode cL_law 3165 = .ok (.iaload, 1) := by decide +kernel
theorem dL_law_3166 : decode cL_law 3166 = .ok (.aload_n 3, 1) := by decide +kernel
theorem dL_law_3167 : decode cL_law 3167 = .ok (.invokestatic 356, 3) := by decide +kernel
theorem dL_law_3170 : decode cL_law 3170 = .ok (.istore 5, 2) := by decide +kernel
theorem dL_law_3172 : decode cL_law 3172 = .ok (.aload_n 2, 1) := by decide +kernel
theorem dL_law_3173 : decode cL_law 3173 = .ok (.aload_n 0, 1) := by decide +kernel
theorem dL_law_3174 : decode cL_law 3174 = .ok (.iload 4, 2) := by decide +kernel
theorem dL_law_3176 : decode cL_law 3176 = .ok (.iconst 1, 1) := by decide +kernel
theorem dL_law_3177 : decode cL_law 3177 = .ok (.iadd, 1) := by decide +kernel
theorem dL_law_3178 : decode cL_law 3178 = .ok (.iaload, 1) := by decide +kernel
theorem dL_law_3179 : decode cL_law 3179 = .ok (.invokevirtual 358, 3) := by decide +kernel
theorem dL_law_3182 : decode cL_law 3182 = .ok (.istore 6, 2) := by decide +kernel
theorem dL_law_3184 : decode cL_law 3184 = .ok (.aload_n 2, 1) := by decide +kernel
theorem dL_law_3185 : decode cL_law 3185 = .ok (.invokevirtual 184, 3) := by decide +kernel
theorem dL_law_3188 : decode cL_law 3188 = .ok (.iload 5, 2) := by decide +kernel
theorem dL_law_3190 : decode cL_law 3190 = .ok (.if_icmp .eq 5, 3) := by decide +kernel
theorem dL_law_3193 : decode cL_law 3193 = .ok (.iconst 0, 1) := by decide +kernel
theorem dL_law_3194 : decode cL_law 3194 = .ok (.ireturn, 1) := by decide +kernel
theorem dL_law_3195 : decode cL_law 3195 = .ok (.iload 5, 2) := by decide +kernel
theorem dL_law_3197 : decode cL_law 3197 = .ok (.ifCond .ne 15, 3) := by decide +kernel
theorem dL_law_3200 : decode cL_law 3200 = .ok (.aload_n 3, 1) := by decide +kernel
theorem dL_law_3201 : decode cL_law 3201 = .ok (.iconst 0, 1) := by decide +kernel
theorem dL_law_3202 : decode cL_law 3202 = .ok (.laload, 1) := by decide +kernel
theorem dL_law_3203 : decode cL_law 3203 = .ok (.iload 6, 2) := by decide +kernel
theorem dL_law_3205 : decode cL_law 3205 = .ok (.i2l, 1) := by decide +kernel
theorem dL_law_3206 : decode cL_law 3206 = .ok (.lcmp, 1) := by decide +kernel
theorem dL_law_3207 : decode cL_law 3207 = .ok (.ifCond .eq 5, 3) := by decide +kernel
theorem dL_law_3210 : decode cL_law 3210 = .ok (.iconst 0, 1) := by decide +kernel
theorem dL_law_3211 : decode cL_law 3211 = .ok (.ireturn, 1) := by decide +kernel
theorem dL_law_3212 : decode cL_law 3212 = .ok (.goto 307, 3) := by decide +kernel
theorem dL_law_3215 : decode cL_law 3215 = .ok (.aload_n 1, 1) := by decide +kernel
theorem dL_law_3216 : decode cL_law 3216 = .ok (.aload_n 0, 1) := by decide +kernel
theorem dL_law_3217 : decode cL_law 3217 = .ok (.iload 4, 2) := by decide +kernel
theorem dL_law_3219 : decode cL_law 3219 = .ok (.iconst 1, 1) := by decide +kernel
theorem dL_law_3220 : decode cL_law 3220 = .ok (.iadd, 1) := by decide +kernel
theorem dL_law_3221 : decode cL_law 3221 = .ok (.iaload, 1) := by decide +kernel
theorem dL_law_3222 : decode cL_law 3222 = .ok (.i2c, 1) := by decide +kernel
theorem dL_law_3223 : decode cL_law 3223 = .ok (.aload_n 3, 1) := by decide +kernel
theorem dL_law_3224 : decode cL_law 3224 = .ok (.invokestatic 359, 3) := by decide +kernel
theorem dL_law_3227 : decode cL_law 3227 = .ok (.istore 5, 2) := by decide +kernel
theorem dL_law_3229 : decode cL_law 3229 = .ok (.aload_n 2, 1) := by decide +kernel
theorem dL_law_3230 : decode cL_law 3230 = .ok (.aload_n 0, 1) := by decide +kernel
theorem dL_law_3231 : decode cL_law 3231 = .ok (.iload 4, 2) := by decide +kernel
theorem dL_law_3233 : decode cL_law 3233 = .ok (.iconst 1, 1) := by decide +kernel
theorem dL_law_3234 : decode cL_law 3234 = .ok (.iadd, 1) := by decide +kernel
theorem dL_law_3235 : decode cL_law 3235 = .ok (.iaload, 1) := by decide +kernel
theorem dL_law_3236 : decode cL_law 3236 = .ok (.i2c, 1) := by decide +kernel
theorem dL_law_3237 : decode cL_law 3237 = .ok (.invokevirtual 361, 3) := by decide +kernel
theorem dL_law_3240 : decode cL_law 3240 = .ok (.istore 6, 2) := by decide +kernel
theorem dL_law_3242 : decode cL_law 3242 = .ok (.aload_n 2, 1) := by decide +kernel
theorem dL_law_3243 : decode cL_law 3243 = .ok (.invokevirtual 184, 3) := by decide +kernel
theorem dL_law_3246 : decode cL_law 3246 = .ok (.iload 5, 2) := by decide +kernel
theorem dL_law_3248 : decode cL_law 3248 = .ok (.if_icmp .eq 5, 3) := by decide +kernel
theorem dL_law_3251 : decode cL_law 3251 = .ok (.iconst 0, 1) := by decide +kernel
theorem dL_law_3252 : decode cL_law 3252 = .ok (.ireturn, 1) := by decide +kernel
theorem dL_law_3253 : decode cL_law 3253 = .ok (.iload 5, 2) := by decide +kernel
theorem dL_law_3255 : decode cL_law 3255 = .ok (.ifCond .ne 15, 3) := by decide +kernel
theorem dL_law_3258 : decode cL_law 3258 = .ok (.aload_n 3, 1) := by decide +kernel
theorem dL_law_3259 : decode cL_law 3259 = .ok (.iconst 0, 1) := by decide +kernel
theorem dL_law_3260 : decode cL_law 3260 = .ok (.laload, 1) := by decide +kernel
theorem dL_law_3261 : decode cL_law 3261 = .ok (.iload 6, 2) := by decide +kernel
theorem dL_law_3263 : decode cL_law 3263 = .ok (.i2l, 1) := by decide +kernel
theorem dL_law_3264 : decode cL_law 3264 = .ok (.lcmp, 1) := by decide +kernel
theorem dL_law_3265 : decode cL_law 3265 = .ok (.ifCond .eq 5, 3) := by decide +kernel
theorem dL_law_3268 : decode cL_law 3268 = .ok (.iconst 0, 1) := by decide +kernel
theorem dL_law_3269 : decode cL_law 3269 = .ok (.ireturn, 1) := by decide +kernel
theorem dL_law_3270 : decode cL_law 3270 = .ok (.goto 249, 3) := by decide +kernel
theorem dL_law_3273 : decode cL_law 3273 = .ok (.aload_n 1, 1) := by decide +kernel
theorem dL_law_3274 : decode cL_law 3274 = .ok (.aload_n 3, 1) := by decide +kernel
theorem dL_law_3275 : decode cL_law 3275 = .ok (.invokestatic 362, 3) := by decide +kernel
theorem dL_law_3278 : decode cL_law 3278 = .ok (.istore 5, 2) := by decide +kernel
theorem dL_law_3280 : decode cL_law 3280 = .ok (.aload_n 2, 1) := by decide +kernel
theorem dL_law_3281 : decode cL_law 3281 = .ok (.invokevirtual 365, 3) := by decide +kernel
theorem dL_law_3284 : decode cL_law 3284 = .ok (.istore 6, 2) := by decide +kernel
theorem dL_law_3286 : decode cL_law 3286 = .ok (.aload_n 2, 1) := by decide +kernel
theorem dL_law_3287 : decode cL_law 3287 = .ok (.invokevirtual 184, 3) := by decide +kernel
theorem dL_law_3290 : decode cL_law 3290 = .ok (.iload 5, 2) := by decide +kernel
theorem dL_law_3292 : decode cL_law 3292 = .ok (.if_icmp .eq 5, 3) := by decide +kernel
theorem dL_law_3295 : decode cL_law 3295 = .ok (.iconst 0, 1) := by decide +kernel
theorem dL_law_3296 : decode cL_law 3296 = .ok (.ireturn, 1) := by decide +kernel
theorem dL_law_3297 : decode cL_law 3297 = .ok (.iload 5, 2) := by decide +kernel
theorem dL_law_3299 : decode cL_law 3299 = .ok (.ifCond .ne 15, 3) := by decide +kernel
theorem dL_law_3302 : decode cL_law 3302 = .ok (.aload_n 3, 1) := by decide +kernel
theorem dL_law_3303 : decode cL_law 3303 = .ok (.iconst 0, 1) := by decide +kernel
theorem dL_law_3304 : decode cL_law 3304 = .ok (.laload, 1) := by decide +kernel
theorem dL_law_3305 : decode cL_law 3305 = .ok (.iload 6, 2) := by decide +kernel
theorem dL_law_3307 : decode cL_law 3307 = .ok (.i2l, 1) := by decide +kernel
theorem dL_law_3308 : decode cL_law 3308 = .ok (.lcmp, 1) := by decide +kernel
theorem dL_law_3309 : decode cL_law 3309 = .ok (.ifCond .eq 5, 3) := by decide +kernel
theorem dL_law_3312 : decode cL_law 3312 = .ok (.iconst 0, 1) := by decide +kernel
theorem dL_law_3313 : decode cL_law 3313 = .ok (.ireturn, 1) := by decide +kernel
theorem dL_law_3314 : decode cL_law 3314 = .ok (.goto 205, 3) := by decide +kernel
theorem dL_law_3317 : decode cL_law 3317 = .ok (.aload_n 1, 1) := by decide +kernel
theorem dL_law_3318 : decode cL_law 3318 = .ok (.aload_n 3, 1) := by decide +kernel
theorem dL_law_3319 : decode cL_law 3319 = .ok (.invokestatic 366, 3) := by decide +kernel
theorem dL_law_3322 : decode cL_law 3322 = .ok (.istore 5, 2) := by decide +kernel
theorem dL_law_3324 : decode cL_law 3324 = .ok (.aload_n 2, 1) := by decide +kernel
theorem dL_law_3325 : decode cL_law 3325 = .ok (.invokevirtual 368, 3) := by decide +kernel
theorem dL_law_3328 : decode cL_law 3328 = .ok (.istore 6, 2) := by decide +kernel
theorem dL_law_3330 : decode cL_law 3330 = .ok (.aload_n 2, 1) := by decide +kernel
theorem dL_law_3331 : decode cL_law 3331 = .ok (.invokevirtual 184, 3) := by decide +kernel
theorem dL_law_3334 : decode cL_law 3334 = .ok (.iload 5, 2) := by decide +kernel
theorem dL_law_3336 : decode cL_law 3336 = .ok (.if_icmp .eq 5, 3) := by decide +kernel
theorem dL_law_3339 : decode cL_law 3339 = .ok (.iconst 0, 1) := by decide +kernel
theorem dL_law_3340 : decode cL_law 3340 = .ok (.ireturn, 1) := by decide +kernel
theorem dL_law_3341 : decode cL_law 3341 = .ok (.iload 5, 2) := by decide +kernel
theorem dL_law_3343 : decode cL_law 3343 = .ok (.ifCond .ne 15, 3) := by decide +kernel
theorem dL_law_3346 : decode cL_law 3346 = .ok (.aload_n 3, 1) := by decide +kernel
theorem dL_law_3347 : decode cL_law 3347 = .ok (.iconst 0, 1) := by decide +kernel
theorem dL_law_3348 : decode cL_law 3348 = .ok (.laload, 1) := by decide +kernel
theorem dL_law_3349 : decode cL_law 3349 = .ok (.iload 6, 2) := by decide +kernel
theorem dL_law_3351 : decode cL_law 3351 = .ok (.i2l, 1) := by decide +kernel
theorem dL_law_3352 : decode cL_law 3352 = .ok (.lcmp, 1) := by decide +kernel
theorem dL_law_3353 : decode cL_law 3353 = .ok (.ifCond .eq 5, 3) := by decide +kernel
theorem dL_law_3356 : decode cL_law 3356 = .ok (.iconst 0, 1) := by decide +kernel
theorem dL_law_3357 : decode cL_law 3357 = .ok (.ireturn, 1) := by decide +kernel
theorem dL_law_3358 : decode cL_law 3358 = .ok (.goto 161, 3) := by decide +kernel
theorem dL_law_3361 : decode cL_law 3361 = .ok (.aload_n 1, 1) := by decide +kernel
theorem dL_law_3362 : decode cL_law 3362 = .ok (.aload_n 3, 1) := by decide +kernel
theorem dL_law_3363 : decode cL_law 3363 = .ok (.invokestatic 369, 3) := by decide +kernel
theorem dL_law_3366 : decode cL_law 3366 = .ok (.istore 5, 2) := by decide +kernel
theorem dL_law_3368 : decode cL_law 3368 = .ok (.aload_n 2, 1) := by decide +kernel
theorem dL_law_3369 : decode cL_law 3369 = .ok (.invokevirtual 371, 3) := by decide +kernel
theorem dL_law_3372 : decode cL_law 3372 = .ok (.istore 6, 2) := by decide +kernel
theorem dL_law_3374 : decode cL_law 3374 = .ok (.aload_n 2, 1) := by decide +kernel
theorem dL_law_3375 : decode cL_law 3375 = .ok (.invokevirtual 184, 3) := by decide +kernel
theorem dL_law_3378 : decode cL_law 3378 = .ok (.iload 5, 2) := by decide +kernel
theorem dL_law_3380 : decode cL_law 3380 = .ok (.if_icmp .eq 5, 3) := by decide +kernel
theorem dL_law_3383 : decode cL_law 3383 = .ok (.iconst 0, 1) := by decide +kernel
theorem dL_law_3384 : decode cL_law 3384 = .ok (.ireturn, 1) := by decide +kernel
theorem dL_law_3385 : decode cL_law 3385 = .ok (.iload 5, 2) := by decide +kernel
theorem dL_law_3387 : decode cL_law 3387 = .ok (.ifCond .ne 15, 3) := by decide +kernel
theorem dL_law_3390 : decode cL_law 3390 = .ok (.aload_n 3, 1) := by decide +kernel
theorem dL_law_3391 : decode cL_law 3391 = .ok (.iconst 0, 1) := by decide +kernel
theorem dL_law_3392 : decode cL_law 3392 = .ok (.laload, 1) := by decide +kernel
theorem dL_law_3393 : decode cL_law 3393 = .ok (.iload 6, 2) := by decide +kernel
theorem dL_law_3395 : decode cL_law 3395 = .ok (.i2l, 1) := by decide +kernel
theorem dL_law_3396 : decode cL_law 3396 = .ok (.lcmp, 1) := by decide +kernel
theorem dL_law_3397 : decode cL_law 3397 = .ok (.ifCond .eq 5, 3) := by decide +kernel
theorem dL_law_3400 : decode cL_law 3400 = .ok (.iconst 0, 1) := by decide +kernel
theorem dL_law_3401 : decode cL_law 3401 = .ok (.ireturn, 1) := by decide +kernel
theorem dL_law_3402 : decode cL_law 3402 = .ok (.goto 117, 3) := by decide +kernel
theorem dL_law_3405 : decode cL_law 3405 = .ok (.aload_n 1, 1) := by decide +kernel
theorem dL_law_3406 : decode cL_law 3406 = .ok (.invokevirtual 372, 3) := by decide +kernel
theorem dL_law_3409 : decode cL_law 3409 = .ok (.aload_n 2, 1) := by decide +kernel
theorem dL_law_3410 : decode cL_law 3410 = .ok (.invokevirtual 375, 3) := by decide +kernel
theorem dL_law_3413 : decode cL_law 3413 = .ok (.if_icmp .eq 106, 3) := by decide +kernel
theorem dL_law_3416 : decode cL_law 3416 = .ok (.iconst 0, 1) := by decide +kernel
theorem dL_law_3417 : decode cL_law 3417 = .ok (.ireturn, 1) := by decide +kernel
theorem dL_law_3418 : decode cL_law 3418 = .ok (.aload_n 1, 1) := by decide +kernel
theorem dL_law_3419 : decode cL_law 3419 = .ok (.aload_n 3, 1) := by decide +kernel
theorem dL_law_3420 : decode cL_law 3420 = .ok (.invokestatic 376, 3) := by decide +kernel
theorem dL_law_3423 : decode cL_law 3423 = .ok (.istore 5, 2) := by decide +kernel
theorem dL_law_3425 : decode cL_law 3425 = .ok (.aload_n 2, 1) := by decide +kernel
theorem dL_law_3426 : decode cL_law 3426 = .ok (.invokevirtual 378, 3) := by decide +kernel
theorem dL_law_3429 : decode cL_law 3429 = .ok (.istore 6, 2) := by decide +kernel
theorem dL_law_3431 : decode cL_law 3431 = .ok (.aload_n 2, 1) := by decide +kernel
theorem dL_law_3432 : decode cL_law 3432 = .ok (.invokevirtual 184, 3) := by decide +kernel
theorem dL_law_3435 : decode cL_law 3435 = .ok (.iload 5, 2) := by decide +kernel
theorem dL_law_3437 : decode cL_law 3437 = .ok (.if_icmp .eq 5, 3) := by decide +kernel
theorem dL_law_3440 : decode cL_law 3440 = .ok (.iconst 0, 1) := by decide +kernel
theorem dL_law_3441 : decode cL_law 3441 = .ok (.ireturn, 1) := by decide +kernel
theorem dL_law_3442 : decode cL_law 3442 = .ok (.iload 5, 2) := by decide +kernel
theorem dL_law_3444 : decode cL_law 3444 = .ok (.ifCond .ne 15, 3) := by decide +kernel
theorem dL_law_3447 : decode cL_law 3447 = .ok (.aload_n 3, 1) := by decide +kernel
theorem dL_law_3448 : decode cL_law 3448 = .ok (.iconst 0, 1) := by decide +kernel
theorem dL_law_3449 : decode cL_law 3449 = .ok (.laload, 1) := by decide +kernel
theorem dL_law_3450 : decode cL_law 3450 = .ok (.iload 6, 2) := by decide +kernel
theorem dL_law_3452 : decode cL_law 3452 = .ok (.i2l, 1) := by decide +kernel
theorem dL_law_3453 : decode cL_law 3453 = .ok (.lcmp, 1) := by decide +kernel
theorem dL_law_3454 : decode cL_law 3454 = .ok (.ifCond .eq 5, 3) := by decide +kernel
theorem dL_law_3457 : decode cL_law 3457 = .ok (.iconst 0, 1) := by decide +kernel
theorem dL_law_3458 : decode cL_law 3458 = .ok (.ireturn, 1) := by decide +kernel
theorem dL_law_3459 : decode cL_law 3459 = .ok (.goto 60, 3) := by decide +kernel
theorem dL_law_3462 : decode cL_law 3462 = .ok (.aload_n 1, 1) := by decide +kernel
theorem dL_law_3463 : decode cL_law 3463 = .ok (.invokevirtual 379, 3) := by decide +kernel
theorem dL_law_3466 : decode cL_law 3466 = .ok (.aload_n 2, 1) := by decide +kernel
theorem dL_law_3467 : decode cL_law 3467 = .ok (.invokevirtual 382, 3) := by decide +kernel
theorem dL_law_3470 : decode cL_law 3470 = .ok (.if_icmp .eq 49, 3) := by decide +kernel
theorem dL_law_3473 : decode cL_law 3473 = .ok (.iconst 0, 1) := by decide +kernel
theorem dL_law_3474 : decode cL_law 3474 = .ok (.ireturn, 1) := by decide +kernel
theorem dL_law_3475 : decode cL_law 3475 = .ok (.aload_n 1, 1) := by decide +kernel
theorem dL_law_3476 : decode cL_law 3476 = .ok (.aload_n 3, 1) := by decide +kernel
theorem dL_law_3477 : decode cL_law 3477 = .ok (.invokestatic 383, 3) := by decide +kernel
theorem dL_law_3480 : decode cL_law 3480 = .ok (.istore 5, 2) := by decide +kernel
theorem dL_law_3482 : decode cL_law 3482 = .ok (.aload_n 2, 1) := by decide +kernel
theorem dL_law_3483 : decode cL_law 3483 = .ok (.invokevirtual 385, 3) := by decide +kernel
theorem dL_law_3486 : decode cL_law 3486 = .ok (.istore 6, 2) := by decide +kernel
theorem dL_law_3488 : decode cL_law 3488 = .ok (.aload_n 2, 1) := by decide +kernel
theorem dL_law_3489 : decode cL_law 3489 = .ok (.invokevirtual 184, 3) := by decide +kernel
theorem dL_law_3492 : decode cL_law 3492 = .ok (.iload 5, 2) := by decide +kernel
theorem dL_law_3494 : decode cL_law 3494 = .ok (.if_icmp .eq 5, 3) := by decide +kernel
theorem dL_law_3497 : decode cL_law 3497 = .ok (.iconst 0, 1) := by decide +kernel
theorem dL_law_3498 : decode cL_law 3498 = .ok (.ireturn, 1) := by decide +kernel
theorem dL_law_3499 : decode cL_law 3499 = .ok (.iload 5, 2) := by decide +kernel
theorem dL_law_3501 : decode cL_law 3501 = .ok (.ifCond .ne 15, 3) := by decide +kernel
theorem dL_law_3504 : decode cL_law 3504 = .ok (.aload_n 3, 1) := by decide +kernel
theorem dL_law_3505 : decode cL_law 3505 = .ok (.iconst 0, 1) := by decide +kernel
theorem dL_law_3506 : decode cL_law 3506 = .ok (.laload, 1) := by decide +kernel
theorem dL_law_3507 : decode cL_law 3507 = .ok (.iload 6, 2) := by decide +kernel
theorem dL_law_3509 : decode cL_law 3509 = .ok (.i2l, 1) := by decide +kernel
theorem dL_law_3510 : decode cL_law 3510 = .ok (.lcmp, 1) := by decide +kernel
theorem dL_law_3511 : decode cL_law 3511 = .ok (.ifCond .eq 5, 3) := by decide +kernel
theorem dL_law_3514 : decode cL_law 3514 = .ok (.iconst 0, 1) := by decide +kernel
theorem dL_law_3515 : decode cL_law 3515 = .ok (.ireturn, 1) := by decide +kernel
theorem dL_law_3516 : decode cL_law 3516 = .ok (.goto 3, 3) := by decide +kernel
theorem dL_law_3519 : decode cL_law 3519 = .ok (.iinc 4 4, 3) := by decide +kernel
theorem dL_law_3522 : decode cL_law 3522 = .ok (.goto (-3499), 3) := by decide +kernel
theorem dL_law_3525 : decode cL_law 3525 = .ok (.iconst 1, 1) := by decide +kernel
theorem dL_law_3526 : decode cL_law 3526 = .ok (.ireturn, 1) := by decide +kernel
