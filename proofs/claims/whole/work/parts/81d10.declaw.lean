theorem dL_law_2699 : decode cL_law 2699 = .ok (.lcmp, 1) := by decide +kernel
theorem dL_law_2700 : decode cL_law 2700 = .ok (.ifCond .eq 5, 3) := by decide +kernel
theorem dL_law_2703 : decode cL_law 2703 = .ok (.iconst 0, 1) := by decide +kernel
theorem dL_law_2704 : decode cL_law 2704 = .ok (.ireturn, 1) := by decide +kernel
theorem dL_law_2705 : decode cL_law 2705 = .ok (.goto 1135, 3) := by decide +kernel
theorem dL_law_2708 : decode cL_law 2708 = .ok (.aload_n 1, 1) := by decide +kernel
theorem dL_law_2709 : decode cL_law 2709 = .ok (.aload_n 0, 1) := by decide +kernel
theorem dL_law_2710 : decode cL_law 2710 = .ok (.iload 4, 2) := by decide +kernel
theorem dL_law_2712 : decode cL_law 2712 = .ok (.iconst 1, 1) := by decide +kernel
theorem dL_law_2713 : decode cL_law 2713 = .ok (.iadd, 1) := by decide +kernel
theorem dL_law_2714 : decode cL_law 2714 = .ok (.iaload, 1) := by decide +kernel
theorem dL_law_2715 : decode cL_law 2715 = .ok (.aload_n 3, 1) := by decide +kernel
theorem dL_law_2716 : decode cL_law 2716 = .ok (.invokestatic 348, 3) := by decide +kernel
theorem dL_law_2719 : decode cL_law 2719 = .ok (.istore 5, 2) := by decide +kernel
theorem dL_law_2721 : decode cL_law 2721 = .ok (.aload_n 2, 1) := by decide +kernel
theorem dL_law_2722 : decode cL_law 2722 = .ok (.aload_n 0, 1) := by decide +kernel
theorem dL_law_2723 : decode cL_law 2723 = .ok (.iload 4, 2) := by decide +kernel
theorem dL_law_2725 : decode cL_law 2725 = .ok (.iconst 1, 1) := by decide +kernel
theorem dL_law_2726 : decode cL_law 2726 = .ok (.iadd, 1) := by decide +kernel
theorem dL_law_2727 : decode cL_law 2727 = .ok (.iaload, 1) := by decide +kernel
theorem dL_law_2728 : decode cL_law 2728 = .ok (.invokevirtual 350, 3) := by decide +kernel
theorem dL_law_2731 : decode cL_law 2731 = .ok (.istore 6, 2) := by decide +kernel
theorem dL_law_2733 : decode cL_law 2733 = .ok (.aload_n 2, 1) := by decide +kernel
theorem dL_law_2734 : decode cL_law 2734 = .ok (.invokevirtual 205, 3) := by decide +kernel
theorem dL_law_2737 : decode cL_law 2737 = .ok (.iload 5, 2) := by decide +kernel
theorem dL_law_2739 : decode cL_law 2739 = .ok (.if_icmp .eq 5, 3) := by decide +kernel
theorem dL_law_2742 : decode cL_law 2742 = .ok (.iconst 0, 1) := by decide +kernel
theorem dL_law_2743 : decode cL_law 2743 = .ok (.ireturn, 1) := by decide +kernel
theorem dL_law_2744 : decode cL_law 2744 = .ok (.iload 5, 2) := by decide +kernel
theorem dL_law_2746 : decode cL_law 2746 = .ok (.ifCond .ne 15, 3) := by decide +kernel
theorem dL_law_2749 : decode cL_law 2749 = .ok (.aload_n 3, 1) := by decide +kernel
theorem dL_law_2750 : decode cL_law 2750 = .ok (.iconst 0, 1) := by decide +kernel
theorem dL_law_2751 : decode cL_law 2751 = .ok (.laload, 1) := by decide +kernel
theorem dL_law_2752 : decode cL_law 2752 = .ok (.iload 6, 2) := by decide +kernel
theorem dL_law_2754 : decode cL_law 2754 = .ok (.i2l, 1) := by decide +kernel
theorem dL_law_2755 : decode cL_law 2755 = .ok (.lcmp, 1) := by decide +kernel
theorem dL_law_2756 : decode cL_law 2756 = .ok (.ifCond .eq 5, 3) := by decide +kernel
theorem dL_law_2759 : decode cL_law 2759 = .ok (.iconst 0, 1) := by decide +kernel
theorem dL_law_2760 : decode cL_law 2760 = .ok (.ireturn, 1) := by decide +kernel
theorem dL_law_2761 : decode cL_law 2761 = .ok (.goto 1079, 3) := by decide +kernel
theorem dL_law_2764 : decode cL_law 2764 = .ok (.aload_n 1, 1) := by decide +kernel
theorem dL_law_2765 : decode cL_law 2765 = .ok (.aload_n 0, 1) := by decide +kernel
theorem dL_law_2766 : decode cL_law 2766 = .ok (.iload 4, 2) := by decide +kernel
theorem dL_law_2768 : decode cL_law 2768 = .ok (.iconst 1, 1) := by decide +kernel
theorem dL_law_2769 : decode cL_law 2769 = .ok (.iadd, 1) := by decide +kernel
theorem dL_law_2770 : decode cL_law 2770 = .ok (.iaload, 1) := by decide +kernel
theorem dL_law_2771 : decode cL_law 2771 = .ok (.aload_n 3, 1) := by decide +kernel
theorem dL_law_2772 : decode cL_law 2772 = .ok (.invokestatic 351, 3) := by decide +kernel
theorem dL_law_2775 : decode cL_law 2775 = .ok (.istore 5, 2) := by decide +kernel
theorem dL_law_2777 : decode cL_law 2777 = .ok (.aload_n 2, 1) := by decide +kernel
theorem dL_law_2778 : decode cL_law 2778 = .ok (.aload_n 0, 1) := by decide +kernel
theorem dL_law_2779 : decode cL_law 2779 = .ok (.iload 4, 2) := by decide +kernel
theorem dL_law_2781 : decode cL_law 2781 = .ok (.iconst 1, 1) := by decide +kernel
theorem dL_law_2782 : decode cL_law 2782 = .ok (.iadd, 1) := by decide +kernel
theorem dL_law_2783 : decode cL_law 2783 = .ok (.iaload, 1) := by decide +kernel
theorem dL_law_2784 : decode cL_law 2784 = .ok (.invokevirtual 353, 3) := by decide +kernel
theorem dL_law_2787 : decode cL_law 2787 = .ok (.istore 6, 2) := by decide +kernel
theorem dL_law_2789 : decode cL_law 2789 = .ok (.aload_n 2, 1) := by decide +kernel
theorem dL_law_2790 : decode cL_law 2790 = .ok (.invokevirtual 205, 3) := by decide +kernel
theorem dL_law_2793 : decode cL_law 2793 = .ok (.iload 5, 2) := by decide +kernel
theorem dL_law_2795 : decode cL_law 2795 = .ok (.if_icmp .eq 5, 3) := by decide +kernel
theorem dL_law_2798 : decode cL_law 2798 = .ok (.iconst 0, 1) := by decide +kernel
theorem dL_law_2799 : decode cL_law 2799 = .ok (.ireturn, 1) := by decide +kernel
theorem dL_law_2800 : decode cL_law 2800 = .ok (.iload 5, 2) := by decide +kernel
theorem dL_law_2802 : decode cL_law 2802 = .ok (.ifCond .ne 15, 3) := by decide +kernel
theorem dL_law_2805 : decode cL_law 2805 = .ok (.aload_n 3, 1) := by decide +kernel
theorem dL_law_2806 : decode cL_law 2806 = .ok (.iconst 0, 1) := by decide +kernel
theorem dL_law_2807 : decode cL_law 2807 = .ok (.laload, 1) := by decide +kernel
theorem dL_law_2808 : decode cL_law 2808 = .ok (.iload 6, 2) := by decide +kernel
theorem dL_law_2810 : decode cL_law 2810 = .ok (.i2l, 1) := by decide +kernel
theorem dL_law_2811 : decode cL_law 2811 = .ok (.lcmp, 1) := by decide +kernel
theorem dL_law_2812 : decode cL_law 2812 = .ok (.ifCond .eq 5, 3) := by decide +kernel
theorem dL_law_2815 : decode cL_law 2815 = .ok (.iconst 0, 1) := by decide +kernel
theorem dL_law_2816 : decode cL_law 2816 = .ok (.ireturn, 1) := by decide +kernel
theorem dL_law_2817 : decode cL_law 2817 = .ok (.goto 1023, 3) := by decide +kernel
theorem dL_law_2820 : decode cL_law 2820 = .ok (.aload_n 1, 1) := by decide +kernel
theorem dL_law_2821 : decode cL_law 2821 = .ok (.invokevirtual 354, 3) := by decide +kernel
theorem dL_law_2824 : decode cL_law 2824 = .ok (.aload_n 2, 1) := by decide +kernel
theorem dL_law_2825 : decode cL_law 2825 = .ok (.invokevirtual 357, 3) := by decide +kernel
theorem dL_law_2828 : decode cL_law 2828 = .ok (.if_icmp .eq 1012, 3) := by decide +kernel
theorem dL_law_2831 : decode cL_law 2831 = .ok (.iconst 0, 1) := by decide +kernel
theorem dL_law_2832 : decode cL_law 2832 = .ok (.ireturn, 1) := by decide +kernel
theorem dL_law_2833 : decode cL_law 2833 = .ok (.aload_n 1, 1) := by decide +kernel
theorem dL_law_2834 : decode cL_law 2834 = .ok (.invokevirtual 358, 3) := by decide +kernel
theorem dL_law_2837 : decode cL_law 2837 = .ok (.aload_n 2, 1) := by decide +kernel
theorem dL_law_2838 : decode cL_law 2838 = .ok (.invokevirtual 361, 3) := by decide +kernel
theorem dL_law_2841 : decode cL_law 2841 = .ok (.if_icmp .eq 999, 3) := by decide +kernel
theorem dL_law_2844 : decode cL_law 2844 = .ok (.iconst 0, 1) := by decide +kernel
theorem dL_law_2845 : decode cL_law 2845 = .ok (.ireturn, 1) := by decide +kernel
theorem dL_law_2846 : decode cL_law 2846 = .ok (.aload_n 1, 1) := by decide +kernel
theorem dL_law_2847 : decode cL_law 2847 = .ok (.aload_n 0, 1) := by decide +kernel
theorem dL_law_2848 : decode cL_law 2848 = .ok (.iload 4, 2) := by decide +kernel
theorem dL_law_2850 : decode cL_law 2850 = .ok (.iconst 1, 1) := by decide +kernel
theorem dL_law_2851 : decode cL_law 2851 = .ok (.iadd, 1) := by decide +kernel
theorem dL_law_2852 : decode cL_law 2852 = .ok (.iaload, 1) := by decide +kernel
theorem dL_law_2853 : decode cL_law 2853 = .ok (.aload_n 3, 1) := by decide +kernel
theorem dL_law_2854 : decode cL_law 2854 = .ok (.invokestatic 362, 3) := by decide +kernel
theorem dL_law_2857 : decode cL_law 2857 = .ok (.istore 5, 2) := by decide +kernel
theorem dL_law_2859 : decode cL_law 2859 = .ok (.aload_n 2, 1) := by decide +kernel
theorem dL_law_2860 : decode cL_law 2860 = .ok (.aload_n 0, 1) := by decide +kernel
theorem dL_law_2861 : decode cL_law 2861 = .ok (.iload 4, 2) := by decide +kernel
theorem dL_law_2863 : decode cL_law 2863 = .ok (.iconst 1, 1) := by decide +kernel
theorem dL_law_2864 : decode cL_law 2864 = .ok (.iadd, 1) := by decide +kernel
theorem dL_law_2865 : decode cL_law 2865 = .ok (.iaload, 1) := by decide +kernel
theorem dL_law_2866 : decode cL_law 2866 = .ok (.invokevirtual 364, 3) := by decide +kernel
theorem dL_law_2869 : decode cL_law 2869 = .ok (.istore 6, 2) := by decide +kernel
theorem dL_law_2871 : decode cL_law 2871 = .ok (.aload_n 2, 1) := by decide +kernel
theorem dL_law_2872 : decode cL_law 2872 = .ok (.invokevirtual 205, 3) := by decide +kernel
theorem dL_law_2875 : decode cL_law 2875 = .ok (.iload 5, 2) := by decide +kernel
theorem dL_law_2877 : decode cL_law 2877 = .ok (.if_icmp .eq 5, 3) := by decide +kernel
theorem dL_law_2880 : decode cL_law 2880 = .ok (.iconst 0, 1) := by decide +kernel
theorem dL_law_2881 : decode cL_law 2881 = .ok (.ireturn, 1) := by decide +kernel
theorem dL_law_2882 : decode cL_law 2882 = .ok (.iload 5, 2) := by decide +kernel
theorem dL_law_2884 : decode cL_law 2884 = .ok (.ifCond .ne 15, 3) := by decide +kernel
theorem dL_law_2887 : decode cL_law 2887 = .ok (.aload_n 3, 1) := by decide +kernel
theorem dL_law_2888 : decode cL_law 2888 = .ok (.iconst 0, 1) := by decide +kernel
theorem dL_law_2889 : decode cL_law 2889 = .ok (.laload, 1) := by decide +kernel
theorem dL_law_2890 : decode cL_law 2890 = .ok (.iload 6, 2) := by decide +kernel
theorem dL_law_2892 : decode cL_law 2892 = .ok (.i2l, 1) := by decide +kernel
theorem dL_law_2893 : decode cL_law 2893 = .ok (.lcmp, 1) := by decide +kernel
theorem dL_law_2894 : decode cL_law 2894 = .ok (.ifCond .eq 5, 3) := by decide +kernel
theorem dL_law_2897 : decode cL_law 2897 = .ok (.iconst 0, 1) := by decide +kernel
theorem dL_law_2898 : decode cL_law 2898 = .ok (.ireturn, 1) := by decide +kernel
theorem dL_law_2899 : decode cL_law 2899 = .ok (.goto 941, 3) := by decide +kernel
theorem dL_law_2902 : decode cL_law 2902 = .ok (.aload_n 1, 1) := by decide +kernel
theorem dL_law_2903 : decode cL_law 2903 = .ok (.aload_n 0, 1) := by decide +kernel
theorem dL_law_2904 : decode cL_law 2904 = .ok (.iload 4, 2) := by decide +kernel
theorem dL_law_2906 : decode cL_law 2906 = .ok (.iconst 1, 1) := by decide +kernel
theorem dL_law_2907 : decode cL_law 2907 = .ok (.iadd, 1) := by decide +kernel
theorem dL_law_2908 : decode cL_law 2908 = .ok (.iaload, 1) := by decide +kernel
theorem dL_law_2909 : decode cL_law 2909 = .ok (.aload_n 3, 1) := by decide +kernel
theorem dL_law_2910 : decode cL_law 2910 = .ok (.invokestatic 365, 3) := by decide +kernel
theorem dL_law_2913 : decode cL_law 2913 = .ok (.istore 5, 2) := by decide +kernel
theorem dL_law_2915 : decode cL_law 2915 = .ok (.aload_n 2, 1) := by decide +kernel
theorem dL_law_2916 : decode cL_law 2916 = .ok (.aload_n 0, 1) := by decide +kernel
theorem dL_law_2917 : decode cL_law 2917 = .ok (.iload 4, 2) := by decide +kernel
theorem dL_law_2919 : decode cL_law 2919 = .ok (.iconst 1, 1) := by decide +kernel
theorem dL_law_2920 : decode cL_law 2920 = .ok (.iadd, 1) := by decide +kernel
theorem dL_law_2921 : decode cL_law 2921 = .ok (.iaload, 1) := by decide +kernel
theorem dL_law_2922 : decode cL_law 2922 = .ok (.invokevirtual 367, 3) := by decide +kernel
theorem dL_law_2925 : decode cL_law 2925 = .ok (.istore 6, 2) := by decide +kernel
theorem dL_law_2927 : decode cL_law 2927 = .ok (.aload_n 2, 1) := by decide +kernel
theorem dL_law_2928 : decode cL_law 2928 = .ok (.invokevirtual 205, 3) := by decide +kernel
theorem dL_law_2931 : decode cL_law 2931 = .ok (.iload 5, 2) := by decide +kernel
theorem dL_law_2933 : decode cL_law 2933 = .ok (.if_icmp .eq 5, 3) := by decide +kernel
theorem dL_law_2936 : decode cL_law 2936 = .ok (.iconst 0, 1) := by decide +kernel
theorem dL_law_2937 : decode cL_law 2937 = .ok (.ireturn, 1) := by decide +kernel
theorem dL_law_2938 : decode cL_law 2938 = .ok (.iload 5, 2) := by decide +kernel
theorem dL_law_2940 : decode cL_law 2940 = .ok (.ifCond .ne 15, 3) := by decide +kernel
theorem dL_law_2943 : decode cL_law 2943 = .ok (.aload_n 3, 1) := by decide +kernel
