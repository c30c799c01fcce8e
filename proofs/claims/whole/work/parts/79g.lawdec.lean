theorem dL_law_2745 : decode cL_law 2745 = .ok (.iload 7, 2) := by decide +kernel
theorem dL_law_2747 : decode cL_law 2747 = .ok (.i2l, 1) := by decide +kernel
theorem dL_law_2748 : decode cL_law 2748 = .ok (.lcmp, 1) := by decide +kernel
theorem dL_law_2749 : decode cL_law 2749 = .ok (.ifCond .eq 5, 3) := by decide +kernel
theorem dL_law_2754 : decode cL_law 2754 = .ok (.goto 85, 3) := by decide +kernel
theorem dL_law_2757 : decode cL_law 2757 = .ok (.aload_n 1, 1) := by decide +kernel
theorem dL_law_2758 : decode cL_law 2758 = .ok (.invokevirtual 364, 3) := by decide +kernel
theorem dL_law_2761 : decode cL_law 2761 = .ok (.aload_n 2, 1) := by decide +kernel
theorem dL_law_2762 : decode cL_law 2762 = .ok (.invokevirtual 367, 3) := by decide +kernel
theorem dL_law_2765 : decode cL_law 2765 = .ok (.if_icmp .eq 74, 3) := by decide +kernel
theorem dL_law_2770 : decode cL_law 2770 = .ok (.aload_n 1, 1) := by decide +kernel
theorem dL_law_2771 : decode cL_law 2771 = .ok (.invokevirtual 368, 3) := by decide +kernel
theorem dL_law_2774 : decode cL_law 2774 = .ok (.aload_n 2, 1) := by decide +kernel
theorem dL_law_2775 : decode cL_law 2775 = .ok (.invokevirtual 371, 3) := by decide +kernel
theorem dL_law_2778 : decode cL_law 2778 = .ok (.if_icmp .eq 61, 3) := by decide +kernel
theorem dL_law_2783 : decode cL_law 2783 = .ok (.aload_n 1, 1) := by decide +kernel
theorem dL_law_2784 : decode cL_law 2784 = .ok (.aload_n 0, 1) := by decide +kernel
theorem dL_law_2785 : decode cL_law 2785 = .ok (.iload 5, 2) := by decide +kernel
theorem dL_law_2787 : decode cL_law 2787 = .ok (.iconst 1, 1) := by decide +kernel
theorem dL_law_2788 : decode cL_law 2788 = .ok (.iadd, 1) := by decide +kernel
theorem dL_law_2789 : decode cL_law 2789 = .ok (.iaload, 1) := by decide +kernel
theorem dL_law_2790 : decode cL_law 2790 = .ok (.aload_n 3, 1) := by decide +kernel
theorem dL_law_2791 : decode cL_law 2791 = .ok (.invokestatic 372, 3) := by decide +kernel
theorem dL_law_2794 : decode cL_law 2794 = .ok (.istore 6, 2) := by decide +kernel
theorem dL_law_2796 : decode cL_law 2796 = .ok (.aload_n 2, 1) := by decide +kernel
theorem dL_law_2797 : decode cL_law 2797 = .ok (.aload_n 0, 1) := by decide +kernel
theorem dL_law_2798 : decode cL_law 2798 = .ok (.iload 5, 2) := by decide +kernel
theorem dL_law_2800 : decode cL_law 2800 = .ok (.iconst 1, 1) := by decide +kernel
theorem dL_law_2801 : decode cL_law 2801 = .ok (.iadd, 1) := by decide +kernel
theorem dL_law_2802 : decode cL_law 2802 = .ok (.iaload, 1) := by decide +kernel
theorem dL_law_2803 : decode cL_law 2803 = .ok (.invokevirtual 374, 3) := by decide +kernel
theorem dL_law_2806 : decode cL_law 2806 = .ok (.istore 7, 2) := by decide +kernel
theorem dL_law_2808 : decode cL_law 2808 = .ok (.aload_n 2, 1) := by decide +kernel
theorem dL_law_2809 : decode cL_law 2809 = .ok (.invokevirtual 151, 3) := by decide +kernel
theorem dL_law_2812 : decode cL_law 2812 = .ok (.iload 6, 2) := by decide +kernel
theorem dL_law_2814 : decode cL_law 2814 = .ok (.if_icmp .eq 5, 3) := by decide +kernel
theorem dL_law_2819 : decode cL_law 2819 = .ok (.iload 6, 2) := by decide +kernel
theorem dL_law_2821 : decode cL_law 2821 = .ok (.ifCond .ne 15, 3) := by decide +kernel
theorem dL_law_2824 : decode cL_law 2824 = .ok (.aload_n 3, 1) := by decide +kernel
theorem dL_law_2825 : decode cL_law 2825 = .ok (.iconst 0, 1) := by decide +kernel
theorem dL_law_2826 : decode cL_law 2826 = .ok (.laload, 1) := by decide +kernel
theorem dL_law_2827 : decode cL_law 2827 = .ok (.iload 7, 2) := by decide +kernel
theorem dL_law_2829 : decode cL_law 2829 = .ok (.i2l, 1) := by decide +kernel
theorem dL_law_2830 : decode cL_law 2830 = .ok (.lcmp, 1) := by decide +kernel
theorem dL_law_2831 : decode cL_law 2831 = .ok (.ifCond .eq 5, 3) := by decide +kernel
theorem dL_law_2836 : decode cL_law 2836 = .ok (.goto 3, 3) := by decide +kernel
theorem dL_law_2839 : decode cL_law 2839 = .ok (.iinc 5 6, 3) := by decide +kernel
theorem dL_law_2842 : decode cL_law 2842 = .ok (.goto (-2814), 3) := by decide +kernel
theorem dL_law_2845 : decode cL_law 2845 = .ok (.iconst 1, 1) := by decide +kernel
theorem dL_law_2846 : decode cL_law 2846 = .ok (.ireturn, 1) := by decide +kernel
