theorem dL_law_3672 : decode cL_law 3672 = .ok (.invokestatic 416, 3) := by decide +kernel
theorem dL_law_3675 : decode cL_law 3675 = .ok (.istore 5, 2) := by decide +kernel
theorem dL_law_3677 : decode cL_law 3677 = .ok (.aload_n 2, 1) := by decide +kernel
theorem dL_law_3678 : decode cL_law 3678 = .ok (.aload_n 0, 1) := by decide +kernel
theorem dL_law_3679 : decode cL_law 3679 = .ok (.iload 4, 2) := by decide +kernel
theorem dL_law_3681 : decode cL_law 3681 = .ok (.iconst 1, 1) := by decide +kernel
theorem dL_law_3682 : decode cL_law 3682 = .ok (.iadd, 1) := by decide +kernel
theorem dL_law_3683 : decode cL_law 3683 = .ok (.iaload, 1) := by decide +kernel
theorem dL_law_3684 : decode cL_law 3684 = .ok (.invokevirtual 418, 3) := by decide +kernel
theorem dL_law_3687 : decode cL_law 3687 = .ok (.istore 6, 2) := by decide +kernel
theorem dL_law_3689 : decode cL_law 3689 = .ok (.aload_n 2, 1) := by decide +kernel
theorem dL_law_3690 : decode cL_law 3690 = .ok (.invokevirtual 205, 3) := by decide +kernel
theorem dL_law_3693 : decode cL_law 3693 = .ok (.iload 5, 2) := by decide +kernel
theorem dL_law_3695 : decode cL_law 3695 = .ok (.if_icmp .eq 5, 3) := by decide +kernel
theorem dL_law_3698 : decode cL_law 3698 = .ok (.iconst 0, 1) := by decide +kernel
theorem dL_law_3699 : decode cL_law 3699 = .ok (.ireturn, 1) := by decide +kernel
theorem dL_law_3700 : decode cL_law 3700 = .ok (.iload 5, 2) := by decide +kernel
theorem dL_law_3702 : decode cL_law 3702 = .ok (.ifCond .ne 15, 3) := by decide +kernel
theorem dL_law_3705 : decode cL_law 3705 = .ok (.aload_n 3, 1) := by decide +kernel
theorem dL_law_3706 : decode cL_law 3706 = .ok (.iconst 0, 1) := by decide +kernel
theorem dL_law_3707 : decode cL_law 3707 = .ok (.laload, 1) := by decide +kernel
theorem dL_law_3708 : decode cL_law 3708 = .ok (.iload 6, 2) := by decide +kernel
theorem dL_law_3710 : decode cL_law 3710 = .ok (.i2l, 1) := by decide +kernel
theorem dL_law_3711 : decode cL_law 3711 = .ok (.lcmp, 1) := by decide +kernel
theorem dL_law_3712 : decode cL_law 3712 = .ok (.ifCond .eq 5, 3) := by decide +kernel
theorem dL_law_3715 : decode cL_law 3715 = .ok (.iconst 0, 1) := by decide +kernel
theorem dL_law_3716 : decode cL_law 3716 = .ok (.ireturn, 1) := by decide +kernel
theorem dL_law_3717 : decode cL_law 3717 = .ok (.goto 123, 3) := by decide +kernel
theorem dL_law_3720 : decode cL_law 3720 = .ok (.aload_n 1, 1) := by decide +kernel
theorem dL_law_3721 : decode cL_law 3721 = .ok (.invokevirtual 419, 3) := by decide +kernel
theorem dL_law_3724 : decode cL_law 3724 = .ok (.aload_n 2, 1) := by decide +kernel
theorem dL_law_3725 : decode cL_law 3725 = .ok (.invokevirtual 422, 3) := by decide +kernel
theorem dL_law_3728 : decode cL_law 3728 = .ok (.if_icmp .eq 112, 3) := by decide +kernel
theorem dL_law_3731 : decode cL_law 3731 = .ok (.iconst 0, 1) := by decide +kernel
theorem dL_law_3732 : decode cL_law 3732 = .ok (.ireturn, 1) := by decide +kernel
theorem dL_law_3733 : decode cL_law 3733 = .ok (.aload_n 1, 1) := by decide +kernel
theorem dL_law_3734 : decode cL_law 3734 = .ok (.invokevirtual 423, 3) := by decide +kernel
theorem dL_law_3737 : decode cL_law 3737 = .ok (.aload_n 2, 1) := by decide +kernel
theorem dL_law_3738 : decode cL_law 3738 = .ok (.invokevirtual 426, 3) := by decide +kernel
theorem dL_law_3741 : decode cL_law 3741 = .ok (.if_icmp .eq 99, 3) := by decide +kernel
theorem dL_law_3744 : decode cL_law 3744 = .ok (.iconst 0, 1) := by decide +kernel
theorem dL_law_3745 : decode cL_law 3745 = .ok (.ireturn, 1) := by decide +kernel
theorem dL_law_3746 : decode cL_law 3746 = .ok (.aload_n 1, 1) := by decide +kernel
theorem dL_law_3747 : decode cL_law 3747 = .ok (.invokevirtual 427, 3) := by decide +kernel
theorem dL_law_3750 : decode cL_law 3750 = .ok (.aload_n 2, 1) := by decide +kernel
theorem dL_law_3751 : decode cL_law 3751 = .ok (.invokevirtual 430, 3) := by decide +kernel
theorem dL_law_3754 : decode cL_law 3754 = .ok (.if_icmp .eq 86, 3) := by decide +kernel
theorem dL_law_3757 : decode cL_law 3757 = .ok (.iconst 0, 1) := by decide +kernel
theorem dL_law_3758 : decode cL_law 3758 = .ok (.ireturn, 1) := by decide +kernel
theorem dL_law_3759 : decode cL_law 3759 = .ok (.aload_n 1, 1) := by decide +kernel
theorem dL_law_3760 : decode cL_law 3760 = .ok (.invokevirtual 431, 3) := by decide +kernel
theorem dL_law_3763 : decode cL_law 3763 = .ok (.aload_n 2, 1) := by decide +kernel
theorem dL_law_3764 : decode cL_law 3764 = .ok (.invokevirtual 434, 3) := by decide +kernel
theorem dL_law_3767 : decode cL_law 3767 = .ok (.if_icmp .eq 73, 3) := by decide +kernel
theorem dL_law_3770 : decode cL_law 3770 = .ok (.iconst 0, 1) := by decide +kernel
theorem dL_law_3771 : decode cL_law 3771 = .ok (.ireturn, 1) := by decide +kernel
theorem dL_law_3772 : decode cL_law 3772 = .ok (.aload_n 1, 1) := by decide +kernel
theorem dL_law_3773 : decode cL_law 3773 = .ok (.invokevirtual 435, 3) := by decide +kernel
theorem dL_law_3776 : decode cL_law 3776 = .ok (.aload_n 2, 1) := by decide +kernel
theorem dL_law_3777 : decode cL_law 3777 = .ok (.invokevirtual 438, 3) := by decide +kernel
theorem dL_law_3780 : decode cL_law 3780 = .ok (.if_icmp .eq 60, 3) := by decide +kernel
theorem dL_law_3783 : decode cL_law 3783 = .ok (.iconst 0, 1) := by decide +kernel
theorem dL_law_3784 : decode cL_law 3784 = .ok (.ireturn, 1) := by decide +kernel
theorem dL_law_3785 : decode cL_law 3785 = .ok (.aload_n 1, 1) := by decide +kernel
theorem dL_law_3786 : decode cL_law 3786 = .ok (.invokevirtual 439, 3) := by decide +kernel
theorem dL_law_3789 : decode cL_law 3789 = .ok (.dstore 5, 2) := by decide +kernel
theorem dL_law_3791 : decode cL_law 3791 = .ok (.aload_n 2, 1) := by decide +kernel
theorem dL_law_3792 : decode cL_law 3792 = .ok (.invokevirtual 443, 3) := by decide +kernel
theorem dL_law_3795 : decode cL_law 3795 = .ok (.dstore 7, 2) := by decide +kernel
theorem dL_law_3797 : decode cL_law 3797 = .ok (.dload 5, 2) := by decide +kernel
theorem dL_law_3799 : decode cL_law 3799 = .ok (.dload 7, 2) := by decide +kernel
theorem dL_law_3801 : decode cL_law 3801 = .ok (.dcmp .l, 1) := by decide +kernel
theorem dL_law_3802 : decode cL_law 3802 = .ok (.ifCond .eq 21, 3) := by decide +kernel
theorem dL_law_3805 : decode cL_law 3805 = .ok (.dload 5, 2) := by decide +kernel
theorem dL_law_3807 : decode cL_law 3807 = .ok (.dload 5, 2) := by decide +kernel
theorem dL_law_3809 : decode cL_law 3809 = .ok (.dcmp .l, 1) := by decide +kernel
theorem dL_law_3810 : decode cL_law 3810 = .ok (.ifCond .eq 11, 3) := by decide +kernel
theorem dL_law_3813 : decode cL_law 3813 = .ok (.dload 7, 2) := by decide +kernel
theorem dL_law_3815 : decode cL_law 3815 = .ok (.dload 7, 2) := by decide +kernel
theorem dL_law_3817 : decode cL_law 3817 = .ok (.dcmp .l, 1) := by decide +kernel
theorem dL_law_3818 : decode cL_law 3818 = .ok (.ifCond .ne 5, 3) := by decide +kernel
theorem dL_law_3821 : decode cL_law 3821 = .ok (.iconst 0, 1) := by decide +kernel
theorem dL_law_3822 : decode cL_law 3822 = .ok (.ireturn, 1) := by decide +kernel
theorem dL_law_3823 : decode cL_law 3823 = .ok (.goto 17, 3) := by decide +kernel
theorem dL_law_3826 : decode cL_law 3826 = .ok (.aload_n 1, 1) := by decide +kernel
theorem dL_law_3827 : decode cL_law 3827 = .ok (.invokevirtual 444, 3) := by decide +kernel
theorem dL_law_3830 : decode cL_law 3830 = .ok (.aload_n 2, 1) := by decide +kernel
theorem dL_law_3831 : decode cL_law 3831 = .ok (.invokevirtual 448, 3) := by decide +kernel
theorem dL_law_3834 : decode cL_law 3834 = .ok (.lcmp, 1) := by decide +kernel
theorem dL_law_3835 : decode cL_law 3835 = .ok (.ifCond .eq 5, 3) := by decide +kernel
theorem dL_law_3838 : decode cL_law 3838 = .ok (.iconst 0, 1) := by decide +kernel
theorem dL_law_3839 : decode cL_law 3839 = .ok (.ireturn, 1) := by decide +kernel
theorem dL_law_3840 : decode cL_law 3840 = .ok (.iinc 4 3, 3) := by decide +kernel
theorem dL_law_3843 : decode cL_law 3843 = .ok (.goto (-3820), 3) := by decide +kernel
theorem dL_law_3846 : decode cL_law 3846 = .ok (.iconst 1, 1) := by decide +kernel
theorem dL_law_3847 : decode cL_law 3847 = .ok (.ireturn, 1) := by decide +kernel
