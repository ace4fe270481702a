theorem dL_law_3427 : decode cL_law 3427 = .ok (.aload_n 0, 1) := by decide +kernel
theorem dL_law_3428 : decode cL_law 3428 = .ok (.iload 4, 2) := by decide +kernel
theorem dL_law_3430 : decode cL_law 3430 = .ok (.iconst 1, 1) := by decide +kernel
theorem dL_law_3431 : decode cL_law 3431 = .ok (.iadd, 1) := by decide +kernel
theorem dL_law_3432 : decode cL_law 3432 = .ok (.iaload, 1) := by decide +kernel
theorem dL_law_3433 : decode cL_law 3433 = .ok (.aload_n 3, 1) := by decide +kernel
theorem dL_law_3434 : decode cL_law 3434 = .ok (.invokestatic 396, 3) := by decide +kernel
theorem dL_law_3437 : decode cL_law 3437 = .ok (.istore 5, 2) := by decide +kernel
theorem dL_law_3439 : decode cL_law 3439 = .ok (.aload_n 2, 1) := by decide +kernel
theorem dL_law_3440 : decode cL_law 3440 = .ok (.aload_n 0, 1) := by decide +kernel
theorem dL_law_3441 : decode cL_law 3441 = .ok (.iload 4, 2) := by decide +kernel
theorem dL_law_3443 : decode cL_law 3443 = .ok (.iconst 1, 1) := by decide +kernel
theorem dL_law_3444 : decode cL_law 3444 = .ok (.iadd, 1) := by decide +kernel
theorem dL_law_3445 : decode cL_law 3445 = .ok (.iaload, 1) := by decide +kernel
theorem dL_law_3446 : decode cL_law 3446 = .ok (.invokevirtual 398, 3) := by decide +kernel
theorem dL_law_3449 : decode cL_law 3449 = .ok (.istore 6, 2) := by decide +kernel
theorem dL_law_3451 : decode cL_law 3451 = .ok (.aload_n 2, 1) := by decide +kernel
theorem dL_law_3452 : decode cL_law 3452 = .ok (.invokevirtual 205, 3) := by decide +kernel
theorem dL_law_3455 : decode cL_law 3455 = .ok (.iload 5, 2) := by decide +kernel
theorem dL_law_3457 : decode cL_law 3457 = .ok (.if_icmp .eq 5, 3) := by decide +kernel
theorem dL_law_3460 : decode cL_law 3460 = .ok (.iconst 0, 1) := by decide +kernel
theorem dL_law_3461 : decode cL_law 3461 = .ok (.ireturn, 1) := by decide +kernel
theorem dL_law_3462 : decode cL_law 3462 = .ok (.iload 5, 2) := by decide +kernel
theorem dL_law_3464 : decode cL_law 3464 = .ok (.ifCond .ne 15, 3) := by decide +kernel
theorem dL_law_3467 : decode cL_law 3467 = .ok (.aload_n 3, 1) := by decide +kernel
theorem dL_law_3468 : decode cL_law 3468 = .ok (.iconst 0, 1) := by decide +kernel
theorem dL_law_3469 : decode cL_law 3469 = .ok (.laload, 1) := by decide +kernel
theorem dL_law_3470 : decode cL_law 3470 = .ok (.iload 6, 2) := by decide +kernel
theorem dL_law_3472 : decode cL_law 3472 = .ok (.i2l, 1) := by decide +kernel
theorem dL_law_3473 : decode cL_law 3473 = .ok (.lcmp, 1) := by decide +kernel
theorem dL_law_3474 : decode cL_law 3474 = .ok (.ifCond .eq 5, 3) := by decide +kernel
theorem dL_law_3477 : decode cL_law 3477 = .ok (.iconst 0, 1) := by decide +kernel
theorem dL_law_3478 : decode cL_law 3478 = .ok (.ireturn, 1) := by decide +kernel
theorem dL_law_3479 : decode cL_law 3479 = .ok (.goto 361, 3) := by decide +kernel
theorem dL_law_3482 : decode cL_law 3482 = .ok (.aload_n 1, 1) := by decide +kernel
theorem dL_law_3483 : decode cL_law 3483 = .ok (.invokevirtual 399, 3) := by decide +kernel
theorem dL_law_3486 : decode cL_law 3486 = .ok (.aload_n 2, 1) := by decide +kernel
theorem dL_law_3487 : decode cL_law 3487 = .ok (.invokevirtual 402, 3) := by decide +kernel
theorem dL_law_3490 : decode cL_law 3490 = .ok (.if_icmp .eq 350, 3) := by decide +kernel
theorem dL_law_3493 : decode cL_law 3493 = .ok (.iconst 0, 1) := by decide +kernel
theorem dL_law_3494 : decode cL_law 3494 = .ok (.ireturn, 1) := by decide +kernel
theorem dL_law_3495 : decode cL_law 3495 = .ok (.aload_n 1, 1) := by decide +kernel
theorem dL_law_3496 : decode cL_law 3496 = .ok (.aload_n 3, 1) := by decide +kernel
theorem dL_law_3497 : decode cL_law 3497 = .ok (.invokestatic 403, 3) := by decide +kernel
theorem dL_law_3500 : decode cL_law 3500 = .ok (.istore 5, 2) := by decide +kernel
theorem dL_law_3502 : decode cL_law 3502 = .ok (.aload_n 2, 1) := by decide +kernel
theorem dL_law_3503 : decode cL_law 3503 = .ok (.invokevirtual 405, 3) := by decide +kernel
theorem dL_law_3506 : decode cL_law 3506 = .ok (.istore 6, 2) := by decide +kernel
theorem dL_law_3508 : decode cL_law 3508 = .ok (.aload_n 2, 1) := by decide +kernel
theorem dL_law_3509 : decode cL_law 3509 = .ok (.invokevirtual 205, 3) := by decide +kernel
theorem dL_law_3512 : decode cL_law 3512 = .ok (.iload 5, 2) := by decide +kernel
theorem dL_law_3514 : decode cL_law 3514 = .ok (.if_icmp .eq 5, 3) := by decide +kernel
theorem dL_law_3517 : decode cL_law 3517 = .ok (.iconst 0, 1) := by decide +kernel
theorem dL_law_3518 : decode cL_law 3518 = .ok (.ireturn, 1) := by decide +kernel
theorem dL_law_3519 : decode cL_law 3519 = .ok (.iload 5, 2) := by decide +kernel
theorem dL_law_3521 : decode cL_law 3521 = .ok (.ifCond .ne 15, 3) := by decide +kernel
theorem dL_law_3524 : decode cL_law 3524 = .ok (.aload_n 3, 1) := by decide +kernel
theorem dL_law_3525 : decode cL_law 3525 = .ok (.iconst 0, 1) := by decide +kernel
theorem dL_law_3526 : decode cL_law 3526 = .ok (.laload, 1) := by decide +kernel
theorem dL_law_3527 : decode cL_law 3527 = .ok (.iload 6, 2) := by decide +kernel
theorem dL_law_3529 : decode cL_law 3529 = .ok (.i2l, 1) := by decide +kernel
theorem dL_law_3530 : decode cL_law 3530 = .ok (.lcmp, 1) := by decide +kernel
theorem dL_law_3531 : decode cL_law 3531 = .ok (.ifCond .eq 5, 3) := by decide +kernel
theorem dL_law_3534 : decode cL_law 3534 = .ok (.iconst 0, 1) := by decide +kernel
theorem dL_law_3535 : decode cL_law 3535 = .ok (.ireturn, 1) := by decide +kernel
theorem dL_law_3536 : decode cL_law 3536 = .ok (.goto 304, 3) := by decide +kernel
theorem dL_law_3539 : decode cL_law 3539 = .ok (.aload_n 1, 1) := by decide +kernel
theorem dL_law_3540 : decode cL_law 3540 = .ok (.aload_n 0, 1) := by decide +kernel
theorem dL_law_3541 : decode cL_law 3541 = .ok (.iload 4, 2) := by decide +kernel
theorem dL_law_3543 : decode cL_law 3543 = .ok (.iconst 1, 1) := by decide +kernel
theorem dL_law_3544 : decode cL_law 3544 = .ok (.iadd, 1) := by decide +kernel
theorem dL_law_3545 : decode cL_law 3545 = .ok (.iaload, 1) := by decide +kernel
theorem dL_law_3546 : decode cL_law 3546 = .ok (.aload_n 3, 1) := by decide +kernel
theorem dL_law_3547 : decode cL_law 3547 = .ok (.invokestatic 406, 3) := by decide +kernel
theorem dL_law_3550 : decode cL_law 3550 = .ok (.istore 5, 2) := by decide +kernel
theorem dL_law_3552 : decode cL_law 3552 = .ok (.aload_n 2, 1) := by decide +kernel
theorem dL_law_3553 : decode cL_law 3553 = .ok (.aload_n 0, 1) := by decide +kernel
theorem dL_law_3554 : decode cL_law 3554 = .ok (.iload 4, 2) := by decide +kernel
theorem dL_law_3556 : decode cL_law 3556 = .ok (.iconst 1, 1) := by decide +kernel
theorem dL_law_3557 : decode cL_law 3557 = .ok (.iadd, 1) := by decide +kernel
theorem dL_law_3558 : decode cL_law 3558 = .ok (.iaload, 1) := by decide +kernel
theorem dL_law_3559 : decode cL_law 3559 = .ok (.invokevirtual 408, 3) := by decide +kernel
theorem dL_law_3562 : decode cL_law 3562 = .ok (.istore 6, 2) := by decide +kernel
theorem dL_law_3564 : decode cL_law 3564 = .ok (.aload_n 2, 1) := by decide +kernel
theorem dL_law_3565 : decode cL_law 3565 = .ok (.invokevirtual 205, 3) := by decide +kernel
theorem dL_law_3568 : decode cL_law 3568 = .ok (.iload 5, 2) := by decide +kernel
theorem dL_law_3570 : decode cL_law 3570 = .ok (.if_icmp .eq 5, 3) := by decide +kernel
theorem dL_law_3573 : decode cL_law 3573 = .ok (.iconst 0, 1) := by decide +kernel
theorem dL_law_3574 : decode cL_law 3574 = .ok (.ireturn, 1) := by decide +kernel
theorem dL_law_3575 : decode cL_law 3575 = .ok (.iload 5, 2) := by decide +kernel
theorem dL_law_3577 : decode cL_law 3577 = .ok (.ifCond .ne 15, 3) := by decide +kernel
theorem dL_law_3580 : decode cL_law 3580 = .ok (.aload_n 3, 1) := by decide +kernel
theorem dL_law_3581 : decode cL_law 3581 = .ok (.iconst 0, 1) := by decide +kernel
theorem dL_law_3582 : decode cL_law 3582 = .ok (.laload, 1) := by decide +kernel
theorem dL_law_3583 : decode cL_law 3583 = .ok (.iload 6, 2) := by decide +kernel
theorem dL_law_3585 : decode cL_law 3585 = .ok (.i2l, 1) := by decide +kernel
theorem dL_law_3586 : decode cL_law 3586 = .ok (.lcmp, 1) := by decide +kernel
theorem dL_law_3587 : decode cL_law 3587 = .ok (.ifCond .eq 5, 3) := by decide +kernel
theorem dL_law_3590 : decode cL_law 3590 = .ok (.iconst 0, 1) := by decide +kernel
theorem dL_law_3591 : decode cL_law 3591 = .ok (.ireturn, 1) := by decide +kernel
theorem dL_law_3592 : decode cL_law 3592 = .ok (.goto 248, 3) := by decide +kernel
theorem dL_law_3595 : decode cL_law 3595 = .ok (.aload_n 1, 1) := by decide +kernel
theorem dL_law_3596 : decode cL_law 3596 = .ok (.invokevirtual 409, 3) := by decide +kernel
theorem dL_law_3599 : decode cL_law 3599 = .ok (.aload_n 2, 1) := by decide +kernel
theorem dL_law_3600 : decode cL_law 3600 = .ok (.invokevirtual 412, 3) := by decide +kernel
theorem dL_law_3603 : decode cL_law 3603 = .ok (.if_icmp .eq 237, 3) := by decide +kernel
theorem dL_law_3606 : decode cL_law 3606 = .ok (.iconst 0, 1) := by decide +kernel
theorem dL_law_3607 : decode cL_law 3607 = .ok (.ireturn, 1) := by decide +kernel
theorem dL_law_3608 : decode cL_law 3608 = .ok (.aload_n 1, 1) := by decide +kernel
theorem dL_law_3609 : decode cL_law 3609 = .ok (.aload_n 0, 1) := by decide +kernel
theorem dL_law_3610 : decode cL_law 3610 = .ok (.iload 4, 2) := by decide +kernel
theorem dL_law_3612 : decode cL_law 3612 = .ok (.iconst 1, 1) := by decide +kernel
theorem dL_law_3613 : decode cL_law 3613 = .ok (.iadd, 1) := by decide +kernel
theorem dL_law_3614 : decode cL_law 3614 = .ok (.iaload, 1) := by decide +kernel
theorem dL_law_3615 : decode cL_law 3615 = .ok (.aload_n 3, 1) := by decide +kernel
theorem dL_law_3616 : decode cL_law 3616 = .ok (.invokestatic 413, 3) := by decide +kernel
theorem dL_law_3619 : decode cL_law 3619 = .ok (.istore 5, 2) := by decide +kernel
theorem dL_law_3621 : decode cL_law 3621 = .ok (.aload_n 2, 1) := by decide +kernel
theorem dL_law_3622 : decode cL_law 3622 = .ok (.aload_n 0, 1) := by decide +kernel
theorem dL_law_3623 : decode cL_law 3623 = .ok (.iload 4, 2) := by decide +kernel
theorem dL_law_3625 : decode cL_law 3625 = .ok (.iconst 1, 1) := by decide +kernel
theorem dL_law_3626 : decode cL_law 3626 = .ok (.iadd, 1) := by decide +kernel
theorem dL_law_3627 : decode cL_law 3627 = .ok (.iaload, 1) := by decide +kernel
theorem dL_law_3628 : decode cL_law 3628 = .ok (.invokevirtual 415, 3) := by decide +kernel
theorem dL_law_3631 : decode cL_law 3631 = .ok (.istore 6, 2) := by decide +kernel
theorem dL_law_3633 : decode cL_law 3633 = .ok (.aload_n 2, 1) := by decide +kernel
theorem dL_law_3634 : decode cL_law 3634 = .ok (.invokevirtual 205, 3) := by decide +kernel
theorem dL_law_3637 : decode cL_law 3637 = .ok (.iload 5, 2) := by decide +kernel
theorem dL_law_3639 : decode cL_law 3639 = .ok (.if_icmp .eq 5, 3) := by decide +kernel
theorem dL_law_3642 : decode cL_law 3642 = .ok (.iconst 0, 1) := by decide +kernel
theorem dL_law_3643 : decode cL_law 3643 = .ok (.ireturn, 1) := by decide +kernel
theorem dL_law_3644 : decode cL_law 3644 = .ok (.iload 5, 2) := by decide +kernel
theorem dL_law_3646 : decode cL_law 3646 = .ok (.ifCond .ne 15, 3) := by decide +kernel
theorem dL_law_3649 : decode cL_law 3649 = .ok (.aload_n 3, 1) := by decide +kernel
theorem dL_law_3650 : decode cL_law 3650 = .ok (.iconst 0, 1) := by decide +kernel
theorem dL_law_3651 : decode cL_law 3651 = .ok (.laload, 1) := by decide +kernel
theorem dL_law_3652 : decode cL_law 3652 = .ok (.iload 6, 2) := by decide +kernel
theorem dL_law_3654 : decode cL_law 3654 = .ok (.i2l, 1) := by decide +kernel
theorem dL_law_3655 : decode cL_law 3655 = .ok (.lcmp, 1) := by decide +kernel
theorem dL_law_3656 : decode cL_law 3656 = .ok (.ifCond .eq 5, 3) := by decide +kernel
theorem dL_law_3659 : decode cL_law 3659 = .ok (.iconst 0, 1) := by decide +kernel
theorem dL_law_3660 : decode cL_law 3660 = .ok (.ireturn, 1) := by decide +kernel
theorem dL_law_3661 : decode cL_law 3661 = .ok (.goto 179, 3) := by decide +kernel
theorem dL_law_3664 : decode cL_law 3664 = .ok (.aload_n 1, 1) := by decide +kernel
theorem dL_law_3665 : decode cL_law 3665 = .ok (.aload_n 0, 1) := by decide +kernel
theorem dL_law_3666 : decode cL_law 3666 = .ok (.iload 4, 2) := by decide +kernel
theorem dL_law_3668 : decode cL_law 3668 = .ok (.iconst 1, 1) := by decide +kernel
theorem dL_law_3669 : decode cL_law 3669 = .ok (.iadd, 1) := by decide +kernel
theorem dL_law_3670 : decode cL_law 3670 = .ok (.iaload, 1) := by decide +kernel
theorem dL_law_3671 : decode cL_law 3671 = .ok (.aload_n 3, 1) := by decide +kernel
