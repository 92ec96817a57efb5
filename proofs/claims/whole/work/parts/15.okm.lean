set_option maxRecDepth 1000000 in
theorem okm1 : OKM md1 := ⟨g_mem 59 rfl rfl, g_mem 40 rfl rfl, (fun h => by cases h), (fun _ => g_mem 58 rfl rfl), (fun _ h => absurd rfl h), by decide +kernel, by decide +kernel, by decide +kernel⟩
set_option maxRecDepth 1000000 in
theorem okm2 : OKM md2 := ⟨g_mem 373 rfl rfl, g_mem 40 rfl rfl, (fun h => by cases h), (fun _ => g_mem 371 rfl rfl), (fun _ _ => g_mem 372 rfl rfl), by decide +kernel, by decide +kernel, by decide +kernel⟩
set_option maxRecDepth 1000000 in
theorem okm3 : OKM md3 := ⟨g_mem 420 rfl rfl, g_mem 40 rfl rfl, (fun h => by cases h), (fun _ => g_mem 418 rfl rfl), (fun _ _ => g_mem 419 rfl rfl), by decide +kernel, by decide +kernel, by decide +kernel⟩
set_option maxRecDepth 1000000 in
theorem okm4 : OKM md4 := ⟨g_mem 449 rfl rfl, g_mem 40 rfl rfl, (fun h => by cases h), (fun _ => g_mem 447 rfl rfl), (fun _ _ => g_mem 448 rfl rfl), by decide +kernel, by decide +kernel, by decide +kernel⟩
set_option maxRecDepth 1000000 in
theorem okm5 : OKM md5 := ⟨g_mem 454 rfl rfl, g_mem 40 rfl rfl, (fun h => by cases h), (fun _ => g_mem 452 rfl rfl), (fun _ _ => g_mem 453 rfl rfl), by decide +kernel, by decide +kernel, by decide +kernel⟩
set_option maxRecDepth 1000000 in
theorem okm6 : OKM md6 := ⟨g_mem 464 rfl rfl, g_mem 40 rfl rfl, (fun h => by cases h), (fun _ => g_mem 462 rfl rfl), (fun _ _ => g_mem 463 rfl rfl), by decide +kernel, by decide +kernel, by decide +kernel⟩
set_option maxRecDepth 1000000 in
theorem okm7 : OKM md7 := ⟨g_mem 469 rfl rfl, g_mem 40 rfl rfl, (fun h => by cases h), (fun _ => g_mem 467 rfl rfl), (fun _ _ => g_mem 468 rfl rfl), by decide +kernel, by decide +kernel, by decide +kernel⟩
set_option maxRecDepth 1000000 in
theorem okm8 : OKM md8 := ⟨g_mem 477 rfl rfl, g_mem 40 rfl rfl, (fun h => by cases h), (fun _ => g_mem 475 rfl rfl), (fun _ _ => g_mem 476 rfl rfl), by decide +kernel, by decide +kernel, by decide +kernel⟩
set_option maxRecDepth 1000000 in
theorem okm9 : OKM md9 := ⟨g_mem 481 rfl rfl, g_mem 40 rfl rfl, (fun h => by cases h), (fun _ => g_mem 479 rfl rfl), (fun _ _ => g_mem 480 rfl rfl), by decide +kernel, by decide +kernel, by decide +kernel⟩
set_option maxRecDepth 1000000 in
theorem okm10 : OKM md10 := ⟨g_mem 512 rfl rfl, g_mem 40 rfl rfl, (fun h => by cases h), (fun _ => g_mem 510 rfl rfl), (fun _ _ => g_mem 511 rfl rfl), by decide +kernel, by decide +kernel, by decide +kernel⟩
set_option maxRecDepth 1000000 in
theorem okm11 : OKM md11 := ⟨g_mem 516 rfl rfl, g_mem 40 rfl rfl, (fun h => by cases h), (fun _ => g_mem 514 rfl rfl), (fun _ _ => g_mem 515 rfl rfl), by decide +kernel, by decide +kernel, by decide +kernel⟩
set_option maxRecDepth 1000000 in
theorem okm12 : OKM md12 := ⟨g_mem 520 rfl rfl, g_mem 40 rfl rfl, (fun h => by cases h), (fun _ => g_mem 518 rfl rfl), (fun _ _ => g_mem 519 rfl rfl), by decide +kernel, by decide +kernel, by decide +kernel⟩
set_option maxRecDepth 1000000 in
theorem okm13 : OKM md13 := ⟨g_mem 551 rfl rfl, g_mem 40 rfl rfl, (fun h => by cases h), (fun _ => g_mem 549 rfl rfl), (fun _ _ => g_mem 550 rfl rfl), by decide +kernel, by decide +kernel, by decide +kernel⟩
set_option maxRecDepth 1000000 in
theorem okm14 : OKM md14 := ⟨g_mem 556 rfl rfl, g_mem 40 rfl rfl, (fun h => by cases h), (fun _ => g_mem 554 rfl rfl), (fun _ _ => g_mem 555 rfl rfl), by decide +kernel, by decide +kernel, by decide +kernel⟩
set_option maxRecDepth 1000000 in
theorem okm15 : OKM md15 := ⟨g_mem 570 rfl rfl, g_mem 40 rfl rfl, (fun h => by cases h), (fun _ => g_mem 568 rfl rfl), (fun _ _ => g_mem 569 rfl rfl), by decide +kernel, by decide +kernel, by decide +kernel⟩
set_option maxRecDepth 1000000 in
theorem okm16 : OKM md16 := ⟨g_mem 585 rfl rfl, g_mem 40 rfl rfl, (fun h => by cases h), (fun _ => g_mem 583 rfl rfl), (fun _ _ => g_mem 584 rfl rfl), by decide +kernel, by decide +kernel, by decide +kernel⟩
set_option maxRecDepth 1000000 in
theorem okm17 : OKM md17 := ⟨g_mem 589 rfl rfl, g_mem 40 rfl rfl, (fun h => by cases h), (fun _ => g_mem 587 rfl rfl), (fun _ _ => g_mem 588 rfl rfl), by decide +kernel, by decide +kernel, by decide +kernel⟩
set_option maxRecDepth 1000000 in
theorem okm18 : OKM md18 := ⟨g_mem 594 rfl rfl, g_mem 40 rfl rfl, (fun h => by cases h), (fun _ => g_mem 592 rfl rfl), (fun _ _ => g_mem 593 rfl rfl), by decide +kernel, by decide +kernel, by decide +kernel⟩
set_option maxRecDepth 1000000 in
theorem okm19 : OKM md19 := ⟨g_mem 598 rfl rfl, g_mem 40 rfl rfl, (fun h => by cases h), (fun _ => g_mem 596 rfl rfl), (fun _ _ => g_mem 597 rfl rfl), by decide +kernel, by decide +kernel, by decide +kernel⟩
set_option maxRecDepth 1000000 in
theorem okm20 : OKM md20 := ⟨g_mem 606 rfl rfl, g_mem 40 rfl rfl, (fun h => by cases h), (fun _ => g_mem 604 rfl rfl), (fun _ _ => g_mem 605 rfl rfl), by decide +kernel, by decide +kernel, by decide +kernel⟩
set_option maxRecDepth 1000000 in
theorem okm21 : OKM md21 := ⟨g_mem 618 rfl rfl, g_mem 40 rfl rfl, (fun h => by cases h), (fun _ => g_mem 616 rfl rfl), (fun _ _ => g_mem 617 rfl rfl), by decide +kernel, by decide +kernel, by decide +kernel⟩
set_option maxRecDepth 1000000 in
theorem okm22 : OKM md22 := ⟨g_mem 626 rfl rfl, g_mem 40 rfl rfl, (fun h => by cases h), (fun _ => g_mem 624 rfl rfl), (fun _ _ => g_mem 625 rfl rfl), by decide +kernel, by decide +kernel, by decide +kernel⟩
set_option maxRecDepth 1000000 in
theorem okm23 : OKM md23 := ⟨g_mem 644 rfl rfl, g_mem 40 rfl rfl, (fun h => by cases h), (fun _ => g_mem 642 rfl rfl), (fun _ _ => g_mem 643 rfl rfl), by decide +kernel, by decide +kernel, by decide +kernel⟩
set_option maxRecDepth 1000000 in
theorem okm24 : OKM md24 := ⟨g_mem 648 rfl rfl, g_mem 40 rfl rfl, (fun h => by cases h), (fun _ => g_mem 646 rfl rfl), (fun _ _ => g_mem 647 rfl rfl), by decide +kernel, by decide +kernel, by decide +kernel⟩
set_option maxRecDepth 1000000 in
theorem okm25 : OKM md25 := ⟨g_mem 687 rfl rfl, g_mem 40 rfl rfl, (fun h => by cases h), (fun _ => g_mem 685 rfl rfl), (fun _ _ => g_mem 686 rfl rfl), by decide +kernel, by decide +kernel, by decide +kernel⟩
set_option maxRecDepth 1000000 in
theorem okm26 : OKM md26 := ⟨g_mem 697 rfl rfl, g_mem 40 rfl rfl, (fun h => by cases h), (fun _ => g_mem 695 rfl rfl), (fun _ _ => g_mem 696 rfl rfl), by decide +kernel, by decide +kernel, by decide +kernel⟩
set_option maxRecDepth 1000000 in
theorem okm27 : OKM md27 := ⟨g_mem 715 rfl rfl, g_mem 40 rfl rfl, (fun h => by cases h), (fun _ => g_mem 713 rfl rfl), (fun _ _ => g_mem 714 rfl rfl), by decide +kernel, by decide +kernel, by decide +kernel⟩
set_option maxRecDepth 1000000 in
theorem okm28 : OKM md28 := ⟨g_mem 723 rfl rfl, g_mem 40 rfl rfl, (fun h => by cases h), (fun _ => g_mem 721 rfl rfl), (fun _ _ => g_mem 722 rfl rfl), by decide +kernel, by decide +kernel, by decide +kernel⟩
set_option maxRecDepth 1000000 in
theorem okm29 : OKM md29 := ⟨g_mem 728 rfl rfl, g_mem 40 rfl rfl, (fun h => by cases h), (fun _ => g_mem 726 rfl rfl), (fun _ _ => g_mem 727 rfl rfl), by decide +kernel, by decide +kernel, by decide +kernel⟩
set_option maxRecDepth 1000000 in
theorem okm30 : OKM md30 := ⟨g_mem 747 rfl rfl, g_mem 40 rfl rfl, (fun h => by cases h), (fun _ => g_mem 745 rfl rfl), (fun _ _ => g_mem 746 rfl rfl), by decide +kernel, by decide +kernel, by decide +kernel⟩
set_option maxRecDepth 1000000 in
theorem okm31 : OKM md31 := ⟨g_mem 762 rfl rfl, g_mem 40 rfl rfl, (fun h => by cases h), (fun _ => g_mem 760 rfl rfl), (fun _ _ => g_mem 761 rfl rfl), by decide +kernel, by decide +kernel, by decide +kernel⟩
set_option maxRecDepth 1000000 in
theorem okm32 : OKM md32 := ⟨g_mem 776 rfl rfl, g_mem 40 rfl rfl, (fun h => by cases h), (fun _ => g_mem 774 rfl rfl), (fun _ _ => g_mem 775 rfl rfl), by decide +kernel, by decide +kernel, by decide +kernel⟩
set_option maxRecDepth 1000000 in
theorem okm33 : OKM md33 := ⟨g_mem 789 rfl rfl, g_mem 40 rfl rfl, (fun h => by cases h), (fun _ => g_mem 787 rfl rfl), (fun _ _ => g_mem 788 rfl rfl), by decide +kernel, by decide +kernel, by decide +kernel⟩
set_option maxRecDepth 1000000 in
theorem okm34 : OKM md34 := ⟨g_mem 801 rfl rfl, g_mem 40 rfl rfl, (fun h => by cases h), (fun _ => g_mem 799 rfl rfl), (fun _ _ => g_mem 800 rfl rfl), by decide +kernel, by decide +kernel, by decide +kernel⟩
set_option maxRecDepth 1000000 in
theorem okm35 : OKM md35 := ⟨g_mem 809 rfl rfl, g_mem 40 rfl rfl, (fun h => by cases h), (fun _ => g_mem 807 rfl rfl), (fun _ _ => g_mem 808 rfl rfl), by decide +kernel, by decide +kernel, by decide +kernel⟩
set_option maxRecDepth 1000000 in
theorem okm36 : OKM md36 := ⟨g_mem 381 rfl rfl, g_mem 40 rfl rfl, (fun h => by cases h), (fun _ => g_mem 380 rfl rfl), (fun _ _ => g_mem 0 rfl rfl), by decide +kernel, by decide +kernel, by decide +kernel⟩
set_option maxRecDepth 1000000 in
theorem okm37 : OKM md37 := ⟨g_mem 376 rfl rfl, g_mem 40 rfl rfl, (fun _ => g_mem 375 rfl rfl), (fun h => by cases h), (fun h => by cases h), by decide +kernel, by decide +kernel, by decide +kernel⟩
set_option maxRecDepth 1000000 in
theorem okm38 : OKM md38 := ⟨g_mem 484 rfl rfl, g_mem 40 rfl rfl, (fun _ => g_mem 483 rfl rfl), (fun h => by cases h), (fun h => by cases h), by decide +kernel, by decide +kernel, by decide +kernel⟩
set_option maxRecDepth 1000000 in
theorem okm39 : OKM md39 := ⟨g_mem 430 rfl rfl, g_mem 40 rfl rfl, (fun _ => g_mem 429 rfl rfl), (fun h => by cases h), (fun h => by cases h), by decide +kernel, by decide +kernel, by decide +kernel⟩
set_option maxRecDepth 1000000 in
theorem okm40 : OKM md40 := ⟨g_mem 424 rfl rfl, g_mem 40 rfl rfl, (fun _ => g_mem 423 rfl rfl), (fun h => by cases h), (fun h => by cases h), by decide +kernel, by decide +kernel, by decide +kernel⟩
set_option maxRecDepth 1000000 in
theorem okm41 : OKM md41 := ⟨g_mem 750 rfl rfl, g_mem 40 rfl rfl, (fun _ => g_mem 749 rfl rfl), (fun h => by cases h), (fun h => by cases h), by decide +kernel, by decide +kernel, by decide +kernel⟩
set_option maxRecDepth 1000000 in
theorem okm42 : OKM md42 := ⟨g_mem 753 rfl rfl, g_mem 40 rfl rfl, (fun _ => g_mem 752 rfl rfl), (fun h => by cases h), (fun h => by cases h), by decide +kernel, by decide +kernel, by decide +kernel⟩
set_option maxRecDepth 1000000 in
theorem okm43 : OKM md43 := ⟨g_mem 427 rfl rfl, g_mem 40 rfl rfl, (fun _ => g_mem 426 rfl rfl), (fun h => by cases h), (fun h => by cases h), by decide +kernel, by decide +kernel, by decide +kernel⟩
set_option maxRecDepth 1000000 in
theorem okm44 : OKM md44 := ⟨g_mem 433 rfl rfl, g_mem 40 rfl rfl, (fun _ => g_mem 432 rfl rfl), (fun h => by cases h), (fun h => by cases h), by decide +kernel, by decide +kernel, by decide +kernel⟩
set_option maxRecDepth 1000000 in
theorem okm45 : OKM md45 := ⟨g_mem 457 rfl rfl, g_mem 40 rfl rfl, (fun _ => g_mem 456 rfl rfl), (fun h => by cases h), (fun h => by cases h), by decide +kernel, by decide +kernel, by decide +kernel⟩
set_option maxRecDepth 1000000 in
theorem okm46 : OKM md46 := ⟨g_mem 814 rfl rfl, g_mem 52 rfl rfl, (fun h => by cases h), (fun _ => g_mem 813 rfl rfl), (fun _ h => absurd rfl h), by decide +kernel, by decide +kernel, by decide +kernel⟩
set_option maxRecDepth 1000000 in
theorem okm47 : OKM md47 := ⟨g_mem 898 rfl rfl, g_mem 52 rfl rfl, (fun h => by cases h), (fun _ => g_mem 897 rfl rfl), (fun _ _ => g_mem 11 rfl rfl), by decide +kernel, by decide +kernel, by decide +kernel⟩
set_option maxRecDepth 1000000 in
theorem okm48 : OKM md48 := ⟨g_mem 905 rfl rfl, g_mem 52 rfl rfl, (fun _ => g_mem 904 rfl rfl), (fun h => by cases h), (fun h => by cases h), by decide +kernel, by decide +kernel, by decide +kernel⟩
set_option maxRecDepth 1000000 in
theorem okm49 : OKM md49 := ⟨g_mem 914 rfl rfl, g_mem 52 rfl rfl, (fun h => by cases h), (fun _ => g_mem 913 rfl rfl), (fun _ _ => g_mem 13 rfl rfl), by decide +kernel, by decide +kernel, by decide +kernel⟩
set_option maxRecDepth 1000000 in
theorem okm50 : OKM md50 := ⟨g_mem 971 rfl rfl, g_mem 52 rfl rfl, (fun _ => g_mem 970 rfl rfl), (fun h => by cases h), (fun h => by cases h), by decide +kernel, by decide +kernel, by decide +kernel⟩
set_option maxRecDepth 1000000 in
theorem okm51 : OKM md51 := ⟨g_mem 1054 rfl rfl, g_mem 52 rfl rfl, (fun h => by cases h), (fun _ => g_mem 1053 rfl rfl), (fun _ _ => g_mem 28 rfl rfl), by decide +kernel, by decide +kernel, by decide +kernel⟩
set_option maxRecDepth 1000000 in
theorem okm52 : OKM md52 := ⟨g_mem 926 rfl rfl, g_mem 52 rfl rfl, (fun h => by cases h), (fun _ => g_mem 925 rfl rfl), (fun _ _ => g_mem 16 rfl rfl), by decide +kernel, by decide +kernel, by decide +kernel⟩
set_option maxRecDepth 1000000 in
theorem okm53 : OKM md53 := ⟨g_mem 933 rfl rfl, g_mem 52 rfl rfl, (fun _ => g_mem 932 rfl rfl), (fun h => by cases h), (fun h => by cases h), by decide +kernel, by decide +kernel, by decide +kernel⟩
set_option maxRecDepth 1000000 in
theorem okm54 : OKM md54 := ⟨g_mem 910 rfl rfl, g_mem 52 rfl rfl, (fun h => by cases h), (fun _ => g_mem 909 rfl rfl), (fun _ _ => g_mem 12 rfl rfl), by decide +kernel, by decide +kernel, by decide +kernel⟩
set_option maxRecDepth 1000000 in
theorem okm55 : OKM md55 := ⟨g_mem 893 rfl rfl, g_mem 52 rfl rfl, (fun h => by cases h), (fun _ => g_mem 891 rfl rfl), (fun _ _ => g_mem 892 rfl rfl), by decide +kernel, by decide +kernel, by decide +kernel⟩
set_option maxRecDepth 1000000 in
theorem okm56 : OKM md56 := ⟨g_mem 922 rfl rfl, g_mem 52 rfl rfl, (fun h => by cases h), (fun _ => g_mem 921 rfl rfl), (fun _ _ => g_mem 15 rfl rfl), by decide +kernel, by decide +kernel, by decide +kernel⟩
set_option maxRecDepth 1000000 in
theorem okm57 : OKM md57 := ⟨g_mem 942 rfl rfl, g_mem 52 rfl rfl, (fun h => by cases h), (fun _ => g_mem 941 rfl rfl), (fun _ _ => g_mem 18 rfl rfl), by decide +kernel, by decide +kernel, by decide +kernel⟩
set_option maxRecDepth 1000000 in
theorem okm58 : OKM md58 := ⟨g_mem 918 rfl rfl, g_mem 52 rfl rfl, (fun h => by cases h), (fun _ => g_mem 917 rfl rfl), (fun _ _ => g_mem 14 rfl rfl), by decide +kernel, by decide +kernel, by decide +kernel⟩
set_option maxRecDepth 1000000 in
theorem okm59 : OKM md59 := ⟨g_mem 902 rfl rfl, g_mem 52 rfl rfl, (fun h => by cases h), (fun _ => g_mem 900 rfl rfl), (fun _ _ => g_mem 901 rfl rfl), by decide +kernel, by decide +kernel, by decide +kernel⟩
set_option maxRecDepth 1000000 in
theorem okm60 : OKM md60 := ⟨g_mem 937 rfl rfl, g_mem 52 rfl rfl, (fun h => by cases h), (fun _ => g_mem 936 rfl rfl), (fun _ _ => g_mem 17 rfl rfl), by decide +kernel, by decide +kernel, by decide +kernel⟩
set_option maxRecDepth 1000000 in
theorem okm61 : OKM md61 := ⟨g_mem 930 rfl rfl, g_mem 52 rfl rfl, (fun h => by cases h), (fun _ => g_mem 928 rfl rfl), (fun _ _ => g_mem 929 rfl rfl), by decide +kernel, by decide +kernel, by decide +kernel⟩
set_option maxRecDepth 1000000 in
theorem okm62 : OKM md62 := ⟨g_mem 947 rfl rfl, g_mem 52 rfl rfl, (fun h => by cases h), (fun _ => g_mem 945 rfl rfl), (fun _ _ => g_mem 946 rfl rfl), by decide +kernel, by decide +kernel, by decide +kernel⟩
set_option maxRecDepth 1000000 in
theorem okm63 : OKM md63 := ⟨g_mem 951 rfl rfl, g_mem 52 rfl rfl, (fun h => by cases h), (fun _ => g_mem 949 rfl rfl), (fun _ _ => g_mem 950 rfl rfl), by decide +kernel, by decide +kernel, by decide +kernel⟩
set_option maxRecDepth 1000000 in
theorem okm64 : OKM md64 := ⟨g_mem 956 rfl rfl, g_mem 52 rfl rfl, (fun h => by cases h), (fun _ => g_mem 954 rfl rfl), (fun _ _ => g_mem 955 rfl rfl), by decide +kernel, by decide +kernel, by decide +kernel⟩
set_option maxRecDepth 1000000 in
theorem okm65 : OKM md65 := ⟨g_mem 960 rfl rfl, g_mem 52 rfl rfl, (fun h => by cases h), (fun _ => g_mem 958 rfl rfl), (fun _ _ => g_mem 959 rfl rfl), by decide +kernel, by decide +kernel, by decide +kernel⟩
set_option maxRecDepth 1000000 in
theorem okm66 : OKM md66 := ⟨g_mem 964 rfl rfl, g_mem 52 rfl rfl, (fun h => by cases h), (fun _ => g_mem 962 rfl rfl), (fun _ _ => g_mem 963 rfl rfl), by decide +kernel, by decide +kernel, by decide +kernel⟩
set_option maxRecDepth 1000000 in
theorem okm67 : OKM md67 := ⟨g_mem 983 rfl rfl, g_mem 52 rfl rfl, (fun h => by cases h), (fun _ => g_mem 982 rfl rfl), (fun _ _ => g_mem 21 rfl rfl), by decide +kernel, by decide +kernel, by decide +kernel⟩
set_option maxRecDepth 1000000 in
theorem okm68 : OKM md68 := ⟨g_mem 987 rfl rfl, g_mem 52 rfl rfl, (fun h => by cases h), (fun _ => g_mem 986 rfl rfl), (fun _ _ => g_mem 22 rfl rfl), by decide +kernel, by decide +kernel, by decide +kernel⟩
set_option maxRecDepth 1000000 in
theorem okm69 : OKM md69 := ⟨g_mem 990 rfl rfl, g_mem 52 rfl rfl, (fun _ => g_mem 989 rfl rfl), (fun h => by cases h), (fun h => by cases h), by decide +kernel, by decide +kernel, by decide +kernel⟩
set_option maxRecDepth 1000000 in
theorem okm70 : OKM md70 := ⟨g_mem 979 rfl rfl, g_mem 52 rfl rfl, (fun h => by cases h), (fun _ => g_mem 978 rfl rfl), (fun _ _ => g_mem 20 rfl rfl), by decide +kernel, by decide +kernel, by decide +kernel⟩
set_option maxRecDepth 1000000 in
theorem okm71 : OKM md71 := ⟨g_mem 975 rfl rfl, g_mem 52 rfl rfl, (fun h => by cases h), (fun _ => g_mem 974 rfl rfl), (fun _ _ => g_mem 19 rfl rfl), by decide +kernel, by decide +kernel, by decide +kernel⟩
set_option maxRecDepth 1000000 in
theorem okm72 : OKM md72 := ⟨g_mem 968 rfl rfl, g_mem 52 rfl rfl, (fun h => by cases h), (fun _ => g_mem 966 rfl rfl), (fun _ _ => g_mem 967 rfl rfl), by decide +kernel, by decide +kernel, by decide +kernel⟩
set_option maxRecDepth 1000000 in
theorem okm73 : OKM md73 := ⟨g_mem 994 rfl rfl, g_mem 52 rfl rfl, (fun h => by cases h), (fun _ => g_mem 992 rfl rfl), (fun _ _ => g_mem 993 rfl rfl), by decide +kernel, by decide +kernel, by decide +kernel⟩
set_option maxRecDepth 1000000 in
theorem okm74 : OKM md74 := ⟨g_mem 998 rfl rfl, g_mem 52 rfl rfl, (fun h => by cases h), (fun _ => g_mem 996 rfl rfl), (fun _ _ => g_mem 997 rfl rfl), by decide +kernel, by decide +kernel, by decide +kernel⟩
set_option maxRecDepth 1000000 in
theorem okm75 : OKM md75 := ⟨g_mem 1006 rfl rfl, g_mem 52 rfl rfl, (fun h => by cases h), (fun _ => g_mem 1005 rfl rfl), (fun _ _ => g_mem 23 rfl rfl), by decide +kernel, by decide +kernel, by decide +kernel⟩
set_option maxRecDepth 1000000 in
theorem okm76 : OKM md76 := ⟨g_mem 1010 rfl rfl, g_mem 52 rfl rfl, (fun h => by cases h), (fun _ => g_mem 1009 rfl rfl), (fun _ _ => g_mem 24 rfl rfl), by decide +kernel, by decide +kernel, by decide +kernel⟩
set_option maxRecDepth 1000000 in
theorem okm77 : OKM md77 := ⟨g_mem 1066 rfl rfl, g_mem 52 rfl rfl, (fun h => by cases h), (fun _ => g_mem 1065 rfl rfl), (fun _ _ => g_mem 30 rfl rfl), by decide +kernel, by decide +kernel, by decide +kernel⟩
set_option maxRecDepth 1000000 in
theorem okm78 : OKM md78 := ⟨g_mem 1022 rfl rfl, g_mem 52 rfl rfl, (fun h => by cases h), (fun _ => g_mem 1021 rfl rfl), (fun _ _ => g_mem 26 rfl rfl), by decide +kernel, by decide +kernel, by decide +kernel⟩
set_option maxRecDepth 1000000 in
theorem okm79 : OKM md79 := ⟨g_mem 1002 rfl rfl, g_mem 52 rfl rfl, (fun h => by cases h), (fun _ => g_mem 1000 rfl rfl), (fun _ _ => g_mem 1001 rfl rfl), by decide +kernel, by decide +kernel, by decide +kernel⟩
set_option maxRecDepth 1000000 in
theorem okm80 : OKM md80 := ⟨g_mem 1018 rfl rfl, g_mem 52 rfl rfl, (fun h => by cases h), (fun _ => g_mem 1017 rfl rfl), (fun _ _ => g_mem 25 rfl rfl), by decide +kernel, by decide +kernel, by decide +kernel⟩
set_option maxRecDepth 1000000 in
theorem okm81 : OKM md81 := ⟨g_mem 1014 rfl rfl, g_mem 52 rfl rfl, (fun h => by cases h), (fun _ => g_mem 1012 rfl rfl), (fun _ _ => g_mem 1013 rfl rfl), by decide +kernel, by decide +kernel, by decide +kernel⟩
set_option maxRecDepth 1000000 in
theorem okm82 : OKM md82 := ⟨g_mem 1026 rfl rfl, g_mem 52 rfl rfl, (fun h => by cases h), (fun _ => g_mem 1024 rfl rfl), (fun _ _ => g_mem 1025 rfl rfl), by decide +kernel, by decide +kernel, by decide +kernel⟩
set_option maxRecDepth 1000000 in
theorem okm83 : OKM md83 := ⟨g_mem 1034 rfl rfl, g_mem 52 rfl rfl, (fun h => by cases h), (fun _ => g_mem 1033 rfl rfl), (fun _ _ => g_mem 27 rfl rfl), by decide +kernel, by decide +kernel, by decide +kernel⟩
set_option maxRecDepth 1000000 in
theorem okm84 : OKM md84 := ⟨g_mem 1030 rfl rfl, g_mem 52 rfl rfl, (fun h => by cases h), (fun _ => g_mem 1028 rfl rfl), (fun _ _ => g_mem 1029 rfl rfl), by decide +kernel, by decide +kernel, by decide +kernel⟩
set_option maxRecDepth 1000000 in
theorem okm85 : OKM md85 := ⟨g_mem 1038 rfl rfl, g_mem 52 rfl rfl, (fun h => by cases h), (fun _ => g_mem 1036 rfl rfl), (fun _ _ => g_mem 1037 rfl rfl), by decide +kernel, by decide +kernel, by decide +kernel⟩
set_option maxRecDepth 1000000 in
theorem okm86 : OKM md86 := ⟨g_mem 1042 rfl rfl, g_mem 52 rfl rfl, (fun h => by cases h), (fun _ => g_mem 1040 rfl rfl), (fun _ _ => g_mem 1041 rfl rfl), by decide +kernel, by decide +kernel, by decide +kernel⟩
set_option maxRecDepth 1000000 in
theorem okm87 : OKM md87 := ⟨g_mem 1046 rfl rfl, g_mem 52 rfl rfl, (fun h => by cases h), (fun _ => g_mem 1044 rfl rfl), (fun _ _ => g_mem 1045 rfl rfl), by decide +kernel, by decide +kernel, by decide +kernel⟩
set_option maxRecDepth 1000000 in
theorem okm88 : OKM md88 := ⟨g_mem 1050 rfl rfl, g_mem 52 rfl rfl, (fun h => by cases h), (fun _ => g_mem 1048 rfl rfl), (fun _ _ => g_mem 1049 rfl rfl), by decide +kernel, by decide +kernel, by decide +kernel⟩
set_option maxRecDepth 1000000 in
theorem okm89 : OKM md89 := ⟨g_mem 1062 rfl rfl, g_mem 52 rfl rfl, (fun h => by cases h), (fun _ => g_mem 1061 rfl rfl), (fun _ _ => g_mem 29 rfl rfl), by decide +kernel, by decide +kernel, by decide +kernel⟩
set_option maxRecDepth 1000000 in
theorem okm90 : OKM md90 := ⟨g_mem 1058 rfl rfl, g_mem 52 rfl rfl, (fun h => by cases h), (fun _ => g_mem 1056 rfl rfl), (fun _ _ => g_mem 1057 rfl rfl), by decide +kernel, by decide +kernel, by decide +kernel⟩
set_option maxRecDepth 1000000 in
theorem okm91 : OKM md91 := ⟨g_mem 1070 rfl rfl, g_mem 52 rfl rfl, (fun h => by cases h), (fun _ => g_mem 1068 rfl rfl), (fun _ _ => g_mem 1069 rfl rfl), by decide +kernel, by decide +kernel, by decide +kernel⟩
set_option maxRecDepth 1000000 in
theorem okm92 : OKM md92 := ⟨g_mem 1082 rfl rfl, g_mem 52 rfl rfl, (fun h => by cases h), (fun _ => g_mem 1081 rfl rfl), (fun _ _ => g_mem 32 rfl rfl), by decide +kernel, by decide +kernel, by decide +kernel⟩
set_option maxRecDepth 1000000 in
theorem okm93 : OKM md93 := ⟨g_mem 1078 rfl rfl, g_mem 52 rfl rfl, (fun h => by cases h), (fun _ => g_mem 1077 rfl rfl), (fun _ _ => g_mem 31 rfl rfl), by decide +kernel, by decide +kernel, by decide +kernel⟩
set_option maxRecDepth 1000000 in
theorem okm94 : OKM md94 := ⟨g_mem 1074 rfl rfl, g_mem 52 rfl rfl, (fun h => by cases h), (fun _ => g_mem 1072 rfl rfl), (fun _ _ => g_mem 1073 rfl rfl), by decide +kernel, by decide +kernel, by decide +kernel⟩
set_option maxRecDepth 1000000 in
theorem okm95 : OKM md95 := ⟨g_mem 1086 rfl rfl, g_mem 52 rfl rfl, (fun h => by cases h), (fun _ => g_mem 1084 rfl rfl), (fun _ _ => g_mem 1085 rfl rfl), by decide +kernel, by decide +kernel, by decide +kernel⟩
set_option maxRecDepth 1000000 in
theorem okm96 : OKM md96 := ⟨g_mem 1094 rfl rfl, g_mem 52 rfl rfl, (fun h => by cases h), (fun _ => g_mem 1093 rfl rfl), (fun _ _ => g_mem 33 rfl rfl), by decide +kernel, by decide +kernel, by decide +kernel⟩
set_option maxRecDepth 1000000 in
theorem okm97 : OKM md97 := ⟨g_mem 1090 rfl rfl, g_mem 52 rfl rfl, (fun h => by cases h), (fun _ => g_mem 1088 rfl rfl), (fun _ _ => g_mem 1089 rfl rfl), by decide +kernel, by decide +kernel, by decide +kernel⟩
set_option maxRecDepth 1000000 in
theorem okm98 : OKM md98 := ⟨g_mem 1098 rfl rfl, g_mem 52 rfl rfl, (fun h => by cases h), (fun _ => g_mem 1096 rfl rfl), (fun _ _ => g_mem 1097 rfl rfl), by decide +kernel, by decide +kernel, by decide +kernel⟩
set_option maxRecDepth 1000000 in
theorem okm99 : OKM md99 := ⟨g_mem 1110 rfl rfl, g_mem 52 rfl rfl, (fun h => by cases h), (fun _ => g_mem 1109 rfl rfl), (fun _ _ => g_mem 35 rfl rfl), by decide +kernel, by decide +kernel, by decide +kernel⟩
set_option maxRecDepth 1000000 in
theorem okm100 : OKM md100 := ⟨g_mem 1106 rfl rfl, g_mem 52 rfl rfl, (fun h => by cases h), (fun _ => g_mem 1105 rfl rfl), (fun _ _ => g_mem 34 rfl rfl), by decide +kernel, by decide +kernel, by decide +kernel⟩
set_option maxRecDepth 1000000 in
theorem okm101 : OKM md101 := ⟨g_mem 1102 rfl rfl, g_mem 52 rfl rfl, (fun h => by cases h), (fun _ => g_mem 1100 rfl rfl), (fun _ _ => g_mem 1101 rfl rfl), by decide +kernel, by decide +kernel, by decide +kernel⟩
set_option maxRecDepth 1000000 in
theorem okm102 : OKM md102 := ⟨g_mem 1118 rfl rfl, g_mem 52 rfl rfl, (fun h => by cases h), (fun _ => g_mem 1117 rfl rfl), (fun _ _ => g_mem 36 rfl rfl), by decide +kernel, by decide +kernel, by decide +kernel⟩
set_option maxRecDepth 1000000 in
theorem okm103 : OKM md103 := ⟨g_mem 1114 rfl rfl, g_mem 52 rfl rfl, (fun h => by cases h), (fun _ => g_mem 1112 rfl rfl), (fun _ _ => g_mem 1113 rfl rfl), by decide +kernel, by decide +kernel, by decide +kernel⟩
set_option maxRecDepth 1000000 in
theorem okm104 : OKM md104 := ⟨g_mem 1122 rfl rfl, g_mem 52 rfl rfl, (fun h => by cases h), (fun _ => g_mem 1120 rfl rfl), (fun _ _ => g_mem 1121 rfl rfl), by decide +kernel, by decide +kernel, by decide +kernel⟩
set_option maxRecDepth 1000000 in
theorem okm105 : OKM md105 := ⟨g_mem 1126 rfl rfl, g_mem 52 rfl rfl, (fun h => by cases h), (fun _ => g_mem 1124 rfl rfl), (fun _ _ => g_mem 1125 rfl rfl), by decide +kernel, by decide +kernel, by decide +kernel⟩
set_option maxRecDepth 1000000 in
theorem okm106 : OKM md106 := ⟨g_mem 1130 rfl rfl, g_mem 52 rfl rfl, (fun h => by cases h), (fun _ => g_mem 1129 rfl rfl), (fun _ _ => g_mem 37 rfl rfl), by decide +kernel, by decide +kernel, by decide +kernel⟩
set_option maxRecDepth 1000000 in
theorem okm107 : OKM md107 := ⟨g_mem 1137 rfl rfl, g_mem 52 rfl rfl, (fun _ => g_mem 1136 rfl rfl), (fun h => by cases h), (fun h => by cases h), by decide +kernel, by decide +kernel, by decide +kernel⟩
set_option maxRecDepth 1000000 in
theorem okm108 : OKM md108 := ⟨g_mem 1134 rfl rfl, g_mem 52 rfl rfl, (fun h => by cases h), (fun _ => g_mem 1132 rfl rfl), (fun _ _ => g_mem 1133 rfl rfl), by decide +kernel, by decide +kernel, by decide +kernel⟩
set_option maxRecDepth 1000000 in
theorem okm109 : OKM md109 := ⟨g_mem 1142 rfl rfl, g_mem 52 rfl rfl, (fun h => by cases h), (fun _ => g_mem 1140 rfl rfl), (fun _ _ => g_mem 1141 rfl rfl), by decide +kernel, by decide +kernel, by decide +kernel⟩
set_option maxRecDepth 1000000 in
theorem okm110 : OKM md110 := ⟨g_mem 1151 rfl rfl, g_mem 52 rfl rfl, (fun h => by cases h), (fun _ => g_mem 1150 rfl rfl), (fun _ _ => g_mem 38 rfl rfl), by decide +kernel, by decide +kernel, by decide +kernel⟩
set_option maxRecDepth 1000000 in
theorem okm111 : OKM md111 := ⟨g_mem 1147 rfl rfl, g_mem 52 rfl rfl, (fun h => by cases h), (fun _ => g_mem 1145 rfl rfl), (fun _ _ => g_mem 1146 rfl rfl), by decide +kernel, by decide +kernel, by decide +kernel⟩
set_option maxRecDepth 1000000 in
theorem okm112 : OKM md112 := ⟨g_mem 1155 rfl rfl, g_mem 52 rfl rfl, (fun h => by cases h), (fun _ => g_mem 1153 rfl rfl), (fun _ _ => g_mem 1154 rfl rfl), by decide +kernel, by decide +kernel, by decide +kernel⟩
set_option maxRecDepth 1000000 in
theorem okm113 : OKM md113 := ⟨g_mem 1159 rfl rfl, g_mem 52 rfl rfl, (fun h => by cases h), (fun _ => g_mem 1157 rfl rfl), (fun _ _ => g_mem 1158 rfl rfl), by decide +kernel, by decide +kernel, by decide +kernel⟩
set_option maxRecDepth 1000000 in
theorem okm114 : OKM md114 := ⟨g_mem 224 rfl rfl, g_mem 47 rfl rfl, (fun h => by cases h), (fun _ => g_mem 223 rfl rfl), (fun _ h => absurd rfl h), by decide +kernel, by decide +kernel, by decide +kernel⟩
set_option maxRecDepth 1000000 in
theorem okm115 : OKM md115 := ⟨g_mem 610 rfl rfl, g_mem 47 rfl rfl, (fun h => by cases h), (fun _ => g_mem 608 rfl rfl), (fun _ _ => g_mem 609 rfl rfl), by decide +kernel, by decide +kernel, by decide +kernel⟩
set_option maxRecDepth 1000000 in
theorem okm116 : OKM md116 := ⟨g_mem 622 rfl rfl, g_mem 47 rfl rfl, (fun h => by cases h), (fun _ => g_mem 620 rfl rfl), (fun _ _ => g_mem 621 rfl rfl), by decide +kernel, by decide +kernel, by decide +kernel⟩
set_option maxRecDepth 1000000 in
theorem okm117 : OKM md117 := ⟨g_mem 631 rfl rfl, g_mem 47 rfl rfl, (fun h => by cases h), (fun _ => g_mem 629 rfl rfl), (fun _ _ => g_mem 630 rfl rfl), by decide +kernel, by decide +kernel, by decide +kernel⟩
set_option maxRecDepth 1000000 in
theorem okm118 : OKM md118 := ⟨g_mem 636 rfl rfl, g_mem 47 rfl rfl, (fun h => by cases h), (fun _ => g_mem 635 rfl rfl), (fun _ _ => g_mem 4 rfl rfl), by decide +kernel, by decide +kernel, by decide +kernel⟩
set_option maxRecDepth 1000000 in
theorem okm119 : OKM md119 := ⟨g_mem 67 rfl rfl, g_mem 41 rfl rfl, (fun h => by cases h), (fun _ => g_mem 66 rfl rfl), (fun _ h => absurd rfl h), by decide +kernel, by decide +kernel, by decide +kernel⟩
set_option maxRecDepth 1000000 in
theorem okm120 : OKM md120 := ⟨g_mem 389 rfl rfl, g_mem 41 rfl rfl, (fun h => by cases h), (fun _ => g_mem 387 rfl rfl), (fun _ _ => g_mem 388 rfl rfl), by decide +kernel, by decide +kernel, by decide +kernel⟩
set_option maxRecDepth 1000000 in
theorem okm121 : OKM md121 := ⟨g_mem 400 rfl rfl, g_mem 41 rfl rfl, (fun h => by cases h), (fun _ => g_mem 398 rfl rfl), (fun _ _ => g_mem 399 rfl rfl), by decide +kernel, by decide +kernel, by decide +kernel⟩
set_option maxRecDepth 1000000 in
theorem okm122 : OKM md122 := ⟨g_mem 602 rfl rfl, g_mem 41 rfl rfl, (fun h => by cases h), (fun _ => g_mem 600 rfl rfl), (fun _ _ => g_mem 601 rfl rfl), by decide +kernel, by decide +kernel, by decide +kernel⟩
set_option maxRecDepth 1000000 in
theorem okm123 : OKM md123 := ⟨g_mem 495 rfl rfl, g_mem 41 rfl rfl, (fun h => by cases h), (fun _ => g_mem 493 rfl rfl), (fun _ _ => g_mem 494 rfl rfl), by decide +kernel, by decide +kernel, by decide +kernel⟩
set_option maxRecDepth 1000000 in
theorem okm124 : OKM md124 := ⟨g_mem 503 rfl rfl, g_mem 41 rfl rfl, (fun h => by cases h), (fun _ => g_mem 501 rfl rfl), (fun _ _ => g_mem 502 rfl rfl), by decide +kernel, by decide +kernel, by decide +kernel⟩
set_option maxRecDepth 1000000 in
theorem okm125 : OKM md125 := ⟨g_mem 710 rfl rfl, g_mem 41 rfl rfl, (fun h => by cases h), (fun _ => g_mem 708 rfl rfl), (fun _ _ => g_mem 709 rfl rfl), by decide +kernel, by decide +kernel, by decide +kernel⟩
set_option maxRecDepth 1000000 in
theorem okm126 : OKM md126 := ⟨g_mem 437 rfl rfl, g_mem 41 rfl rfl, (fun h => by cases h), (fun _ => g_mem 435 rfl rfl), (fun _ _ => g_mem 436 rfl rfl), by decide +kernel, by decide +kernel, by decide +kernel⟩
set_option maxRecDepth 1000000 in
theorem okm127 : OKM md127 := ⟨g_mem 507 rfl rfl, g_mem 41 rfl rfl, (fun h => by cases h), (fun _ => g_mem 505 rfl rfl), (fun _ _ => g_mem 506 rfl rfl), by decide +kernel, by decide +kernel, by decide +kernel⟩
set_option maxRecDepth 1000000 in
theorem okm128 : OKM md128 := ⟨g_mem 441 rfl rfl, g_mem 41 rfl rfl, (fun h => by cases h), (fun _ => g_mem 439 rfl rfl), (fun _ _ => g_mem 440 rfl rfl), by decide +kernel, by decide +kernel, by decide +kernel⟩
set_option maxRecDepth 1000000 in
theorem okm129 : OKM md129 := ⟨g_mem 412 rfl rfl, g_mem 41 rfl rfl, (fun h => by cases h), (fun _ => g_mem 410 rfl rfl), (fun _ _ => g_mem 411 rfl rfl), by decide +kernel, by decide +kernel, by decide +kernel⟩
set_option maxRecDepth 1000000 in
theorem okm130 : OKM md130 := ⟨g_mem 416 rfl rfl, g_mem 41 rfl rfl, (fun h => by cases h), (fun _ => g_mem 414 rfl rfl), (fun _ _ => g_mem 415 rfl rfl), by decide +kernel, by decide +kernel, by decide +kernel⟩
set_option maxRecDepth 1000000 in
theorem okm131 : OKM md131 := ⟨g_mem 640 rfl rfl, g_mem 41 rfl rfl, (fun h => by cases h), (fun _ => g_mem 638 rfl rfl), (fun _ _ => g_mem 639 rfl rfl), by decide +kernel, by decide +kernel, by decide +kernel⟩
set_option maxRecDepth 1000000 in
theorem okm132 : OKM md132 := ⟨g_mem 404 rfl rfl, g_mem 41 rfl rfl, (fun h => by cases h), (fun _ => g_mem 402 rfl rfl), (fun _ _ => g_mem 403 rfl rfl), by decide +kernel, by decide +kernel, by decide +kernel⟩
set_option maxRecDepth 1000000 in
theorem okm133 : OKM md133 := ⟨g_mem 473 rfl rfl, g_mem 41 rfl rfl, (fun h => by cases h), (fun _ => g_mem 471 rfl rfl), (fun _ _ => g_mem 472 rfl rfl), by decide +kernel, by decide +kernel, by decide +kernel⟩
set_option maxRecDepth 1000000 in
theorem okm134 : OKM md134 := ⟨g_mem 408 rfl rfl, g_mem 41 rfl rfl, (fun h => by cases h), (fun _ => g_mem 406 rfl rfl), (fun _ _ => g_mem 407 rfl rfl), by decide +kernel, by decide +kernel, by decide +kernel⟩
set_option maxRecDepth 1000000 in
theorem okm135 : OKM md135 := ⟨g_mem 396 rfl rfl, g_mem 41 rfl rfl, (fun h => by cases h), (fun _ => g_mem 394 rfl rfl), (fun _ _ => g_mem 395 rfl rfl), by decide +kernel, by decide +kernel, by decide +kernel⟩
set_option maxRecDepth 1000000 in
theorem okm136 : OKM md136 := ⟨g_mem 657 rfl rfl, g_mem 41 rfl rfl, (fun h => by cases h), (fun _ => g_mem 655 rfl rfl), (fun _ _ => g_mem 656 rfl rfl), by decide +kernel, by decide +kernel, by decide +kernel⟩
set_option maxRecDepth 1000000 in
theorem okm137 : OKM md137 := ⟨g_mem 691 rfl rfl, g_mem 41 rfl rfl, (fun h => by cases h), (fun _ => g_mem 689 rfl rfl), (fun _ _ => g_mem 690 rfl rfl), by decide +kernel, by decide +kernel, by decide +kernel⟩
set_option maxRecDepth 1000000 in
theorem okm138 : OKM md138 := ⟨g_mem 797 rfl rfl, g_mem 41 rfl rfl, (fun h => by cases h), (fun _ => g_mem 795 rfl rfl), (fun _ _ => g_mem 796 rfl rfl), by decide +kernel, by decide +kernel, by decide +kernel⟩
set_option maxRecDepth 1000000 in
theorem okm139 : OKM md139 := ⟨g_mem 123 rfl rfl, g_mem 43 rfl rfl, (fun h => by cases h), (fun _ => g_mem 122 rfl rfl), (fun _ h => absurd rfl h), by decide +kernel, by decide +kernel, by decide +kernel⟩
set_option maxRecDepth 1000000 in
theorem okm140 : OKM md140 := ⟨g_mem 385 rfl rfl, g_mem 43 rfl rfl, (fun h => by cases h), (fun _ => g_mem 383 rfl rfl), (fun _ _ => g_mem 384 rfl rfl), by decide +kernel, by decide +kernel, by decide +kernel⟩
set_option maxRecDepth 1000000 in
theorem okm141 : OKM md141 := ⟨g_mem 805 rfl rfl, g_mem 43 rfl rfl, (fun h => by cases h), (fun _ => g_mem 803 rfl rfl), (fun _ _ => g_mem 804 rfl rfl), by decide +kernel, by decide +kernel, by decide +kernel⟩
set_option maxRecDepth 1000000 in
theorem okm142 : OKM md142 := ⟨g_mem 143 rfl rfl, g_mem 44 rfl rfl, (fun h => by cases h), (fun _ => g_mem 142 rfl rfl), (fun _ h => absurd rfl h), by decide +kernel, by decide +kernel, by decide +kernel⟩
set_option maxRecDepth 1000000 in
theorem okm143 : OKM md143 := ⟨g_mem 488 rfl rfl, g_mem 44 rfl rfl, (fun h => by cases h), (fun _ => g_mem 486 rfl rfl), (fun _ _ => g_mem 487 rfl rfl), by decide +kernel, by decide +kernel, by decide +kernel⟩
set_option maxRecDepth 1000000 in
theorem okm144 : OKM md144 := ⟨g_mem 491 rfl rfl, g_mem 44 rfl rfl, (fun _ => g_mem 490 rfl rfl), (fun h => by cases h), (fun h => by cases h), by decide +kernel, by decide +kernel, by decide +kernel⟩
set_option maxRecDepth 1000000 in
theorem okm145 : OKM md145 := ⟨g_mem 197 rfl rfl, g_mem 46 rfl rfl, (fun h => by cases h), (fun _ => g_mem 196 rfl rfl), (fun _ h => absurd rfl h), by decide +kernel, by decide +kernel, by decide +kernel⟩
set_option maxRecDepth 1000000 in
theorem okm146 : OKM md146 := ⟨g_mem 574 rfl rfl, g_mem 46 rfl rfl, (fun h => by cases h), (fun _ => g_mem 572 rfl rfl), (fun _ _ => g_mem 573 rfl rfl), by decide +kernel, by decide +kernel, by decide +kernel⟩
set_option maxRecDepth 1000000 in
theorem okm147 : OKM md147 := ⟨g_mem 580 rfl rfl, g_mem 46 rfl rfl, (fun h => by cases h), (fun _ => g_mem 579 rfl rfl), (fun _ _ => g_mem 3 rfl rfl), by decide +kernel, by decide +kernel, by decide +kernel⟩
set_option maxRecDepth 1000000 in
theorem okm148 : OKM md148 := ⟨g_mem 319 rfl rfl, g_mem 51 rfl rfl, (fun h => by cases h), (fun _ => g_mem 318 rfl rfl), (fun _ h => absurd rfl h), by decide +kernel, by decide +kernel, by decide +kernel⟩
set_option maxRecDepth 1000000 in
theorem okm149 : OKM md149 := ⟨g_mem 766 rfl rfl, g_mem 51 rfl rfl, (fun h => by cases h), (fun _ => g_mem 764 rfl rfl), (fun _ _ => g_mem 765 rfl rfl), by decide +kernel, by decide +kernel, by decide +kernel⟩
set_option maxRecDepth 1000000 in
theorem okm150 : OKM md150 := ⟨g_mem 758 rfl rfl, g_mem 51 rfl rfl, (fun h => by cases h), (fun _ => g_mem 756 rfl rfl), (fun _ _ => g_mem 757 rfl rfl), by decide +kernel, by decide +kernel, by decide +kernel⟩
set_option maxRecDepth 1000000 in
theorem okm151 : OKM md151 := ⟨g_mem 793 rfl rfl, g_mem 51 rfl rfl, (fun h => by cases h), (fun _ => g_mem 791 rfl rfl), (fun _ _ => g_mem 792 rfl rfl), by decide +kernel, by decide +kernel, by decide +kernel⟩
set_option maxRecDepth 1000000 in
theorem okm152 : OKM md152 := ⟨g_mem 771 rfl rfl, g_mem 51 rfl rfl, (fun h => by cases h), (fun _ => g_mem 769 rfl rfl), (fun _ _ => g_mem 770 rfl rfl), by decide +kernel, by decide +kernel, by decide +kernel⟩
set_option maxRecDepth 1000000 in
theorem okm153 : OKM md153 := ⟨g_mem 780 rfl rfl, g_mem 51 rfl rfl, (fun h => by cases h), (fun _ => g_mem 778 rfl rfl), (fun _ _ => g_mem 779 rfl rfl), by decide +kernel, by decide +kernel, by decide +kernel⟩
set_option maxRecDepth 1000000 in
theorem okm154 : OKM md154 := ⟨g_mem 784 rfl rfl, g_mem 51 rfl rfl, (fun h => by cases h), (fun _ => g_mem 782 rfl rfl), (fun _ _ => g_mem 783 rfl rfl), by decide +kernel, by decide +kernel, by decide +kernel⟩
set_option maxRecDepth 1000000 in
theorem okm155 : OKM md155 := ⟨g_mem 165 rfl rfl, g_mem 45 rfl rfl, (fun h => by cases h), (fun _ => g_mem 164 rfl rfl), (fun _ h => absurd rfl h), by decide +kernel, by decide +kernel, by decide +kernel⟩
set_option maxRecDepth 1000000 in
theorem okm156 : OKM md156 := ⟨g_mem 524 rfl rfl, g_mem 45 rfl rfl, (fun h => by cases h), (fun _ => g_mem 522 rfl rfl), (fun _ _ => g_mem 523 rfl rfl), by decide +kernel, by decide +kernel, by decide +kernel⟩
set_option maxRecDepth 1000000 in
theorem okm157 : OKM md157 := ⟨g_mem 532 rfl rfl, g_mem 45 rfl rfl, (fun h => by cases h), (fun _ => g_mem 531 rfl rfl), (fun _ _ => g_mem 2 rfl rfl), by decide +kernel, by decide +kernel, by decide +kernel⟩
set_option maxRecDepth 1000000 in
theorem okm158 : OKM md158 := ⟨g_mem 528 rfl rfl, g_mem 45 rfl rfl, (fun h => by cases h), (fun _ => g_mem 527 rfl rfl), (fun _ _ => g_mem 1 rfl rfl), by decide +kernel, by decide +kernel, by decide +kernel⟩
set_option maxRecDepth 1000000 in
theorem okm159 : OKM md159 := ⟨g_mem 547 rfl rfl, g_mem 45 rfl rfl, (fun h => by cases h), (fun _ => g_mem 545 rfl rfl), (fun _ _ => g_mem 546 rfl rfl), by decide +kernel, by decide +kernel, by decide +kernel⟩
set_option maxRecDepth 1000000 in
theorem okm160 : OKM md160 := ⟨g_mem 566 rfl rfl, g_mem 45 rfl rfl, (fun h => by cases h), (fun _ => g_mem 564 rfl rfl), (fun _ _ => g_mem 565 rfl rfl), by decide +kernel, by decide +kernel, by decide +kernel⟩
set_option maxRecDepth 1000000 in
theorem okm161 : OKM md161 := ⟨g_mem 543 rfl rfl, g_mem 45 rfl rfl, (fun h => by cases h), (fun _ => g_mem 541 rfl rfl), (fun _ _ => g_mem 542 rfl rfl), by decide +kernel, by decide +kernel, by decide +kernel⟩
set_option maxRecDepth 1000000 in
theorem okm162 : OKM md162 := ⟨g_mem 539 rfl rfl, g_mem 45 rfl rfl, (fun h => by cases h), (fun _ => g_mem 537 rfl rfl), (fun _ _ => g_mem 538 rfl rfl), by decide +kernel, by decide +kernel, by decide +kernel⟩
set_option maxRecDepth 1000000 in
theorem okm163 : OKM md163 := ⟨g_mem 560 rfl rfl, g_mem 45 rfl rfl, (fun h => by cases h), (fun _ => g_mem 558 rfl rfl), (fun _ _ => g_mem 559 rfl rfl), by decide +kernel, by decide +kernel, by decide +kernel⟩
set_option maxRecDepth 1000000 in
theorem okm164 : OKM md164 := ⟨g_mem 248 rfl rfl, g_mem 48 rfl rfl, (fun h => by cases h), (fun _ => g_mem 247 rfl rfl), (fun _ h => absurd rfl h), by decide +kernel, by decide +kernel, by decide +kernel⟩
set_option maxRecDepth 1000000 in
theorem okm165 : OKM md165 := ⟨g_mem 652 rfl rfl, g_mem 48 rfl rfl, (fun h => by cases h), (fun _ => g_mem 650 rfl rfl), (fun _ _ => g_mem 651 rfl rfl), by decide +kernel, by decide +kernel, by decide +kernel⟩
set_option maxRecDepth 1000000 in
theorem okm166 : OKM md166 := ⟨g_mem 661 rfl rfl, g_mem 48 rfl rfl, (fun h => by cases h), (fun _ => g_mem 660 rfl rfl), (fun _ _ => g_mem 5 rfl rfl), by decide +kernel, by decide +kernel, by decide +kernel⟩
set_option maxRecDepth 1000000 in
theorem okm167 : OKM md167 := ⟨g_mem 682 rfl rfl, g_mem 48 rfl rfl, (fun h => by cases h), (fun _ => g_mem 681 rfl rfl), (fun _ _ => g_mem 8 rfl rfl), by decide +kernel, by decide +kernel, by decide +kernel⟩
set_option maxRecDepth 1000000 in
theorem okm168 : OKM md168 := ⟨g_mem 665 rfl rfl, g_mem 48 rfl rfl, (fun h => by cases h), (fun _ => g_mem 664 rfl rfl), (fun _ _ => g_mem 6 rfl rfl), by decide +kernel, by decide +kernel, by decide +kernel⟩
set_option maxRecDepth 1000000 in
theorem okm169 : OKM md169 := ⟨g_mem 677 rfl rfl, g_mem 48 rfl rfl, (fun h => by cases h), (fun _ => g_mem 676 rfl rfl), (fun _ _ => g_mem 7 rfl rfl), by decide +kernel, by decide +kernel, by decide +kernel⟩
set_option maxRecDepth 1000000 in
theorem okm170 : OKM md170 := ⟨g_mem 299 rfl rfl, g_mem 50 rfl rfl, (fun h => by cases h), (fun _ => g_mem 298 rfl rfl), (fun _ h => absurd rfl h), by decide +kernel, by decide +kernel, by decide +kernel⟩
set_option maxRecDepth 1000000 in
theorem okm171 : OKM md171 := ⟨g_mem 732 rfl rfl, g_mem 50 rfl rfl, (fun h => by cases h), (fun _ => g_mem 730 rfl rfl), (fun _ _ => g_mem 731 rfl rfl), by decide +kernel, by decide +kernel, by decide +kernel⟩
set_option maxRecDepth 1000000 in
theorem okm172 : OKM md172 := ⟨g_mem 738 rfl rfl, g_mem 50 rfl rfl, (fun h => by cases h), (fun _ => g_mem 737 rfl rfl), (fun _ _ => g_mem 10 rfl rfl), by decide +kernel, by decide +kernel, by decide +kernel⟩
set_option maxRecDepth 1000000 in
theorem okm173 : OKM md173 := ⟨g_mem 280 rfl rfl, g_mem 49 rfl rfl, (fun h => by cases h), (fun _ => g_mem 279 rfl rfl), (fun _ h => absurd rfl h), by decide +kernel, by decide +kernel, by decide +kernel⟩
set_option maxRecDepth 1000000 in
theorem okm174 : OKM md174 := ⟨g_mem 701 rfl rfl, g_mem 49 rfl rfl, (fun h => by cases h), (fun _ => g_mem 699 rfl rfl), (fun _ _ => g_mem 700 rfl rfl), by decide +kernel, by decide +kernel, by decide +kernel⟩
set_option maxRecDepth 1000000 in
theorem okm175 : OKM md175 := ⟨g_mem 706 rfl rfl, g_mem 49 rfl rfl, (fun h => by cases h), (fun _ => g_mem 705 rfl rfl), (fun _ _ => g_mem 9 rfl rfl), by decide +kernel, by decide +kernel, by decide +kernel⟩
set_option maxRecDepth 1000000 in
theorem okm176 : OKM md176 := ⟨g_mem 719 rfl rfl, g_mem 49 rfl rfl, (fun h => by cases h), (fun _ => g_mem 717 rfl rfl), (fun _ _ => g_mem 718 rfl rfl), by decide +kernel, by decide +kernel, by decide +kernel⟩
set_option maxRecDepth 1000000 in
theorem okm177 : OKM md177 := ⟨g_mem 668 rfl rfl, g_mem 54 rfl rfl, (fun _ => g_mem 667 rfl rfl), (fun h => by cases h), (fun h => by cases h), by decide +kernel, by decide +kernel, by decide +kernel⟩
set_option maxRecDepth 1000000 in
theorem okm178 : OKM md178 := ⟨g_mem 71 rfl rfl, g_mem 42 rfl rfl, (fun _ => g_mem 70 rfl rfl), (fun h => by cases h), (fun h => by cases h), by decide +kernel, by decide +kernel, by decide +kernel⟩
