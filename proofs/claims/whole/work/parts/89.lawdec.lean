/-! PART 89 (printed by wip/whole/gen/cases.py): the law's rows decoded. -/
theorem le_200 : decode code 200 = .ok (.aload_n 1, 1) := by decide +kernel
theorem ld_201 : la_dec 201 1 := ⟨by decide +kernel, by decide +kernel, by decide +kernel, by decide +kernel, by decide +kernel⟩
theorem ld_206 : la_dec 206 2 := ⟨by decide +kernel, by decide +kernel, by decide +kernel, by decide +kernel, by decide +kernel⟩
theorem ld_211 : la_dec 211 3 := ⟨by decide +kernel, by decide +kernel, by decide +kernel, by decide +kernel, by decide +kernel⟩
theorem le_216 : decode code 216 = .ok (.invokevirtual 13, 3) := by decide +kernel
theorem le_219 : decode code 219 = .ok (.aload_n 2, 1) := by decide +kernel
theorem ld_220 : la_dec 220 1 := ⟨by decide +kernel, by decide +kernel, by decide +kernel, by decide +kernel, by decide +kernel⟩
theorem ld_225 : la_dec 225 2 := ⟨by decide +kernel, by decide +kernel, by decide +kernel, by decide +kernel, by decide +kernel⟩
theorem ld_230 : la_dec 230 3 := ⟨by decide +kernel, by decide +kernel, by decide +kernel, by decide +kernel, by decide +kernel⟩
theorem le_235 : decode code 235 = .ok (.invokevirtual 17, 3) := by decide +kernel
theorem le_238 : decode code 238 = .ok (.if_icmp .eq 1137, 3) := by decide +kernel
theorem le_243 : decode code 243 = .ok (.aload_n 1, 1) := by decide +kernel
theorem ld_244 : la_dec 244 1 := ⟨by decide +kernel, by decide +kernel, by decide +kernel, by decide +kernel, by decide +kernel⟩
theorem ld_249 : la_dec 249 2 := ⟨by decide +kernel, by decide +kernel, by decide +kernel, by decide +kernel, by decide +kernel⟩
theorem ld_254 : la_dec 254 3 := ⟨by decide +kernel, by decide +kernel, by decide +kernel, by decide +kernel, by decide +kernel⟩
theorem le_259 : decode code 259 = .ok (.i2l, 1) := by decide +kernel
theorem le_260 : decode code 260 = .ok (.bipush 32, 2) := by decide +kernel
theorem le_262 : decode code 262 = .ok (.lshl, 1) := by decide +kernel
theorem ld_263 : la_dec 263 4 := ⟨by decide +kernel, by decide +kernel, by decide +kernel, by decide +kernel, by decide +kernel⟩
theorem le_268 : decode code 268 = .ok (.i2l, 1) := by decide +kernel
theorem le_269 : decode code 269 = .ok (.ldc2_w 18, 3) := by decide +kernel
theorem le_272 : decode code 272 = .ok (.land, 1) := by decide +kernel
theorem le_273 : decode code 273 = .ok (.lor, 1) := by decide +kernel
theorem le_274 : decode code 274 = .ok (.invokevirtual 20, 3) := by decide +kernel
theorem le_277 : decode code 277 = .ok (.aload_n 2, 1) := by decide +kernel
theorem ld_278 : la_dec 278 1 := ⟨by decide +kernel, by decide +kernel, by decide +kernel, by decide +kernel, by decide +kernel⟩
theorem ld_283 : la_dec 283 2 := ⟨by decide +kernel, by decide +kernel, by decide +kernel, by decide +kernel, by decide +kernel⟩
theorem ld_288 : la_dec 288 3 := ⟨by decide +kernel, by decide +kernel, by decide +kernel, by decide +kernel, by decide +kernel⟩
theorem le_293 : decode code 293 = .ok (.i2l, 1) := by decide +kernel
theorem le_294 : decode code 294 = .ok (.bipush 32, 2) := by decide +kernel
theorem le_296 : decode code 296 = .ok (.lshl, 1) := by decide +kernel
theorem ld_297 : la_dec 297 4 := ⟨by decide +kernel, by decide +kernel, by decide +kernel, by decide +kernel, by decide +kernel⟩
theorem le_302 : decode code 302 = .ok (.i2l, 1) := by decide +kernel
theorem le_303 : decode code 303 = .ok (.ldc2_w 18, 3) := by decide +kernel
theorem le_306 : decode code 306 = .ok (.land, 1) := by decide +kernel
theorem le_307 : decode code 307 = .ok (.lor, 1) := by decide +kernel
theorem le_308 : decode code 308 = .ok (.invokevirtual 24, 3) := by decide +kernel
theorem le_311 : decode code 311 = .ok (.if_icmp .eq 1064, 3) := by decide +kernel
theorem le_316 : decode code 316 = .ok (.aload_n 1, 1) := by decide +kernel
theorem ld_317 : la_dec 317 1 := ⟨by decide +kernel, by decide +kernel, by decide +kernel, by decide +kernel, by decide +kernel⟩
theorem ld_322 : la_dec 322 2 := ⟨by decide +kernel, by decide +kernel, by decide +kernel, by decide +kernel, by decide +kernel⟩
theorem ld_327 : la_dec 327 3 := ⟨by decide +kernel, by decide +kernel, by decide +kernel, by decide +kernel, by decide +kernel⟩
theorem ld_332 : la_dec 332 4 := ⟨by decide +kernel, by decide +kernel, by decide +kernel, by decide +kernel, by decide +kernel⟩
theorem ld_337 : la_dec 337 5 := ⟨by decide +kernel, by decide +kernel, by decide +kernel, by decide +kernel, by decide +kernel⟩
theorem le_342 : decode code 342 = .ok (.invokevirtual 25, 3) := by decide +kernel
theorem le_345 : decode code 345 = .ok (.aload_n 2, 1) := by decide +kernel
theorem ld_346 : la_dec 346 1 := ⟨by decide +kernel, by decide +kernel, by decide +kernel, by decide +kernel, by decide +kernel⟩
theorem ld_351 : la_dec 351 2 := ⟨by decide +kernel, by decide +kernel, by decide +kernel, by decide +kernel, by decide +kernel⟩
theorem ld_356 : la_dec 356 3 := ⟨by decide +kernel, by decide +kernel, by decide +kernel, by decide +kernel, by decide +kernel⟩
theorem ld_361 : la_dec 361 4 := ⟨by decide +kernel, by decide +kernel, by decide +kernel, by decide +kernel, by decide +kernel⟩
theorem ld_366 : la_dec 366 5 := ⟨by decide +kernel, by decide +kernel, by decide +kernel, by decide +kernel, by decide +kernel⟩
theorem le_371 : decode code 371 = .ok (.invokevirtual 29, 3) := by decide +kernel
theorem le_374 : decode code 374 = .ok (.if_icmp .eq 1001, 3) := by decide +kernel
theorem le_379 : decode code 379 = .ok (.aload_n 1, 1) := by decide +kernel
theorem ld_380 : la_dec 380 1 := ⟨by decide +kernel, by decide +kernel, by decide +kernel, by decide +kernel, by decide +kernel⟩
theorem ld_385 : la_dec 385 2 := ⟨by decide +kernel, by decide +kernel, by decide +kernel, by decide +kernel, by decide +kernel⟩
theorem le_390 : decode code 390 = .ok (.invokevirtual 30, 3) := by decide +kernel
theorem le_393 : decode code 393 = .ok (.aload_n 2, 1) := by decide +kernel
theorem ld_394 : la_dec 394 1 := ⟨by decide +kernel, by decide +kernel, by decide +kernel, by decide +kernel, by decide +kernel⟩
theorem ld_399 : la_dec 399 2 := ⟨by decide +kernel, by decide +kernel, by decide +kernel, by decide +kernel, by decide +kernel⟩
theorem le_404 : decode code 404 = .ok (.invokevirtual 34, 3) := by decide +kernel
theorem le_407 : decode code 407 = .ok (.lcmp, 1) := by decide +kernel
theorem le_408 : decode code 408 = .ok (.ifCond .eq 967, 3) := by decide +kernel
theorem le_413 : decode code 413 = .ok (.aload_n 1, 1) := by decide +kernel
theorem ld_414 : la_dec 414 1 := ⟨by decide +kernel, by decide +kernel, by decide +kernel, by decide +kernel, by decide +kernel⟩
theorem ld_419 : la_dec 419 2 := ⟨by decide +kernel, by decide +kernel, by decide +kernel, by decide +kernel, by decide +kernel⟩
theorem le_424 : decode code 424 = .ok (.invokevirtual 35, 3) := by decide +kernel
theorem le_427 : decode code 427 = .ok (.aload_n 2, 1) := by decide +kernel
theorem ld_428 : la_dec 428 1 := ⟨by decide +kernel, by decide +kernel, by decide +kernel, by decide +kernel, by decide +kernel⟩
theorem ld_433 : la_dec 433 2 := ⟨by decide +kernel, by decide +kernel, by decide +kernel, by decide +kernel, by decide +kernel⟩
theorem le_438 : decode code 438 = .ok (.invokevirtual 39, 3) := by decide +kernel
theorem le_441 : decode code 441 = .ok (.if_icmp .eq 934, 3) := by decide +kernel
theorem le_446 : decode code 446 = .ok (.aload_n 1, 1) := by decide +kernel
theorem ld_447 : la_dec 447 1 := ⟨by decide +kernel, by decide +kernel, by decide +kernel, by decide +kernel, by decide +kernel⟩
theorem le_452 : decode code 452 = .ok (.invokevirtual 40, 3) := by decide +kernel
theorem le_455 : decode code 455 = .ok (.aload_n 2, 1) := by decide +kernel
theorem ld_456 : la_dec 456 1 := ⟨by decide +kernel, by decide +kernel, by decide +kernel, by decide +kernel, by decide +kernel⟩
theorem le_461 : decode code 461 = .ok (.invokevirtual 44, 3) := by decide +kernel
theorem le_464 : decode code 464 = .ok (.if_icmp .eq 911, 3) := by decide +kernel
theorem le_469 : decode code 469 = .ok (.aload_n 1, 1) := by decide +kernel
theorem ld_470 : la_dec 470 1 := ⟨by decide +kernel, by decide +kernel, by decide +kernel, by decide +kernel, by decide +kernel⟩
theorem ld_475 : la_dec 475 2 := ⟨by decide +kernel, by decide +kernel, by decide +kernel, by decide +kernel, by decide +kernel⟩
theorem le_480 : decode code 480 = .ok (.invokevirtual 45, 3) := by decide +kernel
theorem le_483 : decode code 483 = .ok (.aload_n 2, 1) := by decide +kernel
theorem ld_484 : la_dec 484 1 := ⟨by decide +kernel, by decide +kernel, by decide +kernel, by decide +kernel, by decide +kernel⟩
theorem ld_489 : la_dec 489 2 := ⟨by decide +kernel, by decide +kernel, by decide +kernel, by decide +kernel, by decide +kernel⟩
theorem le_494 : decode code 494 = .ok (.invokevirtual 48, 3) := by decide +kernel
theorem le_497 : decode code 497 = .ok (.if_icmp .eq 878, 3) := by decide +kernel
theorem le_502 : decode code 502 = .ok (.aload_n 1, 1) := by decide +kernel
theorem ld_503 : la_dec 503 1 := ⟨by decide +kernel, by decide +kernel, by decide +kernel, by decide +kernel, by decide +kernel⟩
theorem ld_508 : la_dec 508 2 := ⟨by decide +kernel, by decide +kernel, by decide +kernel, by decide +kernel, by decide +kernel⟩
theorem le_513 : decode code 513 = .ok (.invokevirtual 49, 3) := by decide +kernel
theorem le_516 : decode code 516 = .ok (.aload_n 2, 1) := by decide +kernel
theorem ld_517 : la_dec 517 1 := ⟨by decide +kernel, by decide +kernel, by decide +kernel, by decide +kernel, by decide +kernel⟩
theorem ld_522 : la_dec 522 2 := ⟨by decide +kernel, by decide +kernel, by decide +kernel, by decide +kernel, by decide +kernel⟩
theorem le_527 : decode code 527 = .ok (.invokevirtual 52, 3) := by decide +kernel
theorem le_530 : decode code 530 = .ok (.if_icmp .eq 845, 3) := by decide +kernel
theorem le_535 : decode code 535 = .ok (.aload_n 1, 1) := by decide +kernel
theorem ld_536 : la_dec 536 1 := ⟨by decide +kernel, by decide +kernel, by decide +kernel, by decide +kernel, by decide +kernel⟩
theorem ld_541 : la_dec 541 2 := ⟨by decide +kernel, by decide +kernel, by decide +kernel, by decide +kernel, by decide +kernel⟩
theorem le_546 : decode code 546 = .ok (.invokevirtual 53, 3) := by decide +kernel
theorem le_549 : decode code 549 = .ok (.aload_n 2, 1) := by decide +kernel
theorem ld_550 : la_dec 550 1 := ⟨by decide +kernel, by decide +kernel, by decide +kernel, by decide +kernel, by decide +kernel⟩
theorem ld_555 : la_dec 555 2 := ⟨by decide +kernel, by decide +kernel, by decide +kernel, by decide +kernel, by decide +kernel⟩
theorem le_560 : decode code 560 = .ok (.invokevirtual 56, 3) := by decide +kernel
theorem le_563 : decode code 563 = .ok (.if_icmp .eq 812, 3) := by decide +kernel
theorem le_568 : decode code 568 = .ok (.aload_n 1, 1) := by decide +kernel
theorem ld_569 : la_dec 569 1 := ⟨by decide +kernel, by decide +kernel, by decide +kernel, by decide +kernel, by decide +kernel⟩
theorem ld_574 : la_dec 574 2 := ⟨by decide +kernel, by decide +kernel, by decide +kernel, by decide +kernel, by decide +kernel⟩
theorem ld_579 : la_dec 579 3 := ⟨by decide +kernel, by decide +kernel, by decide +kernel, by decide +kernel, by decide +kernel⟩
theorem le_584 : decode code 584 = .ok (.invokevirtual 57, 3) := by decide +kernel
theorem le_587 : decode code 587 = .ok (.aload_n 2, 1) := by decide +kernel
theorem ld_588 : la_dec 588 1 := ⟨by decide +kernel, by decide +kernel, by decide +kernel, by decide +kernel, by decide +kernel⟩
theorem ld_593 : la_dec 593 2 := ⟨by decide +kernel, by decide +kernel, by decide +kernel, by decide +kernel, by decide +kernel⟩
theorem ld_598 : la_dec 598 3 := ⟨by decide +kernel, by decide +kernel, by decide +kernel, by decide +kernel, by decide +kernel⟩
theorem le_603 : decode code 603 = .ok (.invokevirtual 60, 3) := by decide +kernel
theorem le_606 : decode code 606 = .ok (.if_icmp .eq 769, 3) := by decide +kernel
theorem le_611 : decode code 611 = .ok (.aload_n 1, 1) := by decide +kernel
theorem ld_612 : la_dec 612 1 := ⟨by decide +kernel, by decide +kernel, by decide +kernel, by decide +kernel, by decide +kernel⟩
theorem ld_617 : la_dec 617 2 := ⟨by decide +kernel, by decide +kernel, by decide +kernel, by decide +kernel, by decide +kernel⟩
theorem le_622 : decode code 622 = .ok (.invokevirtual 61, 3) := by decide +kernel
theorem le_625 : decode code 625 = .ok (.aload_n 2, 1) := by decide +kernel
theorem ld_626 : la_dec 626 1 := ⟨by decide +kernel, by decide +kernel, by decide +kernel, by decide +kernel, by decide +kernel⟩
theorem ld_631 : la_dec 631 2 := ⟨by decide +kernel, by decide +kernel, by decide +kernel, by decide +kernel, by decide +kernel⟩
theorem le_636 : decode code 636 = .ok (.invokevirtual 64, 3) := by decide +kernel
theorem le_639 : decode code 639 = .ok (.if_icmp .eq 736, 3) := by decide +kernel
theorem le_644 : decode code 644 = .ok (.aload_n 1, 1) := by decide +kernel
theorem ld_645 : la_dec 645 1 := ⟨by decide +kernel, by decide +kernel, by decide +kernel, by decide +kernel, by decide +kernel⟩
theorem ld_650 : la_dec 650 2 := ⟨by decide +kernel, by decide +kernel, by decide +kernel, by decide +kernel, by decide +kernel⟩
theorem le_655 : decode code 655 = .ok (.invokevirtual 65, 3) := by decide +kernel
theorem le_658 : decode code 658 = .ok (.aload_n 2, 1) := by decide +kernel
theorem ld_659 : la_dec 659 1 := ⟨by decide +kernel, by decide +kernel, by decide +kernel, by decide +kernel, by decide +kernel⟩
theorem ld_664 : la_dec 664 2 := ⟨by decide +kernel, by decide +kernel, by decide +kernel, by decide +kernel, by decide +kernel⟩
theorem le_669 : decode code 669 = .ok (.invokevirtual 68, 3) := by decide +kernel
theorem le_672 : decode code 672 = .ok (.if_icmp .eq 703, 3) := by decide +kernel
theorem le_677 : decode code 677 = .ok (.aload_n 1, 1) := by decide +kernel
theorem ld_678 : la_dec 678 1 := ⟨by decide +kernel, by decide +kernel, by decide +kernel, by decide +kernel, by decide +kernel⟩
theorem le_683 : decode code 683 = .ok (.invokevirtual 69, 3) := by decide +kernel
theorem le_686 : decode code 686 = .ok (.aload_n 2, 1) := by decide +kernel
theorem ld_687 : la_dec 687 1 := ⟨by decide +kernel, by decide +kernel, by decide +kernel, by decide +kernel, by decide +kernel⟩
theorem le_692 : decode code 692 = .ok (.invokevirtual 72, 3) := by decide +kernel
theorem le_695 : decode code 695 = .ok (.if_icmp .eq 680, 3) := by decide +kernel
theorem le_700 : decode code 700 = .ok (.aload_n 1, 1) := by decide +kernel
theorem le_701 : decode code 701 = .ok (.invokevirtual 73, 3) := by decide +kernel
theorem le_704 : decode code 704 = .ok (.aload_n 2, 1) := by decide +kernel
theorem le_705 : decode code 705 = .ok (.invokevirtual 77, 3) := by decide +kernel
theorem le_708 : decode code 708 = .ok (.if_icmp .eq 667, 3) := by decide +kernel
theorem le_713 : decode code 713 = .ok (.aload_n 1, 1) := by decide +kernel
theorem ld_714 : la_dec 714 1 := ⟨by decide +kernel, by decide +kernel, by decide +kernel, by decide +kernel, by decide +kernel⟩
theorem le_719 : decode code 719 = .ok (.invokevirtual 78, 3) := by decide +kernel
theorem le_722 : decode code 722 = .ok (.aload_n 2, 1) := by decide +kernel
theorem ld_723 : la_dec 723 1 := ⟨by decide +kernel, by decide +kernel, by decide +kernel, by decide +kernel, by decide +kernel⟩
theorem le_728 : decode code 728 = .ok (.invokevirtual 81, 3) := by decide +kernel
theorem le_731 : decode code 731 = .ok (.if_icmp .eq 644, 3) := by decide +kernel
theorem le_736 : decode code 736 = .ok (.aload_n 1, 1) := by decide +kernel
theorem ld_737 : la_dec 737 1 := ⟨by decide +kernel, by decide +kernel, by decide +kernel, by decide +kernel, by decide +kernel⟩
theorem le_742 : decode code 742 = .ok (.invokevirtual 82, 3) := by decide +kernel
theorem le_745 : decode code 745 = .ok (.aload_n 2, 1) := by decide +kernel
theorem ld_746 : la_dec 746 1 := ⟨by decide +kernel, by decide +kernel, by decide +kernel, by decide +kernel, by decide +kernel⟩
theorem le_751 : decode code 751 = .ok (.invokevirtual 85, 3) := by decide +kernel
theorem le_754 : decode code 754 = .ok (.if_icmp .eq 621, 3) := by decide +kernel
theorem le_759 : decode code 759 = .ok (.aload_n 1, 1) := by decide +kernel
theorem ld_760 : la_dec 760 1 := ⟨by decide +kernel, by decide +kernel, by decide +kernel, by decide +kernel, by decide +kernel⟩
theorem le_765 : decode code 765 = .ok (.invokevirtual 86, 3) := by decide +kernel
theorem le_768 : decode code 768 = .ok (.aload_n 2, 1) := by decide +kernel
theorem ld_769 : la_dec 769 1 := ⟨by decide +kernel, by decide +kernel, by decide +kernel, by decide +kernel, by decide +kernel⟩
theorem le_774 : decode code 774 = .ok (.invokevirtual 89, 3) := by decide +kernel
theorem le_777 : decode code 777 = .ok (.if_icmp .eq 598, 3) := by decide +kernel
theorem le_782 : decode code 782 = .ok (.aload_n 1, 1) := by decide +kernel
theorem ld_783 : la_dec 783 1 := ⟨by decide +kernel, by decide +kernel, by decide +kernel, by decide +kernel, by decide +kernel⟩
theorem ld_788 : la_dec 788 2 := ⟨by decide +kernel, by decide +kernel, by decide +kernel, by decide +kernel, by decide +kernel⟩
theorem le_793 : decode code 793 = .ok (.invokevirtual 90, 3) := by decide +kernel
theorem le_796 : decode code 796 = .ok (.aload_n 2, 1) := by decide +kernel
theorem ld_797 : la_dec 797 1 := ⟨by decide +kernel, by decide +kernel, by decide +kernel, by decide +kernel, by decide +kernel⟩
theorem ld_802 : la_dec 802 2 := ⟨by decide +kernel, by decide +kernel, by decide +kernel, by decide +kernel, by decide +kernel⟩
theorem le_807 : decode code 807 = .ok (.invokevirtual 93, 3) := by decide +kernel
theorem le_810 : decode code 810 = .ok (.if_icmp .eq 565, 3) := by decide +kernel
theorem le_815 : decode code 815 = .ok (.aload_n 1, 1) := by decide +kernel
theorem ld_816 : la_dec 816 1 := ⟨by decide +kernel, by decide +kernel, by decide +kernel, by decide +kernel, by decide +kernel⟩
theorem ld_821 : la_dec 821 2 := ⟨by decide +kernel, by decide +kernel, by decide +kernel, by decide +kernel, by decide +kernel⟩
theorem le_826 : decode code 826 = .ok (.invokevirtual 94, 3) := by decide +kernel
theorem le_829 : decode code 829 = .ok (.aload_n 2, 1) := by decide +kernel
theorem ld_830 : la_dec 830 1 := ⟨by decide +kernel, by decide +kernel, by decide +kernel, by decide +kernel, by decide +kernel⟩
theorem ld_835 : la_dec 835 2 := ⟨by decide +kernel, by decide +kernel, by decide +kernel, by decide +kernel, by decide +kernel⟩
theorem le_840 : decode code 840 = .ok (.invokevirtual 97, 3) := by decide +kernel
theorem le_843 : decode code 843 = .ok (.if_icmp .eq 532, 3) := by decide +kernel
theorem le_848 : decode code 848 = .ok (.aload_n 1, 1) := by decide +kernel
theorem ld_849 : la_dec 849 1 := ⟨by decide +kernel, by decide +kernel, by decide +kernel, by decide +kernel, by decide +kernel⟩
theorem le_854 : decode code 854 = .ok (.invokevirtual 98, 3) := by decide +kernel
theorem le_857 : decode code 857 = .ok (.aload_n 2, 1) := by decide +kernel
theorem ld_858 : la_dec 858 1 := ⟨by decide +kernel, by decide +kernel, by decide +kernel, by decide +kernel, by decide +kernel⟩
theorem le_863 : decode code 863 = .ok (.invokevirtual 101, 3) := by decide +kernel
theorem le_866 : decode code 866 = .ok (.if_icmp .eq 509, 3) := by decide +kernel
theorem le_871 : decode code 871 = .ok (.aload_n 1, 1) := by decide +kernel
theorem ld_872 : la_dec 872 1 := ⟨by decide +kernel, by decide +kernel, by decide +kernel, by decide +kernel, by decide +kernel⟩
theorem le_877 : decode code 877 = .ok (.invokevirtual 102, 3) := by decide +kernel
theorem le_880 : decode code 880 = .ok (.aload_n 2, 1) := by decide +kernel
theorem ld_881 : la_dec 881 1 := ⟨by decide +kernel, by decide +kernel, by decide +kernel, by decide +kernel, by decide +kernel⟩
theorem le_886 : decode code 886 = .ok (.invokevirtual 105, 3) := by decide +kernel
theorem le_889 : decode code 889 = .ok (.if_icmp .eq 486, 3) := by decide +kernel
theorem le_894 : decode code 894 = .ok (.aload_n 1, 1) := by decide +kernel
theorem ld_895 : la_dec 895 1 := ⟨by decide +kernel, by decide +kernel, by decide +kernel, by decide +kernel, by decide +kernel⟩
theorem ld_900 : la_dec 900 2 := ⟨by decide +kernel, by decide +kernel, by decide +kernel, by decide +kernel, by decide +kernel⟩
theorem le_905 : decode code 905 = .ok (.invokevirtual 106, 3) := by decide +kernel
theorem le_908 : decode code 908 = .ok (.aload_n 2, 1) := by decide +kernel
theorem ld_909 : la_dec 909 1 := ⟨by decide +kernel, by decide +kernel, by decide +kernel, by decide +kernel, by decide +kernel⟩
theorem ld_914 : la_dec 914 2 := ⟨by decide +kernel, by decide +kernel, by decide +kernel, by decide +kernel, by decide +kernel⟩
theorem le_919 : decode code 919 = .ok (.invokevirtual 109, 3) := by decide +kernel
theorem le_922 : decode code 922 = .ok (.if_icmp .eq 453, 3) := by decide +kernel
theorem le_927 : decode code 927 = .ok (.aload_n 1, 1) := by decide +kernel
theorem ld_928 : la_dec 928 1 := ⟨by decide +kernel, by decide +kernel, by decide +kernel, by decide +kernel, by decide +kernel⟩
theorem ld_933 : la_dec 933 2 := ⟨by decide +kernel, by decide +kernel, by decide +kernel, by decide +kernel, by decide +kernel⟩
theorem ld_938 : la_dec 938 3 := ⟨by decide +kernel, by decide +kernel, by decide +kernel, by decide +kernel, by decide +kernel⟩
theorem le_943 : decode code 943 = .ok (.invokevirtual 110, 3) := by decide +kernel
theorem le_946 : decode code 946 = .ok (.aload_n 2, 1) := by decide +kernel
theorem ld_947 : la_dec 947 1 := ⟨by decide +kernel, by decide +kernel, by decide +kernel, by decide +kernel, by decide +kernel⟩
theorem ld_952 : la_dec 952 2 := ⟨by decide +kernel, by decide +kernel, by decide +kernel, by decide +kernel, by decide +kernel⟩
theorem ld_957 : la_dec 957 3 := ⟨by decide +kernel, by decide +kernel, by decide +kernel, by decide +kernel, by decide +kernel⟩
theorem le_962 : decode code 962 = .ok (.invokevirtual 113, 3) := by decide +kernel
theorem le_965 : decode code 965 = .ok (.if_icmp .eq 410, 3) := by decide +kernel
theorem le_970 : decode code 970 = .ok (.aload_n 1, 1) := by decide +kernel
theorem ld_971 : la_dec 971 1 := ⟨by decide +kernel, by decide +kernel, by decide +kernel, by decide +kernel, by decide +kernel⟩
theorem ld_976 : la_dec 976 2 := ⟨by decide +kernel, by decide +kernel, by decide +kernel, by decide +kernel, by decide +kernel⟩
theorem le_981 : decode code 981 = .ok (.invokevirtual 114, 3) := by decide +kernel
theorem le_984 : decode code 984 = .ok (.aload_n 2, 1) := by decide +kernel
theorem ld_985 : la_dec 985 1 := ⟨by decide +kernel, by decide +kernel, by decide +kernel, by decide +kernel, by decide +kernel⟩
theorem ld_990 : la_dec 990 2 := ⟨by decide +kernel, by decide +kernel, by decide +kernel, by decide +kernel, by decide +kernel⟩
theorem le_995 : decode code 995 = .ok (.invokevirtual 117, 3) := by decide +kernel
theorem le_998 : decode code 998 = .ok (.if_icmp .eq 377, 3) := by decide +kernel
theorem le_1003 : decode code 1003 = .ok (.aload_n 1, 1) := by decide +kernel
theorem ld_1004 : la_dec 1004 1 := ⟨by decide +kernel, by decide +kernel, by decide +kernel, by decide +kernel, by decide +kernel⟩
theorem le_1009 : decode code 1009 = .ok (.invokevirtual 118, 3) := by decide +kernel
theorem le_1012 : decode code 1012 = .ok (.aload_n 2, 1) := by decide +kernel
theorem ld_1013 : la_dec 1013 1 := ⟨by decide +kernel, by decide +kernel, by decide +kernel, by decide +kernel, by decide +kernel⟩
theorem le_1018 : decode code 1018 = .ok (.invokevirtual 121, 3) := by decide +kernel
theorem le_1021 : decode code 1021 = .ok (.if_icmp .eq 354, 3) := by decide +kernel
theorem le_1026 : decode code 1026 = .ok (.aload_n 1, 1) := by decide +kernel
theorem ld_1027 : la_dec 1027 1 := ⟨by decide +kernel, by decide +kernel, by decide +kernel, by decide +kernel, by decide +kernel⟩
theorem ld_1032 : la_dec 1032 2 := ⟨by decide +kernel, by decide +kernel, by decide +kernel, by decide +kernel, by decide +kernel⟩
theorem ld_1037 : la_dec 1037 3 := ⟨by decide +kernel, by decide +kernel, by decide +kernel, by decide +kernel, by decide +kernel⟩
theorem ld_1042 : la_dec 1042 4 := ⟨by decide +kernel, by decide +kernel, by decide +kernel, by decide +kernel, by decide +kernel⟩
theorem ld_1047 : la_dec 1047 5 := ⟨by decide +kernel, by decide +kernel, by decide +kernel, by decide +kernel, by decide +kernel⟩
theorem le_1052 : decode code 1052 = .ok (.invokevirtual 122, 3) := by decide +kernel
theorem le_1055 : decode code 1055 = .ok (.aload_n 2, 1) := by decide +kernel
theorem ld_1056 : la_dec 1056 1 := ⟨by decide +kernel, by decide +kernel, by decide +kernel, by decide +kernel, by decide +kernel⟩
theorem ld_1061 : la_dec 1061 2 := ⟨by decide +kernel, by decide +kernel, by decide +kernel, by decide +kernel, by decide +kernel⟩
theorem ld_1066 : la_dec 1066 3 := ⟨by decide +kernel, by decide +kernel, by decide +kernel, by decide +kernel, by decide +kernel⟩
theorem ld_1071 : la_dec 1071 4 := ⟨by decide +kernel, by decide +kernel, by decide +kernel, by decide +kernel, by decide +kernel⟩
theorem ld_1076 : la_dec 1076 5 := ⟨by decide +kernel, by decide +kernel, by decide +kernel, by decide +kernel, by decide +kernel⟩
theorem le_1081 : decode code 1081 = .ok (.invokevirtual 125, 3) := by decide +kernel
theorem le_1084 : decode code 1084 = .ok (.if_icmp .eq 291, 3) := by decide +kernel
theorem le_1089 : decode code 1089 = .ok (.aload_n 1, 1) := by decide +kernel
theorem ld_1090 : la_dec 1090 1 := ⟨by decide +kernel, by decide +kernel, by decide +kernel, by decide +kernel, by decide +kernel⟩
theorem le_1095 : decode code 1095 = .ok (.invokevirtual 126, 3) := by decide +kernel
theorem le_1098 : decode code 1098 = .ok (.aload_n 2, 1) := by decide +kernel
theorem ld_1099 : la_dec 1099 1 := ⟨by decide +kernel, by decide +kernel, by decide +kernel, by decide +kernel, by decide +kernel⟩
theorem le_1104 : decode code 1104 = .ok (.invokevirtual 129, 3) := by decide +kernel
theorem le_1107 : decode code 1107 = .ok (.if_icmp .eq 268, 3) := by decide +kernel
theorem le_1112 : decode code 1112 = .ok (.aload_n 1, 1) := by decide +kernel
theorem ld_1113 : la_dec 1113 1 := ⟨by decide +kernel, by decide +kernel, by decide +kernel, by decide +kernel, by decide +kernel⟩
theorem le_1118 : decode code 1118 = .ok (.invokevirtual 130, 3) := by decide +kernel
theorem le_1121 : decode code 1121 = .ok (.aload_n 2, 1) := by decide +kernel
theorem ld_1122 : la_dec 1122 1 := ⟨by decide +kernel, by decide +kernel, by decide +kernel, by decide +kernel, by decide +kernel⟩
theorem le_1127 : decode code 1127 = .ok (.invokevirtual 133, 3) := by decide +kernel
theorem le_1130 : decode code 1130 = .ok (.if_icmp .eq 245, 3) := by decide +kernel
theorem le_1135 : decode code 1135 = .ok (.aload_n 1, 1) := by decide +kernel
theorem ld_1136 : la_dec 1136 1 := ⟨by decide +kernel, by decide +kernel, by decide +kernel, by decide +kernel, by decide +kernel⟩
theorem le_1141 : decode code 1141 = .ok (.invokevirtual 134, 3) := by decide +kernel
theorem le_1144 : decode code 1144 = .ok (.aload_n 2, 1) := by decide +kernel
theorem ld_1145 : la_dec 1145 1 := ⟨by decide +kernel, by decide +kernel, by decide +kernel, by decide +kernel, by decide +kernel⟩
theorem le_1150 : decode code 1150 = .ok (.invokevirtual 137, 3) := by decide +kernel
theorem le_1153 : decode code 1153 = .ok (.if_icmp .eq 222, 3) := by decide +kernel
theorem le_1158 : decode code 1158 = .ok (.aload_n 1, 1) := by decide +kernel
theorem ld_1159 : la_dec 1159 1 := ⟨by decide +kernel, by decide +kernel, by decide +kernel, by decide +kernel, by decide +kernel⟩
theorem ld_1164 : la_dec 1164 2 := ⟨by decide +kernel, by decide +kernel, by decide +kernel, by decide +kernel, by decide +kernel⟩
theorem le_1169 : decode code 1169 = .ok (.invokevirtual 138, 3) := by decide +kernel
theorem le_1172 : decode code 1172 = .ok (.aload_n 2, 1) := by decide +kernel
theorem ld_1173 : la_dec 1173 1 := ⟨by decide +kernel, by decide +kernel, by decide +kernel, by decide +kernel, by decide +kernel⟩
theorem ld_1178 : la_dec 1178 2 := ⟨by decide +kernel, by decide +kernel, by decide +kernel, by decide +kernel, by decide +kernel⟩
theorem le_1183 : decode code 1183 = .ok (.invokevirtual 141, 3) := by decide +kernel
theorem le_1186 : decode code 1186 = .ok (.if_icmp .eq 189, 3) := by decide +kernel
theorem le_1191 : decode code 1191 = .ok (.aload_n 1, 1) := by decide +kernel
theorem ld_1192 : la_dec 1192 1 := ⟨by decide +kernel, by decide +kernel, by decide +kernel, by decide +kernel, by decide +kernel⟩
theorem le_1197 : decode code 1197 = .ok (.invokevirtual 142, 3) := by decide +kernel
theorem le_1200 : decode code 1200 = .ok (.aload_n 2, 1) := by decide +kernel
theorem ld_1201 : la_dec 1201 1 := ⟨by decide +kernel, by decide +kernel, by decide +kernel, by decide +kernel, by decide +kernel⟩
theorem le_1206 : decode code 1206 = .ok (.invokevirtual 145, 3) := by decide +kernel
theorem le_1209 : decode code 1209 = .ok (.if_icmp .eq 166, 3) := by decide +kernel
theorem le_1214 : decode code 1214 = .ok (.aload_n 1, 1) := by decide +kernel
theorem ld_1215 : la_dec 1215 1 := ⟨by decide +kernel, by decide +kernel, by decide +kernel, by decide +kernel, by decide +kernel⟩
theorem le_1220 : decode code 1220 = .ok (.invokevirtual 146, 3) := by decide +kernel
theorem le_1223 : decode code 1223 = .ok (.aload_n 2, 1) := by decide +kernel
theorem ld_1224 : la_dec 1224 1 := ⟨by decide +kernel, by decide +kernel, by decide +kernel, by decide +kernel, by decide +kernel⟩
theorem le_1229 : decode code 1229 = .ok (.invokevirtual 149, 3) := by decide +kernel
theorem le_1232 : decode code 1232 = .ok (.if_icmp .eq 143, 3) := by decide +kernel
theorem le_1237 : decode code 1237 = .ok (.aload_n 1, 1) := by decide +kernel
theorem ld_1238 : la_dec 1238 1 := ⟨by decide +kernel, by decide +kernel, by decide +kernel, by decide +kernel, by decide +kernel⟩
theorem le_1243 : decode code 1243 = .ok (.invokevirtual 150, 3) := by decide +kernel
theorem le_1246 : decode code 1246 = .ok (.aload_n 2, 1) := by decide +kernel
theorem ld_1247 : la_dec 1247 1 := ⟨by decide +kernel, by decide +kernel, by decide +kernel, by decide +kernel, by decide +kernel⟩
theorem le_1252 : decode code 1252 = .ok (.invokevirtual 153, 3) := by decide +kernel
theorem le_1255 : decode code 1255 = .ok (.if_icmp .eq 120, 3) := by decide +kernel
theorem le_1260 : decode code 1260 = .ok (.aload_n 1, 1) := by decide +kernel
theorem ld_1261 : la_dec 1261 1 := ⟨by decide +kernel, by decide +kernel, by decide +kernel, by decide +kernel, by decide +kernel⟩
theorem ld_1266 : la_dec 1266 2 := ⟨by decide +kernel, by decide +kernel, by decide +kernel, by decide +kernel, by decide +kernel⟩
theorem ld_1271 : la_dec 1271 3 := ⟨by decide +kernel, by decide +kernel, by decide +kernel, by decide +kernel, by decide +kernel⟩
theorem le_1276 : decode code 1276 = .ok (.invokevirtual 154, 3) := by decide +kernel
theorem le_1279 : decode code 1279 = .ok (.aload_n 2, 1) := by decide +kernel
theorem ld_1280 : la_dec 1280 1 := ⟨by decide +kernel, by decide +kernel, by decide +kernel, by decide +kernel, by decide +kernel⟩
theorem ld_1285 : la_dec 1285 2 := ⟨by decide +kernel, by decide +kernel, by decide +kernel, by decide +kernel, by decide +kernel⟩
theorem ld_1290 : la_dec 1290 3 := ⟨by decide +kernel, by decide +kernel, by decide +kernel, by decide +kernel, by decide +kernel⟩
theorem le_1295 : decode code 1295 = .ok (.invokevirtual 157, 3) := by decide +kernel
theorem le_1298 : decode code 1298 = .ok (.if_icmp .eq 77, 3) := by decide +kernel
theorem le_1303 : decode code 1303 = .ok (.aload_n 1, 1) := by decide +kernel
theorem ld_1304 : la_dec 1304 1 := ⟨by decide +kernel, by decide +kernel, by decide +kernel, by decide +kernel, by decide +kernel⟩
theorem le_1309 : decode code 1309 = .ok (.invokevirtual 158, 3) := by decide +kernel
theorem le_1312 : decode code 1312 = .ok (.aload_n 2, 1) := by decide +kernel
theorem ld_1313 : la_dec 1313 1 := ⟨by decide +kernel, by decide +kernel, by decide +kernel, by decide +kernel, by decide +kernel⟩
theorem le_1318 : decode code 1318 = .ok (.invokevirtual 161, 3) := by decide +kernel
theorem le_1321 : decode code 1321 = .ok (.if_icmp .eq 54, 3) := by decide +kernel
theorem le_1326 : decode code 1326 = .ok (.aload_n 1, 1) := by decide +kernel
theorem le_1327 : decode code 1327 = .ok (.invokevirtual 162, 3) := by decide +kernel
theorem le_1330 : decode code 1330 = .ok (.aload_n 2, 1) := by decide +kernel
theorem le_1331 : decode code 1331 = .ok (.invokevirtual 165, 3) := by decide +kernel
theorem le_1334 : decode code 1334 = .ok (.if_icmp .eq 41, 3) := by decide +kernel
theorem le_1339 : decode code 1339 = .ok (.aload_n 1, 1) := by decide +kernel
theorem le_1340 : decode code 1340 = .ok (.invokevirtual 166, 3) := by decide +kernel
theorem le_1343 : decode code 1343 = .ok (.aload_n 2, 1) := by decide +kernel
theorem le_1344 : decode code 1344 = .ok (.invokevirtual 169, 3) := by decide +kernel
theorem le_1347 : decode code 1347 = .ok (.if_icmp .eq 28, 3) := by decide +kernel
theorem le_1352 : decode code 1352 = .ok (.aload_n 1, 1) := by decide +kernel
theorem ld_1353 : la_dec 1353 1 := ⟨by decide +kernel, by decide +kernel, by decide +kernel, by decide +kernel, by decide +kernel⟩
theorem le_1358 : decode code 1358 = .ok (.invokevirtual 170, 3) := by decide +kernel
theorem le_1361 : decode code 1361 = .ok (.aload_n 2, 1) := by decide +kernel
theorem ld_1362 : la_dec 1362 1 := ⟨by decide +kernel, by decide +kernel, by decide +kernel, by decide +kernel, by decide +kernel⟩
theorem le_1367 : decode code 1367 = .ok (.invokevirtual 173, 3) := by decide +kernel
theorem le_1370 : decode code 1370 = .ok (.if_icmp .eq 5, 3) := by decide +kernel
