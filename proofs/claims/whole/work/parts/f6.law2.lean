/-! ===== the law: its table ===== -/
def kL_0 : sBk := (0, false, [false, false, false, false], [])
def kL_1 : sBk := (18, true, [true, true, true, true], [o0 18 (.iload_n 3), o0 19 (.aload_n 0), o0 20 .arraylength, oK 21 (.iconst 5) (.int 5), o0 22 .isub, oN 23 (.if_icmp .gt 1458) [73], o0 26 (.aload_n 0), o0 27 (.iload_n 3), o0 28 .iaload, oK 29 (.bipush 63) (.int 63), o0 31 .iand, oN 32 (.tableswitch 1443 0 41 #[184, 207, 230, 243, 256, 279, 312, 335, 384, 433, 482, 505, 564, 623, 682, 705, 728, 751, 774, 797, 820, 833, 846, 879, 902, 925, 958, 971, 994, 1017, 1040, 1089, 1112, 1135, 1179, 1222, 1245, 1268, 1311, 1354, 1407, 1420]) [72, 2, 3, 4, 5, 6, 7, 8, 9, 14, 19, 24, 25, 30, 35, 40, 41, 42, 43, 44, 45, 46, 47, 48, 49, 50, 51, 52, 53, 54, 55, 56, 61, 62, 63, 64, 65, 66, 67, 68, 69, 70, 71]])
def kL_2 : sBk := (216, false, [true, true, true, true], [o0 216 (.aload_n 1), o0 217 (.aload_n 0), o0 218 (.iload_n 3), oK 219 (.iconst 1) (.int 1), o0 220 .iadd, o0 221 .iaload, oC 222 (.invokevirtual 13) [329] c_X5_feed, o0 225 (.aload_n 2), o0 226 (.aload_n 0), o0 227 (.iload_n 3), oK 228 (.iconst 1) (.int 1), o0 229 .iadd, o0 230 .iaload, oC 231 (.invokevirtual 17) [916] c_X6_feed, oN 234 (.if_icmp .eq 1241) [72], oK 237 (.iconst 0) (.int 0), o0 238 .ireturn])
def kL_3 : sBk := (239, false, [true, true, true, true], [o0 239 (.aload_n 1), o0 240 (.aload_n 0), o0 241 (.iload_n 3), oK 242 (.iconst 1) (.int 1), o0 243 .iadd, o0 244 .iaload, oC 245 (.invokevirtual 18) [333] c_X5_end, o0 248 (.aload_n 2), o0 249 (.aload_n 0), o0 250 (.iload_n 3), oK 251 (.iconst 1) (.int 1), o0 252 .iadd, o0 253 .iaload, oC 254 (.invokevirtual 21) [924] c_X6_end, oN 257 (.if_icmp .eq 1218) [72], oK 260 (.iconst 0) (.int 0), o0 261 .ireturn])
def kL_4 : sBk := (262, false, [true, true, true, true], [o0 262 (.aload_n 1), oC 263 (.invokevirtual 22) [337] c_X5_text, o0 266 (.aload_n 2), oC 267 (.invokevirtual 26) [928] c_X6_text, oN 270 (.if_icmp .eq 1205) [72], oK 273 (.iconst 0) (.int 0), o0 274 .ireturn])
def kL_5 : sBk := (275, false, [true, true, true, true], [o0 275 (.aload_n 1), oC 276 (.invokevirtual 27) [486] c_X5_fault, o0 279 (.aload_n 2), oC 280 (.invokevirtual 30) [1003] c_X6_fault, oN 283 (.if_icmp .eq 1192) [72], oK 286 (.iconst 0) (.int 0), o0 287 .ireturn])
def kL_6 : sBk := (288, false, [true, true, true, true], [o0 288 (.aload_n 1), o0 289 (.aload_n 0), o0 290 (.iload_n 3), oK 291 (.iconst 1) (.int 1), o0 292 .iadd, o0 293 .iaload, oC 294 (.invokevirtual 31) [490] c_X5_rule, o0 297 (.aload_n 2), o0 298 (.aload_n 0), o0 299 (.iload_n 3), oK 300 (.iconst 1) (.int 1), o0 301 .iadd, o0 302 .iaload, oC 303 (.invokevirtual 34) [1007] c_X6_rule, oN 306 (.if_icmp .eq 1169) [72], oK 309 (.iconst 0) (.int 0), o0 310 .ireturn])
def kL_7 : sBk := (311, false, [true, true, true, true], [o0 311 (.aload_n 1), o0 312 (.aload_n 0), o0 313 (.iload_n 3), oK 314 (.iconst 1) (.int 1), o0 315 .iadd, o0 316 .iaload, o0 317 (.aload_n 0), o0 318 (.iload_n 3), oK 319 (.iconst 2) (.int 2), o0 320 .iadd, o0 321 .iaload, oC 322 (.invokevirtual 35) [494] c_X5_wish, o0 325 (.aload_n 2), o0 326 (.aload_n 0), o0 327 (.iload_n 3), oK 328 (.iconst 1) (.int 1), o0 329 .iadd, o0 330 .iaload, o0 331 (.aload_n 0), o0 332 (.iload_n 3), oK 333 (.iconst 2) (.int 2), o0 334 .iadd, o0 335 .iaload, oC 336 (.invokevirtual 39) [1011] c_X6_wish, oN 339 (.if_icmp .eq 1136) [72], oK 342 (.iconst 0) (.int 0), o0 343 .ireturn])
def kL_8 : sBk := (344, false, [true, true, true, true], [o0 344 (.aload_n 1), o0 345 (.aload_n 0), o0 346 (.iload_n 3), oK 347 (.iconst 1) (.int 1), o0 348 .iadd, o0 349 .iaload, oC 350 (.invokevirtual 40) [502] c_X5_plan, o0 353 (.aload_n 2), o0 354 (.aload_n 0), o0 355 (.iload_n 3), oK 356 (.iconst 1) (.int 1), o0 357 .iadd, o0 358 .iaload, oC 359 (.invokevirtual 43) [1027] c_X6_plan, oN 362 (.if_icmp .eq 1113) [72], oK 365 (.iconst 0) (.int 0), o0 366 .ireturn])
def kL_9 : sBk := (367, false, [true, true, true, true], [o0 367 (.aload_n 1), o0 368 (.aload_n 0), o0 369 (.iload_n 3), oK 370 (.iconst 1) (.int 1), o0 371 .iadd, o0 372 .iaload, o0 373 (.aload_n 0), o0 374 (.iload_n 3), oK 375 (.iconst 2) (.int 2), o0 376 .iadd, o0 377 .iaload, oN 378 (.ifCond .eq 7) [10], oK 381 (.iconst 1) (.int 1), oN 382 (.goto 4) [11]])
def kL_10 : sBk := (385, false, [true, true, true, true], [oK 385 (.iconst 0) (.int 0), oN 386 .nop [11]])
def kL_11 : sBk := (386, false, [true, true, true, true], [oC 386 (.invokevirtual 44) [506] c_X5_live, o0 389 (.aload_n 2), o0 390 (.aload_n 0), o0 391 (.iload_n 3), oK 392 (.iconst 1) (.int 1), o0 393 .iadd, o0 394 .iaload, o0 395 (.aload_n 0), o0 396 (.iload_n 3), oK 397 (.iconst 2) (.int 2), o0 398 .iadd, o0 399 .iaload, oN 400 (.ifCond .eq 7) [12], oK 403 (.iconst 1) (.int 1), oN 404 (.goto 4) [13]])
def kL_12 : sBk := (407, false, [true, true, true, true], [oK 407 (.iconst 0) (.int 0), oN 408 .nop [13]])
def kL_13 : sBk := (408, false, [true, true, true, true], [oC 408 (.invokevirtual 48) [1031] c_X6_live, oN 411 (.if_icmp .eq 1064) [72], oK 414 (.iconst 0) (.int 0), o0 415 .ireturn])
def kL_14 : sBk := (416, false, [true, true, true, true], [o0 416 (.aload_n 1), o0 417 (.aload_n 0), o0 418 (.iload_n 3), oK 419 (.iconst 1) (.int 1), o0 420 .iadd, o0 421 .iaload, o0 422 (.aload_n 0), o0 423 (.iload_n 3), oK 424 (.iconst 2) (.int 2), o0 425 .iadd, o0 426 .iaload, oN 427 (.ifCond .eq 7) [15], oK 430 (.iconst 1) (.int 1), oN 431 (.goto 4) [16]])
def kL_15 : sBk := (434, false, [true, true, true, true], [oK 434 (.iconst 0) (.int 0), oN 435 .nop [16]])
def kL_16 : sBk := (435, false, [true, true, true, true], [oC 435 (.invokevirtual 49) [518] c_X5_bar, o0 438 (.aload_n 2), o0 439 (.aload_n 0), o0 440 (.iload_n 3), oK 441 (.iconst 1) (.int 1), o0 442 .iadd, o0 443 .iaload, o0 444 (.aload_n 0), o0 445 (.iload_n 3), oK 446 (.iconst 2) (.int 2), o0 447 .iadd, o0 448 .iaload, oN 449 (.ifCond .eq 7) [17], oK 452 (.iconst 1) (.int 1), oN 453 (.goto 4) [18]])
def kL_17 : sBk := (456, false, [true, true, true, true], [oK 456 (.iconst 0) (.int 0), oN 457 .nop [18]])
def kL_18 : sBk := (457, false, [true, true, true, true], [oC 457 (.invokevirtual 52) [1043] c_X6_bar, oN 460 (.if_icmp .eq 1015) [72], oK 463 (.iconst 0) (.int 0), o0 464 .ireturn])
def kL_19 : sBk := (465, false, [true, true, true, true], [o0 465 (.aload_n 1), o0 466 (.aload_n 0), o0 467 (.iload_n 3), oK 468 (.iconst 1) (.int 1), o0 469 .iadd, o0 470 .iaload, o0 471 (.aload_n 0), o0 472 (.iload_n 3), oK 473 (.iconst 2) (.int 2), o0 474 .iadd, o0 475 .iaload, oN 476 (.ifCond .eq 7) [20], oK 479 (.iconst 1) (.int 1), oN 480 (.goto 4) [21]])
def kL_20 : sBk := (483, false, [true, true, true, true], [oK 483 (.iconst 0) (.int 0), oN 484 .nop [21]])
def kL_21 : sBk := (484, false, [true, true, true, true], [oC 484 (.invokevirtual 53) [522] c_X5_list, o0 487 (.aload_n 2), o0 488 (.aload_n 0), o0 489 (.iload_n 3), oK 490 (.iconst 1) (.int 1), o0 491 .iadd, o0 492 .iaload, o0 493 (.aload_n 0), o0 494 (.iload_n 3), oK 495 (.iconst 2) (.int 2), o0 496 .iadd, o0 497 .iaload, oN 498 (.ifCond .eq 7) [22], oK 501 (.iconst 1) (.int 1), oN 502 (.goto 4) [23]])
def kL_22 : sBk := (505, false, [true, true, true, true], [oK 505 (.iconst 0) (.int 0), oN 506 .nop [23]])
def kL_23 : sBk := (506, false, [true, true, true, true], [oC 506 (.invokevirtual 56) [1047] c_X6_list, oN 509 (.if_icmp .eq 966) [72], oK 512 (.iconst 0) (.int 0), o0 513 .ireturn])
def kL_24 : sBk := (514, false, [true, true, true, true], [o0 514 (.aload_n 1), o0 515 (.aload_n 0), o0 516 (.iload_n 3), oK 517 (.iconst 1) (.int 1), o0 518 .iadd, o0 519 .iaload, oC 520 (.invokevirtual 57) [526] c_X5_depth, o0 523 (.aload_n 2), o0 524 (.aload_n 0), o0 525 (.iload_n 3), oK 526 (.iconst 1) (.int 1), o0 527 .iadd, o0 528 .iaload, oC 529 (.invokevirtual 60) [1051] c_X6_depth, oN 532 (.if_icmp .eq 943) [72], oK 535 (.iconst 0) (.int 0), o0 536 .ireturn])
def kL_25 : sBk := (537, false, [true, true, true, true], [o0 537 (.aload_n 1), o0 538 (.aload_n 0), o0 539 (.iload_n 3), oK 540 (.iconst 1) (.int 1), o0 541 .iadd, o0 542 .iaload, o0 543 (.aload_n 0), o0 544 (.iload_n 3), oK 545 (.iconst 2) (.int 2), o0 546 .iadd, o0 547 .iaload, o0 548 (.aload_n 0), o0 549 (.iload_n 3), oK 550 (.iconst 3) (.int 3), o0 551 .iadd, o0 552 .iaload, oN 553 (.ifCond .eq 7) [26], oK 556 (.iconst 1) (.int 1), oN 557 (.goto 4) [27]])
def kL_26 : sBk := (560, false, [true, true, true, true], [oK 560 (.iconst 0) (.int 0), oN 561 .nop [27]])
def kL_27 : sBk := (561, false, [true, true, true, true], [oC 561 (.invokevirtual 61) [530] c_X5_asks, o0 564 (.aload_n 2), o0 565 (.aload_n 0), o0 566 (.iload_n 3), oK 567 (.iconst 1) (.int 1), o0 568 .iadd, o0 569 .iaload, o0 570 (.aload_n 0), o0 571 (.iload_n 3), oK 572 (.iconst 2) (.int 2), o0 573 .iadd, o0 574 .iaload, o0 575 (.aload_n 0), o0 576 (.iload_n 3), oK 577 (.iconst 3) (.int 3), o0 578 .iadd, o0 579 .iaload, oN 580 (.ifCond .eq 7) [28], oK 583 (.iconst 1) (.int 1), oN 584 (.goto 4) [29]])
def kL_28 : sBk := (587, false, [true, true, true, true], [oK 587 (.iconst 0) (.int 0), oN 588 .nop [29]])
def kL_29 : sBk := (588, false, [true, true, true, true], [oC 588 (.invokevirtual 65) [1060] c_X6_asks, oN 591 (.if_icmp .eq 884) [72], oK 594 (.iconst 0) (.int 0), o0 595 .ireturn])
def kL_30 : sBk := (596, false, [true, true, true, true], [o0 596 (.aload_n 1), o0 597 (.aload_n 0), o0 598 (.iload_n 3), oK 599 (.iconst 1) (.int 1), o0 600 .iadd, o0 601 .iaload, o0 602 (.aload_n 0), o0 603 (.iload_n 3), oK 604 (.iconst 2) (.int 2), o0 605 .iadd, o0 606 .iaload, o0 607 (.aload_n 0), o0 608 (.iload_n 3), oK 609 (.iconst 3) (.int 3), o0 610 .iadd, o0 611 .iaload, oN 612 (.ifCond .eq 7) [31], oK 615 (.iconst 1) (.int 1), oN 616 (.goto 4) [32]])
def kL_31 : sBk := (619, false, [true, true, true, true], [oK 619 (.iconst 0) (.int 0), oN 620 .nop [32]])
def kL_32 : sBk := (620, false, [true, true, true, true], [oC 620 (.invokevirtual 66) [535] c_X5_needs, o0 623 (.aload_n 2), o0 624 (.aload_n 0), o0 625 (.iload_n 3), oK 626 (.iconst 1) (.int 1), o0 627 .iadd, o0 628 .iaload, o0 629 (.aload_n 0), o0 630 (.iload_n 3), oK 631 (.iconst 2) (.int 2), o0 632 .iadd, o0 633 .iaload, o0 634 (.aload_n 0), o0 635 (.iload_n 3), oK 636 (.iconst 3) (.int 3), o0 637 .iadd, o0 638 .iaload, oN 639 (.ifCond .eq 7) [33], oK 642 (.iconst 1) (.int 1), oN 643 (.goto 4) [34]])
def kL_33 : sBk := (646, false, [true, true, true, true], [oK 646 (.iconst 0) (.int 0), oN 647 .nop [34]])
def kL_34 : sBk := (647, false, [true, true, true, true], [oC 647 (.invokevirtual 69) [1064] c_X6_needs, oN 650 (.if_icmp .eq 825) [72], oK 653 (.iconst 0) (.int 0), o0 654 .ireturn])
def kL_35 : sBk := (655, false, [true, true, true, true], [o0 655 (.aload_n 1), o0 656 (.aload_n 0), o0 657 (.iload_n 3), oK 658 (.iconst 1) (.int 1), o0 659 .iadd, o0 660 .iaload, o0 661 (.aload_n 0), o0 662 (.iload_n 3), oK 663 (.iconst 2) (.int 2), o0 664 .iadd, o0 665 .iaload, o0 666 (.aload_n 0), o0 667 (.iload_n 3), oK 668 (.iconst 3) (.int 3), o0 669 .iadd, o0 670 .iaload, oN 671 (.ifCond .eq 7) [36], oK 674 (.iconst 1) (.int 1), oN 675 (.goto 4) [37]])
def kL_36 : sBk := (678, false, [true, true, true, true], [oK 678 (.iconst 0) (.int 0), oN 679 .nop [37]])
def kL_37 : sBk := (679, false, [true, true, true, true], [oC 679 (.invokevirtual 70) [544] c_X5_clash, o0 682 (.aload_n 2), o0 683 (.aload_n 0), o0 684 (.iload_n 3), oK 685 (.iconst 1) (.int 1), o0 686 .iadd, o0 687 .iaload, o0 688 (.aload_n 0), o0 689 (.iload_n 3), oK 690 (.iconst 2) (.int 2), o0 691 .iadd, o0 692 .iaload, o0 693 (.aload_n 0), o0 694 (.iload_n 3), oK 695 (.iconst 3) (.int 3), o0 696 .iadd, o0 697 .iaload, oN 698 (.ifCond .eq 7) [38], oK 701 (.iconst 1) (.int 1), oN 702 (.goto 4) [39]])
def kL_38 : sBk := (705, false, [true, true, true, true], [oK 705 (.iconst 0) (.int 0), oN 706 .nop [39]])
def kL_39 : sBk := (706, false, [true, true, true, true], [oC 706 (.invokevirtual 73) [1068] c_X6_clash, oN 709 (.if_icmp .eq 766) [72], oK 712 (.iconst 0) (.int 0), o0 713 .ireturn])
def kL_40 : sBk := (714, false, [true, true, true, true], [o0 714 (.aload_n 1), o0 715 (.aload_n 0), o0 716 (.iload_n 3), oK 717 (.iconst 1) (.int 1), o0 718 .iadd, o0 719 .iaload, oC 720 (.invokevirtual 74) [548] c_X5_plans, o0 723 (.aload_n 2), o0 724 (.aload_n 0), o0 725 (.iload_n 3), oK 726 (.iconst 1) (.int 1), o0 727 .iadd, o0 728 .iaload, oC 729 (.invokevirtual 77) [1072] c_X6_plans, oN 732 (.if_icmp .eq 743) [72], oK 735 (.iconst 0) (.int 0), o0 736 .ireturn])
def kL_41 : sBk := (737, false, [true, true, true, true], [o0 737 (.aload_n 1), o0 738 (.aload_n 0), o0 739 (.iload_n 3), oK 740 (.iconst 1) (.int 1), o0 741 .iadd, o0 742 .iaload, oC 743 (.invokevirtual 78) [552] c_X5_cut, o0 746 (.aload_n 2), o0 747 (.aload_n 0), o0 748 (.iload_n 3), oK 749 (.iconst 1) (.int 1), o0 750 .iadd, o0 751 .iaload, oC 752 (.invokevirtual 81) [1076] c_X6_cut, oN 755 (.if_icmp .eq 720) [72], oK 758 (.iconst 0) (.int 0), o0 759 .ireturn])
def kL_42 : sBk := (760, false, [true, true, true, true], [o0 760 (.aload_n 1), o0 761 (.aload_n 0), o0 762 (.iload_n 3), oK 763 (.iconst 1) (.int 1), o0 764 .iadd, o0 765 .iaload, oC 766 (.invokevirtual 82) [556] c_X5_looks, o0 769 (.aload_n 2), o0 770 (.aload_n 0), o0 771 (.iload_n 3), oK 772 (.iconst 1) (.int 1), o0 773 .iadd, o0 774 .iaload, oC 775 (.invokevirtual 85) [1080] c_X6_looks, oN 778 (.if_icmp .eq 697) [72], oK 781 (.iconst 0) (.int 0), o0 782 .ireturn])
def kL_43 : sBk := (783, false, [true, true, true, true], [o0 783 (.aload_n 1), o0 784 (.aload_n 0), o0 785 (.iload_n 3), oK 786 (.iconst 1) (.int 1), o0 787 .iadd, o0 788 .iaload, oC 789 (.invokevirtual 86) [561] c_X5_refuses, o0 792 (.aload_n 2), o0 793 (.aload_n 0), o0 794 (.iload_n 3), oK 795 (.iconst 1) (.int 1), o0 796 .iadd, o0 797 .iaload, oC 798 (.invokevirtual 89) [1088] c_X6_refuses, oN 801 (.if_icmp .eq 674) [72], oK 804 (.iconst 0) (.int 0), o0 805 .ireturn])
def kL_44 : sBk := (806, false, [true, true, true, true], [o0 806 (.aload_n 1), o0 807 (.aload_n 0), o0 808 (.iload_n 3), oK 809 (.iconst 1) (.int 1), o0 810 .iadd, o0 811 .iaload, oC 812 (.invokevirtual 90) [569] c_X5_ask, o0 815 (.aload_n 2), o0 816 (.aload_n 0), o0 817 (.iload_n 3), oK 818 (.iconst 1) (.int 1), o0 819 .iadd, o0 820 .iaload, oC 821 (.invokevirtual 93) [1100] c_X6_ask, oN 824 (.if_icmp .eq 651) [72], oK 827 (.iconst 0) (.int 0), o0 828 .ireturn])
def kL_45 : sBk := (829, false, [true, true, true, true], [o0 829 (.aload_n 1), o0 830 (.aload_n 0), o0 831 (.iload_n 3), oK 832 (.iconst 1) (.int 1), o0 833 .iadd, o0 834 .iaload, oC 835 (.invokevirtual 94) [580] c_X5_take, o0 838 (.aload_n 2), o0 839 (.aload_n 0), o0 840 (.iload_n 3), oK 841 (.iconst 1) (.int 1), o0 842 .iadd, o0 843 .iaload, oC 844 (.invokevirtual 97) [1108] c_X6_take, oN 847 (.if_icmp .eq 628) [72], oK 850 (.iconst 0) (.int 0), o0 851 .ireturn])
def kL_46 : sBk := (852, false, [true, true, true, true], [o0 852 (.aload_n 1), oC 853 (.invokevirtual 98) [588] c_X5_clashes, o0 856 (.aload_n 2), oC 857 (.invokevirtual 101) [1116] c_X6_clashes, oN 860 (.if_icmp .eq 615) [72], oK 863 (.iconst 0) (.int 0), o0 864 .ireturn])
def kL_47 : sBk := (865, false, [true, true, true, true], [o0 865 (.aload_n 1), oC 866 (.invokevirtual 102) [592] c_X5_broken, o0 869 (.aload_n 2), oC 870 (.invokevirtual 105) [1120] c_X6_broken, oN 873 (.if_icmp .eq 602) [72], oK 876 (.iconst 0) (.int 0), o0 877 .ireturn])
def kL_48 : sBk := (878, false, [true, true, true, true], [o0 878 (.aload_n 1), o0 879 (.aload_n 0), o0 880 (.iload_n 3), oK 881 (.iconst 1) (.int 1), o0 882 .iadd, o0 883 .iaload, o0 884 (.aload_n 0), o0 885 (.iload_n 3), oK 886 (.iconst 2) (.int 2), o0 887 .iadd, o0 888 .iaload, oC 889 (.invokevirtual 106) [596] c_X5_row, o0 892 (.aload_n 2), o0 893 (.aload_n 0), o0 894 (.iload_n 3), oK 895 (.iconst 1) (.int 1), o0 896 .iadd, o0 897 .iaload, o0 898 (.aload_n 0), o0 899 (.iload_n 3), oK 900 (.iconst 2) (.int 2), o0 901 .iadd, o0 902 .iaload, oC 903 (.invokevirtual 109) [1124] c_X6_row, oN 906 (.if_icmp .eq 569) [72], oK 909 (.iconst 0) (.int 0), o0 910 .ireturn])
def kL_49 : sBk := (911, false, [true, true, true, true], [o0 911 (.aload_n 1), o0 912 (.aload_n 0), o0 913 (.iload_n 3), oK 914 (.iconst 1) (.int 1), o0 915 .iadd, o0 916 .iaload, oC 917 (.invokevirtual 110) [642] c_X5_cheap, o0 920 (.aload_n 2), o0 921 (.aload_n 0), o0 922 (.iload_n 3), oK 923 (.iconst 1) (.int 1), o0 924 .iadd, o0 925 .iaload, oC 926 (.invokevirtual 113) [1142] c_X6_cheap, oN 929 (.if_icmp .eq 546) [72], oK 932 (.iconst 0) (.int 0), o0 933 .ireturn])
def kL_50 : sBk := (934, false, [true, true, true, true], [o0 934 (.aload_n 1), o0 935 (.aload_n 0), o0 936 (.iload_n 3), oK 937 (.iconst 1) (.int 1), o0 938 .iadd, o0 939 .iaload, oC 940 (.invokevirtual 114) [646] c_X5_deep, o0 943 (.aload_n 2), o0 944 (.aload_n 0), o0 945 (.iload_n 3), oK 946 (.iconst 1) (.int 1), o0 947 .iadd, o0 948 .iaload, oC 949 (.invokevirtual 117) [1155] c_X6_deep, oN 952 (.if_icmp .eq 523) [72], oK 955 (.iconst 0) (.int 0), o0 956 .ireturn])
def kL_51 : sBk := (957, false, [true, true, true, true], [o0 957 (.aload_n 1), o0 958 (.aload_n 0), o0 959 (.iload_n 3), oK 960 (.iconst 1) (.int 1), o0 961 .iadd, o0 962 .iaload, o0 963 (.aload_n 0), o0 964 (.iload_n 3), oK 965 (.iconst 2) (.int 2), o0 966 .iadd, o0 967 .iaload, oC 968 (.invokevirtual 118) [654] c_X5_fewest, o0 971 (.aload_n 2), o0 972 (.aload_n 0), o0 973 (.iload_n 3), oK 974 (.iconst 1) (.int 1), o0 975 .iadd, o0 976 .iaload, o0 977 (.aload_n 0), o0 978 (.iload_n 3), oK 979 (.iconst 2) (.int 2), o0 980 .iadd, o0 981 .iaload, oC 982 (.invokevirtual 121) [1159] c_X6_fewest, oN 985 (.if_icmp .eq 490) [72], oK 988 (.iconst 0) (.int 0), o0 989 .ireturn])
def kL_52 : sBk := (990, false, [true, true, true, true], [o0 990 (.aload_n 1), oC 991 (.invokevirtual 122) [666] c_X5_all, o0 994 (.aload_n 2), oC 995 (.invokevirtual 125) [1163] c_X6_all, oN 998 (.if_icmp .eq 477) [72], oK 1001 (.iconst 0) (.int 0), o0 1002 .ireturn])
def kL_53 : sBk := (1003, false, [true, true, true, true], [o0 1003 (.aload_n 1), o0 1004 (.aload_n 0), o0 1005 (.iload_n 3), oK 1006 (.iconst 1) (.int 1), o0 1007 .iadd, o0 1008 .iaload, oC 1009 (.invokevirtual 126) [674] c_X5_set, o0 1012 (.aload_n 2), o0 1013 (.aload_n 0), o0 1014 (.iload_n 3), oK 1015 (.iconst 1) (.int 1), o0 1016 .iadd, o0 1017 .iaload, oC 1018 (.invokevirtual 129) [1167] c_X6_set, oN 1021 (.if_icmp .eq 454) [72], oK 1024 (.iconst 0) (.int 0), o0 1025 .ireturn])
def kL_54 : sBk := (1026, false, [true, true, true, true], [o0 1026 (.aload_n 1), o0 1027 (.aload_n 0), o0 1028 (.iload_n 3), oK 1029 (.iconst 1) (.int 1), o0 1030 .iadd, o0 1031 .iaload, oC 1032 (.invokevirtual 130) [690] c_X5_rid, o0 1035 (.aload_n 2), o0 1036 (.aload_n 0), o0 1037 (.iload_n 3), oK 1038 (.iconst 1) (.int 1), o0 1039 .iadd, o0 1040 .iaload, oC 1041 (.invokevirtual 133) [1171] c_X6_rid, oN 1044 (.if_icmp .eq 431) [72], oK 1047 (.iconst 0) (.int 0), o0 1048 .ireturn])
def kL_55 : sBk := (1049, false, [true, true, true, true], [o0 1049 (.aload_n 1), o0 1050 (.aload_n 0), o0 1051 (.iload_n 3), oK 1052 (.iconst 1) (.int 1), o0 1053 .iadd, o0 1054 .iaload, oC 1055 (.invokevirtual 134) [698] c_X5_date, o0 1058 (.aload_n 2), o0 1059 (.aload_n 0), o0 1060 (.iload_n 3), oK 1061 (.iconst 1) (.int 1), o0 1062 .iadd, o0 1063 .iaload, oC 1064 (.invokevirtual 137) [1175] c_X6_date, oN 1067 (.if_icmp .eq 408) [72], oK 1070 (.iconst 0) (.int 0), o0 1071 .ireturn])
def kL_56 : sBk := (1072, false, [true, true, true, true], [o0 1072 (.aload_n 1), o0 1073 (.aload_n 0), o0 1074 (.iload_n 3), oK 1075 (.iconst 1) (.int 1), o0 1076 .iadd, o0 1077 .iaload, o0 1078 (.aload_n 0), o0 1079 (.iload_n 3), oK 1080 (.iconst 2) (.int 2), o0 1081 .iadd, o0 1082 .iaload, oN 1083 (.ifCond .eq 7) [57], oK 1086 (.iconst 1) (.int 1), oN 1087 (.goto 4) [58]])
def kL_57 : sBk := (1090, false, [true, true, true, true], [oK 1090 (.iconst 0) (.int 0), oN 1091 .nop [58]])
def kL_58 : sBk := (1091, false, [true, true, true, true], [oC 1091 (.invokevirtual 138) [714] c_X5_see, o0 1094 (.aload_n 2), o0 1095 (.aload_n 0), o0 1096 (.iload_n 3), oK 1097 (.iconst 1) (.int 1), o0 1098 .iadd, o0 1099 .iaload, o0 1100 (.aload_n 0), o0 1101 (.iload_n 3), oK 1102 (.iconst 2) (.int 2), o0 1103 .iadd, o0 1104 .iaload, oN 1105 (.ifCond .eq 7) [59], oK 1108 (.iconst 1) (.int 1), oN 1109 (.goto 4) [60]])
def kL_59 : sBk := (1112, false, [true, true, true, true], [oK 1112 (.iconst 0) (.int 0), oN 1113 .nop [60]])
def kL_60 : sBk := (1113, false, [true, true, true, true], [oC 1113 (.invokevirtual 141) [1183] c_X6_see, oN 1116 (.if_icmp .eq 359) [72], oK 1119 (.iconst 0) (.int 0), o0 1120 .ireturn])
def kL_61 : sBk := (1121, false, [true, true, true, true], [o0 1121 (.aload_n 1), o0 1122 (.aload_n 0), o0 1123 (.iload_n 3), oK 1124 (.iconst 1) (.int 1), o0 1125 .iadd, o0 1126 .iaload, oC 1127 (.invokevirtual 142) [718] c_X5_forget, o0 1130 (.aload_n 2), o0 1131 (.aload_n 0), o0 1132 (.iload_n 3), oK 1133 (.iconst 1) (.int 1), o0 1134 .iadd, o0 1135 .iaload, oC 1136 (.invokevirtual 145) [1187] c_X6_forget, oN 1139 (.if_icmp .eq 336) [72], oK 1142 (.iconst 0) (.int 0), o0 1143 .ireturn])
def kL_62 : sBk := (1144, false, [true, true, true, true], [o0 1144 (.aload_n 1), o0 1145 (.aload_n 0), o0 1146 (.iload_n 3), oK 1147 (.iconst 1) (.int 1), o0 1148 .iadd, o0 1149 .iaload, oC 1150 (.invokevirtual 146) [722] c_X5_fits, o0 1153 (.aload_n 2), o0 1154 (.aload_n 0), o0 1155 (.iload_n 3), oK 1156 (.iconst 1) (.int 1), o0 1157 .iadd, o0 1158 .iaload, oC 1159 (.invokevirtual 149) [1191] c_X6_fits, oN 1162 (.if_icmp .eq 313) [72], oK 1165 (.iconst 0) (.int 0), o0 1166 .ireturn])
def kL_63 : sBk := (1167, false, [true, true, true, true], [o0 1167 (.aload_n 1), o0 1168 (.aload_n 0), o0 1169 (.iload_n 3), oK 1170 (.iconst 1) (.int 1), o0 1171 .iadd, o0 1172 .iaload, o0 1173 (.aload_n 0), o0 1174 (.iload_n 3), oK 1175 (.iconst 2) (.int 2), o0 1176 .iadd, o0 1177 .iaload, o0 1178 (.aload_n 0), o0 1179 (.iload_n 3), oK 1180 (.iconst 3) (.int 3), o0 1181 .iadd, o0 1182 .iaload, oC 1183 (.invokevirtual 150) [734] c_X5_odds, o0 1186 (.aload_n 2), o0 1187 (.aload_n 0), o0 1188 (.iload_n 3), oK 1189 (.iconst 1) (.int 1), o0 1190 .iadd, o0 1191 .iaload, o0 1192 (.aload_n 0), o0 1193 (.iload_n 3), oK 1194 (.iconst 2) (.int 2), o0 1195 .iadd, o0 1196 .iaload, o0 1197 (.aload_n 0), o0 1198 (.iload_n 3), oK 1199 (.iconst 3) (.int 3), o0 1200 .iadd, o0 1201 .iaload, oC 1202 (.invokevirtual 154) [1200] c_X6_odds, o0 1205 .lcmp, oN 1206 (.ifCond .eq 269) [72], oK 1209 (.iconst 0) (.int 0), o0 1210 .ireturn])
def kL_64 : sBk := (1211, false, [true, true, true, true], [o0 1211 (.aload_n 1), o0 1212 (.aload_n 0), o0 1213 (.iload_n 3), oK 1214 (.iconst 1) (.int 1), o0 1215 .iadd, o0 1216 .iaload, o0 1217 (.aload_n 0), o0 1218 (.iload_n 3), oK 1219 (.iconst 2) (.int 2), o0 1220 .iadd, o0 1221 .iaload, o0 1222 (.aload_n 0), o0 1223 (.iload_n 3), oK 1224 (.iconst 3) (.int 3), o0 1225 .iadd, o0 1226 .iaload, oC 1227 (.invokevirtual 155) [750] c_X5_wild, o0 1230 (.aload_n 2), o0 1231 (.aload_n 0), o0 1232 (.iload_n 3), oK 1233 (.iconst 1) (.int 1), o0 1234 .iadd, o0 1235 .iaload, o0 1236 (.aload_n 0), o0 1237 (.iload_n 3), oK 1238 (.iconst 2) (.int 2), o0 1239 .iadd, o0 1240 .iaload, o0 1241 (.aload_n 0), o0 1242 (.iload_n 3), oK 1243 (.iconst 3) (.int 3), o0 1244 .iadd, o0 1245 .iaload, oC 1246 (.invokevirtual 159) [1208] c_X6_wild, oN 1249 (.if_icmp .eq 226) [72], oK 1252 (.iconst 0) (.int 0), o0 1253 .ireturn])
def kL_65 : sBk := (1254, false, [true, true, true, true], [o0 1254 (.aload_n 1), o0 1255 (.aload_n 0), o0 1256 (.iload_n 3), oK 1257 (.iconst 1) (.int 1), o0 1258 .iadd, o0 1259 .iaload, oC 1260 (.invokevirtual 160) [755] c_X5_keep, o0 1263 (.aload_n 2), o0 1264 (.aload_n 0), o0 1265 (.iload_n 3), oK 1266 (.iconst 1) (.int 1), o0 1267 .iadd, o0 1268 .iaload, oC 1269 (.invokevirtual 163) [1214] c_X6_keep, oN 1272 (.if_icmp .eq 203) [72], oK 1275 (.iconst 0) (.int 0), o0 1276 .ireturn])
def kL_66 : sBk := (1277, false, [true, true, true, true], [o0 1277 (.aload_n 1), o0 1278 (.aload_n 0), o0 1279 (.iload_n 3), oK 1280 (.iconst 1) (.int 1), o0 1281 .iadd, o0 1282 .iaload, oC 1283 (.invokevirtual 164) [766] c_X5_back, o0 1286 (.aload_n 2), o0 1287 (.aload_n 0), o0 1288 (.iload_n 3), oK 1289 (.iconst 1) (.int 1), o0 1290 .iadd, o0 1291 .iaload, oC 1292 (.invokevirtual 167) [1222] c_X6_back, oN 1295 (.if_icmp .eq 180) [72], oK 1298 (.iconst 0) (.int 0), o0 1299 .ireturn])
def kL_67 : sBk := (1300, false, [true, true, true, true], [o0 1300 (.aload_n 1), o0 1301 (.aload_n 0), o0 1302 (.iload_n 3), oK 1303 (.iconst 1) (.int 1), o0 1304 .iadd, o0 1305 .iaload, o0 1306 (.aload_n 0), o0 1307 (.iload_n 3), oK 1308 (.iconst 2) (.int 2), o0 1309 .iadd, o0 1310 .iaload, o0 1311 (.aload_n 0), o0 1312 (.iload_n 3), oK 1313 (.iconst 3) (.int 3), o0 1314 .iadd, o0 1315 .iaload, oC 1316 (.invokevirtual 168) [770] c_X5_sheet, o0 1319 (.aload_n 2), o0 1320 (.aload_n 0), o0 1321 (.iload_n 3), oK 1322 (.iconst 1) (.int 1), o0 1323 .iadd, o0 1324 .iaload, o0 1325 (.aload_n 0), o0 1326 (.iload_n 3), oK 1327 (.iconst 2) (.int 2), o0 1328 .iadd, o0 1329 .iaload, o0 1330 (.aload_n 0), o0 1331 (.iload_n 3), oK 1332 (.iconst 3) (.int 3), o0 1333 .iadd, o0 1334 .iaload, oC 1335 (.invokevirtual 171) [1226] c_X6_sheet, oN 1338 (.if_icmp .eq 137) [72], oK 1341 (.iconst 0) (.int 0), o0 1342 .ireturn])
def kL_68 : sBk := (1343, false, [true, true, true, true], [o0 1343 (.aload_n 1), o0 1344 (.aload_n 0), o0 1345 (.iload_n 3), oK 1346 (.iconst 1) (.int 1), o0 1347 .iadd, o0 1348 .iaload, o0 1349 (.aload_n 0), o0 1350 (.iload_n 3), oK 1351 (.iconst 2) (.int 2), o0 1352 .iadd, o0 1353 .iaload, o0 1354 (.aload_n 0), o0 1355 (.iload_n 3), oK 1356 (.iconst 3) (.int 3), o0 1357 .iadd, o0 1358 .iaload, oC 1359 (.invokevirtual 172) [778] c_X5_lay, o0 1362 (.aload_n 2), o0 1363 (.aload_n 0), o0 1364 (.iload_n 3), oK 1365 (.iconst 1) (.int 1), o0 1366 .iadd, o0 1367 .iaload, o0 1368 (.aload_n 0), o0 1369 (.iload_n 3), oK 1370 (.iconst 2) (.int 2), o0 1371 .iadd, o0 1372 .iaload, o0 1373 (.aload_n 0), o0 1374 (.iload_n 3), oK 1375 (.iconst 3) (.int 3), o0 1376 .iadd, o0 1377 .iaload, oC 1378 (.invokevirtual 175) [1234] c_X6_lay, oN 1381 (.if_icmp .eq 94) [72], oK 1384 (.iconst 0) (.int 0), o0 1385 .ireturn])
def kL_69 : sBk := (1386, false, [true, true, true, true], [o0 1386 (.aload_n 1), o0 1387 (.aload_n 0), o0 1388 (.iload_n 3), oK 1389 (.iconst 1) (.int 1), o0 1390 .iadd, o0 1391 .iaload, o0 1392 (.aload_n 0), o0 1393 (.iload_n 3), oK 1394 (.iconst 2) (.int 2), o0 1395 .iadd, o0 1396 .iaload, o0 1397 (.aload_n 0), o0 1398 (.iload_n 3), oK 1399 (.iconst 3) (.int 3), o0 1400 .iadd, o0 1401 .iaload, o0 1402 (.aload_n 0), o0 1403 (.iload_n 3), oK 1404 (.iconst 4) (.int 4), o0 1405 .iadd, o0 1406 .iaload, oC 1407 (.invokevirtual 176) [794] c_X5_read, o0 1410 (.aload_n 2), o0 1411 (.aload_n 0), o0 1412 (.iload_n 3), oK 1413 (.iconst 1) (.int 1), o0 1414 .iadd, o0 1415 .iaload, o0 1416 (.aload_n 0), o0 1417 (.iload_n 3), oK 1418 (.iconst 2) (.int 2), o0 1419 .iadd, o0 1420 .iaload, o0 1421 (.aload_n 0), o0 1422 (.iload_n 3), oK 1423 (.iconst 3) (.int 3), o0 1424 .iadd, o0 1425 .iaload, o0 1426 (.aload_n 0), o0 1427 (.iload_n 3), oK 1428 (.iconst 4) (.int 4), o0 1429 .iadd, o0 1430 .iaload, oC 1431 (.invokevirtual 180) [1238] c_X6_read, oN 1434 (.if_icmp .eq 41) [72], oK 1437 (.iconst 0) (.int 0), o0 1438 .ireturn])
def kL_70 : sBk := (1439, false, [true, true, true, true], [o0 1439 (.aload_n 1), oC 1440 (.invokevirtual 181) [799] c_X5_torn, o0 1443 (.aload_n 2), oC 1444 (.invokevirtual 184) [1244] c_X6_torn, oN 1447 (.if_icmp .eq 28) [72], oK 1450 (.iconst 0) (.int 0), o0 1451 .ireturn])
def kL_71 : sBk := (1452, false, [true, true, true, true], [o0 1452 (.aload_n 1), o0 1453 (.aload_n 0), o0 1454 (.iload_n 3), oK 1455 (.iconst 1) (.int 1), o0 1456 .iadd, o0 1457 .iaload, oC 1458 (.invokevirtual 185) [803] c_X5_count, o0 1461 (.aload_n 2), o0 1462 (.aload_n 0), o0 1463 (.iload_n 3), oK 1464 (.iconst 1) (.int 1), o0 1465 .iadd, o0 1466 .iaload, oC 1467 (.invokevirtual 188) [1248] c_X6_count, oN 1470 (.if_icmp .eq 5) [72], oK 1473 (.iconst 0) (.int 0), o0 1474 .ireturn])
def kL_72 : sBk := (1475, false, [true, true, true, true], [oK 1475 (.iinc 3 5) (.int 5), oN 1478 (.goto (-1460)) [1]])
def kL_73 : sBk := (1481, false, [false, false, false, false], [oK 1481 (.iconst 1) (.int 1), o0 1482 .ireturn])
set_option maxRecDepth 100000 in
def k_L_law : List sBk := [kL_0, kL_1, kL_2, kL_3, kL_4, kL_5, kL_6, kL_7, kL_8, kL_9, kL_10, kL_11, kL_12, kL_13, kL_14, kL_15, kL_16, kL_17, kL_18, kL_19, kL_20, kL_21, kL_22, kL_23, kL_24, kL_25, kL_26, kL_27, kL_28, kL_29, kL_30, kL_31, kL_32, kL_33, kL_34, kL_35, kL_36, kL_37, kL_38, kL_39, kL_40, kL_41, kL_42, kL_43, kL_44, kL_45, kL_46, kL_47, kL_48, kL_49, kL_50, kL_51, kL_52, kL_53, kL_54, kL_55, kL_56, kL_57, kL_58, kL_59, kL_60, kL_61, kL_62, kL_63, kL_64, kL_65, kL_66, kL_67, kL_68, kL_69, kL_70, kL_71, kL_72, kL_73]
set_option maxRecDepth 100000 in
theorem ckL_0 : s_ckL RL cL_law 4 12 430 (s_tgt k_L_law) kL_0.2.2.2 kL_0.1 = true := by decide +kernel
theorem okL_0 (Q : Prop) (h : Q) : s_oks kL_0.2.2.2 Q := h
set_option maxRecDepth 100000 in
theorem ckL_1 : s_ckL RL cL_law 4 12 430 (s_tgt k_L_law) kL_1.2.2.2 kL_1.1 = true := by decide +kernel
theorem okL_1 (Q : Prop) (h : Q) : s_oks kL_1.2.2.2 Q := h
set_option maxRecDepth 100000 in
theorem ckL_2 : s_ckL RL cL_law 4 12 430 (s_tgt k_L_law) kL_2.2.2.2 kL_2.1 = true := by decide +kernel
theorem okL_2 (Q : Prop) (h : Q) : s_oks kL_2.2.2.2 Q := ⟨ok_X5_feed, ok_X6_feed, h⟩
set_option maxRecDepth 100000 in
theorem ckL_3 : s_ckL RL cL_law 4 12 430 (s_tgt k_L_law) kL_3.2.2.2 kL_3.1 = true := by decide +kernel
theorem okL_3 (Q : Prop) (h : Q) : s_oks kL_3.2.2.2 Q := ⟨ok_X5_end, ok_X6_end, h⟩
set_option maxRecDepth 100000 in
theorem ckL_4 : s_ckL RL cL_law 4 12 430 (s_tgt k_L_law) kL_4.2.2.2 kL_4.1 = true := by decide +kernel
theorem okL_4 (Q : Prop) (h : Q) : s_oks kL_4.2.2.2 Q := ⟨ok_X5_text, ok_X6_text, h⟩
set_option maxRecDepth 100000 in
theorem ckL_5 : s_ckL RL cL_law 4 12 430 (s_tgt k_L_law) kL_5.2.2.2 kL_5.1 = true := by decide +kernel
theorem okL_5 (Q : Prop) (h : Q) : s_oks kL_5.2.2.2 Q := ⟨ok_X5_fault, ok_X6_fault, h⟩
set_option maxRecDepth 100000 in
theorem ckL_6 : s_ckL RL cL_law 4 12 430 (s_tgt k_L_law) kL_6.2.2.2 kL_6.1 = true := by decide +kernel
theorem okL_6 (Q : Prop) (h : Q) : s_oks kL_6.2.2.2 Q := ⟨ok_X5_rule, ok_X6_rule, h⟩
set_option maxRecDepth 100000 in
theorem ckL_7 : s_ckL RL cL_law 4 12 430 (s_tgt k_L_law) kL_7.2.2.2 kL_7.1 = true := by decide +kernel
theorem okL_7 (Q : Prop) (h : Q) : s_oks kL_7.2.2.2 Q := ⟨ok_X5_wish, ok_X6_wish, h⟩
set_option maxRecDepth 100000 in
theorem ckL_8 : s_ckL RL cL_law 4 12 430 (s_tgt k_L_law) kL_8.2.2.2 kL_8.1 = true := by decide +kernel
theorem okL_8 (Q : Prop) (h : Q) : s_oks kL_8.2.2.2 Q := ⟨ok_X5_plan, ok_X6_plan, h⟩
set_option maxRecDepth 100000 in
theorem ckL_9 : s_ckL RL cL_law 4 12 430 (s_tgt k_L_law) kL_9.2.2.2 kL_9.1 = true := by decide +kernel
theorem okL_9 (Q : Prop) (h : Q) : s_oks kL_9.2.2.2 Q := h
set_option maxRecDepth 100000 in
theorem ckL_10 : s_ckL RL cL_law 4 12 430 (s_tgt k_L_law) kL_10.2.2.2 kL_10.1 = true := by decide +kernel
theorem okL_10 (Q : Prop) (h : Q) : s_oks kL_10.2.2.2 Q := h
set_option maxRecDepth 100000 in
theorem ckL_11 : s_ckL RL cL_law 4 12 430 (s_tgt k_L_law) kL_11.2.2.2 kL_11.1 = true := by decide +kernel
theorem okL_11 (Q : Prop) (h : Q) : s_oks kL_11.2.2.2 Q := ⟨ok_X5_live, h⟩
set_option maxRecDepth 100000 in
theorem ckL_12 : s_ckL RL cL_law 4 12 430 (s_tgt k_L_law) kL_12.2.2.2 kL_12.1 = true := by decide +kernel
theorem okL_12 (Q : Prop) (h : Q) : s_oks kL_12.2.2.2 Q := h
set_option maxRecDepth 100000 in
theorem ckL_13 : s_ckL RL cL_law 4 12 430 (s_tgt k_L_law) kL_13.2.2.2 kL_13.1 = true := by decide +kernel
theorem okL_13 (Q : Prop) (h : Q) : s_oks kL_13.2.2.2 Q := ⟨ok_X6_live, h⟩
set_option maxRecDepth 100000 in
theorem ckL_14 : s_ckL RL cL_law 4 12 430 (s_tgt k_L_law) kL_14.2.2.2 kL_14.1 = true := by decide +kernel
theorem okL_14 (Q : Prop) (h : Q) : s_oks kL_14.2.2.2 Q := h
set_option maxRecDepth 100000 in
theorem ckL_15 : s_ckL RL cL_law 4 12 430 (s_tgt k_L_law) kL_15.2.2.2 kL_15.1 = true := by decide +kernel
theorem okL_15 (Q : Prop) (h : Q) : s_oks kL_15.2.2.2 Q := h
set_option maxRecDepth 100000 in
theorem ckL_16 : s_ckL RL cL_law 4 12 430 (s_tgt k_L_law) kL_16.2.2.2 kL_16.1 = true := by decide +kernel
theorem okL_16 (Q : Prop) (h : Q) : s_oks kL_16.2.2.2 Q := ⟨ok_X5_bar, h⟩
set_option maxRecDepth 100000 in
theorem ckL_17 : s_ckL RL cL_law 4 12 430 (s_tgt k_L_law) kL_17.2.2.2 kL_17.1 = true := by decide +kernel
theorem okL_17 (Q : Prop) (h : Q) : s_oks kL_17.2.2.2 Q := h
set_option maxRecDepth 100000 in
theorem ckL_18 : s_ckL RL cL_law 4 12 430 (s_tgt k_L_law) kL_18.2.2.2 kL_18.1 = true := by decide +kernel
theorem okL_18 (Q : Prop) (h : Q) : s_oks kL_18.2.2.2 Q := ⟨ok_X6_bar, h⟩
set_option maxRecDepth 100000 in
theorem ckL_19 : s_ckL RL cL_law 4 12 430 (s_tgt k_L_law) kL_19.2.2.2 kL_19.1 = true := by decide +kernel
theorem okL_19 (Q : Prop) (h : Q) : s_oks kL_19.2.2.2 Q := h
set_option maxRecDepth 100000 in
theorem ckL_20 : s_ckL RL cL_law 4 12 430 (s_tgt k_L_law) kL_20.2.2.2 kL_20.1 = true := by decide +kernel
theorem okL_20 (Q : Prop) (h : Q) : s_oks kL_20.2.2.2 Q := h
set_option maxRecDepth 100000 in
theorem ckL_21 : s_ckL RL cL_law 4 12 430 (s_tgt k_L_law) kL_21.2.2.2 kL_21.1 = true := by decide +kernel
theorem okL_21 (Q : Prop) (h : Q) : s_oks kL_21.2.2.2 Q := ⟨ok_X5_list, h⟩
set_option maxRecDepth 100000 in
theorem ckL_22 : s_ckL RL cL_law 4 12 430 (s_tgt k_L_law) kL_22.2.2.2 kL_22.1 = true := by decide +kernel
theorem okL_22 (Q : Prop) (h : Q) : s_oks kL_22.2.2.2 Q := h
set_option maxRecDepth 100000 in
theorem ckL_23 : s_ckL RL cL_law 4 12 430 (s_tgt k_L_law) kL_23.2.2.2 kL_23.1 = true := by decide +kernel
theorem okL_23 (Q : Prop) (h : Q) : s_oks kL_23.2.2.2 Q := ⟨ok_X6_list, h⟩
set_option maxRecDepth 100000 in
theorem ckL_24 : s_ckL RL cL_law 4 12 430 (s_tgt k_L_law) kL_24.2.2.2 kL_24.1 = true := by decide +kernel
theorem okL_24 (Q : Prop) (h : Q) : s_oks kL_24.2.2.2 Q := ⟨ok_X5_depth, ok_X6_depth, h⟩
set_option maxRecDepth 100000 in
theorem ckL_25 : s_ckL RL cL_law 4 12 430 (s_tgt k_L_law) kL_25.2.2.2 kL_25.1 = true := by decide +kernel
theorem okL_25 (Q : Prop) (h : Q) : s_oks kL_25.2.2.2 Q := h
set_option maxRecDepth 100000 in
theorem ckL_26 : s_ckL RL cL_law 4 12 430 (s_tgt k_L_law) kL_26.2.2.2 kL_26.1 = true := by decide +kernel
theorem okL_26 (Q : Prop) (h : Q) : s_oks kL_26.2.2.2 Q := h
set_option maxRecDepth 100000 in
theorem ckL_27 : s_ckL RL cL_law 4 12 430 (s_tgt k_L_law) kL_27.2.2.2 kL_27.1 = true := by decide +kernel
theorem okL_27 (Q : Prop) (h : Q) : s_oks kL_27.2.2.2 Q := ⟨ok_X5_asks, h⟩
set_option maxRecDepth 100000 in
theorem ckL_28 : s_ckL RL cL_law 4 12 430 (s_tgt k_L_law) kL_28.2.2.2 kL_28.1 = true := by decide +kernel
theorem okL_28 (Q : Prop) (h : Q) : s_oks kL_28.2.2.2 Q := h
set_option maxRecDepth 100000 in
theorem ckL_29 : s_ckL RL cL_law 4 12 430 (s_tgt k_L_law) kL_29.2.2.2 kL_29.1 = true := by decide +kernel
theorem okL_29 (Q : Prop) (h : Q) : s_oks kL_29.2.2.2 Q := ⟨ok_X6_asks, h⟩
set_option maxRecDepth 100000 in
theorem ckL_30 : s_ckL RL cL_law 4 12 430 (s_tgt k_L_law) kL_30.2.2.2 kL_30.1 = true := by decide +kernel
theorem okL_30 (Q : Prop) (h : Q) : s_oks kL_30.2.2.2 Q := h
set_option maxRecDepth 100000 in
theorem ckL_31 : s_ckL RL cL_law 4 12 430 (s_tgt k_L_law) kL_31.2.2.2 kL_31.1 = true := by decide +kernel
theorem okL_31 (Q : Prop) (h : Q) : s_oks kL_31.2.2.2 Q := h
set_option maxRecDepth 100000 in
theorem ckL_32 : s_ckL RL cL_law 4 12 430 (s_tgt k_L_law) kL_32.2.2.2 kL_32.1 = true := by decide +kernel
theorem okL_32 (Q : Prop) (h : Q) : s_oks kL_32.2.2.2 Q := ⟨ok_X5_needs, h⟩
set_option maxRecDepth 100000 in
theorem ckL_33 : s_ckL RL cL_law 4 12 430 (s_tgt k_L_law) kL_33.2.2.2 kL_33.1 = true := by decide +kernel
theorem okL_33 (Q : Prop) (h : Q) : s_oks kL_33.2.2.2 Q := h
set_option maxRecDepth 100000 in
theorem ckL_34 : s_ckL RL cL_law 4 12 430 (s_tgt k_L_law) kL_34.2.2.2 kL_34.1 = true := by decide +kernel
theorem okL_34 (Q : Prop) (h : Q) : s_oks kL_34.2.2.2 Q := ⟨ok_X6_needs, h⟩
set_option maxRecDepth 100000 in
theorem ckL_35 : s_ckL RL cL_law 4 12 430 (s_tgt k_L_law) kL_35.2.2.2 kL_35.1 = true := by decide +kernel
theorem okL_35 (Q : Prop) (h : Q) : s_oks kL_35.2.2.2 Q := h
set_option maxRecDepth 100000 in
theorem ckL_36 : s_ckL RL cL_law 4 12 430 (s_tgt k_L_law) kL_36.2.2.2 kL_36.1 = true := by decide +kernel
theorem okL_36 (Q : Prop) (h : Q) : s_oks kL_36.2.2.2 Q := h
set_option maxRecDepth 100000 in
theorem ckL_37 : s_ckL RL cL_law 4 12 430 (s_tgt k_L_law) kL_37.2.2.2 kL_37.1 = true := by decide +kernel
theorem okL_37 (Q : Prop) (h : Q) : s_oks kL_37.2.2.2 Q := ⟨ok_X5_clash, h⟩
set_option maxRecDepth 100000 in
theorem ckL_38 : s_ckL RL cL_law 4 12 430 (s_tgt k_L_law) kL_38.2.2.2 kL_38.1 = true := by decide +kernel
theorem okL_38 (Q : Prop) (h : Q) : s_oks kL_38.2.2.2 Q := h
set_option maxRecDepth 100000 in
theorem ckL_39 : s_ckL RL cL_law 4 12 430 (s_tgt k_L_law) kL_39.2.2.2 kL_39.1 = true := by decide +kernel
theorem okL_39 (Q : Prop) (h : Q) : s_oks kL_39.2.2.2 Q := ⟨ok_X6_clash, h⟩
set_option maxRecDepth 100000 in
theorem ckL_40 : s_ckL RL cL_law 4 12 430 (s_tgt k_L_law) kL_40.2.2.2 kL_40.1 = true := by decide +kernel
theorem okL_40 (Q : Prop) (h : Q) : s_oks kL_40.2.2.2 Q := ⟨ok_X5_plans, ok_X6_plans, h⟩
set_option maxRecDepth 100000 in
theorem ckL_41 : s_ckL RL cL_law 4 12 430 (s_tgt k_L_law) kL_41.2.2.2 kL_41.1 = true := by decide +kernel
theorem okL_41 (Q : Prop) (h : Q) : s_oks kL_41.2.2.2 Q := ⟨ok_X5_cut, ok_X6_cut, h⟩
set_option maxRecDepth 100000 in
theorem ckL_42 : s_ckL RL cL_law 4 12 430 (s_tgt k_L_law) kL_42.2.2.2 kL_42.1 = true := by decide +kernel
theorem okL_42 (Q : Prop) (h : Q) : s_oks kL_42.2.2.2 Q := ⟨ok_X5_looks, ok_X6_looks, h⟩
set_option maxRecDepth 100000 in
theorem ckL_43 : s_ckL RL cL_law 4 12 430 (s_tgt k_L_law) kL_43.2.2.2 kL_43.1 = true := by decide +kernel
theorem okL_43 (Q : Prop) (h : Q) : s_oks kL_43.2.2.2 Q := ⟨ok_X5_refuses, ok_X6_refuses, h⟩
set_option maxRecDepth 100000 in
theorem ckL_44 : s_ckL RL cL_law 4 12 430 (s_tgt k_L_law) kL_44.2.2.2 kL_44.1 = true := by decide +kernel
theorem okL_44 (Q : Prop) (h : Q) : s_oks kL_44.2.2.2 Q := ⟨ok_X5_ask, ok_X6_ask, h⟩
set_option maxRecDepth 100000 in
theorem ckL_45 : s_ckL RL cL_law 4 12 430 (s_tgt k_L_law) kL_45.2.2.2 kL_45.1 = true := by decide +kernel
theorem okL_45 (Q : Prop) (h : Q) : s_oks kL_45.2.2.2 Q := ⟨ok_X5_take, ok_X6_take, h⟩
set_option maxRecDepth 100000 in
theorem ckL_46 : s_ckL RL cL_law 4 12 430 (s_tgt k_L_law) kL_46.2.2.2 kL_46.1 = true := by decide +kernel
theorem okL_46 (Q : Prop) (h : Q) : s_oks kL_46.2.2.2 Q := ⟨ok_X5_clashes, ok_X6_clashes, h⟩
set_option maxRecDepth 100000 in
theorem ckL_47 : s_ckL RL cL_law 4 12 430 (s_tgt k_L_law) kL_47.2.2.2 kL_47.1 = true := by decide +kernel
theorem okL_47 (Q : Prop) (h : Q) : s_oks kL_47.2.2.2 Q := ⟨ok_X5_broken, ok_X6_broken, h⟩
set_option maxRecDepth 100000 in
theorem ckL_48 : s_ckL RL cL_law 4 12 430 (s_tgt k_L_law) kL_48.2.2.2 kL_48.1 = true := by decide +kernel
theorem okL_48 (Q : Prop) (h : Q) : s_oks kL_48.2.2.2 Q := ⟨ok_X5_row, ok_X6_row, h⟩
set_option maxRecDepth 100000 in
theorem ckL_49 : s_ckL RL cL_law 4 12 430 (s_tgt k_L_law) kL_49.2.2.2 kL_49.1 = true := by decide +kernel
theorem okL_49 (Q : Prop) (h : Q) : s_oks kL_49.2.2.2 Q := ⟨ok_X5_cheap, ok_X6_cheap, h⟩
set_option maxRecDepth 100000 in
theorem ckL_50 : s_ckL RL cL_law 4 12 430 (s_tgt k_L_law) kL_50.2.2.2 kL_50.1 = true := by decide +kernel
theorem okL_50 (Q : Prop) (h : Q) : s_oks kL_50.2.2.2 Q := ⟨ok_X5_deep, ok_X6_deep, h⟩
set_option maxRecDepth 100000 in
theorem ckL_51 : s_ckL RL cL_law 4 12 430 (s_tgt k_L_law) kL_51.2.2.2 kL_51.1 = true := by decide +kernel
theorem okL_51 (Q : Prop) (h : Q) : s_oks kL_51.2.2.2 Q := ⟨ok_X5_fewest, ok_X6_fewest, h⟩
set_option maxRecDepth 100000 in
theorem ckL_52 : s_ckL RL cL_law 4 12 430 (s_tgt k_L_law) kL_52.2.2.2 kL_52.1 = true := by decide +kernel
theorem okL_52 (Q : Prop) (h : Q) : s_oks kL_52.2.2.2 Q := ⟨ok_X5_all, ok_X6_all, h⟩
set_option maxRecDepth 100000 in
theorem ckL_53 : s_ckL RL cL_law 4 12 430 (s_tgt k_L_law) kL_53.2.2.2 kL_53.1 = true := by decide +kernel
theorem okL_53 (Q : Prop) (h : Q) : s_oks kL_53.2.2.2 Q := ⟨ok_X5_set, ok_X6_set, h⟩
set_option maxRecDepth 100000 in
theorem ckL_54 : s_ckL RL cL_law 4 12 430 (s_tgt k_L_law) kL_54.2.2.2 kL_54.1 = true := by decide +kernel
theorem okL_54 (Q : Prop) (h : Q) : s_oks kL_54.2.2.2 Q := ⟨ok_X5_rid, ok_X6_rid, h⟩
set_option maxRecDepth 100000 in
theorem ckL_55 : s_ckL RL cL_law 4 12 430 (s_tgt k_L_law) kL_55.2.2.2 kL_55.1 = true := by decide +kernel
theorem okL_55 (Q : Prop) (h : Q) : s_oks kL_55.2.2.2 Q := ⟨ok_X5_date, ok_X6_date, h⟩
set_option maxRecDepth 100000 in
theorem ckL_56 : s_ckL RL cL_law 4 12 430 (s_tgt k_L_law) kL_56.2.2.2 kL_56.1 = true := by decide +kernel
theorem okL_56 (Q : Prop) (h : Q) : s_oks kL_56.2.2.2 Q := h
set_option maxRecDepth 100000 in
theorem ckL_57 : s_ckL RL cL_law 4 12 430 (s_tgt k_L_law) kL_57.2.2.2 kL_57.1 = true := by decide +kernel
theorem okL_57 (Q : Prop) (h : Q) : s_oks kL_57.2.2.2 Q := h
set_option maxRecDepth 100000 in
theorem ckL_58 : s_ckL RL cL_law 4 12 430 (s_tgt k_L_law) kL_58.2.2.2 kL_58.1 = true := by decide +kernel
theorem okL_58 (Q : Prop) (h : Q) : s_oks kL_58.2.2.2 Q := ⟨ok_X5_see, h⟩
set_option maxRecDepth 100000 in
theorem ckL_59 : s_ckL RL cL_law 4 12 430 (s_tgt k_L_law) kL_59.2.2.2 kL_59.1 = true := by decide +kernel
theorem okL_59 (Q : Prop) (h : Q) : s_oks kL_59.2.2.2 Q := h
set_option maxRecDepth 100000 in
theorem ckL_60 : s_ckL RL cL_law 4 12 430 (s_tgt k_L_law) kL_60.2.2.2 kL_60.1 = true := by decide +kernel
theorem okL_60 (Q : Prop) (h : Q) : s_oks kL_60.2.2.2 Q := ⟨ok_X6_see, h⟩
set_option maxRecDepth 100000 in
theorem ckL_61 : s_ckL RL cL_law 4 12 430 (s_tgt k_L_law) kL_61.2.2.2 kL_61.1 = true := by decide +kernel
theorem okL_61 (Q : Prop) (h : Q) : s_oks kL_61.2.2.2 Q := ⟨ok_X5_forget, ok_X6_forget, h⟩
set_option maxRecDepth 100000 in
theorem ckL_62 : s_ckL RL cL_law 4 12 430 (s_tgt k_L_law) kL_62.2.2.2 kL_62.1 = true := by decide +kernel
theorem okL_62 (Q : Prop) (h : Q) : s_oks kL_62.2.2.2 Q := ⟨ok_X5_fits, ok_X6_fits, h⟩
set_option maxRecDepth 100000 in
theorem ckL_63 : s_ckL RL cL_law 4 12 430 (s_tgt k_L_law) kL_63.2.2.2 kL_63.1 = true := by decide +kernel
theorem okL_63 (Q : Prop) (h : Q) : s_oks kL_63.2.2.2 Q := ⟨ok_X5_odds, ok_X6_odds, h⟩
set_option maxRecDepth 100000 in
theorem ckL_64 : s_ckL RL cL_law 4 12 430 (s_tgt k_L_law) kL_64.2.2.2 kL_64.1 = true := by decide +kernel
theorem okL_64 (Q : Prop) (h : Q) : s_oks kL_64.2.2.2 Q := ⟨ok_X5_wild, ok_X6_wild, h⟩
set_option maxRecDepth 100000 in
theorem ckL_65 : s_ckL RL cL_law 4 12 430 (s_tgt k_L_law) kL_65.2.2.2 kL_65.1 = true := by decide +kernel
theorem okL_65 (Q : Prop) (h : Q) : s_oks kL_65.2.2.2 Q := ⟨ok_X5_keep, ok_X6_keep, h⟩
set_option maxRecDepth 100000 in
theorem ckL_66 : s_ckL RL cL_law 4 12 430 (s_tgt k_L_law) kL_66.2.2.2 kL_66.1 = true := by decide +kernel
theorem okL_66 (Q : Prop) (h : Q) : s_oks kL_66.2.2.2 Q := ⟨ok_X5_back, ok_X6_back, h⟩
set_option maxRecDepth 100000 in
theorem ckL_67 : s_ckL RL cL_law 4 12 430 (s_tgt k_L_law) kL_67.2.2.2 kL_67.1 = true := by decide +kernel
theorem okL_67 (Q : Prop) (h : Q) : s_oks kL_67.2.2.2 Q := ⟨ok_X5_sheet, ok_X6_sheet, h⟩
set_option maxRecDepth 100000 in
theorem ckL_68 : s_ckL RL cL_law 4 12 430 (s_tgt k_L_law) kL_68.2.2.2 kL_68.1 = true := by decide +kernel
theorem okL_68 (Q : Prop) (h : Q) : s_oks kL_68.2.2.2 Q := ⟨ok_X5_lay, ok_X6_lay, h⟩
set_option maxRecDepth 100000 in
theorem ckL_69 : s_ckL RL cL_law 4 12 430 (s_tgt k_L_law) kL_69.2.2.2 kL_69.1 = true := by decide +kernel
theorem okL_69 (Q : Prop) (h : Q) : s_oks kL_69.2.2.2 Q := ⟨ok_X5_read, ok_X6_read, h⟩
set_option maxRecDepth 100000 in
theorem ckL_70 : s_ckL RL cL_law 4 12 430 (s_tgt k_L_law) kL_70.2.2.2 kL_70.1 = true := by decide +kernel
theorem okL_70 (Q : Prop) (h : Q) : s_oks kL_70.2.2.2 Q := ⟨ok_X5_torn, ok_X6_torn, h⟩
set_option maxRecDepth 100000 in
theorem ckL_71 : s_ckL RL cL_law 4 12 430 (s_tgt k_L_law) kL_71.2.2.2 kL_71.1 = true := by decide +kernel
theorem okL_71 (Q : Prop) (h : Q) : s_oks kL_71.2.2.2 Q := ⟨ok_X5_count, ok_X6_count, h⟩
set_option maxRecDepth 100000 in
theorem ckL_72 : s_ckL RL cL_law 4 12 430 (s_tgt k_L_law) kL_72.2.2.2 kL_72.1 = true := by decide +kernel
theorem okL_72 (Q : Prop) (h : Q) : s_oks kL_72.2.2.2 Q := h
set_option maxRecDepth 100000 in
theorem ckL_73 : s_ckL RL cL_law 4 12 430 (s_tgt k_L_law) kL_73.2.2.2 kL_73.1 = true := by decide +kernel
theorem okL_73 (Q : Prop) (h : Q) : s_oks kL_73.2.2.2 Q := h
set_option maxRecDepth 100000 in
theorem ckA_L : ∀ q ∈ k_L_law, s_ckL RL cL_law 4 12 430 (s_tgt k_L_law) q.2.2.2 q.1 = true := List.forall_mem_cons.mpr ⟨ckL_0, List.forall_mem_cons.mpr ⟨ckL_1, List.forall_mem_cons.mpr ⟨ckL_2, List.forall_mem_cons.mpr ⟨ckL_3, List.forall_mem_cons.mpr ⟨ckL_4, List.forall_mem_cons.mpr ⟨ckL_5, List.forall_mem_cons.mpr ⟨ckL_6, List.forall_mem_cons.mpr ⟨ckL_7, List.forall_mem_cons.mpr ⟨ckL_8, List.forall_mem_cons.mpr ⟨ckL_9, List.forall_mem_cons.mpr ⟨ckL_10, List.forall_mem_cons.mpr ⟨ckL_11, List.forall_mem_cons.mpr ⟨ckL_12, List.forall_mem_cons.mpr ⟨ckL_13, List.forall_mem_cons.mpr ⟨ckL_14, List.forall_mem_cons.mpr ⟨ckL_15, List.forall_mem_cons.mpr ⟨ckL_16, List.forall_mem_cons.mpr ⟨ckL_17, List.forall_mem_cons.mpr ⟨ckL_18, List.forall_mem_cons.mpr ⟨ckL_19, List.forall_mem_cons.mpr ⟨ckL_20, List.forall_mem_cons.mpr ⟨ckL_21, List.forall_mem_cons.mpr ⟨ckL_22, List.forall_mem_cons.mpr ⟨ckL_23, List.forall_mem_cons.mpr ⟨ckL_24, List.forall_mem_cons.mpr ⟨ckL_25, List.forall_mem_cons.mpr ⟨ckL_26, List.forall_mem_cons.mpr ⟨ckL_27, List.forall_mem_cons.mpr ⟨ckL_28, List.forall_mem_cons.mpr ⟨ckL_29, List.forall_mem_cons.mpr ⟨ckL_30, List.forall_mem_cons.mpr ⟨ckL_31, List.forall_mem_cons.mpr ⟨ckL_32, List.forall_mem_cons.mpr ⟨ckL_33, List.forall_mem_cons.mpr ⟨ckL_34, List.forall_mem_cons.mpr ⟨ckL_35, List.forall_mem_cons.mpr ⟨ckL_36, List.forall_mem_cons.mpr ⟨ckL_37, List.forall_mem_cons.mpr ⟨ckL_38, List.forall_mem_cons.mpr ⟨ckL_39, List.forall_mem_cons.mpr ⟨ckL_40, List.forall_mem_cons.mpr ⟨ckL_41, List.forall_mem_cons.mpr ⟨ckL_42, List.forall_mem_cons.mpr ⟨ckL_43, List.forall_mem_cons.mpr ⟨ckL_44, List.forall_mem_cons.mpr ⟨ckL_45, List.forall_mem_cons.mpr ⟨ckL_46, List.forall_mem_cons.mpr ⟨ckL_47, List.forall_mem_cons.mpr ⟨ckL_48, List.forall_mem_cons.mpr ⟨ckL_49, List.forall_mem_cons.mpr ⟨ckL_50, List.forall_mem_cons.mpr ⟨ckL_51, List.forall_mem_cons.mpr ⟨ckL_52, List.forall_mem_cons.mpr ⟨ckL_53, List.forall_mem_cons.mpr ⟨ckL_54, List.forall_mem_cons.mpr ⟨ckL_55, List.forall_mem_cons.mpr ⟨ckL_56, List.forall_mem_cons.mpr ⟨ckL_57, List.forall_mem_cons.mpr ⟨ckL_58, List.forall_mem_cons.mpr ⟨ckL_59, List.forall_mem_cons.mpr ⟨ckL_60, List.forall_mem_cons.mpr ⟨ckL_61, List.forall_mem_cons.mpr ⟨ckL_62, List.forall_mem_cons.mpr ⟨ckL_63, List.forall_mem_cons.mpr ⟨ckL_64, List.forall_mem_cons.mpr ⟨ckL_65, List.forall_mem_cons.mpr ⟨ckL_66, List.forall_mem_cons.mpr ⟨ckL_67, List.forall_mem_cons.mpr ⟨ckL_68, List.forall_mem_cons.mpr ⟨ckL_69, List.forall_mem_cons.mpr ⟨ckL_70, List.forall_mem_cons.mpr ⟨ckL_71, List.forall_mem_cons.mpr ⟨ckL_72, List.forall_mem_cons.mpr ⟨ckL_73, fun q hq => by cases hq⟩⟩⟩⟩⟩⟩⟩⟩⟩⟩⟩⟩⟩⟩⟩⟩⟩⟩⟩⟩⟩⟩⟩⟩⟩⟩⟩⟩⟩⟩⟩⟩⟩⟩⟩⟩⟩⟩⟩⟩⟩⟩⟩⟩⟩⟩⟩⟩⟩⟩⟩⟩⟩⟩⟩⟩⟩⟩⟩⟩⟩⟩⟩⟩⟩⟩⟩⟩⟩⟩⟩⟩⟩⟩
theorem ck_L_law : s_ck RL cL_law 4 12 430 k_L_law = true := by
  unfold s_ck
  rw [Bool.and_eq_true]
  exact ⟨by decide +kernel, List.all_eq_true.mpr ckA_L⟩
set_option maxRecDepth 100000 in
theorem okb_L_law : s_okb k_L_law := okL_0 _ (okL_1 _ (okL_2 _ (okL_3 _ (okL_4 _ (okL_5 _ (okL_6 _ (okL_7 _ (okL_8 _ (okL_9 _ (okL_10 _ (okL_11 _ (okL_12 _ (okL_13 _ (okL_14 _ (okL_15 _ (okL_16 _ (okL_17 _ (okL_18 _ (okL_19 _ (okL_20 _ (okL_21 _ (okL_22 _ (okL_23 _ (okL_24 _ (okL_25 _ (okL_26 _ (okL_27 _ (okL_28 _ (okL_29 _ (okL_30 _ (okL_31 _ (okL_32 _ (okL_33 _ (okL_34 _ (okL_35 _ (okL_36 _ (okL_37 _ (okL_38 _ (okL_39 _ (okL_40 _ (okL_41 _ (okL_42 _ (okL_43 _ (okL_44 _ (okL_45 _ (okL_46 _ (okL_47 _ (okL_48 _ (okL_49 _ (okL_50 _ (okL_51 _ (okL_52 _ (okL_53 _ (okL_54 _ (okL_55 _ (okL_56 _ (okL_57 _ (okL_58 _ (okL_59 _ (okL_60 _ (okL_61 _ (okL_62 _ (okL_63 _ (okL_64 _ (okL_65 _ (okL_66 _ (okL_67 _ (okL_68 _ (okL_69 _ (okL_70 _ (okL_71 _ (okL_72 _ (okL_73 _ (trivial))))))))))))))))))))))))))))))))))))))))))))))))))))))))))))))))))))))))))
