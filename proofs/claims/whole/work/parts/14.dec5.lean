/-! Decode rows (printed by wip/gen/dec.py). -/
theorem d_M_perform_424 : decode m_M_perform.2.1 424 = .ok (.ireturn, 1) := by decide +kernel
theorem d_M_perform_425 : decode m_M_perform.2.1 425 = .ok (.aload_n 1, 1) := by decide +kernel
theorem d_M_perform_426 : decode m_M_perform.2.1 426 = .ok (.aload 6, 2) := by decide +kernel
theorem d_M_perform_428 : decode m_M_perform.2.1 428 = .ok (.iload_n 3, 1) := by decide +kernel
theorem d_M_perform_429 : decode m_M_perform.2.1 429 = .ok (.aaload, 1) := by decide +kernel
theorem d_M_perform_430 : decode m_M_perform.2.1 430 = .ok (.aload 6, 2) := by decide +kernel
theorem d_M_perform_432 : decode m_M_perform.2.1 432 = .ok (.iload 4, 2) := by decide +kernel
theorem d_M_perform_434 : decode m_M_perform.2.1 434 = .ok (.aaload, 1) := by decide +kernel
theorem d_M_perform_435 : decode m_M_perform.2.1 435 = .ok (.invokestatic 94, 3) := by decide +kernel
theorem d_M_perform_438 : decode m_M_perform.2.1 438 = .ok (.iload 5, 2) := by decide +kernel
theorem d_M_perform_440 : decode m_M_perform.2.1 440 = .ok (.invokestatic 90, 3) := by decide +kernel
theorem d_M_perform_443 : decode m_M_perform.2.1 443 = .ok (.ireturn, 1) := by decide +kernel
theorem d_M_perform_444 : decode m_M_perform.2.1 444 = .ok (.aload_n 1, 1) := by decide +kernel
theorem d_M_perform_445 : decode m_M_perform.2.1 445 = .ok (.aload 6, 2) := by decide +kernel
theorem d_M_perform_447 : decode m_M_perform.2.1 447 = .ok (.iload_n 3, 1) := by decide +kernel
theorem d_M_perform_448 : decode m_M_perform.2.1 448 = .ok (.aaload, 1) := by decide +kernel
theorem d_M_perform_449 : decode m_M_perform.2.1 449 = .ok (.getfield 97, 3) := by decide +kernel
theorem d_M_perform_452 : decode m_M_perform.2.1 452 = .ok (.iload 4, 2) := by decide +kernel
theorem d_M_perform_454 : decode m_M_perform.2.1 454 = .ok (.if_icmp .ne 7, 3) := by decide +kernel
theorem d_M_perform_457 : decode m_M_perform.2.1 457 = .ok (.iconst 1, 1) := by decide +kernel
theorem d_M_perform_458 : decode m_M_perform.2.1 458 = .ok (.goto 4, 3) := by decide +kernel
theorem d_M_perform_461 : decode m_M_perform.2.1 461 = .ok (.iconst 0, 1) := by decide +kernel
theorem d_M_perform_462 : decode m_M_perform.2.1 462 = .ok (.iload 5, 2) := by decide +kernel
theorem d_M_perform_464 : decode m_M_perform.2.1 464 = .ok (.invokestatic 90, 3) := by decide +kernel
theorem d_M_perform_467 : decode m_M_perform.2.1 467 = .ok (.ireturn, 1) := by decide +kernel
theorem d_M_perform_468 : decode m_M_perform.2.1 468 = .ok (.aload_n 1, 1) := by decide +kernel
theorem d_M_perform_469 : decode m_M_perform.2.1 469 = .ok (.iload_n 3, 1) := by decide +kernel
theorem d_M_perform_470 : decode m_M_perform.2.1 470 = .ok (.invokevirtual 100, 3) := by decide +kernel
theorem d_M_perform_473 : decode m_M_perform.2.1 473 = .ok (.ireturn, 1) := by decide +kernel
theorem d_M_perform_474 : decode m_M_perform.2.1 474 = .ok (.aload_n 1, 1) := by decide +kernel
theorem d_M_perform_475 : decode m_M_perform.2.1 475 = .ok (.invokevirtual 103, 3) := by decide +kernel
theorem d_M_perform_478 : decode m_M_perform.2.1 478 = .ok (.ifCond .eq 15, 3) := by decide +kernel
theorem d_M_perform_481 : decode m_M_perform.2.1 481 = .ok (.aload_n 1, 1) := by decide +kernel
theorem d_M_perform_482 : decode m_M_perform.2.1 482 = .ok (.iload_n 3, 1) := by decide +kernel
theorem d_M_perform_483 : decode m_M_perform.2.1 483 = .ok (.invokevirtual 100, 3) := by decide +kernel
theorem d_M_perform_486 : decode m_M_perform.2.1 486 = .ok (.ifCond .eq 7, 3) := by decide +kernel
theorem d_M_perform_489 : decode m_M_perform.2.1 489 = .ok (.iconst 1, 1) := by decide +kernel
theorem d_M_perform_490 : decode m_M_perform.2.1 490 = .ok (.goto 4, 3) := by decide +kernel
theorem d_M_perform_493 : decode m_M_perform.2.1 493 = .ok (.iconst 0, 1) := by decide +kernel
theorem d_M_perform_494 : decode m_M_perform.2.1 494 = .ok (.ireturn, 1) := by decide +kernel
theorem d_M_perform_495 : decode m_M_perform.2.1 495 = .ok (.aload_n 0, 1) := by decide +kernel
theorem d_M_perform_496 : decode m_M_perform.2.1 496 = .ok (.aload_n 1, 1) := by decide +kernel
theorem d_M_perform_497 : decode m_M_perform.2.1 497 = .ok (.invokevirtual 107, 3) := by decide +kernel
theorem d_M_perform_500 : decode m_M_perform.2.1 500 = .ok (.ireturn, 1) := by decide +kernel
theorem d_M_perform_501 : decode m_M_perform.2.1 501 = .ok (.aload_n 0, 1) := by decide +kernel
theorem d_M_perform_502 : decode m_M_perform.2.1 502 = .ok (.aload_n 0, 1) := by decide +kernel
theorem d_M_perform_503 : decode m_M_perform.2.1 503 = .ok (.getfield 21, 3) := by decide +kernel
theorem d_M_perform_506 : decode m_M_perform.2.1 506 = .ok (.aload 6, 2) := by decide +kernel
theorem d_M_perform_508 : decode m_M_perform.2.1 508 = .ok (.iload_n 3, 1) := by decide +kernel
theorem d_M_perform_509 : decode m_M_perform.2.1 509 = .ok (.aaload, 1) := by decide +kernel
theorem d_M_perform_510 : decode m_M_perform.2.1 510 = .ok (.invokevirtual 111, 3) := by decide +kernel
theorem d_M_perform_513 : decode m_M_perform.2.1 513 = .ok (.aload 6, 2) := by decide +kernel
theorem d_M_perform_515 : decode m_M_perform.2.1 515 = .ok (.iload 4, 2) := by decide +kernel
theorem d_M_perform_517 : decode m_M_perform.2.1 517 = .ok (.aaload, 1) := by decide +kernel
theorem d_M_perform_518 : decode m_M_perform.2.1 518 = .ok (.invokevirtual 115, 3) := by decide +kernel
theorem d_M_perform_521 : decode m_M_perform.2.1 521 = .ok (.ireturn, 1) := by decide +kernel
theorem d_M_perform_522 : decode m_M_perform.2.1 522 = .ok (.aload_n 1, 1) := by decide +kernel
theorem d_M_perform_523 : decode m_M_perform.2.1 523 = .ok (.aload_n 1, 1) := by decide +kernel
theorem d_M_perform_524 : decode m_M_perform.2.1 524 = .ok (.iload_n 3, 1) := by decide +kernel
theorem d_M_perform_525 : decode m_M_perform.2.1 525 = .ok (.aload_n 1, 1) := by decide +kernel
theorem d_M_perform_526 : decode m_M_perform.2.1 526 = .ok (.getfield 119, 3) := by decide +kernel
theorem d_M_perform_529 : decode m_M_perform.2.1 529 = .ok (.invokevirtual 123, 3) := by decide +kernel
theorem d_M_perform_532 : decode m_M_perform.2.1 532 = .ok (.invokevirtual 62, 3) := by decide +kernel
theorem d_M_perform_535 : decode m_M_perform.2.1 535 = .ok (.iload 4, 2) := by decide +kernel
theorem d_M_perform_537 : decode m_M_perform.2.1 537 = .ok (.invokestatic 90, 3) := by decide +kernel
theorem d_M_perform_540 : decode m_M_perform.2.1 540 = .ok (.ireturn, 1) := by decide +kernel
theorem d_M_perform_541 : decode m_M_perform.2.1 541 = .ok (.aload_n 1, 1) := by decide +kernel
theorem d_M_perform_542 : decode m_M_perform.2.1 542 = .ok (.getfield 119, 3) := by decide +kernel
theorem d_M_perform_545 : decode m_M_perform.2.1 545 = .ok (.invokevirtual 129, 3) := by decide +kernel
theorem d_M_perform_548 : decode m_M_perform.2.1 548 = .ok (.ireturn, 1) := by decide +kernel
theorem d_M_perform_549 : decode m_M_perform.2.1 549 = .ok (.aload_n 1, 1) := by decide +kernel
theorem d_M_perform_550 : decode m_M_perform.2.1 550 = .ok (.iload_n 3, 1) := by decide +kernel
theorem d_M_perform_551 : decode m_M_perform.2.1 551 = .ok (.invokestatic 132, 3) := by decide +kernel
theorem d_M_perform_554 : decode m_M_perform.2.1 554 = .ok (.ireturn, 1) := by decide +kernel
theorem d_M_perform_555 : decode m_M_perform.2.1 555 = .ok (.aload_n 0, 1) := by decide +kernel
theorem d_M_perform_556 : decode m_M_perform.2.1 556 = .ok (.aload_n 1, 1) := by decide +kernel
theorem d_M_perform_557 : decode m_M_perform.2.1 557 = .ok (.iload_n 3, 1) := by decide +kernel
theorem d_M_perform_558 : decode m_M_perform.2.1 558 = .ok (.invokevirtual 136, 3) := by decide +kernel
theorem d_M_perform_561 : decode m_M_perform.2.1 561 = .ok (.ireturn, 1) := by decide +kernel
theorem d_M_perform_562 : decode m_M_perform.2.1 562 = .ok (.aload_n 0, 1) := by decide +kernel
theorem d_M_perform_563 : decode m_M_perform.2.1 563 = .ok (.aload_n 1, 1) := by decide +kernel
theorem d_M_perform_564 : decode m_M_perform.2.1 564 = .ok (.iload_n 3, 1) := by decide +kernel
theorem d_M_perform_565 : decode m_M_perform.2.1 565 = .ok (.iload 4, 2) := by decide +kernel
theorem d_M_perform_567 : decode m_M_perform.2.1 567 = .ok (.aload 6, 2) := by decide +kernel
theorem d_M_perform_569 : decode m_M_perform.2.1 569 = .ok (.iload 5, 2) := by decide +kernel
theorem d_M_perform_571 : decode m_M_perform.2.1 571 = .ok (.aaload, 1) := by decide +kernel
theorem d_M_perform_572 : decode m_M_perform.2.1 572 = .ok (.invokevirtual 139, 3) := by decide +kernel
theorem d_M_perform_575 : decode m_M_perform.2.1 575 = .ok (.ireturn, 1) := by decide +kernel
theorem d_M_perform_576 : decode m_M_perform.2.1 576 = .ok (.aload_n 0, 1) := by decide +kernel
theorem d_M_perform_577 : decode m_M_perform.2.1 577 = .ok (.aload_n 1, 1) := by decide +kernel
theorem d_M_perform_578 : decode m_M_perform.2.1 578 = .ok (.aload_n 0, 1) := by decide +kernel
theorem d_M_perform_579 : decode m_M_perform.2.1 579 = .ok (.getfield 21, 3) := by decide +kernel
theorem d_M_perform_582 : decode m_M_perform.2.1 582 = .ok (.aload 6, 2) := by decide +kernel
theorem d_M_perform_584 : decode m_M_perform.2.1 584 = .ok (.iload_n 3, 1) := by decide +kernel
theorem d_M_perform_585 : decode m_M_perform.2.1 585 = .ok (.aaload, 1) := by decide +kernel
theorem d_M_perform_586 : decode m_M_perform.2.1 586 = .ok (.invokevirtual 111, 3) := by decide +kernel
theorem d_M_perform_589 : decode m_M_perform.2.1 589 = .ok (.invokevirtual 143, 3) := by decide +kernel
theorem d_M_perform_592 : decode m_M_perform.2.1 592 = .ok (.ireturn, 1) := by decide +kernel
theorem d_M_perform_593 : decode m_M_perform.2.1 593 = .ok (.aload_n 1, 1) := by decide +kernel
theorem d_M_perform_594 : decode m_M_perform.2.1 594 = .ok (.iload_n 3, 1) := by decide +kernel
theorem d_M_perform_595 : decode m_M_perform.2.1 595 = .ok (.iconst 1, 1) := by decide +kernel
theorem d_M_perform_596 : decode m_M_perform.2.1 596 = .ok (.if_icmp .ne 7, 3) := by decide +kernel
theorem d_M_perform_599 : decode m_M_perform.2.1 599 = .ok (.iconst 1, 1) := by decide +kernel
theorem d_M_perform_600 : decode m_M_perform.2.1 600 = .ok (.goto 4, 3) := by decide +kernel
theorem d_M_perform_603 : decode m_M_perform.2.1 603 = .ok (.iconst 0, 1) := by decide +kernel
theorem d_M_perform_604 : decode m_M_perform.2.1 604 = .ok (.invokestatic 147, 3) := by decide +kernel
theorem d_M_perform_607 : decode m_M_perform.2.1 607 = .ok (.ireturn, 1) := by decide +kernel
theorem d_M_perform_608 : decode m_M_perform.2.1 608 = .ok (.aload_n 0, 1) := by decide +kernel
theorem d_M_perform_609 : decode m_M_perform.2.1 609 = .ok (.aload_n 1, 1) := by decide +kernel
theorem d_M_perform_610 : decode m_M_perform.2.1 610 = .ok (.aload 6, 2) := by decide +kernel
theorem d_M_perform_612 : decode m_M_perform.2.1 612 = .ok (.iload_n 3, 1) := by decide +kernel
theorem d_M_perform_613 : decode m_M_perform.2.1 613 = .ok (.aaload, 1) := by decide +kernel
theorem d_M_perform_614 : decode m_M_perform.2.1 614 = .ok (.invokevirtual 151, 3) := by decide +kernel
theorem d_M_perform_617 : decode m_M_perform.2.1 617 = .ok (.ireturn, 1) := by decide +kernel
theorem d_M_perform_618 : decode m_M_perform.2.1 618 = .ok (.aload_n 0, 1) := by decide +kernel
theorem d_M_perform_619 : decode m_M_perform.2.1 619 = .ok (.aload_n 1, 1) := by decide +kernel
theorem d_M_perform_620 : decode m_M_perform.2.1 620 = .ok (.aload_n 0, 1) := by decide +kernel
theorem d_M_perform_621 : decode m_M_perform.2.1 621 = .ok (.getfield 21, 3) := by decide +kernel
theorem d_M_perform_624 : decode m_M_perform.2.1 624 = .ok (.aload 6, 2) := by decide +kernel
theorem d_M_perform_626 : decode m_M_perform.2.1 626 = .ok (.iload_n 3, 1) := by decide +kernel
theorem d_M_perform_627 : decode m_M_perform.2.1 627 = .ok (.aaload, 1) := by decide +kernel
theorem d_M_perform_628 : decode m_M_perform.2.1 628 = .ok (.invokevirtual 111, 3) := by decide +kernel
theorem d_M_perform_631 : decode m_M_perform.2.1 631 = .ok (.invokevirtual 154, 3) := by decide +kernel
theorem d_M_perform_634 : decode m_M_perform.2.1 634 = .ok (.ireturn, 1) := by decide +kernel
theorem d_M_perform_635 : decode m_M_perform.2.1 635 = .ok (.iconst 0, 1) := by decide +kernel
theorem d_M_perform_636 : decode m_M_perform.2.1 636 = .ok (.ireturn, 1) := by decide +kernel
theorem d_M_areInts_0 : decode m_M_areInts.2.1 0 = .ok (.aload_n 0, 1) := by decide +kernel
theorem d_M_areInts_1 : decode m_M_areInts.2.1 1 = .ok (.getfield 97, 3) := by decide +kernel
theorem d_M_areInts_4 : decode m_M_areInts.2.1 4 = .ok (.ifCond .ne 14, 3) := by decide +kernel
theorem d_M_areInts_7 : decode m_M_areInts.2.1 7 = .ok (.aload_n 1, 1) := by decide +kernel
theorem d_M_areInts_8 : decode m_M_areInts.2.1 8 = .ok (.getfield 97, 3) := by decide +kernel
theorem d_M_areInts_11 : decode m_M_areInts.2.1 11 = .ok (.ifCond .ne 7, 3) := by decide +kernel
theorem d_M_areInts_14 : decode m_M_areInts.2.1 14 = .ok (.iconst 1, 1) := by decide +kernel
theorem d_M_areInts_15 : decode m_M_areInts.2.1 15 = .ok (.goto 4, 3) := by decide +kernel
theorem d_M_areInts_18 : decode m_M_areInts.2.1 18 = .ok (.iconst 0, 1) := by decide +kernel
theorem d_M_areInts_19 : decode m_M_areInts.2.1 19 = .ok (.ireturn, 1) := by decide +kernel
theorem d_M_goUnless_0 : decode m_M_goUnless.2.1 0 = .ok (.iload_n 1, 1) := by decide +kernel
theorem d_M_goUnless_1 : decode m_M_goUnless.2.1 1 = .ok (.ifCond .ne 11, 3) := by decide +kernel
theorem d_M_goUnless_4 : decode m_M_goUnless.2.1 4 = .ok (.aload_n 0, 1) := by decide +kernel
theorem d_M_goUnless_5 : decode m_M_goUnless.2.1 5 = .ok (.iload_n 2, 1) := by decide +kernel
theorem d_M_goUnless_6 : decode m_M_goUnless.2.1 6 = .ok (.invokevirtual 100, 3) := by decide +kernel
theorem d_M_goUnless_9 : decode m_M_goUnless.2.1 9 = .ok (.ifCond .eq 7, 3) := by decide +kernel
theorem d_M_goUnless_12 : decode m_M_goUnless.2.1 12 = .ok (.iconst 1, 1) := by decide +kernel
theorem d_M_goUnless_13 : decode m_M_goUnless.2.1 13 = .ok (.goto 4, 3) := by decide +kernel
theorem d_M_goUnless_16 : decode m_M_goUnless.2.1 16 = .ok (.iconst 0, 1) := by decide +kernel
theorem d_M_goUnless_17 : decode m_M_goUnless.2.1 17 = .ok (.ireturn, 1) := by decide +kernel
theorem d_M_goBack_0 : decode m_M_goBack.2.1 0 = .ok (.aload_n 1, 1) := by decide +kernel
theorem d_M_goBack_1 : decode m_M_goBack.2.1 1 = .ok (.getfield 157, 3) := by decide +kernel
theorem d_M_goBack_4 : decode m_M_goBack.2.1 4 = .ok (.ifCond .gt 23, 3) := by decide +kernel
theorem d_M_goBack_7 : decode m_M_goBack.2.1 7 = .ok (.aload_n 0, 1) := by decide +kernel
theorem d_M_goBack_8 : decode m_M_goBack.2.1 8 = .ok (.getfield 21, 3) := by decide +kernel
theorem d_M_goBack_11 : decode m_M_goBack.2.1 11 = .ok (.aload_n 1, 1) := by decide +kernel
theorem d_M_goBack_12 : decode m_M_goBack.2.1 12 = .ok (.aload_n 0, 1) := by decide +kernel
theorem d_M_goBack_13 : decode m_M_goBack.2.1 13 = .ok (.getfield 21, 3) := by decide +kernel
theorem d_M_goBack_16 : decode m_M_goBack.2.1 16 = .ok (.getfield 38, 3) := by decide +kernel
theorem d_M_goBack_19 : decode m_M_goBack.2.1 19 = .ok (.bipush 14, 2) := by decide +kernel
theorem d_M_goBack_21 : decode m_M_goBack.2.1 21 = .ok (.aaload, 1) := by decide +kernel
theorem d_M_goBack_22 : decode m_M_goBack.2.1 22 = .ok (.invokevirtual 42, 3) := by decide +kernel
theorem d_M_goBack_25 : decode m_M_goBack.2.1 25 = .ok (.iconst 1, 1) := by decide +kernel
theorem d_M_goBack_26 : decode m_M_goBack.2.1 26 = .ok (.ireturn, 1) := by decide +kernel
theorem d_M_goBack_27 : decode m_M_goBack.2.1 27 = .ok (.aload_n 1, 1) := by decide +kernel
theorem d_M_goBack_28 : decode m_M_goBack.2.1 28 = .ok (.dup, 1) := by decide +kernel
theorem d_M_goBack_29 : decode m_M_goBack.2.1 29 = .ok (.getfield 157, 3) := by decide +kernel
theorem d_M_goBack_32 : decode m_M_goBack.2.1 32 = .ok (.iconst 1, 1) := by decide +kernel
theorem d_M_goBack_33 : decode m_M_goBack.2.1 33 = .ok (.isub, 1) := by decide +kernel
theorem d_M_goBack_34 : decode m_M_goBack.2.1 34 = .ok (.putfield 157, 3) := by decide +kernel
theorem d_M_goBack_37 : decode m_M_goBack.2.1 37 = .ok (.aload_n 1, 1) := by decide +kernel
theorem d_M_goBack_38 : decode m_M_goBack.2.1 38 = .ok (.aload_n 1, 1) := by decide +kernel
theorem d_M_goBack_39 : decode m_M_goBack.2.1 39 = .ok (.getfield 160, 3) := by decide +kernel
theorem d_M_goBack_42 : decode m_M_goBack.2.1 42 = .ok (.aload_n 1, 1) := by decide +kernel
theorem d_M_goBack_43 : decode m_M_goBack.2.1 43 = .ok (.getfield 157, 3) := by decide +kernel
theorem d_M_goBack_46 : decode m_M_goBack.2.1 46 = .ok (.iaload, 1) := by decide +kernel
theorem d_M_goBack_47 : decode m_M_goBack.2.1 47 = .ok (.invokevirtual 100, 3) := by decide +kernel
theorem d_M_goBack_50 : decode m_M_goBack.2.1 50 = .ok (.ireturn, 1) := by decide +kernel
theorem d_M_send_0 : decode m_M_send.2.1 0 = .ok (.aload_n 1, 1) := by decide +kernel
theorem d_M_send_1 : decode m_M_send.2.1 1 = .ok (.ifnonnull 5, 3) := by decide +kernel
theorem d_M_send_4 : decode m_M_send.2.1 4 = .ok (.iconst 0, 1) := by decide +kernel
theorem d_M_send_5 : decode m_M_send.2.1 5 = .ok (.ireturn, 1) := by decide +kernel
theorem d_M_send_6 : decode m_M_send.2.1 6 = .ok (.aload_n 0, 1) := by decide +kernel
theorem d_M_send_7 : decode m_M_send.2.1 7 = .ok (.getfield 21, 3) := by decide +kernel
theorem d_M_send_10 : decode m_M_send.2.1 10 = .ok (.aload_n 1, 1) := by decide +kernel
theorem d_M_send_11 : decode m_M_send.2.1 11 = .ok (.aload_n 2, 1) := by decide +kernel
theorem d_M_send_12 : decode m_M_send.2.1 12 = .ok (.invokevirtual 163, 3) := by decide +kernel
theorem d_M_send_15 : decode m_M_send.2.1 15 = .ok (.iconst 1, 1) := by decide +kernel
theorem d_M_send_16 : decode m_M_send.2.1 16 = .ok (.ireturn, 1) := by decide +kernel
theorem d_M_passOver_0 : decode m_M_passOver.2.1 0 = .ok (.aload_n 0, 1) := by decide +kernel
theorem d_M_passOver_1 : decode m_M_passOver.2.1 1 = .ok (.getfield 119, 3) := by decide +kernel
theorem d_M_passOver_4 : decode m_M_passOver.2.1 4 = .ok (.dup, 1) := by decide +kernel
theorem d_M_passOver_5 : decode m_M_passOver.2.1 5 = .ok (.getfield 166, 3) := by decide +kernel
theorem d_M_passOver_8 : decode m_M_passOver.2.1 8 = .ok (.iconst 1, 1) := by decide +kernel
theorem d_M_passOver_9 : decode m_M_passOver.2.1 9 = .ok (.iadd, 1) := by decide +kernel
theorem d_M_passOver_10 : decode m_M_passOver.2.1 10 = .ok (.putfield 166, 3) := by decide +kernel
theorem d_M_passOver_13 : decode m_M_passOver.2.1 13 = .ok (.aload_n 0, 1) := by decide +kernel
theorem d_M_passOver_14 : decode m_M_passOver.2.1 14 = .ok (.iload_n 1, 1) := by decide +kernel
theorem d_M_passOver_15 : decode m_M_passOver.2.1 15 = .ok (.invokevirtual 100, 3) := by decide +kernel
theorem d_M_passOver_18 : decode m_M_passOver.2.1 18 = .ok (.ireturn, 1) := by decide +kernel
theorem d_M_waitOrGoOn_0 : decode m_M_waitOrGoOn.2.1 0 = .ok (.aload_n 1, 1) := by decide +kernel
theorem d_M_waitOrGoOn_1 : decode m_M_waitOrGoOn.2.1 1 = .ok (.getfield 119, 3) := by decide +kernel
theorem d_M_waitOrGoOn_4 : decode m_M_waitOrGoOn.2.1 4 = .ok (.invokevirtual 123, 3) := by decide +kernel
theorem d_M_waitOrGoOn_7 : decode m_M_waitOrGoOn.2.1 7 = .ok (.ifnonnull 11, 3) := by decide +kernel
theorem d_M_waitOrGoOn_10 : decode m_M_waitOrGoOn.2.1 10 = .ok (.aload_n 0, 1) := by decide +kernel
theorem d_M_waitOrGoOn_11 : decode m_M_waitOrGoOn.2.1 11 = .ok (.getfield 21, 3) := by decide +kernel
theorem d_M_waitOrGoOn_14 : decode m_M_waitOrGoOn.2.1 14 = .ok (.aload_n 1, 1) := by decide +kernel
theorem d_M_waitOrGoOn_15 : decode m_M_waitOrGoOn.2.1 15 = .ok (.invokevirtual 169, 3) := by decide +kernel
theorem d_M_waitOrGoOn_18 : decode m_M_waitOrGoOn.2.1 18 = .ok (.aload_n 1, 1) := by decide +kernel
theorem d_M_waitOrGoOn_19 : decode m_M_waitOrGoOn.2.1 19 = .ok (.iload_n 2, 1) := by decide +kernel
theorem d_M_waitOrGoOn_20 : decode m_M_waitOrGoOn.2.1 20 = .ok (.invokevirtual 100, 3) := by decide +kernel
theorem d_M_waitOrGoOn_23 : decode m_M_waitOrGoOn.2.1 23 = .ok (.ireturn, 1) := by decide +kernel
theorem d_M_spawn_0 : decode m_M_spawn.2.1 0 = .ok (.aload_n 0, 1) := by decide +kernel
theorem d_M_spawn_1 : decode m_M_spawn.2.1 1 = .ok (.getfield 21, 3) := by decide +kernel
theorem d_M_spawn_4 : decode m_M_spawn.2.1 4 = .ok (.iload_n 3, 1) := by decide +kernel
theorem d_M_spawn_5 : decode m_M_spawn.2.1 5 = .ok (.aload 4, 2) := by decide +kernel
theorem d_M_spawn_7 : decode m_M_spawn.2.1 7 = .ok (.invokevirtual 173, 3) := by decide +kernel
theorem d_M_spawn_10 : decode m_M_spawn.2.1 10 = .ok (.astore 5, 2) := by decide +kernel
theorem d_M_spawn_12 : decode m_M_spawn.2.1 12 = .ok (.aload 5, 2) := by decide +kernel
theorem d_M_spawn_14 : decode m_M_spawn.2.1 14 = .ok (.ifnull 20, 3) := by decide +kernel
theorem d_M_spawn_17 : decode m_M_spawn.2.1 17 = .ok (.aload_n 1, 1) := by decide +kernel
theorem d_M_spawn_18 : decode m_M_spawn.2.1 18 = .ok (.iload_n 2, 1) := by decide +kernel
theorem d_M_spawn_19 : decode m_M_spawn.2.1 19 = .ok (.aload 5, 2) := by decide +kernel
theorem d_M_spawn_21 : decode m_M_spawn.2.1 21 = .ok (.getfield 66, 3) := by decide +kernel
theorem d_M_spawn_24 : decode m_M_spawn.2.1 24 = .ok (.invokevirtual 62, 3) := by decide +kernel
theorem d_M_spawn_27 : decode m_M_spawn.2.1 27 = .ok (.ifCond .eq 7, 3) := by decide +kernel
theorem d_M_spawn_30 : decode m_M_spawn.2.1 30 = .ok (.iconst 1, 1) := by decide +kernel
theorem d_M_spawn_31 : decode m_M_spawn.2.1 31 = .ok (.goto 4, 3) := by decide +kernel
theorem d_M_spawn_34 : decode m_M_spawn.2.1 34 = .ok (.iconst 0, 1) := by decide +kernel
theorem d_M_spawn_35 : decode m_M_spawn.2.1 35 = .ok (.ireturn, 1) := by decide +kernel
theorem d_M_link_0 : decode m_M_link.2.1 0 = .ok (.aload_n 2, 1) := by decide +kernel
theorem d_M_link_1 : decode m_M_link.2.1 1 = .ok (.ifnonnull 5, 3) := by decide +kernel
theorem d_M_link_4 : decode m_M_link.2.1 4 = .ok (.iconst 0, 1) := by decide +kernel
theorem d_M_link_5 : decode m_M_link.2.1 5 = .ok (.ireturn, 1) := by decide +kernel
theorem d_M_link_6 : decode m_M_link.2.1 6 = .ok (.aload_n 2, 1) := by decide +kernel
theorem d_M_link_7 : decode m_M_link.2.1 7 = .ok (.getfield 177, 3) := by decide +kernel
theorem d_M_link_10 : decode m_M_link.2.1 10 = .ok (.iconst 3, 1) := by decide +kernel
theorem d_M_link_11 : decode m_M_link.2.1 11 = .ok (.if_icmp .ne 25, 3) := by decide +kernel
theorem d_M_link_14 : decode m_M_link.2.1 14 = .ok (.aload_n 0, 1) := by decide +kernel
theorem d_M_link_15 : decode m_M_link.2.1 15 = .ok (.getfield 21, 3) := by decide +kernel
theorem d_M_link_18 : decode m_M_link.2.1 18 = .ok (.aload_n 2, 1) := by decide +kernel
theorem d_M_link_19 : decode m_M_link.2.1 19 = .ok (.aload_n 1, 1) := by decide +kernel
theorem d_M_link_20 : decode m_M_link.2.1 20 = .ok (.aload_n 0, 1) := by decide +kernel
theorem d_M_link_21 : decode m_M_link.2.1 21 = .ok (.getfield 21, 3) := by decide +kernel
theorem d_M_link_24 : decode m_M_link.2.1 24 = .ok (.getfield 38, 3) := by decide +kernel
theorem d_M_link_27 : decode m_M_link.2.1 27 = .ok (.bipush 13, 2) := by decide +kernel
theorem d_M_link_29 : decode m_M_link.2.1 29 = .ok (.aaload, 1) := by decide +kernel
theorem d_M_link_30 : decode m_M_link.2.1 30 = .ok (.invokevirtual 180, 3) := by decide +kernel
theorem d_M_link_33 : decode m_M_link.2.1 33 = .ok (.goto 17, 3) := by decide +kernel
theorem d_M_link_36 : decode m_M_link.2.1 36 = .ok (.aload_n 2, 1) := by decide +kernel
theorem d_M_link_37 : decode m_M_link.2.1 37 = .ok (.aload_n 1, 1) := by decide +kernel
theorem d_M_link_38 : decode m_M_link.2.1 38 = .ok (.if_acmp .eq 12, 3) := by decide +kernel
theorem d_M_link_41 : decode m_M_link.2.1 41 = .ok (.aload_n 0, 1) := by decide +kernel
theorem d_M_link_42 : decode m_M_link.2.1 42 = .ok (.getfield 21, 3) := by decide +kernel
theorem d_M_link_45 : decode m_M_link.2.1 45 = .ok (.aload_n 1, 1) := by decide +kernel
theorem d_M_link_46 : decode m_M_link.2.1 46 = .ok (.aload_n 2, 1) := by decide +kernel
theorem d_M_link_47 : decode m_M_link.2.1 47 = .ok (.invokevirtual 184, 3) := by decide +kernel
theorem d_M_link_50 : decode m_M_link.2.1 50 = .ok (.iconst 1, 1) := by decide +kernel
theorem d_M_link_51 : decode m_M_link.2.1 51 = .ok (.ireturn, 1) := by decide +kernel
theorem d_M_trap_0 : decode m_M_trap.2.1 0 = .ok (.aload_n 0, 1) := by decide +kernel
theorem d_M_trap_1 : decode m_M_trap.2.1 1 = .ok (.iload_n 1, 1) := by decide +kernel
theorem d_M_trap_2 : decode m_M_trap.2.1 2 = .ok (.putfield 188, 3) := by decide +kernel
theorem d_M_trap_5 : decode m_M_trap.2.1 5 = .ok (.iconst 1, 1) := by decide +kernel
theorem d_M_trap_6 : decode m_M_trap.2.1 6 = .ok (.ireturn, 1) := by decide +kernel
theorem d_M_finish_0 : decode m_M_finish.2.1 0 = .ok (.aload_n 0, 1) := by decide +kernel
theorem d_M_finish_1 : decode m_M_finish.2.1 1 = .ok (.getfield 21, 3) := by decide +kernel
theorem d_M_finish_4 : decode m_M_finish.2.1 4 = .ok (.aload_n 1, 1) := by decide +kernel
theorem d_M_finish_5 : decode m_M_finish.2.1 5 = .ok (.aload_n 2, 1) := by decide +kernel
theorem d_M_finish_6 : decode m_M_finish.2.1 6 = .ok (.invokevirtual 42, 3) := by decide +kernel
theorem d_M_finish_9 : decode m_M_finish.2.1 9 = .ok (.iconst 1, 1) := by decide +kernel
theorem d_M_finish_10 : decode m_M_finish.2.1 10 = .ok (.ireturn, 1) := by decide +kernel
theorem d_M_stop_0 : decode m_M_stop.2.1 0 = .ok (.aload_n 2, 1) := by decide +kernel
theorem d_M_stop_1 : decode m_M_stop.2.1 1 = .ok (.ifnonnull 5, 3) := by decide +kernel
theorem d_M_stop_4 : decode m_M_stop.2.1 4 = .ok (.iconst 0, 1) := by decide +kernel
theorem d_M_stop_5 : decode m_M_stop.2.1 5 = .ok (.ireturn, 1) := by decide +kernel
theorem d_M_stop_6 : decode m_M_stop.2.1 6 = .ok (.aload_n 0, 1) := by decide +kernel
theorem d_M_stop_7 : decode m_M_stop.2.1 7 = .ok (.getfield 21, 3) := by decide +kernel
theorem d_M_stop_10 : decode m_M_stop.2.1 10 = .ok (.aload_n 1, 1) := by decide +kernel
theorem d_M_stop_11 : decode m_M_stop.2.1 11 = .ok (.aload_n 2, 1) := by decide +kernel
theorem d_M_stop_12 : decode m_M_stop.2.1 12 = .ok (.aload_n 0, 1) := by decide +kernel
theorem d_M_stop_13 : decode m_M_stop.2.1 13 = .ok (.getfield 21, 3) := by decide +kernel
theorem d_M_stop_16 : decode m_M_stop.2.1 16 = .ok (.getfield 38, 3) := by decide +kernel
theorem d_M_stop_19 : decode m_M_stop.2.1 19 = .ok (.bipush 12, 2) := by decide +kernel
theorem d_M_stop_21 : decode m_M_stop.2.1 21 = .ok (.aaload, 1) := by decide +kernel
theorem d_M_stop_22 : decode m_M_stop.2.1 22 = .ok (.invokevirtual 180, 3) := by decide +kernel
theorem d_M_stop_25 : decode m_M_stop.2.1 25 = .ok (.iconst 1, 1) := by decide +kernel
theorem d_M_stop_26 : decode m_M_stop.2.1 26 = .ok (.ireturn, 1) := by decide +kernel
theorem d_B_init_0 : decode m_B_init.2.1 0 = .ok (.aload_n 0, 1) := by decide +kernel
theorem d_B_init_1 : decode m_B_init.2.1 1 = .ok (.invokespecial 3, 3) := by decide +kernel
theorem d_B_init_4 : decode m_B_init.2.1 4 = .ok (.aload_n 0, 1) := by decide +kernel
theorem d_B_init_5 : decode m_B_init.2.1 5 = .ok (.bipush 12, 2) := by decide +kernel
theorem d_B_init_7 : decode m_B_init.2.1 7 = .ok (.anewarray 9, 3) := by decide +kernel
theorem d_B_init_10 : decode m_B_init.2.1 10 = .ok (.putfield 11, 3) := by decide +kernel
theorem d_B_init_13 : decode m_B_init.2.1 13 = .ok (.aload_n 0, 1) := by decide +kernel
theorem d_B_init_14 : decode m_B_init.2.1 14 = .ok (.iconst 0, 1) := by decide +kernel
theorem d_B_init_15 : decode m_B_init.2.1 15 = .ok (.putfield 17, 3) := by decide +kernel
theorem d_B_init_18 : decode m_B_init.2.1 18 = .ok (.aload_n 0, 1) := by decide +kernel
theorem d_B_init_19 : decode m_B_init.2.1 19 = .ok (.iconst 0, 1) := by decide +kernel
theorem d_B_init_20 : decode m_B_init.2.1 20 = .ok (.putfield 21, 3) := by decide +kernel
theorem d_B_init_23 : decode m_B_init.2.1 23 = .ok (.return_, 1) := by decide +kernel
theorem d_B_empty_0 : decode m_B_empty.2.1 0 = .ok (.aload_n 0, 1) := by decide +kernel
theorem d_B_empty_1 : decode m_B_empty.2.1 1 = .ok (.iconst 0, 1) := by decide +kernel
theorem d_B_empty_2 : decode m_B_empty.2.1 2 = .ok (.putfield 17, 3) := by decide +kernel
theorem d_B_empty_5 : decode m_B_empty.2.1 5 = .ok (.aload_n 0, 1) := by decide +kernel
theorem d_B_empty_6 : decode m_B_empty.2.1 6 = .ok (.iconst 0, 1) := by decide +kernel
theorem d_B_empty_7 : decode m_B_empty.2.1 7 = .ok (.putfield 21, 3) := by decide +kernel
theorem d_B_empty_10 : decode m_B_empty.2.1 10 = .ok (.return_, 1) := by decide +kernel
theorem d_B_at_0 : decode m_B_at.2.1 0 = .ok (.iload_n 1, 1) := by decide +kernel
theorem d_B_at_1 : decode m_B_at.2.1 1 = .ok (.ifCond .lt 20, 3) := by decide +kernel
theorem d_B_at_4 : decode m_B_at.2.1 4 = .ok (.iload_n 1, 1) := by decide +kernel
theorem d_B_at_5 : decode m_B_at.2.1 5 = .ok (.aload_n 0, 1) := by decide +kernel
theorem d_B_at_6 : decode m_B_at.2.1 6 = .ok (.getfield 17, 3) := by decide +kernel
theorem d_B_at_9 : decode m_B_at.2.1 9 = .ok (.if_icmp .ge 12, 3) := by decide +kernel
theorem d_B_at_12 : decode m_B_at.2.1 12 = .ok (.aload_n 0, 1) := by decide +kernel
theorem d_B_at_13 : decode m_B_at.2.1 13 = .ok (.getfield 11, 3) := by decide +kernel
theorem d_B_at_16 : decode m_B_at.2.1 16 = .ok (.iload_n 1, 1) := by decide +kernel
theorem d_B_at_17 : decode m_B_at.2.1 17 = .ok (.aaload, 1) := by decide +kernel
theorem d_B_at_18 : decode m_B_at.2.1 18 = .ok (.goto 4, 3) := by decide +kernel
theorem d_B_at_21 : decode m_B_at.2.1 21 = .ok (.aconst_null, 1) := by decide +kernel
theorem d_B_at_22 : decode m_B_at.2.1 22 = .ok (.areturn, 1) := by decide +kernel
theorem d_B_marked_0 : decode m_B_marked.2.1 0 = .ok (.aload_n 0, 1) := by decide +kernel
theorem d_B_marked_1 : decode m_B_marked.2.1 1 = .ok (.aload_n 0, 1) := by decide +kernel
theorem d_B_marked_2 : decode m_B_marked.2.1 2 = .ok (.getfield 21, 3) := by decide +kernel
theorem d_B_marked_5 : decode m_B_marked.2.1 5 = .ok (.invokevirtual 24, 3) := by decide +kernel
theorem d_B_marked_8 : decode m_B_marked.2.1 8 = .ok (.areturn, 1) := by decide +kernel
theorem d_B_put_0 : decode m_B_put.2.1 0 = .ok (.aload_n 0, 1) := by decide +kernel
theorem d_B_put_1 : decode m_B_put.2.1 1 = .ok (.getfield 17, 3) := by decide +kernel
theorem d_B_put_4 : decode m_B_put.2.1 4 = .ok (.bipush 12, 2) := by decide +kernel
theorem d_B_put_6 : decode m_B_put.2.1 6 = .ok (.if_icmp .lt 5, 3) := by decide +kernel
theorem d_B_put_9 : decode m_B_put.2.1 9 = .ok (.iconst 0, 1) := by decide +kernel
theorem d_B_put_10 : decode m_B_put.2.1 10 = .ok (.ireturn, 1) := by decide +kernel
theorem d_B_put_11 : decode m_B_put.2.1 11 = .ok (.aload_n 0, 1) := by decide +kernel
theorem d_B_put_12 : decode m_B_put.2.1 12 = .ok (.getfield 11, 3) := by decide +kernel
theorem d_B_put_15 : decode m_B_put.2.1 15 = .ok (.aload_n 0, 1) := by decide +kernel
theorem d_B_put_16 : decode m_B_put.2.1 16 = .ok (.getfield 17, 3) := by decide +kernel
theorem d_B_put_19 : decode m_B_put.2.1 19 = .ok (.aload_n 1, 1) := by decide +kernel
theorem d_B_put_20 : decode m_B_put.2.1 20 = .ok (.aastore, 1) := by decide +kernel
theorem d_B_put_21 : decode m_B_put.2.1 21 = .ok (.aload_n 0, 1) := by decide +kernel
theorem d_B_put_22 : decode m_B_put.2.1 22 = .ok (.dup, 1) := by decide +kernel
theorem d_B_put_23 : decode m_B_put.2.1 23 = .ok (.getfield 17, 3) := by decide +kernel
theorem d_B_put_26 : decode m_B_put.2.1 26 = .ok (.iconst 1, 1) := by decide +kernel
theorem d_B_put_27 : decode m_B_put.2.1 27 = .ok (.iadd, 1) := by decide +kernel
theorem d_B_put_28 : decode m_B_put.2.1 28 = .ok (.putfield 17, 3) := by decide +kernel
theorem d_B_put_31 : decode m_B_put.2.1 31 = .ok (.iconst 1, 1) := by decide +kernel
theorem d_B_put_32 : decode m_B_put.2.1 32 = .ok (.ireturn, 1) := by decide +kernel
theorem d_B_take_0 : decode m_B_take.2.1 0 = .ok (.aload_n 0, 1) := by decide +kernel
theorem d_B_take_1 : decode m_B_take.2.1 1 = .ok (.invokevirtual 28, 3) := by decide +kernel
theorem d_B_take_4 : decode m_B_take.2.1 4 = .ok (.ifnonnull 5, 3) := by decide +kernel
theorem d_B_take_7 : decode m_B_take.2.1 7 = .ok (.iconst 0, 1) := by decide +kernel
theorem d_B_take_8 : decode m_B_take.2.1 8 = .ok (.ireturn, 1) := by decide +kernel
theorem d_B_take_9 : decode m_B_take.2.1 9 = .ok (.aload_n 0, 1) := by decide +kernel
theorem d_B_take_10 : decode m_B_take.2.1 10 = .ok (.getfield 21, 3) := by decide +kernel
theorem d_B_take_13 : decode m_B_take.2.1 13 = .ok (.iconst 1, 1) := by decide +kernel
theorem d_B_take_14 : decode m_B_take.2.1 14 = .ok (.iadd, 1) := by decide +kernel
theorem d_B_take_15 : decode m_B_take.2.1 15 = .ok (.istore_n 1, 1) := by decide +kernel
theorem d_B_take_16 : decode m_B_take.2.1 16 = .ok (.iload_n 1, 1) := by decide +kernel
theorem d_B_take_17 : decode m_B_take.2.1 17 = .ok (.aload_n 0, 1) := by decide +kernel
theorem d_B_take_18 : decode m_B_take.2.1 18 = .ok (.getfield 17, 3) := by decide +kernel
theorem d_B_take_21 : decode m_B_take.2.1 21 = .ok (.if_icmp .ge 23, 3) := by decide +kernel
theorem d_B_take_24 : decode m_B_take.2.1 24 = .ok (.aload_n 0, 1) := by decide +kernel
theorem d_B_take_25 : decode m_B_take.2.1 25 = .ok (.getfield 11, 3) := by decide +kernel
theorem d_B_take_28 : decode m_B_take.2.1 28 = .ok (.iload_n 1, 1) := by decide +kernel
theorem d_B_take_29 : decode m_B_take.2.1 29 = .ok (.iconst 1, 1) := by decide +kernel
theorem d_B_take_30 : decode m_B_take.2.1 30 = .ok (.isub, 1) := by decide +kernel
theorem d_B_take_31 : decode m_B_take.2.1 31 = .ok (.aload_n 0, 1) := by decide +kernel
theorem d_B_take_32 : decode m_B_take.2.1 32 = .ok (.getfield 11, 3) := by decide +kernel
theorem d_B_take_35 : decode m_B_take.2.1 35 = .ok (.iload_n 1, 1) := by decide +kernel
theorem d_B_take_36 : decode m_B_take.2.1 36 = .ok (.aaload, 1) := by decide +kernel
theorem d_B_take_37 : decode m_B_take.2.1 37 = .ok (.aastore, 1) := by decide +kernel
theorem d_B_take_38 : decode m_B_take.2.1 38 = .ok (.iinc 1 1, 3) := by decide +kernel
theorem d_B_take_41 : decode m_B_take.2.1 41 = .ok (.goto (-25), 3) := by decide +kernel
theorem d_B_take_44 : decode m_B_take.2.1 44 = .ok (.aload_n 0, 1) := by decide +kernel
theorem d_B_take_45 : decode m_B_take.2.1 45 = .ok (.dup, 1) := by decide +kernel
theorem d_B_take_46 : decode m_B_take.2.1 46 = .ok (.getfield 17, 3) := by decide +kernel
theorem d_B_take_49 : decode m_B_take.2.1 49 = .ok (.iconst 1, 1) := by decide +kernel
theorem d_B_take_50 : decode m_B_take.2.1 50 = .ok (.isub, 1) := by decide +kernel
theorem d_B_take_51 : decode m_B_take.2.1 51 = .ok (.putfield 17, 3) := by decide +kernel
theorem d_B_take_54 : decode m_B_take.2.1 54 = .ok (.aload_n 0, 1) := by decide +kernel
theorem d_B_take_55 : decode m_B_take.2.1 55 = .ok (.iconst 0, 1) := by decide +kernel
theorem d_B_take_56 : decode m_B_take.2.1 56 = .ok (.putfield 21, 3) := by decide +kernel
theorem d_B_take_59 : decode m_B_take.2.1 59 = .ok (.iconst 1, 1) := by decide +kernel
theorem d_B_take_60 : decode m_B_take.2.1 60 = .ok (.ireturn, 1) := by decide +kernel
theorem d_G_init_0 : decode m_G_init.2.1 0 = .ok (.aload_n 0, 1) := by decide +kernel
theorem d_G_init_1 : decode m_G_init.2.1 1 = .ok (.invokespecial 3, 3) := by decide +kernel
theorem d_G_init_4 : decode m_G_init.2.1 4 = .ok (.aload_n 0, 1) := by decide +kernel
theorem d_G_init_5 : decode m_G_init.2.1 5 = .ok (.sipush 192, 3) := by decide +kernel
theorem d_G_init_8 : decode m_G_init.2.1 8 = .ok (.newarray .int, 2) := by decide +kernel
theorem d_G_init_10 : decode m_G_init.2.1 10 = .ok (.putfield 9, 3) := by decide +kernel
theorem d_G_init_13 : decode m_G_init.2.1 13 = .ok (.aload_n 0, 1) := by decide +kernel
theorem d_G_init_14 : decode m_G_init.2.1 14 = .ok (.iconst 0, 1) := by decide +kernel
theorem d_G_init_15 : decode m_G_init.2.1 15 = .ok (.putfield 15, 3) := by decide +kernel
theorem d_G_init_18 : decode m_G_init.2.1 18 = .ok (.return_, 1) := by decide +kernel
theorem d_G_append_0 : decode m_G_append.2.1 0 = .ok (.aload_n 0, 1) := by decide +kernel
theorem d_G_append_1 : decode m_G_append.2.1 1 = .ok (.getfield 15, 3) := by decide +kernel
theorem d_G_append_4 : decode m_G_append.2.1 4 = .ok (.bipush 48, 2) := by decide +kernel
theorem d_G_append_6 : decode m_G_append.2.1 6 = .ok (.if_icmp .ge 13, 3) := by decide +kernel
theorem d_G_append_9 : decode m_G_append.2.1 9 = .ok (.iload_n 1, 1) := by decide +kernel
theorem d_G_append_10 : decode m_G_append.2.1 10 = .ok (.ifCond .lt 9, 3) := by decide +kernel
theorem d_G_append_13 : decode m_G_append.2.1 13 = .ok (.iload_n 1, 1) := by decide +kernel
theorem d_G_append_14 : decode m_G_append.2.1 14 = .ok (.bipush 27, 2) := by decide +kernel
theorem d_G_append_16 : decode m_G_append.2.1 16 = .ok (.if_icmp .lt 5, 3) := by decide +kernel
theorem d_G_append_19 : decode m_G_append.2.1 19 = .ok (.iconst (-1), 1) := by decide +kernel
theorem d_G_append_20 : decode m_G_append.2.1 20 = .ok (.ireturn, 1) := by decide +kernel
theorem d_G_append_21 : decode m_G_append.2.1 21 = .ok (.iconst 3, 1) := by decide +kernel
theorem d_G_append_22 : decode m_G_append.2.1 22 = .ok (.iload_n 1, 1) := by decide +kernel
theorem d_G_append_23 : decode m_G_append.2.1 23 = .ok (.imul, 1) := by decide +kernel
theorem d_G_append_24 : decode m_G_append.2.1 24 = .ok (.istore 5, 2) := by decide +kernel
theorem d_G_append_26 : decode m_G_append.2.1 26 = .ok (.iload_n 2, 1) := by decide +kernel
theorem d_G_append_27 : decode m_G_append.2.1 27 = .ok (.getstatic 19, 3) := by decide +kernel
theorem d_G_append_30 : decode m_G_append.2.1 30 = .ok (.iload 5, 2) := by decide +kernel
theorem d_G_append_32 : decode m_G_append.2.1 32 = .ok (.iaload, 1) := by decide +kernel
theorem d_G_append_33 : decode m_G_append.2.1 33 = .ok (.invokestatic 22, 3) := by decide +kernel
theorem d_G_append_36 : decode m_G_append.2.1 36 = .ok (.ifCond .eq 34, 3) := by decide +kernel
theorem d_G_append_39 : decode m_G_append.2.1 39 = .ok (.iload_n 3, 1) := by decide +kernel
theorem d_G_append_40 : decode m_G_append.2.1 40 = .ok (.getstatic 19, 3) := by decide +kernel
theorem d_G_append_43 : decode m_G_append.2.1 43 = .ok (.iload 5, 2) := by decide +kernel
theorem d_G_append_45 : decode m_G_append.2.1 45 = .ok (.iconst 1, 1) := by decide +kernel
theorem d_G_append_46 : decode m_G_append.2.1 46 = .ok (.iadd, 1) := by decide +kernel
theorem d_G_append_47 : decode m_G_append.2.1 47 = .ok (.iaload, 1) := by decide +kernel
theorem d_G_append_48 : decode m_G_append.2.1 48 = .ok (.invokestatic 22, 3) := by decide +kernel
theorem d_G_append_51 : decode m_G_append.2.1 51 = .ok (.ifCond .eq 19, 3) := by decide +kernel
theorem d_G_append_54 : decode m_G_append.2.1 54 = .ok (.iload 4, 2) := by decide +kernel
theorem d_G_append_56 : decode m_G_append.2.1 56 = .ok (.getstatic 19, 3) := by decide +kernel
theorem d_G_append_59 : decode m_G_append.2.1 59 = .ok (.iload 5, 2) := by decide +kernel
theorem d_G_append_61 : decode m_G_append.2.1 61 = .ok (.iconst 2, 1) := by decide +kernel
theorem d_G_append_62 : decode m_G_append.2.1 62 = .ok (.iadd, 1) := by decide +kernel
theorem d_G_append_63 : decode m_G_append.2.1 63 = .ok (.iaload, 1) := by decide +kernel
theorem d_G_append_64 : decode m_G_append.2.1 64 = .ok (.invokestatic 22, 3) := by decide +kernel
theorem d_G_append_67 : decode m_G_append.2.1 67 = .ok (.ifCond .ne 5, 3) := by decide +kernel
theorem d_G_append_70 : decode m_G_append.2.1 70 = .ok (.iconst (-1), 1) := by decide +kernel
theorem d_G_append_71 : decode m_G_append.2.1 71 = .ok (.ireturn, 1) := by decide +kernel
theorem d_G_append_72 : decode m_G_append.2.1 72 = .ok (.iconst 4, 1) := by decide +kernel
theorem d_G_append_73 : decode m_G_append.2.1 73 = .ok (.aload_n 0, 1) := by decide +kernel
theorem d_G_append_74 : decode m_G_append.2.1 74 = .ok (.getfield 15, 3) := by decide +kernel
theorem d_G_append_77 : decode m_G_append.2.1 77 = .ok (.imul, 1) := by decide +kernel
theorem d_G_append_78 : decode m_G_append.2.1 78 = .ok (.istore 6, 2) := by decide +kernel
theorem d_G_append_80 : decode m_G_append.2.1 80 = .ok (.aload_n 0, 1) := by decide +kernel
theorem d_G_append_81 : decode m_G_append.2.1 81 = .ok (.getfield 9, 3) := by decide +kernel
theorem d_G_append_84 : decode m_G_append.2.1 84 = .ok (.iload 6, 2) := by decide +kernel
theorem d_G_append_86 : decode m_G_append.2.1 86 = .ok (.iload_n 1, 1) := by decide +kernel
theorem d_G_append_87 : decode m_G_append.2.1 87 = .ok (.iastore, 1) := by decide +kernel
theorem d_G_append_88 : decode m_G_append.2.1 88 = .ok (.aload_n 0, 1) := by decide +kernel
theorem d_G_append_89 : decode m_G_append.2.1 89 = .ok (.getfield 9, 3) := by decide +kernel
theorem d_G_append_92 : decode m_G_append.2.1 92 = .ok (.iload 6, 2) := by decide +kernel
theorem d_G_append_94 : decode m_G_append.2.1 94 = .ok (.iconst 1, 1) := by decide +kernel
theorem d_G_append_95 : decode m_G_append.2.1 95 = .ok (.iadd, 1) := by decide +kernel
theorem d_G_append_96 : decode m_G_append.2.1 96 = .ok (.iload_n 2, 1) := by decide +kernel
theorem d_G_append_97 : decode m_G_append.2.1 97 = .ok (.iastore, 1) := by decide +kernel
theorem d_G_append_98 : decode m_G_append.2.1 98 = .ok (.aload_n 0, 1) := by decide +kernel
theorem d_G_append_99 : decode m_G_append.2.1 99 = .ok (.getfield 9, 3) := by decide +kernel
theorem d_G_append_102 : decode m_G_append.2.1 102 = .ok (.iload 6, 2) := by decide +kernel
theorem d_G_append_104 : decode m_G_append.2.1 104 = .ok (.iconst 2, 1) := by decide +kernel
theorem d_G_append_105 : decode m_G_append.2.1 105 = .ok (.iadd, 1) := by decide +kernel
theorem d_G_append_106 : decode m_G_append.2.1 106 = .ok (.iload_n 3, 1) := by decide +kernel
theorem d_G_append_107 : decode m_G_append.2.1 107 = .ok (.iastore, 1) := by decide +kernel
theorem d_G_append_108 : decode m_G_append.2.1 108 = .ok (.aload_n 0, 1) := by decide +kernel
theorem d_G_append_109 : decode m_G_append.2.1 109 = .ok (.getfield 9, 3) := by decide +kernel
theorem d_G_append_112 : decode m_G_append.2.1 112 = .ok (.iload 6, 2) := by decide +kernel
theorem d_G_append_114 : decode m_G_append.2.1 114 = .ok (.iconst 3, 1) := by decide +kernel
theorem d_G_append_115 : decode m_G_append.2.1 115 = .ok (.iadd, 1) := by decide +kernel
theorem d_G_append_116 : decode m_G_append.2.1 116 = .ok (.iload 4, 2) := by decide +kernel
theorem d_G_append_118 : decode m_G_append.2.1 118 = .ok (.iastore, 1) := by decide +kernel
theorem d_G_append_119 : decode m_G_append.2.1 119 = .ok (.aload_n 0, 1) := by decide +kernel
theorem d_G_append_120 : decode m_G_append.2.1 120 = .ok (.dup, 1) := by decide +kernel
theorem d_G_append_121 : decode m_G_append.2.1 121 = .ok (.getfield 15, 3) := by decide +kernel
theorem d_G_append_124 : decode m_G_append.2.1 124 = .ok (.iconst 1, 1) := by decide +kernel
theorem d_G_append_125 : decode m_G_append.2.1 125 = .ok (.iadd, 1) := by decide +kernel
theorem d_G_append_126 : decode m_G_append.2.1 126 = .ok (.putfield 15, 3) := by decide +kernel
theorem d_G_append_129 : decode m_G_append.2.1 129 = .ok (.aload_n 0, 1) := by decide +kernel
theorem d_G_append_130 : decode m_G_append.2.1 130 = .ok (.getfield 15, 3) := by decide +kernel
theorem d_G_append_133 : decode m_G_append.2.1 133 = .ok (.iconst 1, 1) := by decide +kernel
theorem d_G_append_134 : decode m_G_append.2.1 134 = .ok (.isub, 1) := by decide +kernel
theorem d_G_append_135 : decode m_G_append.2.1 135 = .ok (.ireturn, 1) := by decide +kernel
theorem d_G_fits_0 : decode m_G_fits.2.1 0 = .ok (.iload_n 1, 1) := by decide +kernel
theorem d_G_fits_1 : decode m_G_fits.2.1 1 = .ok (.ifCond .eq 12, 3) := by decide +kernel
theorem d_G_fits_4 : decode m_G_fits.2.1 4 = .ok (.iload_n 0, 1) := by decide +kernel
theorem d_G_fits_5 : decode m_G_fits.2.1 5 = .ok (.ifCond .lt 12, 3) := by decide +kernel
theorem d_G_fits_8 : decode m_G_fits.2.1 8 = .ok (.iload_n 0, 1) := by decide +kernel
theorem d_G_fits_9 : decode m_G_fits.2.1 9 = .ok (.iload_n 1, 1) := by decide +kernel
theorem d_G_fits_10 : decode m_G_fits.2.1 10 = .ok (.if_icmp .ge 7, 3) := by decide +kernel
theorem d_G_fits_13 : decode m_G_fits.2.1 13 = .ok (.iconst 1, 1) := by decide +kernel
theorem d_G_fits_14 : decode m_G_fits.2.1 14 = .ok (.goto 4, 3) := by decide +kernel
theorem d_G_fits_17 : decode m_G_fits.2.1 17 = .ok (.iconst 0, 1) := by decide +kernel
theorem d_G_fits_18 : decode m_G_fits.2.1 18 = .ok (.ireturn, 1) := by decide +kernel
theorem d_G_reaches_0 : decode m_G_reaches.2.1 0 = .ok (.iload_n 1, 1) := by decide +kernel
theorem d_G_reaches_1 : decode m_G_reaches.2.1 1 = .ok (.ifCond .lt 15, 3) := by decide +kernel
theorem d_G_reaches_4 : decode m_G_reaches.2.1 4 = .ok (.iload_n 1, 1) := by decide +kernel
theorem d_G_reaches_5 : decode m_G_reaches.2.1 5 = .ok (.aload_n 0, 1) := by decide +kernel
theorem d_G_reaches_6 : decode m_G_reaches.2.1 6 = .ok (.getfield 15, 3) := by decide +kernel
theorem d_G_reaches_9 : decode m_G_reaches.2.1 9 = .ok (.if_icmp .ge 7, 3) := by decide +kernel
theorem d_G_reaches_12 : decode m_G_reaches.2.1 12 = .ok (.iconst 1, 1) := by decide +kernel
theorem d_G_reaches_13 : decode m_G_reaches.2.1 13 = .ok (.goto 4, 3) := by decide +kernel
theorem d_G_reaches_16 : decode m_G_reaches.2.1 16 = .ok (.iconst 0, 1) := by decide +kernel
theorem d_G_reaches_17 : decode m_G_reaches.2.1 17 = .ok (.ireturn, 1) := by decide +kernel
theorem d_G_wipe_0 : decode m_G_wipe.2.1 0 = .ok (.aload_n 0, 1) := by decide +kernel
theorem d_G_wipe_1 : decode m_G_wipe.2.1 1 = .ok (.iconst 0, 1) := by decide +kernel
theorem d_G_wipe_2 : decode m_G_wipe.2.1 2 = .ok (.putfield 15, 3) := by decide +kernel
theorem d_G_wipe_5 : decode m_G_wipe.2.1 5 = .ok (.return_, 1) := by decide +kernel
theorem d_S_init_0 : decode m_S_init.2.1 0 = .ok (.aload_n 0, 1) := by decide +kernel
theorem d_S_init_1 : decode m_S_init.2.1 1 = .ok (.invokespecial 3, 3) := by decide +kernel
theorem d_S_init_4 : decode m_S_init.2.1 4 = .ok (.aload_n 0, 1) := by decide +kernel
theorem d_S_init_5 : decode m_S_init.2.1 5 = .ok (.bipush 12, 2) := by decide +kernel
theorem d_S_init_7 : decode m_S_init.2.1 7 = .ok (.anewarray 9, 3) := by decide +kernel
theorem d_S_init_10 : decode m_S_init.2.1 10 = .ok (.putfield 11, 3) := by decide +kernel
theorem d_S_init_13 : decode m_S_init.2.1 13 = .ok (.iconst 0, 1) := by decide +kernel
theorem d_S_init_14 : decode m_S_init.2.1 14 = .ok (.istore_n 1, 1) := by decide +kernel
theorem d_S_init_15 : decode m_S_init.2.1 15 = .ok (.iload_n 1, 1) := by decide +kernel
theorem d_S_init_16 : decode m_S_init.2.1 16 = .ok (.bipush 12, 2) := by decide +kernel
theorem d_S_init_18 : decode m_S_init.2.1 18 = .ok (.if_icmp .ge 23, 3) := by decide +kernel
theorem d_S_init_21 : decode m_S_init.2.1 21 = .ok (.aload_n 0, 1) := by decide +kernel
theorem d_S_init_22 : decode m_S_init.2.1 22 = .ok (.getfield 11, 3) := by decide +kernel
theorem d_S_init_25 : decode m_S_init.2.1 25 = .ok (.iload_n 1, 1) := by decide +kernel
theorem d_S_init_26 : decode m_S_init.2.1 26 = .ok (.new 9, 3) := by decide +kernel
theorem d_S_init_29 : decode m_S_init.2.1 29 = .ok (.dup, 1) := by decide +kernel
theorem d_S_init_30 : decode m_S_init.2.1 30 = .ok (.iload_n 1, 1) := by decide +kernel
theorem d_S_init_31 : decode m_S_init.2.1 31 = .ok (.invokespecial 17, 3) := by decide +kernel
theorem d_S_init_34 : decode m_S_init.2.1 34 = .ok (.aastore, 1) := by decide +kernel
theorem d_S_init_35 : decode m_S_init.2.1 35 = .ok (.iinc 1 1, 3) := by decide +kernel
theorem d_S_init_38 : decode m_S_init.2.1 38 = .ok (.goto (-23), 3) := by decide +kernel
theorem d_S_init_41 : decode m_S_init.2.1 41 = .ok (.aload_n 0, 1) := by decide +kernel
theorem d_S_init_42 : decode m_S_init.2.1 42 = .ok (.new 20, 3) := by decide +kernel
theorem d_S_init_45 : decode m_S_init.2.1 45 = .ok (.dup, 1) := by decide +kernel
theorem d_S_init_46 : decode m_S_init.2.1 46 = .ok (.invokespecial 22, 3) := by decide +kernel
theorem d_S_init_49 : decode m_S_init.2.1 49 = .ok (.putfield 23, 3) := by decide +kernel
theorem d_S_init_52 : decode m_S_init.2.1 52 = .ok (.aload_n 0, 1) := by decide +kernel
theorem d_S_init_53 : decode m_S_init.2.1 53 = .ok (.new 27, 3) := by decide +kernel
theorem d_S_init_56 : decode m_S_init.2.1 56 = .ok (.dup, 1) := by decide +kernel
theorem d_S_init_57 : decode m_S_init.2.1 57 = .ok (.iconst 3, 1) := by decide +kernel
theorem d_S_init_58 : decode m_S_init.2.1 58 = .ok (.iconst 0, 1) := by decide +kernel
theorem d_S_init_59 : decode m_S_init.2.1 59 = .ok (.invokespecial 29, 3) := by decide +kernel
theorem d_S_init_62 : decode m_S_init.2.1 62 = .ok (.putfield 32, 3) := by decide +kernel
theorem d_S_init_65 : decode m_S_init.2.1 65 = .ok (.aload_n 0, 1) := by decide +kernel
theorem d_S_init_66 : decode m_S_init.2.1 66 = .ok (.bipush 16, 2) := by decide +kernel
theorem d_S_init_68 : decode m_S_init.2.1 68 = .ok (.anewarray 27, 3) := by decide +kernel
theorem d_S_init_71 : decode m_S_init.2.1 71 = .ok (.putfield 36, 3) := by decide +kernel
theorem d_S_init_74 : decode m_S_init.2.1 74 = .ok (.iconst 0, 1) := by decide +kernel
theorem d_S_init_75 : decode m_S_init.2.1 75 = .ok (.istore_n 1, 1) := by decide +kernel
theorem d_S_init_76 : decode m_S_init.2.1 76 = .ok (.iload_n 1, 1) := by decide +kernel
theorem d_S_init_77 : decode m_S_init.2.1 77 = .ok (.bipush 16, 2) := by decide +kernel
theorem d_S_init_79 : decode m_S_init.2.1 79 = .ok (.if_icmp .ge 24, 3) := by decide +kernel
theorem d_S_init_82 : decode m_S_init.2.1 82 = .ok (.aload_n 0, 1) := by decide +kernel
theorem d_S_init_83 : decode m_S_init.2.1 83 = .ok (.getfield 36, 3) := by decide +kernel
theorem d_S_init_86 : decode m_S_init.2.1 86 = .ok (.iload_n 1, 1) := by decide +kernel
theorem d_S_init_87 : decode m_S_init.2.1 87 = .ok (.new 27, 3) := by decide +kernel
theorem d_S_init_90 : decode m_S_init.2.1 90 = .ok (.dup, 1) := by decide +kernel
theorem d_S_init_91 : decode m_S_init.2.1 91 = .ok (.iconst 1, 1) := by decide +kernel
theorem d_S_init_92 : decode m_S_init.2.1 92 = .ok (.iload_n 1, 1) := by decide +kernel
theorem d_S_init_93 : decode m_S_init.2.1 93 = .ok (.invokespecial 29, 3) := by decide +kernel
theorem d_S_init_96 : decode m_S_init.2.1 96 = .ok (.aastore, 1) := by decide +kernel
theorem d_S_init_97 : decode m_S_init.2.1 97 = .ok (.iinc 1 1, 3) := by decide +kernel
theorem d_S_init_100 : decode m_S_init.2.1 100 = .ok (.goto (-24), 3) := by decide +kernel
theorem d_S_init_103 : decode m_S_init.2.1 103 = .ok (.aload_n 0, 1) := by decide +kernel
theorem d_S_init_104 : decode m_S_init.2.1 104 = .ok (.iconst 0, 1) := by decide +kernel
theorem d_S_init_105 : decode m_S_init.2.1 105 = .ok (.putfield 40, 3) := by decide +kernel
theorem d_S_init_108 : decode m_S_init.2.1 108 = .ok (.return_, 1) := by decide +kernel
theorem d_S_dissolve_0 : decode m_S_dissolve.2.1 0 = .ok (.aload_n 0, 1) := by decide +kernel
theorem d_S_dissolve_1 : decode m_S_dissolve.2.1 1 = .ok (.iconst 0, 1) := by decide +kernel
theorem d_S_dissolve_2 : decode m_S_dissolve.2.1 2 = .ok (.putfield 40, 3) := by decide +kernel
theorem d_S_dissolve_5 : decode m_S_dissolve.2.1 5 = .ok (.aload_n 0, 1) := by decide +kernel
theorem d_S_dissolve_6 : decode m_S_dissolve.2.1 6 = .ok (.getfield 23, 3) := by decide +kernel
theorem d_S_dissolve_9 : decode m_S_dissolve.2.1 9 = .ok (.invokevirtual 44, 3) := by decide +kernel
theorem d_S_dissolve_12 : decode m_S_dissolve.2.1 12 = .ok (.return_, 1) := by decide +kernel
theorem d_S_numbered_0 : decode m_S_numbered.2.1 0 = .ok (.iload_n 1, 1) := by decide +kernel
theorem d_S_numbered_1 : decode m_S_numbered.2.1 1 = .ok (.ifCond .lt 20, 3) := by decide +kernel
theorem d_S_numbered_4 : decode m_S_numbered.2.1 4 = .ok (.iload_n 1, 1) := by decide +kernel
theorem d_S_numbered_5 : decode m_S_numbered.2.1 5 = .ok (.aload_n 0, 1) := by decide +kernel
theorem d_S_numbered_6 : decode m_S_numbered.2.1 6 = .ok (.getfield 40, 3) := by decide +kernel
theorem d_S_numbered_9 : decode m_S_numbered.2.1 9 = .ok (.if_icmp .ge 12, 3) := by decide +kernel
theorem d_S_numbered_12 : decode m_S_numbered.2.1 12 = .ok (.aload_n 0, 1) := by decide +kernel
theorem d_S_numbered_13 : decode m_S_numbered.2.1 13 = .ok (.getfield 11, 3) := by decide +kernel
theorem d_S_numbered_16 : decode m_S_numbered.2.1 16 = .ok (.iload_n 1, 1) := by decide +kernel
theorem d_S_numbered_17 : decode m_S_numbered.2.1 17 = .ok (.aaload, 1) := by decide +kernel
theorem d_S_numbered_18 : decode m_S_numbered.2.1 18 = .ok (.goto 4, 3) := by decide +kernel
theorem d_S_numbered_21 : decode m_S_numbered.2.1 21 = .ok (.aconst_null, 1) := by decide +kernel
theorem d_S_numbered_22 : decode m_S_numbered.2.1 22 = .ok (.areturn, 1) := by decide +kernel
theorem d_S_bearing_0 : decode m_S_bearing.2.1 0 = .ok (.aload_n 1, 1) := by decide +kernel
theorem d_S_bearing_1 : decode m_S_bearing.2.1 1 = .ok (.getfield 47, 3) := by decide +kernel
theorem d_S_bearing_4 : decode m_S_bearing.2.1 4 = .ok (.iconst 2, 1) := by decide +kernel
theorem d_S_bearing_5 : decode m_S_bearing.2.1 5 = .ok (.if_icmp .ne 14, 3) := by decide +kernel
theorem d_S_bearing_8 : decode m_S_bearing.2.1 8 = .ok (.aload_n 0, 1) := by decide +kernel
theorem d_S_bearing_9 : decode m_S_bearing.2.1 9 = .ok (.aload_n 1, 1) := by decide +kernel
theorem d_S_bearing_10 : decode m_S_bearing.2.1 10 = .ok (.getfield 50, 3) := by decide +kernel
theorem d_S_bearing_13 : decode m_S_bearing.2.1 13 = .ok (.invokevirtual 53, 3) := by decide +kernel
theorem d_S_bearing_16 : decode m_S_bearing.2.1 16 = .ok (.goto 4, 3) := by decide +kernel
theorem d_S_bearing_19 : decode m_S_bearing.2.1 19 = .ok (.aconst_null, 1) := by decide +kernel
theorem d_S_bearing_20 : decode m_S_bearing.2.1 20 = .ok (.areturn, 1) := by decide +kernel
theorem d_S_start_0 : decode m_S_start.2.1 0 = .ok (.aload_n 0, 1) := by decide +kernel
theorem d_S_start_1 : decode m_S_start.2.1 1 = .ok (.getfield 40, 3) := by decide +kernel
theorem d_S_start_4 : decode m_S_start.2.1 4 = .ok (.bipush 12, 2) := by decide +kernel
theorem d_S_start_6 : decode m_S_start.2.1 6 = .ok (.if_icmp .lt 5, 3) := by decide +kernel
theorem d_S_start_9 : decode m_S_start.2.1 9 = .ok (.aconst_null, 1) := by decide +kernel
theorem d_S_start_10 : decode m_S_start.2.1 10 = .ok (.areturn, 1) := by decide +kernel
theorem d_S_start_11 : decode m_S_start.2.1 11 = .ok (.aload_n 0, 1) := by decide +kernel
theorem d_S_start_12 : decode m_S_start.2.1 12 = .ok (.getfield 11, 3) := by decide +kernel
theorem d_S_start_15 : decode m_S_start.2.1 15 = .ok (.aload_n 0, 1) := by decide +kernel
theorem d_S_start_16 : decode m_S_start.2.1 16 = .ok (.getfield 40, 3) := by decide +kernel
theorem d_S_start_19 : decode m_S_start.2.1 19 = .ok (.aaload, 1) := by decide +kernel
theorem d_S_start_20 : decode m_S_start.2.1 20 = .ok (.astore_n 3, 1) := by decide +kernel
theorem d_S_start_21 : decode m_S_start.2.1 21 = .ok (.aload_n 0, 1) := by decide +kernel
theorem d_S_start_22 : decode m_S_start.2.1 22 = .ok (.dup, 1) := by decide +kernel
theorem d_S_start_23 : decode m_S_start.2.1 23 = .ok (.getfield 40, 3) := by decide +kernel
theorem d_S_start_26 : decode m_S_start.2.1 26 = .ok (.iconst 1, 1) := by decide +kernel
theorem d_S_start_27 : decode m_S_start.2.1 27 = .ok (.iadd, 1) := by decide +kernel
theorem d_S_start_28 : decode m_S_start.2.1 28 = .ok (.putfield 40, 3) := by decide +kernel
theorem d_S_start_31 : decode m_S_start.2.1 31 = .ok (.aload_n 3, 1) := by decide +kernel
theorem d_S_start_32 : decode m_S_start.2.1 32 = .ok (.iload_n 1, 1) := by decide +kernel
theorem d_S_start_33 : decode m_S_start.2.1 33 = .ok (.aload_n 2, 1) := by decide +kernel
theorem d_S_start_34 : decode m_S_start.2.1 34 = .ok (.aload_n 0, 1) := by decide +kernel
theorem d_S_start_35 : decode m_S_start.2.1 35 = .ok (.getfield 32, 3) := by decide +kernel
theorem d_S_start_38 : decode m_S_start.2.1 38 = .ok (.invokevirtual 57, 3) := by decide +kernel
theorem d_S_start_41 : decode m_S_start.2.1 41 = .ok (.aload_n 0, 1) := by decide +kernel
theorem d_S_start_42 : decode m_S_start.2.1 42 = .ok (.getfield 23, 3) := by decide +kernel
theorem d_S_start_45 : decode m_S_start.2.1 45 = .ok (.aload_n 3, 1) := by decide +kernel
theorem d_S_start_46 : decode m_S_start.2.1 46 = .ok (.getfield 61, 3) := by decide +kernel
theorem d_S_start_49 : decode m_S_start.2.1 49 = .ok (.invokevirtual 62, 3) := by decide +kernel
theorem d_S_start_52 : decode m_S_start.2.1 52 = .ok (.aload_n 3, 1) := by decide +kernel
theorem d_S_start_53 : decode m_S_start.2.1 53 = .ok (.areturn, 1) := by decide +kernel
theorem d_S_deliver_0 : decode m_S_deliver.2.1 0 = .ok (.aload_n 1, 1) := by decide +kernel
theorem d_S_deliver_1 : decode m_S_deliver.2.1 1 = .ok (.getfield 65, 3) := by decide +kernel
theorem d_S_deliver_4 : decode m_S_deliver.2.1 4 = .ok (.iconst 3, 1) := by decide +kernel
theorem d_S_deliver_5 : decode m_S_deliver.2.1 5 = .ok (.if_icmp .eq 14, 3) := by decide +kernel
theorem d_S_deliver_8 : decode m_S_deliver.2.1 8 = .ok (.aload_n 1, 1) := by decide +kernel
theorem d_S_deliver_9 : decode m_S_deliver.2.1 9 = .ok (.getfield 68, 3) := by decide +kernel
theorem d_S_deliver_12 : decode m_S_deliver.2.1 12 = .ok (.aload_n 2, 1) := by decide +kernel
theorem d_S_deliver_13 : decode m_S_deliver.2.1 13 = .ok (.invokevirtual 72, 3) := by decide +kernel
theorem d_S_deliver_16 : decode m_S_deliver.2.1 16 = .ok (.ifCond .ne 4, 3) := by decide +kernel
theorem d_S_deliver_19 : decode m_S_deliver.2.1 19 = .ok (.return_, 1) := by decide +kernel
theorem d_S_deliver_20 : decode m_S_deliver.2.1 20 = .ok (.aload_n 1, 1) := by decide +kernel
theorem d_S_deliver_21 : decode m_S_deliver.2.1 21 = .ok (.getfield 65, 3) := by decide +kernel
theorem d_S_deliver_24 : decode m_S_deliver.2.1 24 = .ok (.iconst 2, 1) := by decide +kernel
theorem d_S_deliver_25 : decode m_S_deliver.2.1 25 = .ok (.if_icmp .ne 19, 3) := by decide +kernel
theorem d_S_deliver_28 : decode m_S_deliver.2.1 28 = .ok (.aload_n 1, 1) := by decide +kernel
theorem d_S_deliver_29 : decode m_S_deliver.2.1 29 = .ok (.iconst 1, 1) := by decide +kernel
theorem d_S_deliver_30 : decode m_S_deliver.2.1 30 = .ok (.putfield 65, 3) := by decide +kernel
theorem d_S_deliver_33 : decode m_S_deliver.2.1 33 = .ok (.aload_n 0, 1) := by decide +kernel
theorem d_S_deliver_34 : decode m_S_deliver.2.1 34 = .ok (.getfield 23, 3) := by decide +kernel
theorem d_S_deliver_37 : decode m_S_deliver.2.1 37 = .ok (.aload_n 1, 1) := by decide +kernel
theorem d_S_deliver_38 : decode m_S_deliver.2.1 38 = .ok (.getfield 61, 3) := by decide +kernel
theorem d_S_deliver_41 : decode m_S_deliver.2.1 41 = .ok (.invokevirtual 62, 3) := by decide +kernel
theorem d_S_deliver_44 : decode m_S_deliver.2.1 44 = .ok (.return_, 1) := by decide +kernel
theorem d_S_suspend_0 : decode m_S_suspend.2.1 0 = .ok (.aload_n 1, 1) := by decide +kernel
theorem d_S_suspend_1 : decode m_S_suspend.2.1 1 = .ok (.iconst 2, 1) := by decide +kernel
theorem d_S_suspend_2 : decode m_S_suspend.2.1 2 = .ok (.putfield 65, 3) := by decide +kernel
theorem d_S_suspend_5 : decode m_S_suspend.2.1 5 = .ok (.aload_n 0, 1) := by decide +kernel
theorem d_S_suspend_6 : decode m_S_suspend.2.1 6 = .ok (.getfield 23, 3) := by decide +kernel
theorem d_S_suspend_9 : decode m_S_suspend.2.1 9 = .ok (.aload_n 1, 1) := by decide +kernel
theorem d_S_suspend_10 : decode m_S_suspend.2.1 10 = .ok (.getfield 61, 3) := by decide +kernel
theorem d_S_suspend_13 : decode m_S_suspend.2.1 13 = .ok (.invokevirtual 78, 3) := by decide +kernel
theorem d_S_suspend_16 : decode m_S_suspend.2.1 16 = .ok (.return_, 1) := by decide +kernel
theorem d_S_tie_0 : decode m_S_tie.2.1 0 = .ok (.aload_n 1, 1) := by decide +kernel
theorem d_S_tie_1 : decode m_S_tie.2.1 1 = .ok (.dup, 1) := by decide +kernel
theorem d_S_tie_2 : decode m_S_tie.2.1 2 = .ok (.getfield 81, 3) := by decide +kernel
theorem d_S_tie_5 : decode m_S_tie.2.1 5 = .ok (.iconst 1, 1) := by decide +kernel
theorem d_S_tie_6 : decode m_S_tie.2.1 6 = .ok (.aload_n 2, 1) := by decide +kernel
theorem d_S_tie_7 : decode m_S_tie.2.1 7 = .ok (.getfield 61, 3) := by decide +kernel
theorem d_S_tie_10 : decode m_S_tie.2.1 10 = .ok (.ishl, 1) := by decide +kernel
theorem d_S_tie_11 : decode m_S_tie.2.1 11 = .ok (.ior, 1) := by decide +kernel
theorem d_S_tie_12 : decode m_S_tie.2.1 12 = .ok (.putfield 81, 3) := by decide +kernel
theorem d_S_tie_15 : decode m_S_tie.2.1 15 = .ok (.aload_n 2, 1) := by decide +kernel
theorem d_S_tie_16 : decode m_S_tie.2.1 16 = .ok (.dup, 1) := by decide +kernel
theorem d_S_tie_17 : decode m_S_tie.2.1 17 = .ok (.getfield 81, 3) := by decide +kernel
theorem d_S_tie_20 : decode m_S_tie.2.1 20 = .ok (.iconst 1, 1) := by decide +kernel
theorem d_S_tie_21 : decode m_S_tie.2.1 21 = .ok (.aload_n 1, 1) := by decide +kernel
theorem d_S_tie_22 : decode m_S_tie.2.1 22 = .ok (.getfield 61, 3) := by decide +kernel
theorem d_S_tie_25 : decode m_S_tie.2.1 25 = .ok (.ishl, 1) := by decide +kernel
theorem d_S_tie_26 : decode m_S_tie.2.1 26 = .ok (.ior, 1) := by decide +kernel
theorem d_S_tie_27 : decode m_S_tie.2.1 27 = .ok (.putfield 81, 3) := by decide +kernel
theorem d_S_tie_30 : decode m_S_tie.2.1 30 = .ok (.return_, 1) := by decide +kernel
theorem d_S_untie_0 : decode m_S_untie.2.1 0 = .ok (.aload_n 1, 1) := by decide +kernel
theorem d_S_untie_1 : decode m_S_untie.2.1 1 = .ok (.dup, 1) := by decide +kernel
theorem d_S_untie_2 : decode m_S_untie.2.1 2 = .ok (.getfield 81, 3) := by decide +kernel
theorem d_S_untie_5 : decode m_S_untie.2.1 5 = .ok (.iconst 1, 1) := by decide +kernel
theorem d_S_untie_6 : decode m_S_untie.2.1 6 = .ok (.aload_n 2, 1) := by decide +kernel
theorem d_S_untie_7 : decode m_S_untie.2.1 7 = .ok (.getfield 61, 3) := by decide +kernel
theorem d_S_untie_10 : decode m_S_untie.2.1 10 = .ok (.ishl, 1) := by decide +kernel
theorem d_S_untie_11 : decode m_S_untie.2.1 11 = .ok (.iconst (-1), 1) := by decide +kernel
theorem d_S_untie_12 : decode m_S_untie.2.1 12 = .ok (.ixor, 1) := by decide +kernel
theorem d_S_untie_13 : decode m_S_untie.2.1 13 = .ok (.iand, 1) := by decide +kernel
theorem d_S_untie_14 : decode m_S_untie.2.1 14 = .ok (.putfield 81, 3) := by decide +kernel
theorem d_S_untie_17 : decode m_S_untie.2.1 17 = .ok (.aload_n 2, 1) := by decide +kernel
theorem d_S_untie_18 : decode m_S_untie.2.1 18 = .ok (.dup, 1) := by decide +kernel
theorem d_S_untie_19 : decode m_S_untie.2.1 19 = .ok (.getfield 81, 3) := by decide +kernel
theorem d_S_untie_22 : decode m_S_untie.2.1 22 = .ok (.iconst 1, 1) := by decide +kernel
theorem d_S_untie_23 : decode m_S_untie.2.1 23 = .ok (.aload_n 1, 1) := by decide +kernel
theorem d_S_untie_24 : decode m_S_untie.2.1 24 = .ok (.getfield 61, 3) := by decide +kernel
theorem d_S_untie_27 : decode m_S_untie.2.1 27 = .ok (.ishl, 1) := by decide +kernel
theorem d_S_untie_28 : decode m_S_untie.2.1 28 = .ok (.iconst (-1), 1) := by decide +kernel
theorem d_S_untie_29 : decode m_S_untie.2.1 29 = .ok (.ixor, 1) := by decide +kernel
theorem d_S_untie_30 : decode m_S_untie.2.1 30 = .ok (.iand, 1) := by decide +kernel
theorem d_S_untie_31 : decode m_S_untie.2.1 31 = .ok (.putfield 81, 3) := by decide +kernel
theorem d_S_untie_34 : decode m_S_untie.2.1 34 = .ok (.return_, 1) := by decide +kernel
theorem d_S_end_0 : decode m_S_end.2.1 0 = .ok (.aload_n 1, 1) := by decide +kernel
theorem d_S_end_1 : decode m_S_end.2.1 1 = .ok (.getfield 65, 3) := by decide +kernel
theorem d_S_end_4 : decode m_S_end.2.1 4 = .ok (.iconst 3, 1) := by decide +kernel
theorem d_S_end_5 : decode m_S_end.2.1 5 = .ok (.if_icmp .ne 4, 3) := by decide +kernel
theorem d_S_end_8 : decode m_S_end.2.1 8 = .ok (.return_, 1) := by decide +kernel
theorem d_S_end_9 : decode m_S_end.2.1 9 = .ok (.aload_n 1, 1) := by decide +kernel
theorem d_S_end_10 : decode m_S_end.2.1 10 = .ok (.iconst 3, 1) := by decide +kernel
theorem d_S_end_11 : decode m_S_end.2.1 11 = .ok (.putfield 65, 3) := by decide +kernel
theorem d_S_end_14 : decode m_S_end.2.1 14 = .ok (.aload_n 1, 1) := by decide +kernel
theorem d_S_end_15 : decode m_S_end.2.1 15 = .ok (.aload_n 2, 1) := by decide +kernel
theorem d_S_end_16 : decode m_S_end.2.1 16 = .ok (.putfield 84, 3) := by decide +kernel
theorem d_S_end_19 : decode m_S_end.2.1 19 = .ok (.aload_n 0, 1) := by decide +kernel
theorem d_S_end_20 : decode m_S_end.2.1 20 = .ok (.getfield 23, 3) := by decide +kernel
