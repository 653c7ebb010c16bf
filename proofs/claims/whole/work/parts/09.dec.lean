theorem dL_law__390 : decode cL_law_ 390 = .ok (.iadd, 1) := by decide +kernel
theorem dL_law__391 : decode cL_law_ 391 = .ok (.iaload, 1) := by decide +kernel
theorem dL_law__392 : decode cL_law_ 392 = .ok (.aload_n 0, 1) := by decide +kernel
theorem dL_law__393 : decode cL_law_ 393 = .ok (.iload 4, 2) := by decide +kernel
theorem dL_law__395 : decode cL_law_ 395 = .ok (.iconst 4, 1) := by decide +kernel
theorem dL_law__396 : decode cL_law_ 396 = .ok (.iadd, 1) := by decide +kernel
theorem dL_law__397 : decode cL_law_ 397 = .ok (.iaload, 1) := by decide +kernel
theorem dL_law__398 : decode cL_law_ 398 = .ok (.invokevirtual 135, 3) := by decide +kernel
theorem dL_law__401 : decode cL_law_ 401 = .ok (.aload_n 2, 1) := by decide +kernel
theorem dL_law__402 : decode cL_law_ 402 = .ok (.invokevirtual 124, 3) := by decide +kernel
theorem dL_law__405 : decode cL_law_ 405 = .ok (.iload 5, 2) := by decide +kernel
theorem dL_law__407 : decode cL_law_ 407 = .ok (.if_icmp .eq 5, 3) := by decide +kernel
theorem dL_law__410 : decode cL_law_ 410 = .ok (.iconst 0, 1) := by decide +kernel
theorem dL_law__411 : decode cL_law_ 411 = .ok (.ireturn, 1) := by decide +kernel
theorem dL_law__412 : decode cL_law_ 412 = .ok (.goto 1898, 3) := by decide +kernel
theorem dL_law__415 : decode cL_law_ 415 = .ok (.aload_n 1, 1) := by decide +kernel
theorem dL_law__416 : decode cL_law_ 416 = .ok (.aload_n 0, 1) := by decide +kernel
theorem dL_law__417 : decode cL_law_ 417 = .ok (.iload 4, 2) := by decide +kernel
theorem dL_law__419 : decode cL_law_ 419 = .ok (.iconst 1, 1) := by decide +kernel
theorem dL_law__420 : decode cL_law_ 420 = .ok (.iadd, 1) := by decide +kernel
theorem dL_law__421 : decode cL_law_ 421 = .ok (.iaload, 1) := by decide +kernel
theorem dL_law__422 : decode cL_law_ 422 = .ok (.aload_n 0, 1) := by decide +kernel
theorem dL_law__423 : decode cL_law_ 423 = .ok (.iload 4, 2) := by decide +kernel
theorem dL_law__425 : decode cL_law_ 425 = .ok (.iconst 2, 1) := by decide +kernel
theorem dL_law__426 : decode cL_law_ 426 = .ok (.iadd, 1) := by decide +kernel
theorem dL_law__427 : decode cL_law_ 427 = .ok (.iaload, 1) := by decide +kernel
theorem dL_law__428 : decode cL_law_ 428 = .ok (.aload_n 3, 1) := by decide +kernel
theorem dL_law__429 : decode cL_law_ 429 = .ok (.invokestatic 136, 3) := by decide +kernel
theorem dL_law__432 : decode cL_law_ 432 = .ok (.istore 5, 2) := by decide +kernel
theorem dL_law__434 : decode cL_law_ 434 = .ok (.aload_n 2, 1) := by decide +kernel
theorem dL_law__435 : decode cL_law_ 435 = .ok (.aload_n 0, 1) := by decide +kernel
theorem dL_law__436 : decode cL_law_ 436 = .ok (.iload 4, 2) := by decide +kernel
theorem dL_law__438 : decode cL_law_ 438 = .ok (.iconst 1, 1) := by decide +kernel
theorem dL_law__439 : decode cL_law_ 439 = .ok (.iadd, 1) := by decide +kernel
theorem dL_law__440 : decode cL_law_ 440 = .ok (.iaload, 1) := by decide +kernel
theorem dL_law__441 : decode cL_law_ 441 = .ok (.aload_n 0, 1) := by decide +kernel
theorem dL_law__442 : decode cL_law_ 442 = .ok (.iload 4, 2) := by decide +kernel
theorem dL_law__444 : decode cL_law_ 444 = .ok (.iconst 2, 1) := by decide +kernel
theorem dL_law__445 : decode cL_law_ 445 = .ok (.iadd, 1) := by decide +kernel
theorem dL_law__446 : decode cL_law_ 446 = .ok (.iaload, 1) := by decide +kernel
theorem dL_law__447 : decode cL_law_ 447 = .ok (.invokevirtual 138, 3) := by decide +kernel
theorem dL_law__450 : decode cL_law_ 450 = .ok (.istore 6, 2) := by decide +kernel
theorem dL_law__452 : decode cL_law_ 452 = .ok (.aload_n 2, 1) := by decide +kernel
theorem dL_law__453 : decode cL_law_ 453 = .ok (.invokevirtual 124, 3) := by decide +kernel
theorem dL_law__456 : decode cL_law_ 456 = .ok (.iload 5, 2) := by decide +kernel
theorem dL_law__458 : decode cL_law_ 458 = .ok (.if_icmp .eq 5, 3) := by decide +kernel
theorem dL_law__461 : decode cL_law_ 461 = .ok (.iconst 0, 1) := by decide +kernel
theorem dL_law__462 : decode cL_law_ 462 = .ok (.ireturn, 1) := by decide +kernel
theorem dL_law__463 : decode cL_law_ 463 = .ok (.iload 5, 2) := by decide +kernel
theorem dL_law__465 : decode cL_law_ 465 = .ok (.ifCond .ne 15, 3) := by decide +kernel
theorem dL_law__468 : decode cL_law_ 468 = .ok (.aload_n 3, 1) := by decide +kernel
theorem dL_law__469 : decode cL_law_ 469 = .ok (.iconst 0, 1) := by decide +kernel
theorem dL_law__470 : decode cL_law_ 470 = .ok (.laload, 1) := by decide +kernel
theorem dL_law__471 : decode cL_law_ 471 = .ok (.iload 6, 2) := by decide +kernel
theorem dL_law__473 : decode cL_law_ 473 = .ok (.i2l, 1) := by decide +kernel
theorem dL_law__474 : decode cL_law_ 474 = .ok (.lcmp, 1) := by decide +kernel
theorem dL_law__475 : decode cL_law_ 475 = .ok (.ifCond .eq 5, 3) := by decide +kernel
theorem dL_law__478 : decode cL_law_ 478 = .ok (.iconst 0, 1) := by decide +kernel
theorem dL_law__479 : decode cL_law_ 479 = .ok (.ireturn, 1) := by decide +kernel
theorem dL_law__480 : decode cL_law_ 480 = .ok (.goto 1830, 3) := by decide +kernel
theorem dL_law__483 : decode cL_law_ 483 = .ok (.aload_n 1, 1) := by decide +kernel
theorem dL_law__484 : decode cL_law_ 484 = .ok (.aload_n 0, 1) := by decide +kernel
theorem dL_law__485 : decode cL_law_ 485 = .ok (.iload 4, 2) := by decide +kernel
theorem dL_law__487 : decode cL_law_ 487 = .ok (.iconst 1, 1) := by decide +kernel
theorem dL_law__488 : decode cL_law_ 488 = .ok (.iadd, 1) := by decide +kernel
theorem dL_law__489 : decode cL_law_ 489 = .ok (.iaload, 1) := by decide +kernel
theorem dL_law__490 : decode cL_law_ 490 = .ok (.aload_n 3, 1) := by decide +kernel
theorem dL_law__491 : decode cL_law_ 491 = .ok (.invokestatic 139, 3) := by decide +kernel
theorem dL_law__494 : decode cL_law_ 494 = .ok (.istore 5, 2) := by decide +kernel
theorem dL_law__496 : decode cL_law_ 496 = .ok (.aload_n 2, 1) := by decide +kernel
theorem dL_law__497 : decode cL_law_ 497 = .ok (.aload_n 0, 1) := by decide +kernel
theorem dL_law__498 : decode cL_law_ 498 = .ok (.iload 4, 2) := by decide +kernel
theorem dL_law__500 : decode cL_law_ 500 = .ok (.iconst 1, 1) := by decide +kernel
theorem dL_law__501 : decode cL_law_ 501 = .ok (.iadd, 1) := by decide +kernel
theorem dL_law__502 : decode cL_law_ 502 = .ok (.iaload, 1) := by decide +kernel
theorem dL_law__503 : decode cL_law_ 503 = .ok (.invokevirtual 142, 3) := by decide +kernel
theorem dL_law__506 : decode cL_law_ 506 = .ok (.istore 6, 2) := by decide +kernel
theorem dL_law__508 : decode cL_law_ 508 = .ok (.aload_n 2, 1) := by decide +kernel
theorem dL_law__509 : decode cL_law_ 509 = .ok (.invokevirtual 124, 3) := by decide +kernel
theorem dL_law__512 : decode cL_law_ 512 = .ok (.iload 5, 2) := by decide +kernel
theorem dL_law__514 : decode cL_law_ 514 = .ok (.if_icmp .eq 5, 3) := by decide +kernel
theorem dL_law__517 : decode cL_law_ 517 = .ok (.iconst 0, 1) := by decide +kernel
theorem dL_law__518 : decode cL_law_ 518 = .ok (.ireturn, 1) := by decide +kernel
theorem dL_law__519 : decode cL_law_ 519 = .ok (.iload 5, 2) := by decide +kernel
theorem dL_law__521 : decode cL_law_ 521 = .ok (.ifCond .ne 15, 3) := by decide +kernel
theorem dL_law__524 : decode cL_law_ 524 = .ok (.aload_n 3, 1) := by decide +kernel
theorem dL_law__525 : decode cL_law_ 525 = .ok (.iconst 0, 1) := by decide +kernel
theorem dL_law__526 : decode cL_law_ 526 = .ok (.laload, 1) := by decide +kernel
theorem dL_law__527 : decode cL_law_ 527 = .ok (.iload 6, 2) := by decide +kernel
theorem dL_law__529 : decode cL_law_ 529 = .ok (.i2l, 1) := by decide +kernel
theorem dL_law__530 : decode cL_law_ 530 = .ok (.lcmp, 1) := by decide +kernel
theorem dL_law__531 : decode cL_law_ 531 = .ok (.ifCond .eq 5, 3) := by decide +kernel
theorem dL_law__534 : decode cL_law_ 534 = .ok (.iconst 0, 1) := by decide +kernel
theorem dL_law__535 : decode cL_law_ 535 = .ok (.ireturn, 1) := by decide +kernel
theorem dL_law__536 : decode cL_law_ 536 = .ok (.goto 1774, 3) := by decide +kernel
theorem dL_law__539 : decode cL_law_ 539 = .ok (.aload_n 1, 1) := by decide +kernel
theorem dL_law__540 : decode cL_law_ 540 = .ok (.aload_n 0, 1) := by decide +kernel
theorem dL_law__541 : decode cL_law_ 541 = .ok (.iload 4, 2) := by decide +kernel
theorem dL_law__543 : decode cL_law_ 543 = .ok (.iconst 1, 1) := by decide +kernel
theorem dL_law__544 : decode cL_law_ 544 = .ok (.iadd, 1) := by decide +kernel
theorem dL_law__545 : decode cL_law_ 545 = .ok (.iaload, 1) := by decide +kernel
theorem dL_law__546 : decode cL_law_ 546 = .ok (.aload_n 3, 1) := by decide +kernel
theorem dL_law__547 : decode cL_law_ 547 = .ok (.invokestatic 143, 3) := by decide +kernel
theorem dL_law__550 : decode cL_law_ 550 = .ok (.istore 5, 2) := by decide +kernel
theorem dL_law__552 : decode cL_law_ 552 = .ok (.aload_n 2, 1) := by decide +kernel
theorem dL_law__553 : decode cL_law_ 553 = .ok (.aload_n 0, 1) := by decide +kernel
theorem dL_law__554 : decode cL_law_ 554 = .ok (.iload 4, 2) := by decide +kernel
theorem dL_law__556 : decode cL_law_ 556 = .ok (.iconst 1, 1) := by decide +kernel
theorem dL_law__557 : decode cL_law_ 557 = .ok (.iadd, 1) := by decide +kernel
theorem dL_law__558 : decode cL_law_ 558 = .ok (.iaload, 1) := by decide +kernel
theorem dL_law__559 : decode cL_law_ 559 = .ok (.invokevirtual 145, 3) := by decide +kernel
theorem dL_law__562 : decode cL_law_ 562 = .ok (.istore 6, 2) := by decide +kernel
theorem dL_law__564 : decode cL_law_ 564 = .ok (.aload_n 2, 1) := by decide +kernel
theorem dL_law__565 : decode cL_law_ 565 = .ok (.invokevirtual 124, 3) := by decide +kernel
theorem dL_law__568 : decode cL_law_ 568 = .ok (.iload 5, 2) := by decide +kernel
theorem dL_law__570 : decode cL_law_ 570 = .ok (.if_icmp .eq 5, 3) := by decide +kernel
theorem dL_law__573 : decode cL_law_ 573 = .ok (.iconst 0, 1) := by decide +kernel
theorem dL_law__574 : decode cL_law_ 574 = .ok (.ireturn, 1) := by decide +kernel
theorem dL_law__575 : decode cL_law_ 575 = .ok (.iload 5, 2) := by decide +kernel
theorem dL_law__577 : decode cL_law_ 577 = .ok (.ifCond .ne 15, 3) := by decide +kernel
theorem dL_law__580 : decode cL_law_ 580 = .ok (.aload_n 3, 1) := by decide +kernel
theorem dL_law__581 : decode cL_law_ 581 = .ok (.iconst 0, 1) := by decide +kernel
theorem dL_law__582 : decode cL_law_ 582 = .ok (.laload, 1) := by decide +kernel
theorem dL_law__583 : decode cL_law_ 583 = .ok (.iload 6, 2) := by decide +kernel
theorem dL_law__585 : decode cL_law_ 585 = .ok (.i2l, 1) := by decide +kernel
theorem dL_law__586 : decode cL_law_ 586 = .ok (.lcmp, 1) := by decide +kernel
theorem dL_law__587 : decode cL_law_ 587 = .ok (.ifCond .eq 5, 3) := by decide +kernel
theorem dL_law__590 : decode cL_law_ 590 = .ok (.iconst 0, 1) := by decide +kernel
theorem dL_law__591 : decode cL_law_ 591 = .ok (.ireturn, 1) := by decide +kernel
theorem dL_law__592 : decode cL_law_ 592 = .ok (.goto 1718, 3) := by decide +kernel
theorem dL_law__595 : decode cL_law_ 595 = .ok (.aload_n 1, 1) := by decide +kernel
theorem dL_law__596 : decode cL_law_ 596 = .ok (.aload_n 0, 1) := by decide +kernel
theorem dL_law__597 : decode cL_law_ 597 = .ok (.iload 4, 2) := by decide +kernel
theorem dL_law__599 : decode cL_law_ 599 = .ok (.iconst 1, 1) := by decide +kernel
theorem dL_law__600 : decode cL_law_ 600 = .ok (.iadd, 1) := by decide +kernel
theorem dL_law__601 : decode cL_law_ 601 = .ok (.iaload, 1) := by decide +kernel
theorem dL_law__602 : decode cL_law_ 602 = .ok (.aload_n 0, 1) := by decide +kernel
theorem dL_law__603 : decode cL_law_ 603 = .ok (.iload 4, 2) := by decide +kernel
theorem dL_law__605 : decode cL_law_ 605 = .ok (.iconst 2, 1) := by decide +kernel
theorem dL_law__606 : decode cL_law_ 606 = .ok (.iadd, 1) := by decide +kernel
theorem dL_law__607 : decode cL_law_ 607 = .ok (.iaload, 1) := by decide +kernel
theorem dL_law__608 : decode cL_law_ 608 = .ok (.aload_n 3, 1) := by decide +kernel
theorem dL_law__609 : decode cL_law_ 609 = .ok (.invokestatic 146, 3) := by decide +kernel
theorem dL_law__612 : decode cL_law_ 612 = .ok (.istore 5, 2) := by decide +kernel
theorem dL_law__614 : decode cL_law_ 614 = .ok (.aload_n 2, 1) := by decide +kernel
theorem dL_law__615 : decode cL_law_ 615 = .ok (.aload_n 0, 1) := by decide +kernel
theorem dL_law__616 : decode cL_law_ 616 = .ok (.iload 4, 2) := by decide +kernel
theorem dL_law__618 : decode cL_law_ 618 = .ok (.iconst 1, 1) := by decide +kernel
theorem dL_law__619 : decode cL_law_ 619 = .ok (.iadd, 1) := by decide +kernel
theorem dL_law__620 : decode cL_law_ 620 = .ok (.iaload, 1) := by decide +kernel
theorem dL_law__621 : decode cL_law_ 621 = .ok (.aload_n 0, 1) := by decide +kernel
theorem dL_law__622 : decode cL_law_ 622 = .ok (.iload 4, 2) := by decide +kernel
theorem dL_law__624 : decode cL_law_ 624 = .ok (.iconst 2, 1) := by decide +kernel
theorem dL_law__625 : decode cL_law_ 625 = .ok (.iadd, 1) := by decide +kernel
theorem dL_law__626 : decode cL_law_ 626 = .ok (.iaload, 1) := by decide +kernel
theorem dL_law__627 : decode cL_law_ 627 = .ok (.invokevirtual 148, 3) := by decide +kernel
theorem dL_law__630 : decode cL_law_ 630 = .ok (.istore 6, 2) := by decide +kernel
theorem dL_law__632 : decode cL_law_ 632 = .ok (.aload_n 2, 1) := by decide +kernel
theorem dL_law__633 : decode cL_law_ 633 = .ok (.invokevirtual 124, 3) := by decide +kernel
theorem dL_law__636 : decode cL_law_ 636 = .ok (.iload 5, 2) := by decide +kernel
theorem dL_law__638 : decode cL_law_ 638 = .ok (.if_icmp .eq 5, 3) := by decide +kernel
theorem dL_law__641 : decode cL_law_ 641 = .ok (.iconst 0, 1) := by decide +kernel
theorem dL_law__642 : decode cL_law_ 642 = .ok (.ireturn, 1) := by decide +kernel
theorem dL_law__643 : decode cL_law_ 643 = .ok (.iload 5, 2) := by decide +kernel
theorem dL_law__645 : decode cL_law_ 645 = .ok (.ifCond .ne 15, 3) := by decide +kernel
theorem dL_law__648 : decode cL_law_ 648 = .ok (.aload_n 3, 1) := by decide +kernel
theorem dL_law__649 : decode cL_law_ 649 = .ok (.iconst 0, 1) := by decide +kernel
theorem dL_law__650 : decode cL_law_ 650 = .ok (.laload, 1) := by decide +kernel
theorem dL_law__651 : decode cL_law_ 651 = .ok (.iload 6, 2) := by decide +kernel
theorem dL_law__653 : decode cL_law_ 653 = .ok (.i2l, 1) := by decide +kernel
theorem dL_law__654 : decode cL_law_ 654 = .ok (.lcmp, 1) := by decide +kernel
theorem dL_law__655 : decode cL_law_ 655 = .ok (.ifCond .eq 5, 3) := by decide +kernel
theorem dL_law__658 : decode cL_law_ 658 = .ok (.iconst 0, 1) := by decide +kernel
theorem dL_law__659 : decode cL_law_ 659 = .ok (.ireturn, 1) := by decide +kernel
theorem dL_law__660 : decode cL_law_ 660 = .ok (.goto 1650, 3) := by decide +kernel
theorem dL_law__663 : decode cL_law_ 663 = .ok (.aload_n 1, 1) := by decide +kernel
theorem dL_law__664 : decode cL_law_ 664 = .ok (.aload_n 0, 1) := by decide +kernel
theorem dL_law__665 : decode cL_law_ 665 = .ok (.iload 4, 2) := by decide +kernel
theorem dL_law__667 : decode cL_law_ 667 = .ok (.iconst 1, 1) := by decide +kernel
theorem dL_law__668 : decode cL_law_ 668 = .ok (.iadd, 1) := by decide +kernel
theorem dL_law__669 : decode cL_law_ 669 = .ok (.iaload, 1) := by decide +kernel
theorem dL_law__670 : decode cL_law_ 670 = .ok (.aload_n 0, 1) := by decide +kernel
theorem dL_law__671 : decode cL_law_ 671 = .ok (.iload 4, 2) := by decide +kernel
theorem dL_law__673 : decode cL_law_ 673 = .ok (.iconst 2, 1) := by decide +kernel
theorem dL_law__674 : decode cL_law_ 674 = .ok (.iadd, 1) := by decide +kernel
theorem dL_law__675 : decode cL_law_ 675 = .ok (.iaload, 1) := by decide +kernel
theorem dL_law__676 : decode cL_law_ 676 = .ok (.aload_n 0, 1) := by decide +kernel
theorem dL_law__677 : decode cL_law_ 677 = .ok (.iload 4, 2) := by decide +kernel
theorem dL_law__679 : decode cL_law_ 679 = .ok (.iconst 3, 1) := by decide +kernel
theorem dL_law__680 : decode cL_law_ 680 = .ok (.iadd, 1) := by decide +kernel
theorem dL_law__681 : decode cL_law_ 681 = .ok (.iaload, 1) := by decide +kernel
theorem dL_law__682 : decode cL_law_ 682 = .ok (.aload_n 0, 1) := by decide +kernel
theorem dL_law__683 : decode cL_law_ 683 = .ok (.iload 4, 2) := by decide +kernel
theorem dL_law__685 : decode cL_law_ 685 = .ok (.iconst 4, 1) := by decide +kernel
theorem dL_law__686 : decode cL_law_ 686 = .ok (.iadd, 1) := by decide +kernel
theorem dL_law__687 : decode cL_law_ 687 = .ok (.iaload, 1) := by decide +kernel
theorem dL_law__688 : decode cL_law_ 688 = .ok (.aload_n 0, 1) := by decide +kernel
theorem dL_law__689 : decode cL_law_ 689 = .ok (.iload 4, 2) := by decide +kernel
theorem dL_law__691 : decode cL_law_ 691 = .ok (.iconst 5, 1) := by decide +kernel
theorem dL_law__692 : decode cL_law_ 692 = .ok (.iadd, 1) := by decide +kernel
theorem dL_law__693 : decode cL_law_ 693 = .ok (.iaload, 1) := by decide +kernel
theorem dL_law__694 : decode cL_law_ 694 = .ok (.aload_n 3, 1) := by decide +kernel
theorem dL_law__695 : decode cL_law_ 695 = .ok (.invokestatic 149, 3) := by decide +kernel
theorem dL_law__698 : decode cL_law_ 698 = .ok (.istore 5, 2) := by decide +kernel
theorem dL_law__700 : decode cL_law_ 700 = .ok (.aload_n 2, 1) := by decide +kernel
theorem dL_law__701 : decode cL_law_ 701 = .ok (.aload_n 0, 1) := by decide +kernel
theorem dL_law__702 : decode cL_law_ 702 = .ok (.iload 4, 2) := by decide +kernel
theorem dL_law__704 : decode cL_law_ 704 = .ok (.iconst 1, 1) := by decide +kernel
theorem dL_law__705 : decode cL_law_ 705 = .ok (.iadd, 1) := by decide +kernel
theorem dL_law__706 : decode cL_law_ 706 = .ok (.iaload, 1) := by decide +kernel
theorem dL_law__707 : decode cL_law_ 707 = .ok (.aload_n 0, 1) := by decide +kernel
theorem dL_law__708 : decode cL_law_ 708 = .ok (.iload 4, 2) := by decide +kernel
theorem dL_law__710 : decode cL_law_ 710 = .ok (.iconst 2, 1) := by decide +kernel
theorem dL_law__711 : decode cL_law_ 711 = .ok (.iadd, 1) := by decide +kernel
theorem dL_law__712 : decode cL_law_ 712 = .ok (.iaload, 1) := by decide +kernel
theorem dL_law__713 : decode cL_law_ 713 = .ok (.aload_n 0, 1) := by decide +kernel
theorem dL_law__714 : decode cL_law_ 714 = .ok (.iload 4, 2) := by decide +kernel
theorem dL_law__716 : decode cL_law_ 716 = .ok (.iconst 3, 1) := by decide +kernel
theorem dL_law__717 : decode cL_law_ 717 = .ok (.iadd, 1) := by decide +kernel
theorem dL_law__718 : decode cL_law_ 718 = .ok (.iaload, 1) := by decide +kernel
theorem dL_law__719 : decode cL_law_ 719 = .ok (.aload_n 0, 1) := by decide +kernel
theorem dL_law__720 : decode cL_law_ 720 = .ok (.iload 4, 2) := by decide +kernel
theorem dL_law__722 : decode cL_law_ 722 = .ok (.iconst 4, 1) := by decide +kernel
theorem dL_law__723 : decode cL_law_ 723 = .ok (.iadd, 1) := by decide +kernel
theorem dL_law__724 : decode cL_law_ 724 = .ok (.iaload, 1) := by decide +kernel
theorem dL_law__725 : decode cL_law_ 725 = .ok (.aload_n 0, 1) := by decide +kernel
theorem dL_law__726 : decode cL_law_ 726 = .ok (.iload 4, 2) := by decide +kernel
theorem dL_law__728 : decode cL_law_ 728 = .ok (.iconst 5, 1) := by decide +kernel
theorem dL_law__729 : decode cL_law_ 729 = .ok (.iadd, 1) := by decide +kernel
theorem dL_law__730 : decode cL_law_ 730 = .ok (.iaload, 1) := by decide +kernel
theorem dL_law__731 : decode cL_law_ 731 = .ok (.invokevirtual 152, 3) := by decide +kernel
theorem dL_law__734 : decode cL_law_ 734 = .ok (.istore 6, 2) := by decide +kernel
theorem dL_law__736 : decode cL_law_ 736 = .ok (.aload_n 2, 1) := by decide +kernel
theorem dL_law__737 : decode cL_law_ 737 = .ok (.invokevirtual 124, 3) := by decide +kernel
theorem dL_law__740 : decode cL_law_ 740 = .ok (.iload 5, 2) := by decide +kernel
theorem dL_law__742 : decode cL_law_ 742 = .ok (.if_icmp .eq 5, 3) := by decide +kernel
theorem dL_law__745 : decode cL_law_ 745 = .ok (.iconst 0, 1) := by decide +kernel
theorem dL_law__746 : decode cL_law_ 746 = .ok (.ireturn, 1) := by decide +kernel
theorem dL_law__747 : decode cL_law_ 747 = .ok (.iload 5, 2) := by decide +kernel
theorem dL_law__749 : decode cL_law_ 749 = .ok (.ifCond .ne 15, 3) := by decide +kernel
theorem dL_law__752 : decode cL_law_ 752 = .ok (.aload_n 3, 1) := by decide +kernel
theorem dL_law__753 : decode cL_law_ 753 = .ok (.iconst 0, 1) := by decide +kernel
theorem dL_law__754 : decode cL_law_ 754 = .ok (.laload, 1) := by decide +kernel
theorem dL_law__755 : decode cL_law_ 755 = .ok (.iload 6, 2) := by decide +kernel
theorem dL_law__757 : decode cL_law_ 757 = .ok (.i2l, 1) := by decide +kernel
theorem dL_law__758 : decode cL_law_ 758 = .ok (.lcmp, 1) := by decide +kernel
theorem dL_law__759 : decode cL_law_ 759 = .ok (.ifCond .eq 5, 3) := by decide +kernel
theorem dL_law__762 : decode cL_law_ 762 = .ok (.iconst 0, 1) := by decide +kernel
theorem dL_law__763 : decode cL_law_ 763 = .ok (.ireturn, 1) := by decide +kernel
theorem dL_law__764 : decode cL_law_ 764 = .ok (.goto 1546, 3) := by decide +kernel
theorem dL_law__767 : decode cL_law_ 767 = .ok (.aload_n 1, 1) := by decide +kernel
theorem dL_law__768 : decode cL_law_ 768 = .ok (.aload_n 0, 1) := by decide +kernel
theorem dL_law__769 : decode cL_law_ 769 = .ok (.iload 4, 2) := by decide +kernel
theorem dL_law__771 : decode cL_law_ 771 = .ok (.iconst 1, 1) := by decide +kernel
theorem dL_law__772 : decode cL_law_ 772 = .ok (.iadd, 1) := by decide +kernel
theorem dL_law__773 : decode cL_law_ 773 = .ok (.iaload, 1) := by decide +kernel
theorem dL_law__774 : decode cL_law_ 774 = .ok (.aload_n 0, 1) := by decide +kernel
theorem dL_law__775 : decode cL_law_ 775 = .ok (.iload 4, 2) := by decide +kernel
theorem dL_law__777 : decode cL_law_ 777 = .ok (.iconst 2, 1) := by decide +kernel
theorem dL_law__778 : decode cL_law_ 778 = .ok (.iadd, 1) := by decide +kernel
theorem dL_law__779 : decode cL_law_ 779 = .ok (.iaload, 1) := by decide +kernel
theorem dL_law__780 : decode cL_law_ 780 = .ok (.aload_n 0, 1) := by decide +kernel
theorem dL_law__781 : decode cL_law_ 781 = .ok (.iload 4, 2) := by decide +kernel
theorem dL_law__783 : decode cL_law_ 783 = .ok (.iconst 3, 1) := by decide +kernel
theorem dL_law__784 : decode cL_law_ 784 = .ok (.iadd, 1) := by decide +kernel
theorem dL_law__785 : decode cL_law_ 785 = .ok (.iaload, 1) := by decide +kernel
theorem dL_law__786 : decode cL_law_ 786 = .ok (.invokestatic 153, 3) := by decide +kernel
theorem dL_law__789 : decode cL_law_ 789 = .ok (.istore 5, 2) := by decide +kernel
theorem dL_law__791 : decode cL_law_ 791 = .ok (.aload_n 2, 1) := by decide +kernel
theorem dL_law__792 : decode cL_law_ 792 = .ok (.aload_n 0, 1) := by decide +kernel
theorem dL_law__793 : decode cL_law_ 793 = .ok (.iload 4, 2) := by decide +kernel
theorem dL_law__795 : decode cL_law_ 795 = .ok (.iconst 1, 1) := by decide +kernel
theorem dL_law__796 : decode cL_law_ 796 = .ok (.iadd, 1) := by decide +kernel
theorem dL_law__797 : decode cL_law_ 797 = .ok (.iaload, 1) := by decide +kernel
theorem dL_law__798 : decode cL_law_ 798 = .ok (.aload_n 0, 1) := by decide +kernel
theorem dL_law__799 : decode cL_law_ 799 = .ok (.iload 4, 2) := by decide +kernel
theorem dL_law__801 : decode cL_law_ 801 = .ok (.iconst 2, 1) := by decide +kernel
theorem dL_law__802 : decode cL_law_ 802 = .ok (.iadd, 1) := by decide +kernel
theorem dL_law__803 : decode cL_law_ 803 = .ok (.iaload, 1) := by decide +kernel
theorem dL_law__804 : decode cL_law_ 804 = .ok (.aload_n 0, 1) := by decide +kernel
theorem dL_law__805 : decode cL_law_ 805 = .ok (.iload 4, 2) := by decide +kernel
theorem dL_law__807 : decode cL_law_ 807 = .ok (.iconst 3, 1) := by decide +kernel
theorem dL_law__808 : decode cL_law_ 808 = .ok (.iadd, 1) := by decide +kernel
theorem dL_law__809 : decode cL_law_ 809 = .ok (.iaload, 1) := by decide +kernel
theorem dL_law__810 : decode cL_law_ 810 = .ok (.invokevirtual 156, 3) := by decide +kernel
theorem dL_law__813 : decode cL_law_ 813 = .ok (.aload_n 2, 1) := by decide +kernel
theorem dL_law__814 : decode cL_law_ 814 = .ok (.invokevirtual 124, 3) := by decide +kernel
theorem dL_law__817 : decode cL_law_ 817 = .ok (.iload 5, 2) := by decide +kernel
theorem dL_law__819 : decode cL_law_ 819 = .ok (.if_icmp .eq 5, 3) := by decide +kernel
theorem dL_law__822 : decode cL_law_ 822 = .ok (.iconst 0, 1) := by decide +kernel
theorem dL_law__823 : decode cL_law_ 823 = .ok (.ireturn, 1) := by decide +kernel
theorem dL_law__824 : decode cL_law_ 824 = .ok (.goto 1486, 3) := by decide +kernel
theorem dL_law__827 : decode cL_law_ 827 = .ok (.aload_n 1, 1) := by decide +kernel
theorem dL_law__828 : decode cL_law_ 828 = .ok (.aload_n 0, 1) := by decide +kernel
theorem dL_law__829 : decode cL_law_ 829 = .ok (.iload 4, 2) := by decide +kernel
theorem dL_law__831 : decode cL_law_ 831 = .ok (.iconst 1, 1) := by decide +kernel
theorem dL_law__832 : decode cL_law_ 832 = .ok (.iadd, 1) := by decide +kernel
theorem dL_law__833 : decode cL_law_ 833 = .ok (.iaload, 1) := by decide +kernel
theorem dL_law__834 : decode cL_law_ 834 = .ok (.aload_n 0, 1) := by decide +kernel
theorem dL_law__835 : decode cL_law_ 835 = .ok (.iload 4, 2) := by decide +kernel
theorem dL_law__837 : decode cL_law_ 837 = .ok (.iconst 2, 1) := by decide +kernel
theorem dL_law__838 : decode cL_law_ 838 = .ok (.iadd, 1) := by decide +kernel
theorem dL_law__839 : decode cL_law_ 839 = .ok (.iaload, 1) := by decide +kernel
theorem dL_law__840 : decode cL_law_ 840 = .ok (.ifCond .eq 7, 3) := by decide +kernel
theorem dL_law__843 : decode cL_law_ 843 = .ok (.iconst 1, 1) := by decide +kernel
theorem dL_law__844 : decode cL_law_ 844 = .ok (.goto 4, 3) := by decide +kernel
theorem dL_law__847 : decode cL_law_ 847 = .ok (.iconst 0, 1) := by decide +kernel
theorem dL_law__848 : decode cL_law_ 848 = .ok (.aload_n 3, 1) := by decide +kernel
theorem dL_law__849 : decode cL_law_ 849 = .ok (.invokestatic 157, 3) := by decide +kernel
theorem dL_law__852 : decode cL_law_ 852 = .ok (.istore 5, 2) := by decide +kernel
theorem dL_law__854 : decode cL_law_ 854 = .ok (.aload_n 2, 1) := by decide +kernel
theorem dL_law__855 : decode cL_law_ 855 = .ok (.aload_n 0, 1) := by decide +kernel
theorem dL_law__856 : decode cL_law_ 856 = .ok (.iload 4, 2) := by decide +kernel
theorem dL_law__858 : decode cL_law_ 858 = .ok (.iconst 1, 1) := by decide +kernel
theorem dL_law__859 : decode cL_law_ 859 = .ok (.iadd, 1) := by decide +kernel
theorem dL_law__860 : decode cL_law_ 860 = .ok (.iaload, 1) := by decide +kernel
theorem dL_law__861 : decode cL_law_ 861 = .ok (.aload_n 0, 1) := by decide +kernel
theorem dL_law__862 : decode cL_law_ 862 = .ok (.iload 4, 2) := by decide +kernel
theorem dL_law__864 : decode cL_law_ 864 = .ok (.iconst 2, 1) := by decide +kernel
theorem dL_law__865 : decode cL_law_ 865 = .ok (.iadd, 1) := by decide +kernel
theorem dL_law__866 : decode cL_law_ 866 = .ok (.iaload, 1) := by decide +kernel
theorem dL_law__867 : decode cL_law_ 867 = .ok (.ifCond .eq 7, 3) := by decide +kernel
theorem dL_law__870 : decode cL_law_ 870 = .ok (.iconst 1, 1) := by decide +kernel
theorem dL_law__871 : decode cL_law_ 871 = .ok (.goto 4, 3) := by decide +kernel
theorem dL_law__874 : decode cL_law_ 874 = .ok (.iconst 0, 1) := by decide +kernel
theorem dL_law__875 : decode cL_law_ 875 = .ok (.invokevirtual 159, 3) := by decide +kernel
theorem dL_law__878 : decode cL_law_ 878 = .ok (.istore 6, 2) := by decide +kernel
theorem dL_law__880 : decode cL_law_ 880 = .ok (.aload_n 2, 1) := by decide +kernel
theorem dL_law__881 : decode cL_law_ 881 = .ok (.invokevirtual 124, 3) := by decide +kernel
theorem dL_law__884 : decode cL_law_ 884 = .ok (.iload 5, 2) := by decide +kernel
theorem dL_law__886 : decode cL_law_ 886 = .ok (.if_icmp .eq 5, 3) := by decide +kernel
theorem dL_law__889 : decode cL_law_ 889 = .ok (.iconst 0, 1) := by decide +kernel
theorem dL_law__890 : decode cL_law_ 890 = .ok (.ireturn, 1) := by decide +kernel
theorem dL_law__891 : decode cL_law_ 891 = .ok (.iload 5, 2) := by decide +kernel
theorem dL_law__893 : decode cL_law_ 893 = .ok (.ifCond .ne 22, 3) := by decide +kernel
theorem dL_law__896 : decode cL_law_ 896 = .ok (.aload_n 3, 1) := by decide +kernel
theorem dL_law__897 : decode cL_law_ 897 = .ok (.iconst 0, 1) := by decide +kernel
theorem dL_law__898 : decode cL_law_ 898 = .ok (.laload, 1) := by decide +kernel
theorem dL_law__899 : decode cL_law_ 899 = .ok (.iload 6, 2) := by decide +kernel
theorem dL_law__901 : decode cL_law_ 901 = .ok (.ifCond .eq 7, 3) := by decide +kernel
theorem dL_law__904 : decode cL_law_ 904 = .ok (.lconst 1, 1) := by decide +kernel
theorem dL_law__905 : decode cL_law_ 905 = .ok (.goto 4, 3) := by decide +kernel
theorem dL_law__908 : decode cL_law_ 908 = .ok (.lconst 0, 1) := by decide +kernel
theorem dL_law__909 : decode cL_law_ 909 = .ok (.lcmp, 1) := by decide +kernel
theorem dL_law__910 : decode cL_law_ 910 = .ok (.ifCond .eq 5, 3) := by decide +kernel
theorem dL_law__913 : decode cL_law_ 913 = .ok (.iconst 0, 1) := by decide +kernel
theorem dL_law__914 : decode cL_law_ 914 = .ok (.ireturn, 1) := by decide +kernel
theorem dL_law__915 : decode cL_law_ 915 = .ok (.goto 1395, 3) := by decide +kernel
theorem dL_law__918 : decode cL_law_ 918 = .ok (.aload_n 1, 1) := by decide +kernel
theorem dL_law__919 : decode cL_law_ 919 = .ok (.aload_n 0, 1) := by decide +kernel
theorem dL_law__920 : decode cL_law_ 920 = .ok (.iload 4, 2) := by decide +kernel
theorem dL_law__922 : decode cL_law_ 922 = .ok (.iconst 1, 1) := by decide +kernel
theorem dL_law__923 : decode cL_law_ 923 = .ok (.iadd, 1) := by decide +kernel
theorem dL_law__924 : decode cL_law_ 924 = .ok (.iaload, 1) := by decide +kernel
theorem dL_law__925 : decode cL_law_ 925 = .ok (.aload_n 0, 1) := by decide +kernel
theorem dL_law__926 : decode cL_law_ 926 = .ok (.iload 4, 2) := by decide +kernel
theorem dL_law__928 : decode cL_law_ 928 = .ok (.iconst 2, 1) := by decide +kernel
theorem dL_law__929 : decode cL_law_ 929 = .ok (.iadd, 1) := by decide +kernel
theorem dL_law__930 : decode cL_law_ 930 = .ok (.iaload, 1) := by decide +kernel
theorem dL_law__931 : decode cL_law_ 931 = .ok (.aload_n 3, 1) := by decide +kernel
theorem dL_law__932 : decode cL_law_ 932 = .ok (.invokestatic 160, 3) := by decide +kernel
theorem dL_law__935 : decode cL_law_ 935 = .ok (.istore 5, 2) := by decide +kernel
theorem dL_law__937 : decode cL_law_ 937 = .ok (.aload_n 2, 1) := by decide +kernel
theorem dL_law__938 : decode cL_law_ 938 = .ok (.aload_n 0, 1) := by decide +kernel
theorem dL_law__939 : decode cL_law_ 939 = .ok (.iload 4, 2) := by decide +kernel
theorem dL_law__941 : decode cL_law_ 941 = .ok (.iconst 1, 1) := by decide +kernel
theorem dL_law__942 : decode cL_law_ 942 = .ok (.iadd, 1) := by decide +kernel
theorem dL_law__943 : decode cL_law_ 943 = .ok (.iaload, 1) := by decide +kernel
theorem dL_law__944 : decode cL_law_ 944 = .ok (.aload_n 0, 1) := by decide +kernel
theorem dL_law__945 : decode cL_law_ 945 = .ok (.iload 4, 2) := by decide +kernel
theorem dL_law__947 : decode cL_law_ 947 = .ok (.iconst 2, 1) := by decide +kernel
theorem dL_law__948 : decode cL_law_ 948 = .ok (.iadd, 1) := by decide +kernel
theorem dL_law__949 : decode cL_law_ 949 = .ok (.iaload, 1) := by decide +kernel
theorem dL_law__950 : decode cL_law_ 950 = .ok (.invokevirtual 162, 3) := by decide +kernel
theorem dL_law__953 : decode cL_law_ 953 = .ok (.istore 6, 2) := by decide +kernel
theorem dL_law__955 : decode cL_law_ 955 = .ok (.aload_n 2, 1) := by decide +kernel
theorem dL_law__956 : decode cL_law_ 956 = .ok (.invokevirtual 124, 3) := by decide +kernel
theorem dL_law__959 : decode cL_law_ 959 = .ok (.iload 5, 2) := by decide +kernel
theorem dL_law__961 : decode cL_law_ 961 = .ok (.if_icmp .eq 5, 3) := by decide +kernel
theorem dL_law__964 : decode cL_law_ 964 = .ok (.iconst 0, 1) := by decide +kernel
theorem dL_law__965 : decode cL_law_ 965 = .ok (.ireturn, 1) := by decide +kernel
theorem dL_law__966 : decode cL_law_ 966 = .ok (.iload 5, 2) := by decide +kernel
theorem dL_law__968 : decode cL_law_ 968 = .ok (.ifCond .ne 15, 3) := by decide +kernel
theorem dL_law__971 : decode cL_law_ 971 = .ok (.aload_n 3, 1) := by decide +kernel
theorem dL_law__972 : decode cL_law_ 972 = .ok (.iconst 0, 1) := by decide +kernel
theorem dL_law__973 : decode cL_law_ 973 = .ok (.laload, 1) := by decide +kernel
theorem dL_law__974 : decode cL_law_ 974 = .ok (.iload 6, 2) := by decide +kernel
theorem dL_law__976 : decode cL_law_ 976 = .ok (.i2l, 1) := by decide +kernel
theorem dL_law__977 : decode cL_law_ 977 = .ok (.lcmp, 1) := by decide +kernel
theorem dL_law__978 : decode cL_law_ 978 = .ok (.ifCond .eq 5, 3) := by decide +kernel
theorem dL_law__981 : decode cL_law_ 981 = .ok (.iconst 0, 1) := by decide +kernel
theorem dL_law__982 : decode cL_law_ 982 = .ok (.ireturn, 1) := by decide +kernel
theorem dL_law__983 : decode cL_law_ 983 = .ok (.goto 1327, 3) := by decide +kernel
theorem dL_law__986 : decode cL_law_ 986 = .ok (.aload_n 1, 1) := by decide +kernel
theorem dL_law__987 : decode cL_law_ 987 = .ok (.aload_n 0, 1) := by decide +kernel
theorem dL_law__988 : decode cL_law_ 988 = .ok (.iload 4, 2) := by decide +kernel
theorem dL_law__990 : decode cL_law_ 990 = .ok (.iconst 1, 1) := by decide +kernel
theorem dL_law__991 : decode cL_law_ 991 = .ok (.iadd, 1) := by decide +kernel
theorem dL_law__992 : decode cL_law_ 992 = .ok (.iaload, 1) := by decide +kernel
theorem dL_law__993 : decode cL_law_ 993 = .ok (.aload_n 0, 1) := by decide +kernel
theorem dL_law__994 : decode cL_law_ 994 = .ok (.iload 4, 2) := by decide +kernel
theorem dL_law__996 : decode cL_law_ 996 = .ok (.iconst 2, 1) := by decide +kernel
theorem dL_law__997 : decode cL_law_ 997 = .ok (.iadd, 1) := by decide +kernel
theorem dL_law__998 : decode cL_law_ 998 = .ok (.iaload, 1) := by decide +kernel
theorem dL_law__999 : decode cL_law_ 999 = .ok (.aload_n 0, 1) := by decide +kernel
theorem dL_law__1000 : decode cL_law_ 1000 = .ok (.iload 4, 2) := by decide +kernel
theorem dL_law__1002 : decode cL_law_ 1002 = .ok (.iconst 3, 1) := by decide +kernel
theorem dL_law__1003 : decode cL_law_ 1003 = .ok (.iadd, 1) := by decide +kernel
theorem dL_law__1004 : decode cL_law_ 1004 = .ok (.iaload, 1) := by decide +kernel
theorem dL_law__1005 : decode cL_law_ 1005 = .ok (.aload_n 0, 1) := by decide +kernel
theorem dL_law__1006 : decode cL_law_ 1006 = .ok (.iload 4, 2) := by decide +kernel
theorem dL_law__1008 : decode cL_law_ 1008 = .ok (.iconst 4, 1) := by decide +kernel
theorem dL_law__1009 : decode cL_law_ 1009 = .ok (.iadd, 1) := by decide +kernel
theorem dL_law__1010 : decode cL_law_ 1010 = .ok (.iaload, 1) := by decide +kernel
theorem dL_law__1011 : decode cL_law_ 1011 = .ok (.aload_n 0, 1) := by decide +kernel
theorem dL_law__1012 : decode cL_law_ 1012 = .ok (.iload 4, 2) := by decide +kernel
theorem dL_law__1014 : decode cL_law_ 1014 = .ok (.iconst 5, 1) := by decide +kernel
theorem dL_law__1015 : decode cL_law_ 1015 = .ok (.iadd, 1) := by decide +kernel
theorem dL_law__1016 : decode cL_law_ 1016 = .ok (.iaload, 1) := by decide +kernel
theorem dL_law__1017 : decode cL_law_ 1017 = .ok (.aload_n 3, 1) := by decide +kernel
theorem dL_law__1018 : decode cL_law_ 1018 = .ok (.invokestatic 163, 3) := by decide +kernel
theorem dL_law__1021 : decode cL_law_ 1021 = .ok (.istore 5, 2) := by decide +kernel
theorem dL_law__1023 : decode cL_law_ 1023 = .ok (.aload_n 2, 1) := by decide +kernel
theorem dL_law__1024 : decode cL_law_ 1024 = .ok (.aload_n 0, 1) := by decide +kernel
theorem dL_law__1025 : decode cL_law_ 1025 = .ok (.iload 4, 2) := by decide +kernel
theorem dL_law__1027 : decode cL_law_ 1027 = .ok (.iconst 1, 1) := by decide +kernel
theorem dL_law__1028 : decode cL_law_ 1028 = .ok (.iadd, 1) := by decide +kernel
theorem dL_law__1029 : decode cL_law_ 1029 = .ok (.iaload, 1) := by decide +kernel
theorem dL_law__1030 : decode cL_law_ 1030 = .ok (.aload_n 0, 1) := by decide +kernel
theorem dL_law__1031 : decode cL_law_ 1031 = .ok (.iload 4, 2) := by decide +kernel
theorem dL_law__1033 : decode cL_law_ 1033 = .ok (.iconst 2, 1) := by decide +kernel
theorem dL_law__1034 : decode cL_law_ 1034 = .ok (.iadd, 1) := by decide +kernel
theorem dL_law__1035 : decode cL_law_ 1035 = .ok (.iaload, 1) := by decide +kernel
theorem dL_law__1036 : decode cL_law_ 1036 = .ok (.aload_n 0, 1) := by decide +kernel
theorem dL_law__1037 : decode cL_law_ 1037 = .ok (.iload 4, 2) := by decide +kernel
theorem dL_law__1039 : decode cL_law_ 1039 = .ok (.iconst 3, 1) := by decide +kernel
theorem dL_law__1040 : decode cL_law_ 1040 = .ok (.iadd, 1) := by decide +kernel
theorem dL_law__1041 : decode cL_law_ 1041 = .ok (.iaload, 1) := by decide +kernel
theorem dL_law__1042 : decode cL_law_ 1042 = .ok (.aload_n 0, 1) := by decide +kernel
theorem dL_law__1043 : decode cL_law_ 1043 = .ok (.iload 4, 2) := by decide +kernel
theorem dL_law__1045 : decode cL_law_ 1045 = .ok (.iconst 4, 1) := by decide +kernel
theorem dL_law__1046 : decode cL_law_ 1046 = .ok (.iadd, 1) := by decide +kernel
theorem dL_law__1047 : decode cL_law_ 1047 = .ok (.iaload, 1) := by decide +kernel
theorem dL_law__1048 : decode cL_law_ 1048 = .ok (.aload_n 0, 1) := by decide +kernel
theorem dL_law__1049 : decode cL_law_ 1049 = .ok (.iload 4, 2) := by decide +kernel
theorem dL_law__1051 : decode cL_law_ 1051 = .ok (.iconst 5, 1) := by decide +kernel
theorem dL_law__1052 : decode cL_law_ 1052 = .ok (.iadd, 1) := by decide +kernel
theorem dL_law__1053 : decode cL_law_ 1053 = .ok (.iaload, 1) := by decide +kernel
theorem dL_law__1054 : decode cL_law_ 1054 = .ok (.invokevirtual 165, 3) := by decide +kernel
theorem dL_law__1057 : decode cL_law_ 1057 = .ok (.istore 6, 2) := by decide +kernel
theorem dL_law__1059 : decode cL_law_ 1059 = .ok (.aload_n 2, 1) := by decide +kernel
theorem dL_law__1060 : decode cL_law_ 1060 = .ok (.invokevirtual 124, 3) := by decide +kernel
theorem dL_law__1063 : decode cL_law_ 1063 = .ok (.iload 5, 2) := by decide +kernel
theorem dL_law__1065 : decode cL_law_ 1065 = .ok (.if_icmp .eq 5, 3) := by decide +kernel
theorem dL_law__1068 : decode cL_law_ 1068 = .ok (.iconst 0, 1) := by decide +kernel
theorem dL_law__1069 : decode cL_law_ 1069 = .ok (.ireturn, 1) := by decide +kernel
theorem dL_law__1070 : decode cL_law_ 1070 = .ok (.iload 5, 2) := by decide +kernel
theorem dL_law__1072 : decode cL_law_ 1072 = .ok (.ifCond .ne 15, 3) := by decide +kernel
theorem dL_law__1075 : decode cL_law_ 1075 = .ok (.aload_n 3, 1) := by decide +kernel
theorem dL_law__1076 : decode cL_law_ 1076 = .ok (.iconst 0, 1) := by decide +kernel
theorem dL_law__1077 : decode cL_law_ 1077 = .ok (.laload, 1) := by decide +kernel
theorem dL_law__1078 : decode cL_law_ 1078 = .ok (.iload 6, 2) := by decide +kernel
theorem dL_law__1080 : decode cL_law_ 1080 = .ok (.i2l, 1) := by decide +kernel
theorem dL_law__1081 : decode cL_law_ 1081 = .ok (.lcmp, 1) := by decide +kernel
theorem dL_law__1082 : decode cL_law_ 1082 = .ok (.ifCond .eq 5, 3) := by decide +kernel
theorem dL_law__1085 : decode cL_law_ 1085 = .ok (.iconst 0, 1) := by decide +kernel
theorem dL_law__1086 : decode cL_law_ 1086 = .ok (.ireturn, 1) := by decide +kernel
theorem dL_law__1087 : decode cL_law_ 1087 = .ok (.goto 1223, 3) := by decide +kernel
theorem dL_law__1090 : decode cL_law_ 1090 = .ok (.aload_n 1, 1) := by decide +kernel
theorem dL_law__1091 : decode cL_law_ 1091 = .ok (.aload_n 0, 1) := by decide +kernel
theorem dL_law__1092 : decode cL_law_ 1092 = .ok (.iload 4, 2) := by decide +kernel
theorem dL_law__1094 : decode cL_law_ 1094 = .ok (.iconst 1, 1) := by decide +kernel
theorem dL_law__1095 : decode cL_law_ 1095 = .ok (.iadd, 1) := by decide +kernel
theorem dL_law__1096 : decode cL_law_ 1096 = .ok (.iaload, 1) := by decide +kernel
theorem dL_law__1097 : decode cL_law_ 1097 = .ok (.aload_n 3, 1) := by decide +kernel
theorem dL_law__1098 : decode cL_law_ 1098 = .ok (.invokestatic 166, 3) := by decide +kernel
theorem dL_law__1101 : decode cL_law_ 1101 = .ok (.istore 5, 2) := by decide +kernel
theorem dL_law__1103 : decode cL_law_ 1103 = .ok (.aload_n 2, 1) := by decide +kernel
theorem dL_law__1104 : decode cL_law_ 1104 = .ok (.aload_n 0, 1) := by decide +kernel
theorem dL_law__1105 : decode cL_law_ 1105 = .ok (.iload 4, 2) := by decide +kernel
theorem dL_law__1107 : decode cL_law_ 1107 = .ok (.iconst 1, 1) := by decide +kernel
theorem dL_law__1108 : decode cL_law_ 1108 = .ok (.iadd, 1) := by decide +kernel
theorem dL_law__1109 : decode cL_law_ 1109 = .ok (.iaload, 1) := by decide +kernel
theorem dL_law__1110 : decode cL_law_ 1110 = .ok (.invokevirtual 168, 3) := by decide +kernel
theorem dL_law__1113 : decode cL_law_ 1113 = .ok (.istore 6, 2) := by decide +kernel
theorem dL_law__1115 : decode cL_law_ 1115 = .ok (.aload_n 2, 1) := by decide +kernel
theorem dL_law__1116 : decode cL_law_ 1116 = .ok (.invokevirtual 124, 3) := by decide +kernel
theorem dL_law__1119 : decode cL_law_ 1119 = .ok (.iload 5, 2) := by decide +kernel
theorem dL_law__1121 : decode cL_law_ 1121 = .ok (.if_icmp .eq 5, 3) := by decide +kernel
theorem dL_law__1124 : decode cL_law_ 1124 = .ok (.iconst 0, 1) := by decide +kernel
theorem dL_law__1125 : decode cL_law_ 1125 = .ok (.ireturn, 1) := by decide +kernel
theorem dL_law__1126 : decode cL_law_ 1126 = .ok (.iload 5, 2) := by decide +kernel
theorem dL_law__1128 : decode cL_law_ 1128 = .ok (.ifCond .ne 15, 3) := by decide +kernel
theorem dL_law__1131 : decode cL_law_ 1131 = .ok (.aload_n 3, 1) := by decide +kernel
theorem dL_law__1132 : decode cL_law_ 1132 = .ok (.iconst 0, 1) := by decide +kernel
theorem dL_law__1133 : decode cL_law_ 1133 = .ok (.laload, 1) := by decide +kernel
theorem dL_law__1134 : decode cL_law_ 1134 = .ok (.iload 6, 2) := by decide +kernel
theorem dL_law__1136 : decode cL_law_ 1136 = .ok (.i2l, 1) := by decide +kernel
theorem dL_law__1137 : decode cL_law_ 1137 = .ok (.lcmp, 1) := by decide +kernel
theorem dL_law__1138 : decode cL_law_ 1138 = .ok (.ifCond .eq 5, 3) := by decide +kernel
theorem dL_law__1141 : decode cL_law_ 1141 = .ok (.iconst 0, 1) := by decide +kernel
theorem dL_law__1142 : decode cL_law_ 1142 = .ok (.ireturn, 1) := by decide +kernel
theorem dL_law__1143 : decode cL_law_ 1143 = .ok (.goto 1167, 3) := by decide +kernel
theorem dL_law__1146 : decode cL_law_ 1146 = .ok (.aload_n 1, 1) := by decide +kernel
theorem dL_law__1147 : decode cL_law_ 1147 = .ok (.aload_n 0, 1) := by decide +kernel
theorem dL_law__1148 : decode cL_law_ 1148 = .ok (.iload 4, 2) := by decide +kernel
theorem dL_law__1150 : decode cL_law_ 1150 = .ok (.iconst 1, 1) := by decide +kernel
theorem dL_law__1151 : decode cL_law_ 1151 = .ok (.iadd, 1) := by decide +kernel
theorem dL_law__1152 : decode cL_law_ 1152 = .ok (.iaload, 1) := by decide +kernel
theorem dL_law__1153 : decode cL_law_ 1153 = .ok (.aload_n 0, 1) := by decide +kernel
theorem dL_law__1154 : decode cL_law_ 1154 = .ok (.iload 4, 2) := by decide +kernel
theorem dL_law__1156 : decode cL_law_ 1156 = .ok (.iconst 2, 1) := by decide +kernel
theorem dL_law__1157 : decode cL_law_ 1157 = .ok (.iadd, 1) := by decide +kernel
theorem dL_law__1158 : decode cL_law_ 1158 = .ok (.iaload, 1) := by decide +kernel
theorem dL_law__1159 : decode cL_law_ 1159 = .ok (.aload_n 0, 1) := by decide +kernel
theorem dL_law__1160 : decode cL_law_ 1160 = .ok (.iload 4, 2) := by decide +kernel
theorem dL_law__1162 : decode cL_law_ 1162 = .ok (.iconst 3, 1) := by decide +kernel
theorem dL_law__1163 : decode cL_law_ 1163 = .ok (.iadd, 1) := by decide +kernel
theorem dL_law__1164 : decode cL_law_ 1164 = .ok (.iaload, 1) := by decide +kernel
theorem dL_law__1165 : decode cL_law_ 1165 = .ok (.aload_n 3, 1) := by decide +kernel
theorem dL_law__1166 : decode cL_law_ 1166 = .ok (.invokestatic 169, 3) := by decide +kernel
theorem dL_law__1169 : decode cL_law_ 1169 = .ok (.istore 5, 2) := by decide +kernel
theorem dL_law__1171 : decode cL_law_ 1171 = .ok (.aload_n 2, 1) := by decide +kernel
theorem dL_law__1172 : decode cL_law_ 1172 = .ok (.aload_n 0, 1) := by decide +kernel
theorem dL_law__1173 : decode cL_law_ 1173 = .ok (.iload 4, 2) := by decide +kernel
theorem dL_law__1175 : decode cL_law_ 1175 = .ok (.iconst 1, 1) := by decide +kernel
theorem dL_law__1176 : decode cL_law_ 1176 = .ok (.iadd, 1) := by decide +kernel
theorem dL_law__1177 : decode cL_law_ 1177 = .ok (.iaload, 1) := by decide +kernel
theorem dL_law__1178 : decode cL_law_ 1178 = .ok (.aload_n 0, 1) := by decide +kernel
theorem dL_law__1179 : decode cL_law_ 1179 = .ok (.iload 4, 2) := by decide +kernel
theorem dL_law__1181 : decode cL_law_ 1181 = .ok (.iconst 2, 1) := by decide +kernel
theorem dL_law__1182 : decode cL_law_ 1182 = .ok (.iadd, 1) := by decide +kernel
theorem dL_law__1183 : decode cL_law_ 1183 = .ok (.iaload, 1) := by decide +kernel
theorem dL_law__1184 : decode cL_law_ 1184 = .ok (.aload_n 0, 1) := by decide +kernel
theorem dL_law__1185 : decode cL_law_ 1185 = .ok (.iload 4, 2) := by decide +kernel
theorem dL_law__1187 : decode cL_law_ 1187 = .ok (.iconst 3, 1) := by decide +kernel
theorem dL_law__1188 : decode cL_law_ 1188 = .ok (.iadd, 1) := by decide +kernel
theorem dL_law__1189 : decode cL_law_ 1189 = .ok (.iaload, 1) := by decide +kernel
theorem dL_law__1190 : decode cL_law_ 1190 = .ok (.invokevirtual 172, 3) := by decide +kernel
theorem dL_law__1193 : decode cL_law_ 1193 = .ok (.istore 6, 2) := by decide +kernel
theorem dL_law__1195 : decode cL_law_ 1195 = .ok (.aload_n 2, 1) := by decide +kernel
theorem dL_law__1196 : decode cL_law_ 1196 = .ok (.invokevirtual 124, 3) := by decide +kernel
theorem dL_law__1199 : decode cL_law_ 1199 = .ok (.iload 5, 2) := by decide +kernel
theorem dL_law__1201 : decode cL_law_ 1201 = .ok (.if_icmp .eq 5, 3) := by decide +kernel
theorem dL_law__1204 : decode cL_law_ 1204 = .ok (.iconst 0, 1) := by decide +kernel
theorem dL_law__1205 : decode cL_law_ 1205 = .ok (.ireturn, 1) := by decide +kernel
theorem dL_law__1206 : decode cL_law_ 1206 = .ok (.iload 5, 2) := by decide +kernel
theorem dL_law__1208 : decode cL_law_ 1208 = .ok (.ifCond .ne 15, 3) := by decide +kernel
theorem dL_law__1211 : decode cL_law_ 1211 = .ok (.aload_n 3, 1) := by decide +kernel
theorem dL_law__1212 : decode cL_law_ 1212 = .ok (.iconst 0, 1) := by decide +kernel
theorem dL_law__1213 : decode cL_law_ 1213 = .ok (.laload, 1) := by decide +kernel
theorem dL_law__1214 : decode cL_law_ 1214 = .ok (.iload 6, 2) := by decide +kernel
theorem dL_law__1216 : decode cL_law_ 1216 = .ok (.i2l, 1) := by decide +kernel
theorem dL_law__1217 : decode cL_law_ 1217 = .ok (.lcmp, 1) := by decide +kernel
theorem dL_law__1218 : decode cL_law_ 1218 = .ok (.ifCond .eq 5, 3) := by decide +kernel
theorem dL_law__1221 : decode cL_law_ 1221 = .ok (.iconst 0, 1) := by decide +kernel
theorem dL_law__1222 : decode cL_law_ 1222 = .ok (.ireturn, 1) := by decide +kernel
theorem dL_law__1223 : decode cL_law_ 1223 = .ok (.goto 1087, 3) := by decide +kernel
theorem dL_law__1226 : decode cL_law_ 1226 = .ok (.aload_n 1, 1) := by decide +kernel
theorem dL_law__1227 : decode cL_law_ 1227 = .ok (.aload_n 0, 1) := by decide +kernel
theorem dL_law__1228 : decode cL_law_ 1228 = .ok (.iload 4, 2) := by decide +kernel
theorem dL_law__1230 : decode cL_law_ 1230 = .ok (.iconst 1, 1) := by decide +kernel
theorem dL_law__1231 : decode cL_law_ 1231 = .ok (.iadd, 1) := by decide +kernel
theorem dL_law__1232 : decode cL_law_ 1232 = .ok (.iaload, 1) := by decide +kernel
theorem dL_law__1233 : decode cL_law_ 1233 = .ok (.aload_n 3, 1) := by decide +kernel
theorem dL_law__1234 : decode cL_law_ 1234 = .ok (.invokestatic 173, 3) := by decide +kernel
theorem dL_law__1237 : decode cL_law_ 1237 = .ok (.istore 5, 2) := by decide +kernel
theorem dL_law__1239 : decode cL_law_ 1239 = .ok (.aload_n 2, 1) := by decide +kernel
theorem dL_law__1240 : decode cL_law_ 1240 = .ok (.aload_n 0, 1) := by decide +kernel
theorem dL_law__1241 : decode cL_law_ 1241 = .ok (.iload 4, 2) := by decide +kernel
theorem dL_law__1243 : decode cL_law_ 1243 = .ok (.iconst 1, 1) := by decide +kernel
theorem dL_law__1244 : decode cL_law_ 1244 = .ok (.iadd, 1) := by decide +kernel
theorem dL_law__1245 : decode cL_law_ 1245 = .ok (.iaload, 1) := by decide +kernel
theorem dL_law__1246 : decode cL_law_ 1246 = .ok (.invokevirtual 175, 3) := by decide +kernel
theorem dL_law__1249 : decode cL_law_ 1249 = .ok (.istore 6, 2) := by decide +kernel
theorem dL_law__1251 : decode cL_law_ 1251 = .ok (.aload_n 2, 1) := by decide +kernel
theorem dL_law__1252 : decode cL_law_ 1252 = .ok (.invokevirtual 124, 3) := by decide +kernel
theorem dL_law__1255 : decode cL_law_ 1255 = .ok (.iload 5, 2) := by decide +kernel
theorem dL_law__1257 : decode cL_law_ 1257 = .ok (.if_icmp .eq 5, 3) := by decide +kernel
theorem dL_law__1260 : decode cL_law_ 1260 = .ok (.iconst 0, 1) := by decide +kernel
theorem dL_law__1261 : decode cL_law_ 1261 = .ok (.ireturn, 1) := by decide +kernel
theorem dL_law__1262 : decode cL_law_ 1262 = .ok (.iload 5, 2) := by decide +kernel
theorem dL_law__1264 : decode cL_law_ 1264 = .ok (.ifCond .ne 15, 3) := by decide +kernel
theorem dL_law__1267 : decode cL_law_ 1267 = .ok (.aload_n 3, 1) := by decide +kernel
theorem dL_law__1268 : decode cL_law_ 1268 = .ok (.iconst 0, 1) := by decide +kernel
theorem dL_law__1269 : decode cL_law_ 1269 = .ok (.laload, 1) := by decide +kernel
theorem dL_law__1270 : decode cL_law_ 1270 = .ok (.iload 6, 2) := by decide +kernel
theorem dL_law__1272 : decode cL_law_ 1272 = .ok (.i2l, 1) := by decide +kernel
theorem dL_law__1273 : decode cL_law_ 1273 = .ok (.lcmp, 1) := by decide +kernel
theorem dL_law__1274 : decode cL_law_ 1274 = .ok (.ifCond .eq 5, 3) := by decide +kernel
theorem dL_law__1277 : decode cL_law_ 1277 = .ok (.iconst 0, 1) := by decide +kernel
theorem dL_law__1278 : decode cL_law_ 1278 = .ok (.ireturn, 1) := by decide +kernel
theorem dL_law__1279 : decode cL_law_ 1279 = .ok (.goto 1031, 3) := by decide +kernel
theorem dL_law__1282 : decode cL_law_ 1282 = .ok (.aload_n 1, 1) := by decide +kernel
theorem dL_law__1283 : decode cL_law_ 1283 = .ok (.aload_n 0, 1) := by decide +kernel
theorem dL_law__1284 : decode cL_law_ 1284 = .ok (.iload 4, 2) := by decide +kernel
theorem dL_law__1286 : decode cL_law_ 1286 = .ok (.iconst 1, 1) := by decide +kernel
theorem dL_law__1287 : decode cL_law_ 1287 = .ok (.iadd, 1) := by decide +kernel
theorem dL_law__1288 : decode cL_law_ 1288 = .ok (.iaload, 1) := by decide +kernel
theorem dL_law__1289 : decode cL_law_ 1289 = .ok (.aload_n 0, 1) := by decide +kernel
theorem dL_law__1290 : decode cL_law_ 1290 = .ok (.iload 4, 2) := by decide +kernel
theorem dL_law__1292 : decode cL_law_ 1292 = .ok (.iconst 2, 1) := by decide +kernel
theorem dL_law__1293 : decode cL_law_ 1293 = .ok (.iadd, 1) := by decide +kernel
theorem dL_law__1294 : decode cL_law_ 1294 = .ok (.iaload, 1) := by decide +kernel
theorem dL_law__1295 : decode cL_law_ 1295 = .ok (.aload_n 3, 1) := by decide +kernel
theorem dL_law__1296 : decode cL_law_ 1296 = .ok (.invokestatic 176, 3) := by decide +kernel
theorem dL_law__1299 : decode cL_law_ 1299 = .ok (.istore 5, 2) := by decide +kernel
theorem dL_law__1301 : decode cL_law_ 1301 = .ok (.aload_n 2, 1) := by decide +kernel
theorem dL_law__1302 : decode cL_law_ 1302 = .ok (.aload_n 0, 1) := by decide +kernel
theorem dL_law__1303 : decode cL_law_ 1303 = .ok (.iload 4, 2) := by decide +kernel
theorem dL_law__1305 : decode cL_law_ 1305 = .ok (.iconst 1, 1) := by decide +kernel
theorem dL_law__1306 : decode cL_law_ 1306 = .ok (.iadd, 1) := by decide +kernel
theorem dL_law__1307 : decode cL_law_ 1307 = .ok (.iaload, 1) := by decide +kernel
theorem dL_law__1308 : decode cL_law_ 1308 = .ok (.aload_n 0, 1) := by decide +kernel
theorem dL_law__1309 : decode cL_law_ 1309 = .ok (.iload 4, 2) := by decide +kernel
theorem dL_law__1311 : decode cL_law_ 1311 = .ok (.iconst 2, 1) := by decide +kernel
theorem dL_law__1312 : decode cL_law_ 1312 = .ok (.iadd, 1) := by decide +kernel
theorem dL_law__1313 : decode cL_law_ 1313 = .ok (.iaload, 1) := by decide +kernel
theorem dL_law__1314 : decode cL_law_ 1314 = .ok (.invokevirtual 178, 3) := by decide +kernel
theorem dL_law__1317 : decode cL_law_ 1317 = .ok (.istore 6, 2) := by decide +kernel
theorem dL_law__1319 : decode cL_law_ 1319 = .ok (.aload_n 2, 1) := by decide +kernel
theorem dL_law__1320 : decode cL_law_ 1320 = .ok (.invokevirtual 124, 3) := by decide +kernel
theorem dL_law__1323 : decode cL_law_ 1323 = .ok (.iload 5, 2) := by decide +kernel
theorem dL_law__1325 : decode cL_law_ 1325 = .ok (.if_icmp .eq 5, 3) := by decide +kernel
theorem dL_law__1328 : decode cL_law_ 1328 = .ok (.iconst 0, 1) := by decide +kernel
theorem dL_law__1329 : decode cL_law_ 1329 = .ok (.ireturn, 1) := by decide +kernel
theorem dL_law__1330 : decode cL_law_ 1330 = .ok (.iload 5, 2) := by decide +kernel
theorem dL_law__1332 : decode cL_law_ 1332 = .ok (.ifCond .ne 15, 3) := by decide +kernel
theorem dL_law__1335 : decode cL_law_ 1335 = .ok (.aload_n 3, 1) := by decide +kernel
theorem dL_law__1336 : decode cL_law_ 1336 = .ok (.iconst 0, 1) := by decide +kernel
theorem dL_law__1337 : decode cL_law_ 1337 = .ok (.laload, 1) := by decide +kernel
theorem dL_law__1338 : decode cL_law_ 1338 = .ok (.iload 6, 2) := by decide +kernel
theorem dL_law__1340 : decode cL_law_ 1340 = .ok (.i2l, 1) := by decide +kernel
theorem dL_law__1341 : decode cL_law_ 1341 = .ok (.lcmp, 1) := by decide +kernel
theorem dL_law__1342 : decode cL_law_ 1342 = .ok (.ifCond .eq 5, 3) := by decide +kernel
theorem dL_law__1345 : decode cL_law_ 1345 = .ok (.iconst 0, 1) := by decide +kernel
theorem dL_law__1346 : decode cL_law_ 1346 = .ok (.ireturn, 1) := by decide +kernel
theorem dL_law__1347 : decode cL_law_ 1347 = .ok (.goto 963, 3) := by decide +kernel
theorem dL_law__1350 : decode cL_law_ 1350 = .ok (.aload_n 1, 1) := by decide +kernel
theorem dL_law__1351 : decode cL_law_ 1351 = .ok (.aload_n 0, 1) := by decide +kernel
theorem dL_law__1352 : decode cL_law_ 1352 = .ok (.iload 4, 2) := by decide +kernel
theorem dL_law__1354 : decode cL_law_ 1354 = .ok (.iconst 1, 1) := by decide +kernel
theorem dL_law__1355 : decode cL_law_ 1355 = .ok (.iadd, 1) := by decide +kernel
theorem dL_law__1356 : decode cL_law_ 1356 = .ok (.iaload, 1) := by decide +kernel
theorem dL_law__1357 : decode cL_law_ 1357 = .ok (.aload_n 3, 1) := by decide +kernel
theorem dL_law__1358 : decode cL_law_ 1358 = .ok (.invokestatic 179, 3) := by decide +kernel
theorem dL_law__1361 : decode cL_law_ 1361 = .ok (.istore 5, 2) := by decide +kernel
theorem dL_law__1363 : decode cL_law_ 1363 = .ok (.aload_n 2, 1) := by decide +kernel
theorem dL_law__1364 : decode cL_law_ 1364 = .ok (.aload_n 0, 1) := by decide +kernel
theorem dL_law__1365 : decode cL_law_ 1365 = .ok (.iload 4, 2) := by decide +kernel
theorem dL_law__1367 : decode cL_law_ 1367 = .ok (.iconst 1, 1) := by decide +kernel
theorem dL_law__1368 : decode cL_law_ 1368 = .ok (.iadd, 1) := by decide +kernel
theorem dL_law__1369 : decode cL_law_ 1369 = .ok (.iaload, 1) := by decide +kernel
theorem dL_law__1370 : decode cL_law_ 1370 = .ok (.invokevirtual 181, 3) := by decide +kernel
theorem dL_law__1373 : decode cL_law_ 1373 = .ok (.istore 6, 2) := by decide +kernel
theorem dL_law__1375 : decode cL_law_ 1375 = .ok (.aload_n 2, 1) := by decide +kernel
theorem dL_law__1376 : decode cL_law_ 1376 = .ok (.invokevirtual 124, 3) := by decide +kernel
theorem dL_law__1379 : decode cL_law_ 1379 = .ok (.iload 5, 2) := by decide +kernel
theorem dL_law__1381 : decode cL_law_ 1381 = .ok (.if_icmp .eq 5, 3) := by decide +kernel
theorem dL_law__1384 : decode cL_law_ 1384 = .ok (.iconst 0, 1) := by decide +kernel
theorem dL_law__1385 : decode cL_law_ 1385 = .ok (.ireturn, 1) := by decide +kernel
theorem dL_law__1386 : decode cL_law_ 1386 = .ok (.iload 5, 2) := by decide +kernel
theorem dL_law__1388 : decode cL_law_ 1388 = .ok (.ifCond .ne 22, 3) := by decide +kernel
theorem dL_law__1391 : decode cL_law_ 1391 = .ok (.aload_n 3, 1) := by decide +kernel
theorem dL_law__1392 : decode cL_law_ 1392 = .ok (.iconst 0, 1) := by decide +kernel
theorem dL_law__1393 : decode cL_law_ 1393 = .ok (.laload, 1) := by decide +kernel
theorem dL_law__1394 : decode cL_law_ 1394 = .ok (.iload 6, 2) := by decide +kernel
theorem dL_law__1396 : decode cL_law_ 1396 = .ok (.ifCond .eq 7, 3) := by decide +kernel
theorem dL_law__1399 : decode cL_law_ 1399 = .ok (.lconst 1, 1) := by decide +kernel
theorem dL_law__1400 : decode cL_law_ 1400 = .ok (.goto 4, 3) := by decide +kernel
theorem dL_law__1403 : decode cL_law_ 1403 = .ok (.lconst 0, 1) := by decide +kernel
theorem dL_law__1404 : decode cL_law_ 1404 = .ok (.lcmp, 1) := by decide +kernel
theorem dL_law__1405 : decode cL_law_ 1405 = .ok (.ifCond .eq 5, 3) := by decide +kernel
theorem dL_law__1408 : decode cL_law_ 1408 = .ok (.iconst 0, 1) := by decide +kernel
theorem dL_law__1409 : decode cL_law_ 1409 = .ok (.ireturn, 1) := by decide +kernel
theorem dL_law__1410 : decode cL_law_ 1410 = .ok (.goto 900, 3) := by decide +kernel
theorem dL_law__1413 : decode cL_law_ 1413 = .ok (.aload_n 1, 1) := by decide +kernel
theorem dL_law__1414 : decode cL_law_ 1414 = .ok (.aload_n 0, 1) := by decide +kernel
theorem dL_law__1415 : decode cL_law_ 1415 = .ok (.iload 4, 2) := by decide +kernel
theorem dL_law__1417 : decode cL_law_ 1417 = .ok (.iconst 1, 1) := by decide +kernel
theorem dL_law__1418 : decode cL_law_ 1418 = .ok (.iadd, 1) := by decide +kernel
theorem dL_law__1419 : decode cL_law_ 1419 = .ok (.iaload, 1) := by decide +kernel
theorem dL_law__1420 : decode cL_law_ 1420 = .ok (.aload_n 0, 1) := by decide +kernel
theorem dL_law__1421 : decode cL_law_ 1421 = .ok (.iload 4, 2) := by decide +kernel
theorem dL_law__1423 : decode cL_law_ 1423 = .ok (.iconst 2, 1) := by decide +kernel
theorem dL_law__1424 : decode cL_law_ 1424 = .ok (.iadd, 1) := by decide +kernel
theorem dL_law__1425 : decode cL_law_ 1425 = .ok (.iaload, 1) := by decide +kernel
theorem dL_law__1426 : decode cL_law_ 1426 = .ok (.aload_n 3, 1) := by decide +kernel
theorem dL_law__1427 : decode cL_law_ 1427 = .ok (.invokestatic 182, 3) := by decide +kernel
theorem dL_law__1430 : decode cL_law_ 1430 = .ok (.istore 5, 2) := by decide +kernel
theorem dL_law__1432 : decode cL_law_ 1432 = .ok (.aload_n 2, 1) := by decide +kernel
theorem dL_law__1433 : decode cL_law_ 1433 = .ok (.aload_n 0, 1) := by decide +kernel
theorem dL_law__1434 : decode cL_law_ 1434 = .ok (.iload 4, 2) := by decide +kernel
theorem dL_law__1436 : decode cL_law_ 1436 = .ok (.iconst 1, 1) := by decide +kernel
theorem dL_law__1437 : decode cL_law_ 1437 = .ok (.iadd, 1) := by decide +kernel
theorem dL_law__1438 : decode cL_law_ 1438 = .ok (.iaload, 1) := by decide +kernel
theorem dL_law__1439 : decode cL_law_ 1439 = .ok (.aload_n 0, 1) := by decide +kernel
theorem dL_law__1440 : decode cL_law_ 1440 = .ok (.iload 4, 2) := by decide +kernel
theorem dL_law__1442 : decode cL_law_ 1442 = .ok (.iconst 2, 1) := by decide +kernel
theorem dL_law__1443 : decode cL_law_ 1443 = .ok (.iadd, 1) := by decide +kernel
theorem dL_law__1444 : decode cL_law_ 1444 = .ok (.iaload, 1) := by decide +kernel
theorem dL_law__1445 : decode cL_law_ 1445 = .ok (.invokevirtual 184, 3) := by decide +kernel
theorem dL_law__1448 : decode cL_law_ 1448 = .ok (.istore 6, 2) := by decide +kernel
theorem dL_law__1450 : decode cL_law_ 1450 = .ok (.aload_n 2, 1) := by decide +kernel
theorem dL_law__1451 : decode cL_law_ 1451 = .ok (.invokevirtual 124, 3) := by decide +kernel
theorem dL_law__1454 : decode cL_law_ 1454 = .ok (.iload 5, 2) := by decide +kernel
theorem dL_law__1456 : decode cL_law_ 1456 = .ok (.if_icmp .eq 5, 3) := by decide +kernel
theorem dL_law__1459 : decode cL_law_ 1459 = .ok (.iconst 0, 1) := by decide +kernel
theorem dL_law__1460 : decode cL_law_ 1460 = .ok (.ireturn, 1) := by decide +kernel
theorem dL_law__1461 : decode cL_law_ 1461 = .ok (.iload 5, 2) := by decide +kernel
theorem dL_law__1463 : decode cL_law_ 1463 = .ok (.ifCond .ne 15, 3) := by decide +kernel
theorem dL_law__1466 : decode cL_law_ 1466 = .ok (.aload_n 3, 1) := by decide +kernel
theorem dL_law__1467 : decode cL_law_ 1467 = .ok (.iconst 0, 1) := by decide +kernel
theorem dL_law__1468 : decode cL_law_ 1468 = .ok (.laload, 1) := by decide +kernel
theorem dL_law__1469 : decode cL_law_ 1469 = .ok (.iload 6, 2) := by decide +kernel
theorem dL_law__1471 : decode cL_law_ 1471 = .ok (.i2l, 1) := by decide +kernel
theorem dL_law__1472 : decode cL_law_ 1472 = .ok (.lcmp, 1) := by decide +kernel
theorem dL_law__1473 : decode cL_law_ 1473 = .ok (.ifCond .eq 5, 3) := by decide +kernel
theorem dL_law__1476 : decode cL_law_ 1476 = .ok (.iconst 0, 1) := by decide +kernel
theorem dL_law__1477 : decode cL_law_ 1477 = .ok (.ireturn, 1) := by decide +kernel
theorem dL_law__1478 : decode cL_law_ 1478 = .ok (.goto 832, 3) := by decide +kernel
theorem dL_law__1481 : decode cL_law_ 1481 = .ok (.aload_n 1, 1) := by decide +kernel
theorem dL_law__1482 : decode cL_law_ 1482 = .ok (.invokevirtual 185, 3) := by decide +kernel
theorem dL_law__1485 : decode cL_law_ 1485 = .ok (.aload_n 2, 1) := by decide +kernel
theorem dL_law__1486 : decode cL_law_ 1486 = .ok (.invokevirtual 188, 3) := by decide +kernel
theorem dL_law__1489 : decode cL_law_ 1489 = .ok (.if_icmp .eq 821, 3) := by decide +kernel
theorem dL_law__1492 : decode cL_law_ 1492 = .ok (.iconst 0, 1) := by decide +kernel
theorem dL_law__1493 : decode cL_law_ 1493 = .ok (.ireturn, 1) := by decide +kernel
theorem dL_law__1494 : decode cL_law_ 1494 = .ok (.aload_n 1, 1) := by decide +kernel
theorem dL_law__1495 : decode cL_law_ 1495 = .ok (.aload_n 0, 1) := by decide +kernel
theorem dL_law__1496 : decode cL_law_ 1496 = .ok (.iload 4, 2) := by decide +kernel
theorem dL_law__1498 : decode cL_law_ 1498 = .ok (.iconst 1, 1) := by decide +kernel
theorem dL_law__1499 : decode cL_law_ 1499 = .ok (.iadd, 1) := by decide +kernel
theorem dL_law__1500 : decode cL_law_ 1500 = .ok (.iaload, 1) := by decide +kernel
theorem dL_law__1501 : decode cL_law_ 1501 = .ok (.aload_n 0, 1) := by decide +kernel
theorem dL_law__1502 : decode cL_law_ 1502 = .ok (.iload 4, 2) := by decide +kernel
theorem dL_law__1504 : decode cL_law_ 1504 = .ok (.iconst 2, 1) := by decide +kernel
theorem dL_law__1505 : decode cL_law_ 1505 = .ok (.iadd, 1) := by decide +kernel
theorem dL_law__1506 : decode cL_law_ 1506 = .ok (.iaload, 1) := by decide +kernel
theorem dL_law__1507 : decode cL_law_ 1507 = .ok (.aload_n 3, 1) := by decide +kernel
theorem dL_law__1508 : decode cL_law_ 1508 = .ok (.invokestatic 189, 3) := by decide +kernel
theorem dL_law__1511 : decode cL_law_ 1511 = .ok (.istore 5, 2) := by decide +kernel
theorem dL_law__1513 : decode cL_law_ 1513 = .ok (.aload_n 2, 1) := by decide +kernel
theorem dL_law__1514 : decode cL_law_ 1514 = .ok (.aload_n 0, 1) := by decide +kernel
theorem dL_law__1515 : decode cL_law_ 1515 = .ok (.iload 4, 2) := by decide +kernel
theorem dL_law__1517 : decode cL_law_ 1517 = .ok (.iconst 1, 1) := by decide +kernel
theorem dL_law__1518 : decode cL_law_ 1518 = .ok (.iadd, 1) := by decide +kernel
theorem dL_law__1519 : decode cL_law_ 1519 = .ok (.iaload, 1) := by decide +kernel
theorem dL_law__1520 : decode cL_law_ 1520 = .ok (.aload_n 0, 1) := by decide +kernel
theorem dL_law__1521 : decode cL_law_ 1521 = .ok (.iload 4, 2) := by decide +kernel
theorem dL_law__1523 : decode cL_law_ 1523 = .ok (.iconst 2, 1) := by decide +kernel
theorem dL_law__1524 : decode cL_law_ 1524 = .ok (.iadd, 1) := by decide +kernel
theorem dL_law__1525 : decode cL_law_ 1525 = .ok (.iaload, 1) := by decide +kernel
theorem dL_law__1526 : decode cL_law_ 1526 = .ok (.invokevirtual 191, 3) := by decide +kernel
theorem dL_law__1529 : decode cL_law_ 1529 = .ok (.istore 6, 2) := by decide +kernel
theorem dL_law__1531 : decode cL_law_ 1531 = .ok (.aload_n 2, 1) := by decide +kernel
theorem dL_law__1532 : decode cL_law_ 1532 = .ok (.invokevirtual 124, 3) := by decide +kernel
theorem dL_law__1535 : decode cL_law_ 1535 = .ok (.iload 5, 2) := by decide +kernel
theorem dL_law__1537 : decode cL_law_ 1537 = .ok (.if_icmp .eq 5, 3) := by decide +kernel
theorem dL_law__1540 : decode cL_law_ 1540 = .ok (.iconst 0, 1) := by decide +kernel
theorem dL_law__1541 : decode cL_law_ 1541 = .ok (.ireturn, 1) := by decide +kernel
theorem dL_law__1542 : decode cL_law_ 1542 = .ok (.iload 5, 2) := by decide +kernel
theorem dL_law__1544 : decode cL_law_ 1544 = .ok (.ifCond .ne 15, 3) := by decide +kernel
theorem dL_law__1547 : decode cL_law_ 1547 = .ok (.aload_n 3, 1) := by decide +kernel
theorem dL_law__1548 : decode cL_law_ 1548 = .ok (.iconst 0, 1) := by decide +kernel
theorem dL_law__1549 : decode cL_law_ 1549 = .ok (.laload, 1) := by decide +kernel
theorem dL_law__1550 : decode cL_law_ 1550 = .ok (.iload 6, 2) := by decide +kernel
theorem dL_law__1552 : decode cL_law_ 1552 = .ok (.i2l, 1) := by decide +kernel
theorem dL_law__1553 : decode cL_law_ 1553 = .ok (.lcmp, 1) := by decide +kernel
theorem dL_law__1554 : decode cL_law_ 1554 = .ok (.ifCond .eq 5, 3) := by decide +kernel
theorem dL_law__1557 : decode cL_law_ 1557 = .ok (.iconst 0, 1) := by decide +kernel
theorem dL_law__1558 : decode cL_law_ 1558 = .ok (.ireturn, 1) := by decide +kernel
theorem dL_law__1559 : decode cL_law_ 1559 = .ok (.goto 751, 3) := by decide +kernel
theorem dL_law__1562 : decode cL_law_ 1562 = .ok (.aload_n 1, 1) := by decide +kernel
theorem dL_law__1563 : decode cL_law_ 1563 = .ok (.aload_n 0, 1) := by decide +kernel
theorem dL_law__1564 : decode cL_law_ 1564 = .ok (.iload 4, 2) := by decide +kernel
theorem dL_law__1566 : decode cL_law_ 1566 = .ok (.iconst 1, 1) := by decide +kernel
theorem dL_law__1567 : decode cL_law_ 1567 = .ok (.iadd, 1) := by decide +kernel
theorem dL_law__1568 : decode cL_law_ 1568 = .ok (.iaload, 1) := by decide +kernel
theorem dL_law__1569 : decode cL_law_ 1569 = .ok (.aload_n 0, 1) := by decide +kernel
theorem dL_law__1570 : decode cL_law_ 1570 = .ok (.iload 4, 2) := by decide +kernel
theorem dL_law__1572 : decode cL_law_ 1572 = .ok (.iconst 2, 1) := by decide +kernel
theorem dL_law__1573 : decode cL_law_ 1573 = .ok (.iadd, 1) := by decide +kernel
theorem dL_law__1574 : decode cL_law_ 1574 = .ok (.iaload, 1) := by decide +kernel
theorem dL_law__1575 : decode cL_law_ 1575 = .ok (.aload_n 3, 1) := by decide +kernel
theorem dL_law__1576 : decode cL_law_ 1576 = .ok (.invokestatic 192, 3) := by decide +kernel
theorem dL_law__1579 : decode cL_law_ 1579 = .ok (.istore 5, 2) := by decide +kernel
theorem dL_law__1581 : decode cL_law_ 1581 = .ok (.aload_n 2, 1) := by decide +kernel
theorem dL_law__1582 : decode cL_law_ 1582 = .ok (.aload_n 0, 1) := by decide +kernel
theorem dL_law__1583 : decode cL_law_ 1583 = .ok (.iload 4, 2) := by decide +kernel
theorem dL_law__1585 : decode cL_law_ 1585 = .ok (.iconst 1, 1) := by decide +kernel
theorem dL_law__1586 : decode cL_law_ 1586 = .ok (.iadd, 1) := by decide +kernel
theorem dL_law__1587 : decode cL_law_ 1587 = .ok (.iaload, 1) := by decide +kernel
theorem dL_law__1588 : decode cL_law_ 1588 = .ok (.aload_n 0, 1) := by decide +kernel
theorem dL_law__1589 : decode cL_law_ 1589 = .ok (.iload 4, 2) := by decide +kernel
theorem dL_law__1591 : decode cL_law_ 1591 = .ok (.iconst 2, 1) := by decide +kernel
theorem dL_law__1592 : decode cL_law_ 1592 = .ok (.iadd, 1) := by decide +kernel
theorem dL_law__1593 : decode cL_law_ 1593 = .ok (.iaload, 1) := by decide +kernel
theorem dL_law__1594 : decode cL_law_ 1594 = .ok (.invokevirtual 194, 3) := by decide +kernel
theorem dL_law__1597 : decode cL_law_ 1597 = .ok (.istore 6, 2) := by decide +kernel
theorem dL_law__1599 : decode cL_law_ 1599 = .ok (.aload_n 2, 1) := by decide +kernel
theorem dL_law__1600 : decode cL_law_ 1600 = .ok (.invokevirtual 124, 3) := by decide +kernel
theorem dL_law__1603 : decode cL_law_ 1603 = .ok (.iload 5, 2) := by decide +kernel
theorem dL_law__1605 : decode cL_law_ 1605 = .ok (.if_icmp .eq 5, 3) := by decide +kernel
theorem dL_law__1608 : decode cL_law_ 1608 = .ok (.iconst 0, 1) := by decide +kernel
theorem dL_law__1609 : decode cL_law_ 1609 = .ok (.ireturn, 1) := by decide +kernel
theorem dL_law__1610 : decode cL_law_ 1610 = .ok (.iload 5, 2) := by decide +kernel
theorem dL_law__1612 : decode cL_law_ 1612 = .ok (.ifCond .ne 15, 3) := by decide +kernel
theorem dL_law__1615 : decode cL_law_ 1615 = .ok (.aload_n 3, 1) := by decide +kernel
theorem dL_law__1616 : decode cL_law_ 1616 = .ok (.iconst 0, 1) := by decide +kernel
theorem dL_law__1617 : decode cL_law_ 1617 = .ok (.laload, 1) := by decide +kernel
theorem dL_law__1618 : decode cL_law_ 1618 = .ok (.iload 6, 2) := by decide +kernel
theorem dL_law__1620 : decode cL_law_ 1620 = .ok (.i2l, 1) := by decide +kernel
theorem dL_law__1621 : decode cL_law_ 1621 = .ok (.lcmp, 1) := by decide +kernel
theorem dL_law__1622 : decode cL_law_ 1622 = .ok (.ifCond .eq 5, 3) := by decide +kernel
theorem dL_law__1625 : decode cL_law_ 1625 = .ok (.iconst 0, 1) := by decide +kernel
theorem dL_law__1626 : decode cL_law_ 1626 = .ok (.ireturn, 1) := by decide +kernel
theorem dL_law__1627 : decode cL_law_ 1627 = .ok (.goto 683, 3) := by decide +kernel
theorem dL_law__1630 : decode cL_law_ 1630 = .ok (.aload_n 1, 1) := by decide +kernel
theorem dL_law__1631 : decode cL_law_ 1631 = .ok (.aload_n 0, 1) := by decide +kernel
theorem dL_law__1632 : decode cL_law_ 1632 = .ok (.iload 4, 2) := by decide +kernel
theorem dL_law__1634 : decode cL_law_ 1634 = .ok (.iconst 1, 1) := by decide +kernel
theorem dL_law__1635 : decode cL_law_ 1635 = .ok (.iadd, 1) := by decide +kernel
theorem dL_law__1636 : decode cL_law_ 1636 = .ok (.iaload, 1) := by decide +kernel
theorem dL_law__1637 : decode cL_law_ 1637 = .ok (.aload_n 0, 1) := by decide +kernel
theorem dL_law__1638 : decode cL_law_ 1638 = .ok (.iload 4, 2) := by decide +kernel
theorem dL_law__1640 : decode cL_law_ 1640 = .ok (.iconst 2, 1) := by decide +kernel
theorem dL_law__1641 : decode cL_law_ 1641 = .ok (.iadd, 1) := by decide +kernel
theorem dL_law__1642 : decode cL_law_ 1642 = .ok (.iaload, 1) := by decide +kernel
theorem dL_law__1643 : decode cL_law_ 1643 = .ok (.aload_n 3, 1) := by decide +kernel
theorem dL_law__1644 : decode cL_law_ 1644 = .ok (.invokestatic 195, 3) := by decide +kernel
theorem dL_law__1647 : decode cL_law_ 1647 = .ok (.istore 5, 2) := by decide +kernel
theorem dL_law__1649 : decode cL_law_ 1649 = .ok (.aload_n 2, 1) := by decide +kernel
theorem dL_law__1650 : decode cL_law_ 1650 = .ok (.aload_n 0, 1) := by decide +kernel
theorem dL_law__1651 : decode cL_law_ 1651 = .ok (.iload 4, 2) := by decide +kernel
theorem dL_law__1653 : decode cL_law_ 1653 = .ok (.iconst 1, 1) := by decide +kernel
theorem dL_law__1654 : decode cL_law_ 1654 = .ok (.iadd, 1) := by decide +kernel
theorem dL_law__1655 : decode cL_law_ 1655 = .ok (.iaload, 1) := by decide +kernel
theorem dL_law__1656 : decode cL_law_ 1656 = .ok (.aload_n 0, 1) := by decide +kernel
theorem dL_law__1657 : decode cL_law_ 1657 = .ok (.iload 4, 2) := by decide +kernel
theorem dL_law__1659 : decode cL_law_ 1659 = .ok (.iconst 2, 1) := by decide +kernel
theorem dL_law__1660 : decode cL_law_ 1660 = .ok (.iadd, 1) := by decide +kernel
theorem dL_law__1661 : decode cL_law_ 1661 = .ok (.iaload, 1) := by decide +kernel
theorem dL_law__1662 : decode cL_law_ 1662 = .ok (.invokevirtual 197, 3) := by decide +kernel
theorem dL_law__1665 : decode cL_law_ 1665 = .ok (.istore 6, 2) := by decide +kernel
theorem dL_law__1667 : decode cL_law_ 1667 = .ok (.aload_n 2, 1) := by decide +kernel
theorem dL_law__1668 : decode cL_law_ 1668 = .ok (.invokevirtual 124, 3) := by decide +kernel
theorem dL_law__1671 : decode cL_law_ 1671 = .ok (.iload 5, 2) := by decide +kernel
theorem dL_law__1673 : decode cL_law_ 1673 = .ok (.if_icmp .eq 5, 3) := by decide +kernel
theorem dL_law__1676 : decode cL_law_ 1676 = .ok (.iconst 0, 1) := by decide +kernel
theorem dL_law__1677 : decode cL_law_ 1677 = .ok (.ireturn, 1) := by decide +kernel
theorem dL_law__1678 : decode cL_law_ 1678 = .ok (.iload 5, 2) := by decide +kernel
theorem dL_law__1680 : decode cL_law_ 1680 = .ok (.ifCond .ne 15, 3) := by decide +kernel
theorem dL_law__1683 : decode cL_law_ 1683 = .ok (.aload_n 3, 1) := by decide +kernel
theorem dL_law__1684 : decode cL_law_ 1684 = .ok (.iconst 0, 1) := by decide +kernel
theorem dL_law__1685 : decode cL_law_ 1685 = .ok (.laload, 1) := by decide +kernel
theorem dL_law__1686 : decode cL_law_ 1686 = .ok (.iload 6, 2) := by decide +kernel
theorem dL_law__1688 : decode cL_law_ 1688 = .ok (.i2l, 1) := by decide +kernel
theorem dL_law__1689 : decode cL_law_ 1689 = .ok (.lcmp, 1) := by decide +kernel
theorem dL_law__1690 : decode cL_law_ 1690 = .ok (.ifCond .eq 5, 3) := by decide +kernel
theorem dL_law__1693 : decode cL_law_ 1693 = .ok (.iconst 0, 1) := by decide +kernel
theorem dL_law__1694 : decode cL_law_ 1694 = .ok (.ireturn, 1) := by decide +kernel
theorem dL_law__1695 : decode cL_law_ 1695 = .ok (.goto 615, 3) := by decide +kernel
theorem dL_law__1698 : decode cL_law_ 1698 = .ok (.aload_n 1, 1) := by decide +kernel
theorem dL_law__1699 : decode cL_law_ 1699 = .ok (.aload_n 0, 1) := by decide +kernel
theorem dL_law__1700 : decode cL_law_ 1700 = .ok (.iload 4, 2) := by decide +kernel
theorem dL_law__1702 : decode cL_law_ 1702 = .ok (.iconst 1, 1) := by decide +kernel
theorem dL_law__1703 : decode cL_law_ 1703 = .ok (.iadd, 1) := by decide +kernel
theorem dL_law__1704 : decode cL_law_ 1704 = .ok (.iaload, 1) := by decide +kernel
theorem dL_law__1705 : decode cL_law_ 1705 = .ok (.aload_n 3, 1) := by decide +kernel
theorem dL_law__1706 : decode cL_law_ 1706 = .ok (.invokestatic 198, 3) := by decide +kernel
theorem dL_law__1709 : decode cL_law_ 1709 = .ok (.istore 5, 2) := by decide +kernel
theorem dL_law__1711 : decode cL_law_ 1711 = .ok (.aload_n 2, 1) := by decide +kernel
theorem dL_law__1712 : decode cL_law_ 1712 = .ok (.aload_n 0, 1) := by decide +kernel
theorem dL_law__1713 : decode cL_law_ 1713 = .ok (.iload 4, 2) := by decide +kernel
theorem dL_law__1715 : decode cL_law_ 1715 = .ok (.iconst 1, 1) := by decide +kernel
theorem dL_law__1716 : decode cL_law_ 1716 = .ok (.iadd, 1) := by decide +kernel
theorem dL_law__1717 : decode cL_law_ 1717 = .ok (.iaload, 1) := by decide +kernel
theorem dL_law__1718 : decode cL_law_ 1718 = .ok (.invokevirtual 200, 3) := by decide +kernel
theorem dL_law__1721 : decode cL_law_ 1721 = .ok (.istore 6, 2) := by decide +kernel
theorem dL_law__1723 : decode cL_law_ 1723 = .ok (.aload_n 2, 1) := by decide +kernel
theorem dL_law__1724 : decode cL_law_ 1724 = .ok (.invokevirtual 124, 3) := by decide +kernel
theorem dL_law__1727 : decode cL_law_ 1727 = .ok (.iload 5, 2) := by decide +kernel
theorem dL_law__1729 : decode cL_law_ 1729 = .ok (.if_icmp .eq 5, 3) := by decide +kernel
theorem dL_law__1732 : decode cL_law_ 1732 = .ok (.iconst 0, 1) := by decide +kernel
theorem dL_law__1733 : decode cL_law_ 1733 = .ok (.ireturn, 1) := by decide +kernel
theorem dL_law__1734 : decode cL_law_ 1734 = .ok (.iload 5, 2) := by decide +kernel
theorem dL_law__1736 : decode cL_law_ 1736 = .ok (.ifCond .ne 15, 3) := by decide +kernel
theorem dL_law__1739 : decode cL_law_ 1739 = .ok (.aload_n 3, 1) := by decide +kernel
theorem dL_law__1740 : decode cL_law_ 1740 = .ok (.iconst 0, 1) := by decide +kernel
theorem dL_law__1741 : decode cL_law_ 1741 = .ok (.laload, 1) := by decide +kernel
theorem dL_law__1742 : decode cL_law_ 1742 = .ok (.iload 6, 2) := by decide +kernel
theorem dL_law__1744 : decode cL_law_ 1744 = .ok (.i2l, 1) := by decide +kernel
theorem dL_law__1745 : decode cL_law_ 1745 = .ok (.lcmp, 1) := by decide +kernel
theorem dL_law__1746 : decode cL_law_ 1746 = .ok (.ifCond .eq 5, 3) := by decide +kernel
theorem dL_law__1749 : decode cL_law_ 1749 = .ok (.iconst 0, 1) := by decide +kernel
theorem dL_law__1750 : decode cL_law_ 1750 = .ok (.ireturn, 1) := by decide +kernel
theorem dL_law__1751 : decode cL_law_ 1751 = .ok (.goto 559, 3) := by decide +kernel
theorem dL_law__1754 : decode cL_law_ 1754 = .ok (.aload_n 1, 1) := by decide +kernel
theorem dL_law__1755 : decode cL_law_ 1755 = .ok (.aload_n 0, 1) := by decide +kernel
theorem dL_law__1756 : decode cL_law_ 1756 = .ok (.iload 4, 2) := by decide +kernel
theorem dL_law__1758 : decode cL_law_ 1758 = .ok (.iconst 1, 1) := by decide +kernel
theorem dL_law__1759 : decode cL_law_ 1759 = .ok (.iadd, 1) := by decide +kernel
theorem dL_law__1760 : decode cL_law_ 1760 = .ok (.iaload, 1) := by decide +kernel
theorem dL_law__1761 : decode cL_law_ 1761 = .ok (.aload_n 0, 1) := by decide +kernel
theorem dL_law__1762 : decode cL_law_ 1762 = .ok (.iload 4, 2) := by decide +kernel
theorem dL_law__1764 : decode cL_law_ 1764 = .ok (.iconst 2, 1) := by decide +kernel
theorem dL_law__1765 : decode cL_law_ 1765 = .ok (.iadd, 1) := by decide +kernel
theorem dL_law__1766 : decode cL_law_ 1766 = .ok (.iaload, 1) := by decide +kernel
theorem dL_law__1767 : decode cL_law_ 1767 = .ok (.aload_n 3, 1) := by decide +kernel
theorem dL_law__1768 : decode cL_law_ 1768 = .ok (.invokestatic 201, 3) := by decide +kernel
theorem dL_law__1771 : decode cL_law_ 1771 = .ok (.istore 5, 2) := by decide +kernel
theorem dL_law__1773 : decode cL_law_ 1773 = .ok (.aload_n 2, 1) := by decide +kernel
theorem dL_law__1774 : decode cL_law_ 1774 = .ok (.aload_n 0, 1) := by decide +kernel
theorem dL_law__1775 : decode cL_law_ 1775 = .ok (.iload 4, 2) := by decide +kernel
theorem dL_law__1777 : decode cL_law_ 1777 = .ok (.iconst 1, 1) := by decide +kernel
theorem dL_law__1778 : decode cL_law_ 1778 = .ok (.iadd, 1) := by decide +kernel
theorem dL_law__1779 : decode cL_law_ 1779 = .ok (.iaload, 1) := by decide +kernel
theorem dL_law__1780 : decode cL_law_ 1780 = .ok (.aload_n 0, 1) := by decide +kernel
theorem dL_law__1781 : decode cL_law_ 1781 = .ok (.iload 4, 2) := by decide +kernel
theorem dL_law__1783 : decode cL_law_ 1783 = .ok (.iconst 2, 1) := by decide +kernel
theorem dL_law__1784 : decode cL_law_ 1784 = .ok (.iadd, 1) := by decide +kernel
theorem dL_law__1785 : decode cL_law_ 1785 = .ok (.iaload, 1) := by decide +kernel
theorem dL_law__1786 : decode cL_law_ 1786 = .ok (.invokevirtual 203, 3) := by decide +kernel
theorem dL_law__1789 : decode cL_law_ 1789 = .ok (.istore 6, 2) := by decide +kernel
theorem dL_law__1791 : decode cL_law_ 1791 = .ok (.aload_n 2, 1) := by decide +kernel
theorem dL_law__1792 : decode cL_law_ 1792 = .ok (.invokevirtual 124, 3) := by decide +kernel
theorem dL_law__1795 : decode cL_law_ 1795 = .ok (.iload 5, 2) := by decide +kernel
theorem dL_law__1797 : decode cL_law_ 1797 = .ok (.if_icmp .eq 5, 3) := by decide +kernel
theorem dL_law__1800 : decode cL_law_ 1800 = .ok (.iconst 0, 1) := by decide +kernel
theorem dL_law__1801 : decode cL_law_ 1801 = .ok (.ireturn, 1) := by decide +kernel
theorem dL_law__1802 : decode cL_law_ 1802 = .ok (.iload 5, 2) := by decide +kernel
theorem dL_law__1804 : decode cL_law_ 1804 = .ok (.ifCond .ne 15, 3) := by decide +kernel
theorem dL_law__1807 : decode cL_law_ 1807 = .ok (.aload_n 3, 1) := by decide +kernel
theorem dL_law__1808 : decode cL_law_ 1808 = .ok (.iconst 0, 1) := by decide +kernel
theorem dL_law__1809 : decode cL_law_ 1809 = .ok (.laload, 1) := by decide +kernel
theorem dL_law__1810 : decode cL_law_ 1810 = .ok (.iload 6, 2) := by decide +kernel
theorem dL_law__1812 : decode cL_law_ 1812 = .ok (.i2l, 1) := by decide +kernel
theorem dL_law__1813 : decode cL_law_ 1813 = .ok (.lcmp, 1) := by decide +kernel
theorem dL_law__1814 : decode cL_law_ 1814 = .ok (.ifCond .eq 5, 3) := by decide +kernel
theorem dL_law__1817 : decode cL_law_ 1817 = .ok (.iconst 0, 1) := by decide +kernel
theorem dL_law__1818 : decode cL_law_ 1818 = .ok (.ireturn, 1) := by decide +kernel
theorem dL_law__1819 : decode cL_law_ 1819 = .ok (.goto 491, 3) := by decide +kernel
theorem dL_law__1822 : decode cL_law_ 1822 = .ok (.aload_n 1, 1) := by decide +kernel
theorem dL_law__1823 : decode cL_law_ 1823 = .ok (.aload_n 0, 1) := by decide +kernel
theorem dL_law__1824 : decode cL_law_ 1824 = .ok (.iload 4, 2) := by decide +kernel
theorem dL_law__1826 : decode cL_law_ 1826 = .ok (.iconst 1, 1) := by decide +kernel
theorem dL_law__1827 : decode cL_law_ 1827 = .ok (.iadd, 1) := by decide +kernel
theorem dL_law__1828 : decode cL_law_ 1828 = .ok (.iaload, 1) := by decide +kernel
theorem dL_law__1829 : decode cL_law_ 1829 = .ok (.aload_n 3, 1) := by decide +kernel
theorem dL_law__1830 : decode cL_law_ 1830 = .ok (.invokestatic 204, 3) := by decide +kernel
theorem dL_law__1833 : decode cL_law_ 1833 = .ok (.istore 5, 2) := by decide +kernel
theorem dL_law__1835 : decode cL_law_ 1835 = .ok (.aload_n 2, 1) := by decide +kernel
theorem dL_law__1836 : decode cL_law_ 1836 = .ok (.aload_n 0, 1) := by decide +kernel
theorem dL_law__1837 : decode cL_law_ 1837 = .ok (.iload 4, 2) := by decide +kernel
theorem dL_law__1839 : decode cL_law_ 1839 = .ok (.iconst 1, 1) := by decide +kernel
theorem dL_law__1840 : decode cL_law_ 1840 = .ok (.iadd, 1) := by decide +kernel
theorem dL_law__1841 : decode cL_law_ 1841 = .ok (.iaload, 1) := by decide +kernel
theorem dL_law__1842 : decode cL_law_ 1842 = .ok (.invokevirtual 206, 3) := by decide +kernel
theorem dL_law__1845 : decode cL_law_ 1845 = .ok (.istore 6, 2) := by decide +kernel
theorem dL_law__1847 : decode cL_law_ 1847 = .ok (.aload_n 2, 1) := by decide +kernel
theorem dL_law__1848 : decode cL_law_ 1848 = .ok (.invokevirtual 124, 3) := by decide +kernel
theorem dL_law__1851 : decode cL_law_ 1851 = .ok (.iload 5, 2) := by decide +kernel
theorem dL_law__1853 : decode cL_law_ 1853 = .ok (.if_icmp .eq 5, 3) := by decide +kernel
theorem dL_law__1856 : decode cL_law_ 1856 = .ok (.iconst 0, 1) := by decide +kernel
theorem dL_law__1857 : decode cL_law_ 1857 = .ok (.ireturn, 1) := by decide +kernel
theorem dL_law__1858 : decode cL_law_ 1858 = .ok (.iload 5, 2) := by decide +kernel
theorem dL_law__1860 : decode cL_law_ 1860 = .ok (.ifCond .ne 15, 3) := by decide +kernel
theorem dL_law__1863 : decode cL_law_ 1863 = .ok (.aload_n 3, 1) := by decide +kernel
theorem dL_law__1864 : decode cL_law_ 1864 = .ok (.iconst 0, 1) := by decide +kernel
theorem dL_law__1865 : decode cL_law_ 1865 = .ok (.laload, 1) := by decide +kernel
theorem dL_law__1866 : decode cL_law_ 1866 = .ok (.iload 6, 2) := by decide +kernel
theorem dL_law__1868 : decode cL_law_ 1868 = .ok (.i2l, 1) := by decide +kernel
theorem dL_law__1869 : decode cL_law_ 1869 = .ok (.lcmp, 1) := by decide +kernel
theorem dL_law__1870 : decode cL_law_ 1870 = .ok (.ifCond .eq 5, 3) := by decide +kernel
theorem dL_law__1873 : decode cL_law_ 1873 = .ok (.iconst 0, 1) := by decide +kernel
theorem dL_law__1874 : decode cL_law_ 1874 = .ok (.ireturn, 1) := by decide +kernel
theorem dL_law__1875 : decode cL_law_ 1875 = .ok (.goto 435, 3) := by decide +kernel
theorem dL_law__1878 : decode cL_law_ 1878 = .ok (.aload_n 1, 1) := by decide +kernel
theorem dL_law__1879 : decode cL_law_ 1879 = .ok (.aload_n 0, 1) := by decide +kernel
theorem dL_law__1880 : decode cL_law_ 1880 = .ok (.iload 4, 2) := by decide +kernel
theorem dL_law__1882 : decode cL_law_ 1882 = .ok (.iconst 1, 1) := by decide +kernel
theorem dL_law__1883 : decode cL_law_ 1883 = .ok (.iadd, 1) := by decide +kernel
theorem dL_law__1884 : decode cL_law_ 1884 = .ok (.iaload, 1) := by decide +kernel
theorem dL_law__1885 : decode cL_law_ 1885 = .ok (.aload_n 0, 1) := by decide +kernel
theorem dL_law__1886 : decode cL_law_ 1886 = .ok (.iload 4, 2) := by decide +kernel
theorem dL_law__1888 : decode cL_law_ 1888 = .ok (.iconst 2, 1) := by decide +kernel
theorem dL_law__1889 : decode cL_law_ 1889 = .ok (.iadd, 1) := by decide +kernel
theorem dL_law__1890 : decode cL_law_ 1890 = .ok (.iaload, 1) := by decide +kernel
theorem dL_law__1891 : decode cL_law_ 1891 = .ok (.aload_n 0, 1) := by decide +kernel
theorem dL_law__1892 : decode cL_law_ 1892 = .ok (.iload 4, 2) := by decide +kernel
theorem dL_law__1894 : decode cL_law_ 1894 = .ok (.iconst 3, 1) := by decide +kernel
theorem dL_law__1895 : decode cL_law_ 1895 = .ok (.iadd, 1) := by decide +kernel
theorem dL_law__1896 : decode cL_law_ 1896 = .ok (.iaload, 1) := by decide +kernel
theorem dL_law__1897 : decode cL_law_ 1897 = .ok (.aload_n 3, 1) := by decide +kernel
theorem dL_law__1898 : decode cL_law_ 1898 = .ok (.invokestatic 207, 3) := by decide +kernel
theorem dL_law__1901 : decode cL_law_ 1901 = .ok (.istore 5, 2) := by decide +kernel
theorem dL_law__1903 : decode cL_law_ 1903 = .ok (.aload_n 2, 1) := by decide +kernel
theorem dL_law__1904 : decode cL_law_ 1904 = .ok (.aload_n 0, 1) := by decide +kernel
theorem dL_law__1905 : decode cL_law_ 1905 = .ok (.iload 4, 2) := by decide +kernel
theorem dL_law__1907 : decode cL_law_ 1907 = .ok (.iconst 1, 1) := by decide +kernel
theorem dL_law__1908 : decode cL_law_ 1908 = .ok (.iadd, 1) := by decide +kernel
theorem dL_law__1909 : decode cL_law_ 1909 = .ok (.iaload, 1) := by decide +kernel
theorem dL_law__1910 : decode cL_law_ 1910 = .ok (.aload_n 0, 1) := by decide +kernel
theorem dL_law__1911 : decode cL_law_ 1911 = .ok (.iload 4, 2) := by decide +kernel
theorem dL_law__1913 : decode cL_law_ 1913 = .ok (.iconst 2, 1) := by decide +kernel
theorem dL_law__1914 : decode cL_law_ 1914 = .ok (.iadd, 1) := by decide +kernel
theorem dL_law__1915 : decode cL_law_ 1915 = .ok (.iaload, 1) := by decide +kernel
theorem dL_law__1916 : decode cL_law_ 1916 = .ok (.aload_n 0, 1) := by decide +kernel
theorem dL_law__1917 : decode cL_law_ 1917 = .ok (.iload 4, 2) := by decide +kernel
theorem dL_law__1919 : decode cL_law_ 1919 = .ok (.iconst 3, 1) := by decide +kernel
theorem dL_law__1920 : decode cL_law_ 1920 = .ok (.iadd, 1) := by decide +kernel
theorem dL_law__1921 : decode cL_law_ 1921 = .ok (.iaload, 1) := by decide +kernel
theorem dL_law__1922 : decode cL_law_ 1922 = .ok (.invokevirtual 209, 3) := by decide +kernel
theorem dL_law__1925 : decode cL_law_ 1925 = .ok (.istore 6, 2) := by decide +kernel
theorem dL_law__1927 : decode cL_law_ 1927 = .ok (.aload_n 2, 1) := by decide +kernel
theorem dL_law__1928 : decode cL_law_ 1928 = .ok (.invokevirtual 124, 3) := by decide +kernel
theorem dL_law__1931 : decode cL_law_ 1931 = .ok (.iload 5, 2) := by decide +kernel
theorem dL_law__1933 : decode cL_law_ 1933 = .ok (.if_icmp .eq 5, 3) := by decide +kernel
theorem dL_law__1936 : decode cL_law_ 1936 = .ok (.iconst 0, 1) := by decide +kernel
theorem dL_law__1937 : decode cL_law_ 1937 = .ok (.ireturn, 1) := by decide +kernel
theorem dL_law__1938 : decode cL_law_ 1938 = .ok (.iload 5, 2) := by decide +kernel
theorem dL_law__1940 : decode cL_law_ 1940 = .ok (.ifCond .ne 15, 3) := by decide +kernel
theorem dL_law__1943 : decode cL_law_ 1943 = .ok (.aload_n 3, 1) := by decide +kernel
theorem dL_law__1944 : decode cL_law_ 1944 = .ok (.iconst 0, 1) := by decide +kernel
theorem dL_law__1945 : decode cL_law_ 1945 = .ok (.laload, 1) := by decide +kernel
theorem dL_law__1946 : decode cL_law_ 1946 = .ok (.iload 6, 2) := by decide +kernel
theorem dL_law__1948 : decode cL_law_ 1948 = .ok (.i2l, 1) := by decide +kernel
theorem dL_law__1949 : decode cL_law_ 1949 = .ok (.lcmp, 1) := by decide +kernel
theorem dL_law__1950 : decode cL_law_ 1950 = .ok (.ifCond .eq 5, 3) := by decide +kernel
theorem dL_law__1953 : decode cL_law_ 1953 = .ok (.iconst 0, 1) := by decide +kernel
theorem dL_law__1954 : decode cL_law_ 1954 = .ok (.ireturn, 1) := by decide +kernel
theorem dL_law__1955 : decode cL_law_ 1955 = .ok (.goto 355, 3) := by decide +kernel
theorem dL_law__1958 : decode cL_law_ 1958 = .ok (.aload_n 1, 1) := by decide +kernel
theorem dL_law__1959 : decode cL_law_ 1959 = .ok (.aload_n 0, 1) := by decide +kernel
theorem dL_law__1960 : decode cL_law_ 1960 = .ok (.iload 4, 2) := by decide +kernel
theorem dL_law__1962 : decode cL_law_ 1962 = .ok (.iconst 1, 1) := by decide +kernel
theorem dL_law__1963 : decode cL_law_ 1963 = .ok (.iadd, 1) := by decide +kernel
theorem dL_law__1964 : decode cL_law_ 1964 = .ok (.iaload, 1) := by decide +kernel
theorem dL_law__1965 : decode cL_law_ 1965 = .ok (.aload_n 0, 1) := by decide +kernel
theorem dL_law__1966 : decode cL_law_ 1966 = .ok (.iload 4, 2) := by decide +kernel
theorem dL_law__1968 : decode cL_law_ 1968 = .ok (.iconst 2, 1) := by decide +kernel
theorem dL_law__1969 : decode cL_law_ 1969 = .ok (.iadd, 1) := by decide +kernel
theorem dL_law__1970 : decode cL_law_ 1970 = .ok (.iaload, 1) := by decide +kernel
theorem dL_law__1971 : decode cL_law_ 1971 = .ok (.aload_n 0, 1) := by decide +kernel
theorem dL_law__1972 : decode cL_law_ 1972 = .ok (.iload 4, 2) := by decide +kernel
theorem dL_law__1974 : decode cL_law_ 1974 = .ok (.iconst 3, 1) := by decide +kernel
theorem dL_law__1975 : decode cL_law_ 1975 = .ok (.iadd, 1) := by decide +kernel
theorem dL_law__1976 : decode cL_law_ 1976 = .ok (.iaload, 1) := by decide +kernel
theorem dL_law__1977 : decode cL_law_ 1977 = .ok (.aload_n 3, 1) := by decide +kernel
theorem dL_law__1978 : decode cL_law_ 1978 = .ok (.invokestatic 210, 3) := by decide +kernel
theorem dL_law__1981 : decode cL_law_ 1981 = .ok (.istore 5, 2) := by decide +kernel
theorem dL_law__1983 : decode cL_law_ 1983 = .ok (.aload_n 2, 1) := by decide +kernel
theorem dL_law__1984 : decode cL_law_ 1984 = .ok (.aload_n 0, 1) := by decide +kernel
theorem dL_law__1985 : decode cL_law_ 1985 = .ok (.iload 4, 2) := by decide +kernel
theorem dL_law__1987 : decode cL_law_ 1987 = .ok (.iconst 1, 1) := by decide +kernel
theorem dL_law__1988 : decode cL_law_ 1988 = .ok (.iadd, 1) := by decide +kernel
theorem dL_law__1989 : decode cL_law_ 1989 = .ok (.iaload, 1) := by decide +kernel
theorem dL_law__1990 : decode cL_law_ 1990 = .ok (.aload_n 0, 1) := by decide +kernel
theorem dL_law__1991 : decode cL_law_ 1991 = .ok (.iload 4, 2) := by decide +kernel
theorem dL_law__1993 : decode cL_law_ 1993 = .ok (.iconst 2, 1) := by decide +kernel
theorem dL_law__1994 : decode cL_law_ 1994 = .ok (.iadd, 1) := by decide +kernel
theorem dL_law__1995 : decode cL_law_ 1995 = .ok (.iaload, 1) := by decide +kernel
theorem dL_law__1996 : decode cL_law_ 1996 = .ok (.aload_n 0, 1) := by decide +kernel
theorem dL_law__1997 : decode cL_law_ 1997 = .ok (.iload 4, 2) := by decide +kernel
theorem dL_law__1999 : decode cL_law_ 1999 = .ok (.iconst 3, 1) := by decide +kernel
theorem dL_law__2000 : decode cL_law_ 2000 = .ok (.iadd, 1) := by decide +kernel
theorem dL_law__2001 : decode cL_law_ 2001 = .ok (.iaload, 1) := by decide +kernel
theorem dL_law__2002 : decode cL_law_ 2002 = .ok (.invokevirtual 212, 3) := by decide +kernel
theorem dL_law__2005 : decode cL_law_ 2005 = .ok (.istore 6, 2) := by decide +kernel
theorem dL_law__2007 : decode cL_law_ 2007 = .ok (.aload_n 2, 1) := by decide +kernel
theorem dL_law__2008 : decode cL_law_ 2008 = .ok (.invokevirtual 124, 3) := by decide +kernel
theorem dL_law__2011 : decode cL_law_ 2011 = .ok (.iload 5, 2) := by decide +kernel
theorem dL_law__2013 : decode cL_law_ 2013 = .ok (.if_icmp .eq 5, 3) := by decide +kernel
theorem dL_law__2016 : decode cL_law_ 2016 = .ok (.iconst 0, 1) := by decide +kernel
theorem dL_law__2017 : decode cL_law_ 2017 = .ok (.ireturn, 1) := by decide +kernel
theorem dL_law__2018 : decode cL_law_ 2018 = .ok (.iload 5, 2) := by decide +kernel
theorem dL_law__2020 : decode cL_law_ 2020 = .ok (.ifCond .ne 15, 3) := by decide +kernel
theorem dL_law__2023 : decode cL_law_ 2023 = .ok (.aload_n 3, 1) := by decide +kernel
theorem dL_law__2024 : decode cL_law_ 2024 = .ok (.iconst 0, 1) := by decide +kernel
theorem dL_law__2025 : decode cL_law_ 2025 = .ok (.laload, 1) := by decide +kernel
theorem dL_law__2026 : decode cL_law_ 2026 = .ok (.iload 6, 2) := by decide +kernel
theorem dL_law__2028 : decode cL_law_ 2028 = .ok (.i2l, 1) := by decide +kernel
theorem dL_law__2029 : decode cL_law_ 2029 = .ok (.lcmp, 1) := by decide +kernel
theorem dL_law__2030 : decode cL_law_ 2030 = .ok (.ifCond .eq 5, 3) := by decide +kernel
theorem dL_law__2033 : decode cL_law_ 2033 = .ok (.iconst 0, 1) := by decide +kernel
theorem dL_law__2034 : decode cL_law_ 2034 = .ok (.ireturn, 1) := by decide +kernel
theorem dL_law__2035 : decode cL_law_ 2035 = .ok (.goto 275, 3) := by decide +kernel
theorem dL_law__2038 : decode cL_law_ 2038 = .ok (.aload_n 1, 1) := by decide +kernel
theorem dL_law__2039 : decode cL_law_ 2039 = .ok (.aload_n 0, 1) := by decide +kernel
theorem dL_law__2040 : decode cL_law_ 2040 = .ok (.iload 4, 2) := by decide +kernel
theorem dL_law__2042 : decode cL_law_ 2042 = .ok (.iconst 1, 1) := by decide +kernel
theorem dL_law__2043 : decode cL_law_ 2043 = .ok (.iadd, 1) := by decide +kernel
theorem dL_law__2044 : decode cL_law_ 2044 = .ok (.iaload, 1) := by decide +kernel
theorem dL_law__2045 : decode cL_law_ 2045 = .ok (.aload_n 3, 1) := by decide +kernel
theorem dL_law__2046 : decode cL_law_ 2046 = .ok (.invokestatic 213, 3) := by decide +kernel
theorem dL_law__2049 : decode cL_law_ 2049 = .ok (.istore 5, 2) := by decide +kernel
theorem dL_law__2051 : decode cL_law_ 2051 = .ok (.aload_n 2, 1) := by decide +kernel
theorem dL_law__2052 : decode cL_law_ 2052 = .ok (.aload_n 0, 1) := by decide +kernel
theorem dL_law__2053 : decode cL_law_ 2053 = .ok (.iload 4, 2) := by decide +kernel
theorem dL_law__2055 : decode cL_law_ 2055 = .ok (.iconst 1, 1) := by decide +kernel
theorem dL_law__2056 : decode cL_law_ 2056 = .ok (.iadd, 1) := by decide +kernel
theorem dL_law__2057 : decode cL_law_ 2057 = .ok (.iaload, 1) := by decide +kernel
theorem dL_law__2058 : decode cL_law_ 2058 = .ok (.invokevirtual 215, 3) := by decide +kernel
theorem dL_law__2061 : decode cL_law_ 2061 = .ok (.lstore 6, 2) := by decide +kernel
theorem dL_law__2063 : decode cL_law_ 2063 = .ok (.aload_n 2, 1) := by decide +kernel
theorem dL_law__2064 : decode cL_law_ 2064 = .ok (.invokevirtual 124, 3) := by decide +kernel
theorem dL_law__2067 : decode cL_law_ 2067 = .ok (.iload 5, 2) := by decide +kernel
theorem dL_law__2069 : decode cL_law_ 2069 = .ok (.if_icmp .eq 5, 3) := by decide +kernel
theorem dL_law__2072 : decode cL_law_ 2072 = .ok (.iconst 0, 1) := by decide +kernel
theorem dL_law__2073 : decode cL_law_ 2073 = .ok (.ireturn, 1) := by decide +kernel
theorem dL_law__2074 : decode cL_law_ 2074 = .ok (.iload 5, 2) := by decide +kernel
theorem dL_law__2076 : decode cL_law_ 2076 = .ok (.ifCond .ne 14, 3) := by decide +kernel
theorem dL_law__2079 : decode cL_law_ 2079 = .ok (.aload_n 3, 1) := by decide +kernel
theorem dL_law__2080 : decode cL_law_ 2080 = .ok (.iconst 0, 1) := by decide +kernel
theorem dL_law__2081 : decode cL_law_ 2081 = .ok (.laload, 1) := by decide +kernel
theorem dL_law__2082 : decode cL_law_ 2082 = .ok (.lload 6, 2) := by decide +kernel
theorem dL_law__2084 : decode cL_law_ 2084 = .ok (.lcmp, 1) := by decide +kernel
theorem dL_law__2085 : decode cL_law_ 2085 = .ok (.ifCond .eq 5, 3) := by decide +kernel
theorem dL_law__2088 : decode cL_law_ 2088 = .ok (.iconst 0, 1) := by decide +kernel
theorem dL_law__2089 : decode cL_law_ 2089 = .ok (.ireturn, 1) := by decide +kernel
theorem dL_law__2090 : decode cL_law_ 2090 = .ok (.goto 220, 3) := by decide +kernel
theorem dL_law__2093 : decode cL_law_ 2093 = .ok (.aload_n 1, 1) := by decide +kernel
theorem dL_law__2094 : decode cL_law_ 2094 = .ok (.invokevirtual 216, 3) := by decide +kernel
theorem dL_law__2097 : decode cL_law_ 2097 = .ok (.aload_n 2, 1) := by decide +kernel
theorem dL_law__2098 : decode cL_law_ 2098 = .ok (.invokevirtual 220, 3) := by decide +kernel
theorem dL_law__2101 : decode cL_law_ 2101 = .ok (.if_icmp .eq 209, 3) := by decide +kernel
theorem dL_law__2104 : decode cL_law_ 2104 = .ok (.iconst 0, 1) := by decide +kernel
theorem dL_law__2105 : decode cL_law_ 2105 = .ok (.ireturn, 1) := by decide +kernel
theorem dL_law__2106 : decode cL_law_ 2106 = .ok (.aload_n 1, 1) := by decide +kernel
theorem dL_law__2107 : decode cL_law_ 2107 = .ok (.aload_n 0, 1) := by decide +kernel
theorem dL_law__2108 : decode cL_law_ 2108 = .ok (.iload 4, 2) := by decide +kernel
theorem dL_law__2110 : decode cL_law_ 2110 = .ok (.iconst 1, 1) := by decide +kernel
theorem dL_law__2111 : decode cL_law_ 2111 = .ok (.iadd, 1) := by decide +kernel
theorem dL_law__2112 : decode cL_law_ 2112 = .ok (.iaload, 1) := by decide +kernel
theorem dL_law__2113 : decode cL_law_ 2113 = .ok (.aload_n 0, 1) := by decide +kernel
theorem dL_law__2114 : decode cL_law_ 2114 = .ok (.iload 4, 2) := by decide +kernel
theorem dL_law__2116 : decode cL_law_ 2116 = .ok (.iconst 2, 1) := by decide +kernel
theorem dL_law__2117 : decode cL_law_ 2117 = .ok (.iadd, 1) := by decide +kernel
theorem dL_law__2118 : decode cL_law_ 2118 = .ok (.iaload, 1) := by decide +kernel
theorem dL_law__2119 : decode cL_law_ 2119 = .ok (.aload_n 3, 1) := by decide +kernel
theorem dL_law__2120 : decode cL_law_ 2120 = .ok (.invokestatic 221, 3) := by decide +kernel
theorem dL_law__2123 : decode cL_law_ 2123 = .ok (.istore 5, 2) := by decide +kernel
theorem dL_law__2125 : decode cL_law_ 2125 = .ok (.aload_n 2, 1) := by decide +kernel
theorem dL_law__2126 : decode cL_law_ 2126 = .ok (.aload_n 0, 1) := by decide +kernel
theorem dL_law__2127 : decode cL_law_ 2127 = .ok (.iload 4, 2) := by decide +kernel
theorem dL_law__2129 : decode cL_law_ 2129 = .ok (.iconst 1, 1) := by decide +kernel
theorem dL_law__2130 : decode cL_law_ 2130 = .ok (.iadd, 1) := by decide +kernel
theorem dL_law__2131 : decode cL_law_ 2131 = .ok (.iaload, 1) := by decide +kernel
theorem dL_law__2132 : decode cL_law_ 2132 = .ok (.aload_n 0, 1) := by decide +kernel
theorem dL_law__2133 : decode cL_law_ 2133 = .ok (.iload 4, 2) := by decide +kernel
theorem dL_law__2135 : decode cL_law_ 2135 = .ok (.iconst 2, 1) := by decide +kernel
theorem dL_law__2136 : decode cL_law_ 2136 = .ok (.iadd, 1) := by decide +kernel
theorem dL_law__2137 : decode cL_law_ 2137 = .ok (.iaload, 1) := by decide +kernel
theorem dL_law__2138 : decode cL_law_ 2138 = .ok (.invokevirtual 223, 3) := by decide +kernel
theorem dL_law__2141 : decode cL_law_ 2141 = .ok (.istore 6, 2) := by decide +kernel
theorem dL_law__2143 : decode cL_law_ 2143 = .ok (.aload_n 2, 1) := by decide +kernel
theorem dL_law__2144 : decode cL_law_ 2144 = .ok (.invokevirtual 124, 3) := by decide +kernel
theorem dL_law__2147 : decode cL_law_ 2147 = .ok (.iload 5, 2) := by decide +kernel
theorem dL_law__2149 : decode cL_law_ 2149 = .ok (.if_icmp .eq 5, 3) := by decide +kernel
theorem dL_law__2152 : decode cL_law_ 2152 = .ok (.iconst 0, 1) := by decide +kernel
theorem dL_law__2153 : decode cL_law_ 2153 = .ok (.ireturn, 1) := by decide +kernel
theorem dL_law__2154 : decode cL_law_ 2154 = .ok (.iload 5, 2) := by decide +kernel
theorem dL_law__2156 : decode cL_law_ 2156 = .ok (.ifCond .ne 15, 3) := by decide +kernel
theorem dL_law__2159 : decode cL_law_ 2159 = .ok (.aload_n 3, 1) := by decide +kernel
theorem dL_law__2160 : decode cL_law_ 2160 = .ok (.iconst 0, 1) := by decide +kernel
theorem dL_law__2161 : decode cL_law_ 2161 = .ok (.laload, 1) := by decide +kernel
theorem dL_law__2162 : decode cL_law_ 2162 = .ok (.iload 6, 2) := by decide +kernel
theorem dL_law__2164 : decode cL_law_ 2164 = .ok (.i2l, 1) := by decide +kernel
theorem dL_law__2165 : decode cL_law_ 2165 = .ok (.lcmp, 1) := by decide +kernel
theorem dL_law__2166 : decode cL_law_ 2166 = .ok (.ifCond .eq 5, 3) := by decide +kernel
theorem dL_law__2169 : decode cL_law_ 2169 = .ok (.iconst 0, 1) := by decide +kernel
theorem dL_law__2170 : decode cL_law_ 2170 = .ok (.ireturn, 1) := by decide +kernel
theorem dL_law__2171 : decode cL_law_ 2171 = .ok (.goto 139, 3) := by decide +kernel
theorem dL_law__2174 : decode cL_law_ 2174 = .ok (.aload_n 1, 1) := by decide +kernel
theorem dL_law__2175 : decode cL_law_ 2175 = .ok (.aload_n 0, 1) := by decide +kernel
theorem dL_law__2176 : decode cL_law_ 2176 = .ok (.iload 4, 2) := by decide +kernel
theorem dL_law__2178 : decode cL_law_ 2178 = .ok (.iconst 1, 1) := by decide +kernel
theorem dL_law__2179 : decode cL_law_ 2179 = .ok (.iadd, 1) := by decide +kernel
theorem dL_law__2180 : decode cL_law_ 2180 = .ok (.iaload, 1) := by decide +kernel
theorem dL_law__2181 : decode cL_law_ 2181 = .ok (.aload_n 3, 1) := by decide +kernel
theorem dL_law__2182 : decode cL_law_ 2182 = .ok (.invokestatic 224, 3) := by decide +kernel
theorem dL_law__2185 : decode cL_law_ 2185 = .ok (.istore 5, 2) := by decide +kernel
theorem dL_law__2187 : decode cL_law_ 2187 = .ok (.aload_n 2, 1) := by decide +kernel
theorem dL_law__2188 : decode cL_law_ 2188 = .ok (.aload_n 0, 1) := by decide +kernel
theorem dL_law__2189 : decode cL_law_ 2189 = .ok (.iload 4, 2) := by decide +kernel
theorem dL_law__2191 : decode cL_law_ 2191 = .ok (.iconst 1, 1) := by decide +kernel
theorem dL_law__2192 : decode cL_law_ 2192 = .ok (.iadd, 1) := by decide +kernel
theorem dL_law__2193 : decode cL_law_ 2193 = .ok (.iaload, 1) := by decide +kernel
theorem dL_law__2194 : decode cL_law_ 2194 = .ok (.invokevirtual 226, 3) := by decide +kernel
theorem dL_law__2197 : decode cL_law_ 2197 = .ok (.istore 6, 2) := by decide +kernel
theorem dL_law__2199 : decode cL_law_ 2199 = .ok (.aload_n 2, 1) := by decide +kernel
theorem dL_law__2200 : decode cL_law_ 2200 = .ok (.invokevirtual 124, 3) := by decide +kernel
theorem dL_law__2203 : decode cL_law_ 2203 = .ok (.iload 5, 2) := by decide +kernel
theorem dL_law__2205 : decode cL_law_ 2205 = .ok (.if_icmp .eq 5, 3) := by decide +kernel
theorem dL_law__2208 : decode cL_law_ 2208 = .ok (.iconst 0, 1) := by decide +kernel
theorem dL_law__2209 : decode cL_law_ 2209 = .ok (.ireturn, 1) := by decide +kernel
theorem dL_law__2210 : decode cL_law_ 2210 = .ok (.iload 5, 2) := by decide +kernel
theorem dL_law__2212 : decode cL_law_ 2212 = .ok (.ifCond .ne 15, 3) := by decide +kernel
theorem dL_law__2215 : decode cL_law_ 2215 = .ok (.aload_n 3, 1) := by decide +kernel
