/-! ===== links of the methods that throw, and of the law's own ===== -/
theorem gs_30 : Cond.selects "SectionDesk$Outline" ⟨"SectionDesk$Outline", "putNumber", "(I)V"⟩ ⟨"SectionDesk$Outline", "putNumber", "(I)V"⟩ ∈ GL := gl_of 30 (by decide +kernel) (by decide +kernel)
theorem gw_14 : (Cond.initialized "java/lang/IndexOutOfBoundsException") ∈ GL := gl_of 54 (by decide +kernel) (by decide +kernel)
theorem gw_15 : (Cond.initialized "java/lang/IllegalArgumentException") ∈ GL := gl_of 55 (by decide +kernel) (by decide +kernel)
theorem gw_16 : (Cond.initialized "java/lang/IllegalStateException") ∈ GL := gl_of 56 (by decide +kernel) (by decide +kernel)
theorem gw_215 : (Cond.fieldLink "SectionDesk" (36 : Nat) "SectionDesk" "outlined" "LSectionDesk$Outline;") ∈ GL := gl_of 255 (by decide +kernel) (by decide +kernel)
theorem gw_238 : (Cond.classLink "SectionDeskLaw" (15 : Nat) "java/lang/IndexOutOfBoundsException") ∈ GL := gl_of 278 (by decide +kernel) (by decide +kernel)
theorem gw_239 : (Cond.classLink "SectionDeskLaw" (17 : Nat) "java/lang/IllegalStateException") ∈ GL := gl_of 279 (by decide +kernel) (by decide +kernel)
theorem gw_240 : (Cond.methodLink "SectionDeskLaw" (9 : Nat) ({ cls := "SectionDesk", name := "addSection", desc := "(I)I" } : MethodName)) ∈ GL := gl_of 280 (by decide +kernel) (by decide +kernel)
theorem gw_241 : (Cond.instanceMethod ({ cls := "SectionDesk", name := "addSection", desc := "(I)I" } : MethodName)) ∈ GL := gl_of 281 (by decide +kernel) (by decide +kernel)
theorem gw_242 : (Cond.selects "SectionDesk" ({ cls := "SectionDesk", name := "addSection", desc := "(I)I" } : MethodName) ({ cls := "SectionDesk", name := "addSection", desc := "(I)I" } : MethodName)) ∈ GL := gl_of 282 (by decide +kernel) (by decide +kernel)
theorem gw_243 : (Cond.code ({ cls := "SectionDesk", name := "addSection", desc := "(I)I" } : MethodName) prog_1_method_2_code (2 : Nat) (Option.some FieldType.int)) ∈ GL := gl_of 283 (by decide +kernel) (by decide +kernel)
theorem gw_244 : (Cond.methodLink "SectionDesk" (40 : Nat) ({ cls := "SectionDesk$Desk", name := "addFault", desc := "(I)I" } : MethodName)) ∈ GL := gl_of 284 (by decide +kernel) (by decide +kernel)
theorem gw_245 : (Cond.instanceMethod ({ cls := "SectionDesk$Desk", name := "addFault", desc := "(I)I" } : MethodName)) ∈ GL := gl_of 285 (by decide +kernel) (by decide +kernel)
theorem gw_246 : (Cond.selects "SectionDesk$Desk" ({ cls := "SectionDesk$Desk", name := "addFault", desc := "(I)I" } : MethodName) ({ cls := "SectionDesk$Desk", name := "addFault", desc := "(I)I" } : MethodName)) ∈ GL := gl_of 286 (by decide +kernel) (by decide +kernel)
theorem gw_247 : (Cond.code ({ cls := "SectionDesk$Desk", name := "addFault", desc := "(I)I" } : MethodName) prog_3_method_7_code (2 : Nat) (Option.some FieldType.int)) ∈ GL := gl_of 287 (by decide +kernel) (by decide +kernel)
theorem gw_291 : (Cond.methodLink "SectionDesk" (44 : Nat) ({ cls := "SectionDesk", name := "refuseFor", desc := "(I)V" } : MethodName)) ∈ GL := gl_of 331 (by decide +kernel) (by decide +kernel)
theorem gw_292 : (Cond.static ({ cls := "SectionDesk", name := "refuseFor", desc := "(I)V" } : MethodName)) ∈ GL := gl_of 332 (by decide +kernel) (by decide +kernel)
theorem gw_293 : (Cond.code ({ cls := "SectionDesk", name := "refuseFor", desc := "(I)V" } : MethodName) prog_1_method_42_code (1 : Nat) (Option.none : Option FieldType)) ∈ GL := gl_of 333 (by decide +kernel) (by decide +kernel)
theorem gw_294 : (Cond.classLink "SectionDesk" (318 : Nat) "java/lang/IndexOutOfBoundsException") ∈ GL := gl_of 334 (by decide +kernel) (by decide +kernel)
theorem gw_362 : (Cond.classLink "SectionDesk" (325 : Nat) "java/lang/IllegalArgumentException") ∈ GL := gl_of 402 (by decide +kernel) (by decide +kernel)
theorem gw_378 : (Cond.classLink "SectionDesk" (330 : Nat) "java/lang/IllegalStateException") ∈ GL := gl_of 418 (by decide +kernel) (by decide +kernel)
theorem gw_435 : (Cond.methodLink "SectionDesk" (56 : Nat) ({ cls := "SectionDesk$Tree", name := "add", desc := "(I)I" } : MethodName)) ∈ GL := gl_of 475 (by decide +kernel) (by decide +kernel)
theorem gw_436 : (Cond.instanceMethod ({ cls := "SectionDesk$Tree", name := "add", desc := "(I)I" } : MethodName)) ∈ GL := gl_of 476 (by decide +kernel) (by decide +kernel)
theorem gw_437 : (Cond.selects "SectionDesk$Tree" ({ cls := "SectionDesk$Tree", name := "add", desc := "(I)I" } : MethodName) ({ cls := "SectionDesk$Tree", name := "add", desc := "(I)I" } : MethodName)) ∈ GL := gl_of 477 (by decide +kernel) (by decide +kernel)
theorem gw_438 : (Cond.code ({ cls := "SectionDesk$Tree", name := "add", desc := "(I)I" } : MethodName) prog_9_method_14_code (4 : Nat) (Option.some FieldType.int)) ∈ GL := gl_of 478 (by decide +kernel) (by decide +kernel)
theorem gw_465 : (Cond.classLink "SectionDeskLaw" (22 : Nat) "java/lang/IllegalArgumentException") ∈ GL := gl_of 505 (by decide +kernel) (by decide +kernel)
theorem gw_466 : (Cond.methodLink "SectionDeskLaw" (19 : Nat) ({ cls := "SectionDesk", name := "removeSection", desc := "(I)I" } : MethodName)) ∈ GL := gl_of 506 (by decide +kernel) (by decide +kernel)
theorem gw_467 : (Cond.instanceMethod ({ cls := "SectionDesk", name := "removeSection", desc := "(I)I" } : MethodName)) ∈ GL := gl_of 507 (by decide +kernel) (by decide +kernel)
theorem gw_468 : (Cond.selects "SectionDesk" ({ cls := "SectionDesk", name := "removeSection", desc := "(I)I" } : MethodName) ({ cls := "SectionDesk", name := "removeSection", desc := "(I)I" } : MethodName)) ∈ GL := gl_of 508 (by decide +kernel) (by decide +kernel)
theorem gw_469 : (Cond.code ({ cls := "SectionDesk", name := "removeSection", desc := "(I)I" } : MethodName) prog_1_method_3_code (2 : Nat) (Option.some FieldType.int)) ∈ GL := gl_of 509 (by decide +kernel) (by decide +kernel)
theorem gw_470 : (Cond.methodLink "SectionDesk" (61 : Nat) ({ cls := "SectionDesk$Desk", name := "removeFault", desc := "(I)I" } : MethodName)) ∈ GL := gl_of 510 (by decide +kernel) (by decide +kernel)
theorem gw_471 : (Cond.instanceMethod ({ cls := "SectionDesk$Desk", name := "removeFault", desc := "(I)I" } : MethodName)) ∈ GL := gl_of 511 (by decide +kernel) (by decide +kernel)
theorem gw_472 : (Cond.selects "SectionDesk$Desk" ({ cls := "SectionDesk$Desk", name := "removeFault", desc := "(I)I" } : MethodName) ({ cls := "SectionDesk$Desk", name := "removeFault", desc := "(I)I" } : MethodName)) ∈ GL := gl_of 512 (by decide +kernel) (by decide +kernel)
theorem gw_473 : (Cond.code ({ cls := "SectionDesk$Desk", name := "removeFault", desc := "(I)I" } : MethodName) prog_3_method_8_code (2 : Nat) (Option.some FieldType.int)) ∈ GL := gl_of 513 (by decide +kernel) (by decide +kernel)
theorem gw_487 : (Cond.methodLink "SectionDesk" (64 : Nat) ({ cls := "SectionDesk$Desk", name := "removeNow", desc := "(I)I" } : MethodName)) ∈ GL := gl_of 527 (by decide +kernel) (by decide +kernel)
theorem gw_488 : (Cond.instanceMethod ({ cls := "SectionDesk$Desk", name := "removeNow", desc := "(I)I" } : MethodName)) ∈ GL := gl_of 528 (by decide +kernel) (by decide +kernel)
theorem gw_489 : (Cond.selects "SectionDesk$Desk" ({ cls := "SectionDesk$Desk", name := "removeNow", desc := "(I)I" } : MethodName) ({ cls := "SectionDesk$Desk", name := "removeNow", desc := "(I)I" } : MethodName)) ∈ GL := gl_of 529 (by decide +kernel) (by decide +kernel)
theorem gw_490 : (Cond.code ({ cls := "SectionDesk$Desk", name := "removeNow", desc := "(I)I" } : MethodName) prog_3_method_9_code (3 : Nat) (Option.some FieldType.int)) ∈ GL := gl_of 530 (by decide +kernel) (by decide +kernel)
theorem gw_525 : (Cond.methodLink "SectionDeskLaw" (24 : Nat) ({ cls := "SectionDesk", name := "moveSection", desc := "(II)I" } : MethodName)) ∈ GL := gl_of 565 (by decide +kernel) (by decide +kernel)
theorem gw_526 : (Cond.instanceMethod ({ cls := "SectionDesk", name := "moveSection", desc := "(II)I" } : MethodName)) ∈ GL := gl_of 566 (by decide +kernel) (by decide +kernel)
theorem gw_527 : (Cond.selects "SectionDesk" ({ cls := "SectionDesk", name := "moveSection", desc := "(II)I" } : MethodName) ({ cls := "SectionDesk", name := "moveSection", desc := "(II)I" } : MethodName)) ∈ GL := gl_of 567 (by decide +kernel) (by decide +kernel)
theorem gw_528 : (Cond.code ({ cls := "SectionDesk", name := "moveSection", desc := "(II)I" } : MethodName) prog_1_method_4_code (3 : Nat) (Option.some FieldType.int)) ∈ GL := gl_of 568 (by decide +kernel) (by decide +kernel)
theorem gw_529 : (Cond.methodLink "SectionDesk" (67 : Nat) ({ cls := "SectionDesk$Desk", name := "moveFault", desc := "(II)I" } : MethodName)) ∈ GL := gl_of 569 (by decide +kernel) (by decide +kernel)
theorem gw_530 : (Cond.instanceMethod ({ cls := "SectionDesk$Desk", name := "moveFault", desc := "(II)I" } : MethodName)) ∈ GL := gl_of 570 (by decide +kernel) (by decide +kernel)
theorem gw_531 : (Cond.selects "SectionDesk$Desk" ({ cls := "SectionDesk$Desk", name := "moveFault", desc := "(II)I" } : MethodName) ({ cls := "SectionDesk$Desk", name := "moveFault", desc := "(II)I" } : MethodName)) ∈ GL := gl_of 571 (by decide +kernel) (by decide +kernel)
theorem gw_532 : (Cond.code ({ cls := "SectionDesk$Desk", name := "moveFault", desc := "(II)I" } : MethodName) prog_3_method_10_code (5 : Nat) (Option.some FieldType.int)) ∈ GL := gl_of 572 (by decide +kernel) (by decide +kernel)
theorem gw_537 : (Cond.methodLink "SectionDesk" (71 : Nat) ({ cls := "SectionDesk$Tree", name := "move", desc := "(II)V" } : MethodName)) ∈ GL := gl_of 577 (by decide +kernel) (by decide +kernel)
theorem gw_538 : (Cond.instanceMethod ({ cls := "SectionDesk$Tree", name := "move", desc := "(II)V" } : MethodName)) ∈ GL := gl_of 578 (by decide +kernel) (by decide +kernel)
theorem gw_539 : (Cond.selects "SectionDesk$Tree" ({ cls := "SectionDesk$Tree", name := "move", desc := "(II)V" } : MethodName) ({ cls := "SectionDesk$Tree", name := "move", desc := "(II)V" } : MethodName)) ∈ GL := gl_of 579 (by decide +kernel) (by decide +kernel)
theorem gw_540 : (Cond.code ({ cls := "SectionDesk$Tree", name := "move", desc := "(II)V" } : MethodName) prog_9_method_17_code (5 : Nat) (Option.none : Option FieldType)) ∈ GL := gl_of 580 (by decide +kernel) (by decide +kernel)
theorem gw_541 : (Cond.methodLink "SectionDesk" (75 : Nat) ({ cls := "SectionDesk$Tree", name := "depthOf", desc := "(I)I" } : MethodName)) ∈ GL := gl_of 581 (by decide +kernel) (by decide +kernel)
theorem gw_542 : (Cond.instanceMethod ({ cls := "SectionDesk$Tree", name := "depthOf", desc := "(I)I" } : MethodName)) ∈ GL := gl_of 582 (by decide +kernel) (by decide +kernel)
theorem gw_543 : (Cond.selects "SectionDesk$Tree" ({ cls := "SectionDesk$Tree", name := "depthOf", desc := "(I)I" } : MethodName) ({ cls := "SectionDesk$Tree", name := "depthOf", desc := "(I)I" } : MethodName)) ∈ GL := gl_of 583 (by decide +kernel) (by decide +kernel)
theorem gw_544 : (Cond.code ({ cls := "SectionDesk$Tree", name := "depthOf", desc := "(I)I" } : MethodName) prog_9_method_11_code (2 : Nat) (Option.some FieldType.int)) ∈ GL := gl_of 584 (by decide +kernel) (by decide +kernel)
theorem gw_549 : (Cond.methodLink "SectionDeskLaw" (37 : Nat) ({ cls := "SectionDesk", name := "write", desc := "(III)I" } : MethodName)) ∈ GL := gl_of 589 (by decide +kernel) (by decide +kernel)
theorem gw_550 : (Cond.instanceMethod ({ cls := "SectionDesk", name := "write", desc := "(III)I" } : MethodName)) ∈ GL := gl_of 590 (by decide +kernel) (by decide +kernel)
theorem gw_551 : (Cond.selects "SectionDesk" ({ cls := "SectionDesk", name := "write", desc := "(III)I" } : MethodName) ({ cls := "SectionDesk", name := "write", desc := "(III)I" } : MethodName)) ∈ GL := gl_of 591 (by decide +kernel) (by decide +kernel)
theorem gw_552 : (Cond.code ({ cls := "SectionDesk", name := "write", desc := "(III)I" } : MethodName) prog_1_method_9_code (4 : Nat) (Option.some FieldType.int)) ∈ GL := gl_of 592 (by decide +kernel) (by decide +kernel)
theorem gw_553 : (Cond.methodLink "SectionDesk" (124 : Nat) ({ cls := "SectionDesk$Desk", name := "writeFault", desc := "(III)I" } : MethodName)) ∈ GL := gl_of 593 (by decide +kernel) (by decide +kernel)
theorem gw_554 : (Cond.instanceMethod ({ cls := "SectionDesk$Desk", name := "writeFault", desc := "(III)I" } : MethodName)) ∈ GL := gl_of 594 (by decide +kernel) (by decide +kernel)
theorem gw_555 : (Cond.selects "SectionDesk$Desk" ({ cls := "SectionDesk$Desk", name := "writeFault", desc := "(III)I" } : MethodName) ({ cls := "SectionDesk$Desk", name := "writeFault", desc := "(III)I" } : MethodName)) ∈ GL := gl_of 595 (by decide +kernel) (by decide +kernel)
theorem gw_556 : (Cond.code ({ cls := "SectionDesk$Desk", name := "writeFault", desc := "(III)I" } : MethodName) prog_3_method_12_code (5 : Nat) (Option.some FieldType.int)) ∈ GL := gl_of 596 (by decide +kernel) (by decide +kernel)
theorem gw_565 : (Cond.methodLink "SectionDesk" (128 : Nat) ({ cls := "SectionDesk$Desk", name := "writeNow", desc := "(III)I" } : MethodName)) ∈ GL := gl_of 605 (by decide +kernel) (by decide +kernel)
theorem gw_566 : (Cond.instanceMethod ({ cls := "SectionDesk$Desk", name := "writeNow", desc := "(III)I" } : MethodName)) ∈ GL := gl_of 606 (by decide +kernel) (by decide +kernel)
theorem gw_567 : (Cond.selects "SectionDesk$Desk" ({ cls := "SectionDesk$Desk", name := "writeNow", desc := "(III)I" } : MethodName) ({ cls := "SectionDesk$Desk", name := "writeNow", desc := "(III)I" } : MethodName)) ∈ GL := gl_of 607 (by decide +kernel) (by decide +kernel)
theorem gw_568 : (Cond.code ({ cls := "SectionDesk$Desk", name := "writeNow", desc := "(III)I" } : MethodName) prog_3_method_13_code (6 : Nat) (Option.some FieldType.int)) ∈ GL := gl_of 608 (by decide +kernel) (by decide +kernel)
theorem gw_603 : (Cond.methodLink "SectionDeskLaw" (41 : Nat) ({ cls := "SectionDesk", name := "request", desc := "(IIIZ)I" } : MethodName)) ∈ GL := gl_of 643 (by decide +kernel) (by decide +kernel)
theorem gw_604 : (Cond.instanceMethod ({ cls := "SectionDesk", name := "request", desc := "(IIIZ)I" } : MethodName)) ∈ GL := gl_of 644 (by decide +kernel) (by decide +kernel)
theorem gw_605 : (Cond.selects "SectionDesk" ({ cls := "SectionDesk", name := "request", desc := "(IIIZ)I" } : MethodName) ({ cls := "SectionDesk", name := "request", desc := "(IIIZ)I" } : MethodName)) ∈ GL := gl_of 645 (by decide +kernel) (by decide +kernel)
theorem gw_606 : (Cond.code ({ cls := "SectionDesk", name := "request", desc := "(IIIZ)I" } : MethodName) prog_1_method_10_code (5 : Nat) (Option.some FieldType.int)) ∈ GL := gl_of 646 (by decide +kernel) (by decide +kernel)
theorem gw_723 : (Cond.methodLink "SectionDeskLaw" (45 : Nat) ({ cls := "SectionDesk", name := "cancel", desc := "(I)I" } : MethodName)) ∈ GL := gl_of 763 (by decide +kernel) (by decide +kernel)
theorem gw_724 : (Cond.instanceMethod ({ cls := "SectionDesk", name := "cancel", desc := "(I)I" } : MethodName)) ∈ GL := gl_of 764 (by decide +kernel) (by decide +kernel)
theorem gw_725 : (Cond.selects "SectionDesk" ({ cls := "SectionDesk", name := "cancel", desc := "(I)I" } : MethodName) ({ cls := "SectionDesk", name := "cancel", desc := "(I)I" } : MethodName)) ∈ GL := gl_of 765 (by decide +kernel) (by decide +kernel)
theorem gw_726 : (Cond.code ({ cls := "SectionDesk", name := "cancel", desc := "(I)I" } : MethodName) prog_1_method_11_code (2 : Nat) (Option.some FieldType.int)) ∈ GL := gl_of 766 (by decide +kernel) (by decide +kernel)
theorem gw_727 : (Cond.methodLink "SectionDesk" (138 : Nat) ({ cls := "SectionDesk$Desk", name := "waitingFault", desc := "(I)I" } : MethodName)) ∈ GL := gl_of 767 (by decide +kernel) (by decide +kernel)
theorem gw_728 : (Cond.instanceMethod ({ cls := "SectionDesk$Desk", name := "waitingFault", desc := "(I)I" } : MethodName)) ∈ GL := gl_of 768 (by decide +kernel) (by decide +kernel)
theorem gw_729 : (Cond.selects "SectionDesk$Desk" ({ cls := "SectionDesk$Desk", name := "waitingFault", desc := "(I)I" } : MethodName) ({ cls := "SectionDesk$Desk", name := "waitingFault", desc := "(I)I" } : MethodName)) ∈ GL := gl_of 769 (by decide +kernel) (by decide +kernel)
theorem gw_730 : (Cond.code ({ cls := "SectionDesk$Desk", name := "waitingFault", desc := "(I)I" } : MethodName) prog_3_method_31_code (2 : Nat) (Option.some FieldType.int)) ∈ GL := gl_of 770 (by decide +kernel) (by decide +kernel)
theorem gw_731 : (Cond.methodLink "SectionDesk" (141 : Nat) ({ cls := "SectionDesk$Desk", name := "cancelNow", desc := "(I)I" } : MethodName)) ∈ GL := gl_of 771 (by decide +kernel) (by decide +kernel)
theorem gw_732 : (Cond.instanceMethod ({ cls := "SectionDesk$Desk", name := "cancelNow", desc := "(I)I" } : MethodName)) ∈ GL := gl_of 772 (by decide +kernel) (by decide +kernel)
theorem gw_733 : (Cond.selects "SectionDesk$Desk" ({ cls := "SectionDesk$Desk", name := "cancelNow", desc := "(I)I" } : MethodName) ({ cls := "SectionDesk$Desk", name := "cancelNow", desc := "(I)I" } : MethodName)) ∈ GL := gl_of 773 (by decide +kernel) (by decide +kernel)
theorem gw_734 : (Cond.code ({ cls := "SectionDesk$Desk", name := "cancelNow", desc := "(I)I" } : MethodName) prog_3_method_32_code (2 : Nat) (Option.some FieldType.int)) ∈ GL := gl_of 774 (by decide +kernel) (by decide +kernel)
theorem gw_742 : (Cond.methodLink "SectionDeskLaw" (48 : Nat) ({ cls := "SectionDesk", name := "renew", desc := "(II)I" } : MethodName)) ∈ GL := gl_of 782 (by decide +kernel) (by decide +kernel)
theorem gw_743 : (Cond.instanceMethod ({ cls := "SectionDesk", name := "renew", desc := "(II)I" } : MethodName)) ∈ GL := gl_of 783 (by decide +kernel) (by decide +kernel)
theorem gw_744 : (Cond.selects "SectionDesk" ({ cls := "SectionDesk", name := "renew", desc := "(II)I" } : MethodName) ({ cls := "SectionDesk", name := "renew", desc := "(II)I" } : MethodName)) ∈ GL := gl_of 784 (by decide +kernel) (by decide +kernel)
theorem gw_745 : (Cond.code ({ cls := "SectionDesk", name := "renew", desc := "(II)I" } : MethodName) prog_1_method_12_code (3 : Nat) (Option.some FieldType.int)) ∈ GL := gl_of 785 (by decide +kernel) (by decide +kernel)
theorem gw_746 : (Cond.methodLink "SectionDesk" (144 : Nat) ({ cls := "SectionDesk$Desk", name := "renewFault", desc := "(II)I" } : MethodName)) ∈ GL := gl_of 786 (by decide +kernel) (by decide +kernel)
theorem gw_747 : (Cond.instanceMethod ({ cls := "SectionDesk$Desk", name := "renewFault", desc := "(II)I" } : MethodName)) ∈ GL := gl_of 787 (by decide +kernel) (by decide +kernel)
theorem gw_748 : (Cond.selects "SectionDesk$Desk" ({ cls := "SectionDesk$Desk", name := "renewFault", desc := "(II)I" } : MethodName) ({ cls := "SectionDesk$Desk", name := "renewFault", desc := "(II)I" } : MethodName)) ∈ GL := gl_of 788 (by decide +kernel) (by decide +kernel)
theorem gw_749 : (Cond.code ({ cls := "SectionDesk$Desk", name := "renewFault", desc := "(II)I" } : MethodName) prog_3_method_36_code (5 : Nat) (Option.some FieldType.int)) ∈ GL := gl_of 789 (by decide +kernel) (by decide +kernel)
theorem gw_751 : (Cond.methodLink "SectionDesk" (147 : Nat) ({ cls := "SectionDesk$Desk", name := "renewNow", desc := "(II)I" } : MethodName)) ∈ GL := gl_of 791 (by decide +kernel) (by decide +kernel)
theorem gw_752 : (Cond.instanceMethod ({ cls := "SectionDesk$Desk", name := "renewNow", desc := "(II)I" } : MethodName)) ∈ GL := gl_of 792 (by decide +kernel) (by decide +kernel)
theorem gw_753 : (Cond.selects "SectionDesk$Desk" ({ cls := "SectionDesk$Desk", name := "renewNow", desc := "(II)I" } : MethodName) ({ cls := "SectionDesk$Desk", name := "renewNow", desc := "(II)I" } : MethodName)) ∈ GL := gl_of 793 (by decide +kernel) (by decide +kernel)
theorem gw_754 : (Cond.code ({ cls := "SectionDesk$Desk", name := "renewNow", desc := "(II)I" } : MethodName) prog_3_method_37_code (3 : Nat) (Option.some FieldType.int)) ∈ GL := gl_of 794 (by decide +kernel) (by decide +kernel)
theorem gw_762 : (Cond.methodLink "SectionDeskLaw" (51 : Nat) ({ cls := "SectionDesk", name := "breakUp", desc := "(I)I" } : MethodName)) ∈ GL := gl_of 802 (by decide +kernel) (by decide +kernel)
theorem gw_763 : (Cond.instanceMethod ({ cls := "SectionDesk", name := "breakUp", desc := "(I)I" } : MethodName)) ∈ GL := gl_of 803 (by decide +kernel) (by decide +kernel)
theorem gw_764 : (Cond.selects "SectionDesk" ({ cls := "SectionDesk", name := "breakUp", desc := "(I)I" } : MethodName) ({ cls := "SectionDesk", name := "breakUp", desc := "(I)I" } : MethodName)) ∈ GL := gl_of 804 (by decide +kernel) (by decide +kernel)
theorem gw_765 : (Cond.code ({ cls := "SectionDesk", name := "breakUp", desc := "(I)I" } : MethodName) prog_1_method_13_code (2 : Nat) (Option.some FieldType.int)) ∈ GL := gl_of 805 (by decide +kernel) (by decide +kernel)
theorem gw_786 : (Cond.methodLink "SectionDeskLaw" (57 : Nat) ({ cls := "SectionDesk", name := "edit", desc := "(IIII)I" } : MethodName)) ∈ GL := gl_of 826 (by decide +kernel) (by decide +kernel)
theorem gw_787 : (Cond.instanceMethod ({ cls := "SectionDesk", name := "edit", desc := "(IIII)I" } : MethodName)) ∈ GL := gl_of 827 (by decide +kernel) (by decide +kernel)
theorem gw_788 : (Cond.selects "SectionDesk" ({ cls := "SectionDesk", name := "edit", desc := "(IIII)I" } : MethodName) ({ cls := "SectionDesk", name := "edit", desc := "(IIII)I" } : MethodName)) ∈ GL := gl_of 828 (by decide +kernel) (by decide +kernel)
theorem gw_789 : (Cond.code ({ cls := "SectionDesk", name := "edit", desc := "(IIII)I" } : MethodName) prog_1_method_15_code (5 : Nat) (Option.some FieldType.int)) ∈ GL := gl_of 829 (by decide +kernel) (by decide +kernel)
theorem gw_811 : (Cond.methodLink "SectionDeskLaw" (67 : Nat) ({ cls := "SectionDesk", name := "giveBack", desc := "(II)I" } : MethodName)) ∈ GL := gl_of 851 (by decide +kernel) (by decide +kernel)
theorem gw_812 : (Cond.instanceMethod ({ cls := "SectionDesk", name := "giveBack", desc := "(II)I" } : MethodName)) ∈ GL := gl_of 852 (by decide +kernel) (by decide +kernel)
theorem gw_813 : (Cond.selects "SectionDesk" ({ cls := "SectionDesk", name := "giveBack", desc := "(II)I" } : MethodName) ({ cls := "SectionDesk", name := "giveBack", desc := "(II)I" } : MethodName)) ∈ GL := gl_of 853 (by decide +kernel) (by decide +kernel)
theorem gw_814 : (Cond.code ({ cls := "SectionDesk", name := "giveBack", desc := "(II)I" } : MethodName) prog_1_method_18_code (3 : Nat) (Option.some FieldType.int)) ∈ GL := gl_of 854 (by decide +kernel) (by decide +kernel)
theorem gw_848 : (Cond.methodLink "SectionDeskLaw" (82 : Nat) ({ cls := "SectionDesk", name := "waitsFor", desc := "(I)I" } : MethodName)) ∈ GL := gl_of 888 (by decide +kernel) (by decide +kernel)
theorem gw_849 : (Cond.instanceMethod ({ cls := "SectionDesk", name := "waitsFor", desc := "(I)I" } : MethodName)) ∈ GL := gl_of 889 (by decide +kernel) (by decide +kernel)
theorem gw_850 : (Cond.selects "SectionDesk" ({ cls := "SectionDesk", name := "waitsFor", desc := "(I)I" } : MethodName) ({ cls := "SectionDesk", name := "waitsFor", desc := "(I)I" } : MethodName)) ∈ GL := gl_of 890 (by decide +kernel) (by decide +kernel)
theorem gw_851 : (Cond.code ({ cls := "SectionDesk", name := "waitsFor", desc := "(I)I" } : MethodName) prog_1_method_23_code (2 : Nat) (Option.some FieldType.int)) ∈ GL := gl_of 891 (by decide +kernel) (by decide +kernel)
theorem gw_852 : (Cond.methodLink "SectionDesk" (223 : Nat) ({ cls := "SectionDesk$Queue", name := "placeOf", desc := "(I)I" } : MethodName)) ∈ GL := gl_of 892 (by decide +kernel) (by decide +kernel)
theorem gw_853 : (Cond.methodLink "SectionDesk" (231 : Nat) ({ cls := "SectionDesk$Desk", name := "usersBefore", desc := "(I)I" } : MethodName)) ∈ GL := gl_of 893 (by decide +kernel) (by decide +kernel)
theorem gw_854 : (Cond.instanceMethod ({ cls := "SectionDesk$Desk", name := "usersBefore", desc := "(I)I" } : MethodName)) ∈ GL := gl_of 894 (by decide +kernel) (by decide +kernel)
theorem gw_855 : (Cond.selects "SectionDesk$Desk" ({ cls := "SectionDesk$Desk", name := "usersBefore", desc := "(I)I" } : MethodName) ({ cls := "SectionDesk$Desk", name := "usersBefore", desc := "(I)I" } : MethodName)) ∈ GL := gl_of 895 (by decide +kernel) (by decide +kernel)
theorem gw_856 : (Cond.code ({ cls := "SectionDesk$Desk", name := "usersBefore", desc := "(I)I" } : MethodName) prog_3_method_29_code (2 : Nat) (Option.some FieldType.int)) ∈ GL := gl_of 896 (by decide +kernel) (by decide +kernel)
theorem gw_860 : (Cond.methodLink "SectionDeskLaw" (94 : Nat) ({ cls := "SectionDesk", name := "revert", desc := "(II)I" } : MethodName)) ∈ GL := gl_of 900 (by decide +kernel) (by decide +kernel)
theorem gw_861 : (Cond.instanceMethod ({ cls := "SectionDesk", name := "revert", desc := "(II)I" } : MethodName)) ∈ GL := gl_of 901 (by decide +kernel) (by decide +kernel)
theorem gw_862 : (Cond.selects "SectionDesk" ({ cls := "SectionDesk", name := "revert", desc := "(II)I" } : MethodName) ({ cls := "SectionDesk", name := "revert", desc := "(II)I" } : MethodName)) ∈ GL := gl_of 902 (by decide +kernel) (by decide +kernel)
theorem gw_863 : (Cond.code ({ cls := "SectionDesk", name := "revert", desc := "(II)I" } : MethodName) prog_1_method_28_code (3 : Nat) (Option.some FieldType.int)) ∈ GL := gl_of 903 (by decide +kernel) (by decide +kernel)
theorem gw_864 : (Cond.methodLink "SectionDesk" (250 : Nat) ({ cls := "SectionDesk$Desk", name := "revertFault", desc := "(II)I" } : MethodName)) ∈ GL := gl_of 904 (by decide +kernel) (by decide +kernel)
theorem gw_865 : (Cond.instanceMethod ({ cls := "SectionDesk$Desk", name := "revertFault", desc := "(II)I" } : MethodName)) ∈ GL := gl_of 905 (by decide +kernel) (by decide +kernel)
theorem gw_866 : (Cond.selects "SectionDesk$Desk" ({ cls := "SectionDesk$Desk", name := "revertFault", desc := "(II)I" } : MethodName) ({ cls := "SectionDesk$Desk", name := "revertFault", desc := "(II)I" } : MethodName)) ∈ GL := gl_of 906 (by decide +kernel) (by decide +kernel)
theorem gw_867 : (Cond.code ({ cls := "SectionDesk$Desk", name := "revertFault", desc := "(II)I" } : MethodName) prog_3_method_19_code (3 : Nat) (Option.some FieldType.int)) ∈ GL := gl_of 907 (by decide +kernel) (by decide +kernel)
theorem gw_868 : (Cond.methodLink "SectionDesk" (253 : Nat) ({ cls := "SectionDesk$Desk", name := "revertNow", desc := "(II)I" } : MethodName)) ∈ GL := gl_of 908 (by decide +kernel) (by decide +kernel)
theorem gw_869 : (Cond.instanceMethod ({ cls := "SectionDesk$Desk", name := "revertNow", desc := "(II)I" } : MethodName)) ∈ GL := gl_of 909 (by decide +kernel) (by decide +kernel)
theorem gw_870 : (Cond.selects "SectionDesk$Desk" ({ cls := "SectionDesk$Desk", name := "revertNow", desc := "(II)I" } : MethodName) ({ cls := "SectionDesk$Desk", name := "revertNow", desc := "(II)I" } : MethodName)) ∈ GL := gl_of 910 (by decide +kernel) (by decide +kernel)
theorem gw_871 : (Cond.code ({ cls := "SectionDesk$Desk", name := "revertNow", desc := "(II)I" } : MethodName) prog_3_method_20_code (5 : Nat) (Option.some FieldType.int)) ∈ GL := gl_of 911 (by decide +kernel) (by decide +kernel)
theorem gw_881 : (Cond.methodLink "SectionDeskLaw" (100 : Nat) ({ cls := "SectionDesk", name := "pass", desc := "(I)I" } : MethodName)) ∈ GL := gl_of 921 (by decide +kernel) (by decide +kernel)
theorem gw_882 : (Cond.instanceMethod ({ cls := "SectionDesk", name := "pass", desc := "(I)I" } : MethodName)) ∈ GL := gl_of 922 (by decide +kernel) (by decide +kernel)
theorem gw_883 : (Cond.selects "SectionDesk" ({ cls := "SectionDesk", name := "pass", desc := "(I)I" } : MethodName) ({ cls := "SectionDesk", name := "pass", desc := "(I)I" } : MethodName)) ∈ GL := gl_of 923 (by decide +kernel) (by decide +kernel)
theorem gw_884 : (Cond.code ({ cls := "SectionDesk", name := "pass", desc := "(I)I" } : MethodName) prog_1_method_31_code (2 : Nat) (Option.some FieldType.int)) ∈ GL := gl_of 924 (by decide +kernel) (by decide +kernel)
theorem gw_912 : (Cond.methodLink "SectionDeskLaw" (109 : Nat) ({ cls := "SectionDesk", name := "outline", desc := "(I)I" } : MethodName)) ∈ GL := gl_of 952 (by decide +kernel) (by decide +kernel)
theorem gw_913 : (Cond.instanceMethod ({ cls := "SectionDesk", name := "outline", desc := "(I)I" } : MethodName)) ∈ GL := gl_of 953 (by decide +kernel) (by decide +kernel)
theorem gw_914 : (Cond.selects "SectionDesk" ({ cls := "SectionDesk", name := "outline", desc := "(I)I" } : MethodName) ({ cls := "SectionDesk", name := "outline", desc := "(I)I" } : MethodName)) ∈ GL := gl_of 954 (by decide +kernel) (by decide +kernel)
theorem gw_915 : (Cond.code ({ cls := "SectionDesk", name := "outline", desc := "(I)I" } : MethodName) prog_1_method_36_code (2 : Nat) (Option.some FieldType.int)) ∈ GL := gl_of 955 (by decide +kernel) (by decide +kernel)
theorem gw_916 : (Cond.methodLink "SectionDesk" (90 : Nat) ({ cls := "SectionDesk", name := "faultOf", desc := "(ZZZ)I" } : MethodName)) ∈ GL := gl_of 956 (by decide +kernel) (by decide +kernel)
theorem gw_918 : (Cond.static ({ cls := "SectionDesk$Outline", name := "putSection", desc := "(LSectionDesk$Outline;LSectionDesk$Tree;II)V" } : MethodName)) ∈ GL := gl_of 958 (by decide +kernel) (by decide +kernel)
theorem gw_919 : (Cond.code ({ cls := "SectionDesk$Outline", name := "putSection", desc := "(LSectionDesk$Outline;LSectionDesk$Tree;II)V" } : MethodName) prog_6_method_5_code (6 : Nat) (Option.none : Option FieldType)) ∈ GL := gl_of 959 (by decide +kernel) (by decide +kernel)
theorem gw_920 : (Cond.methodLink "SectionDesk$Outline" (27 : Nat) ({ cls := "SectionDesk$Outline", name := "putNumber", desc := "(I)V" } : MethodName)) ∈ GL := gl_of 960 (by decide +kernel) (by decide +kernel)
theorem gw_922 : (Cond.instanceMethod ({ cls := "SectionDesk$Outline", name := "putNumber", desc := "(I)V" } : MethodName)) ∈ GL := gl_of 962 (by decide +kernel) (by decide +kernel)
theorem gw_923 : (Cond.code ({ cls := "SectionDesk$Outline", name := "putNumber", desc := "(I)V" } : MethodName) prog_6_method_4_code (2 : Nat) (Option.none : Option FieldType)) ∈ GL := gl_of 963 (by decide +kernel) (by decide +kernel)
theorem gw_929 : (Cond.methodLink "SectionDesk$Outline" (30 : Nat) ({ cls := "SectionDesk$Tree", name := "childrenOf", desc := "(I)I" } : MethodName)) ∈ GL := gl_of 969 (by decide +kernel) (by decide +kernel)
theorem gw_930 : (Cond.instanceMethod ({ cls := "SectionDesk$Tree", name := "childrenOf", desc := "(I)I" } : MethodName)) ∈ GL := gl_of 970 (by decide +kernel) (by decide +kernel)
theorem gw_931 : (Cond.selects "SectionDesk$Tree" ({ cls := "SectionDesk$Tree", name := "childrenOf", desc := "(I)I" } : MethodName) ({ cls := "SectionDesk$Tree", name := "childrenOf", desc := "(I)I" } : MethodName)) ∈ GL := gl_of 971 (by decide +kernel) (by decide +kernel)
theorem gw_932 : (Cond.code ({ cls := "SectionDesk$Tree", name := "childrenOf", desc := "(I)I" } : MethodName) prog_9_method_12_code (4 : Nat) (Option.some FieldType.int)) ∈ GL := gl_of 972 (by decide +kernel) (by decide +kernel)
theorem gw_937 : (Cond.methodLink "SectionDesk$Outline" (36 : Nat) ({ cls := "SectionDesk$Tree", name := "childAt", desc := "(II)I" } : MethodName)) ∈ GL := gl_of 977 (by decide +kernel) (by decide +kernel)
theorem gw_938 : (Cond.instanceMethod ({ cls := "SectionDesk$Tree", name := "childAt", desc := "(II)I" } : MethodName)) ∈ GL := gl_of 978 (by decide +kernel) (by decide +kernel)
theorem gw_939 : (Cond.selects "SectionDesk$Tree" ({ cls := "SectionDesk$Tree", name := "childAt", desc := "(II)I" } : MethodName) ({ cls := "SectionDesk$Tree", name := "childAt", desc := "(II)I" } : MethodName)) ∈ GL := gl_of 979 (by decide +kernel) (by decide +kernel)
theorem gw_940 : (Cond.code ({ cls := "SectionDesk$Tree", name := "childAt", desc := "(II)I" } : MethodName) prog_9_method_13_code (5 : Nat) (Option.some FieldType.int)) ∈ GL := gl_of 980 (by decide +kernel) (by decide +kernel)
theorem gw_941 : (Cond.methodLink "SectionDesk$Outline" (40 : Nat) ({ cls := "SectionDesk$Outline", name := "putSection", desc := "(LSectionDesk$Outline;LSectionDesk$Tree;II)V" } : MethodName)) ∈ GL := gl_of 981 (by decide +kernel) (by decide +kernel)
theorem gw_942 : (Cond.methodLink "SectionDesk" (291 : Nat) ({ cls := "SectionDesk$Outline", name := "byteAt", desc := "(I)I" } : MethodName)) ∈ GL := gl_of 982 (by decide +kernel) (by decide +kernel)
theorem gw_943 : (Cond.instanceMethod ({ cls := "SectionDesk$Outline", name := "byteAt", desc := "(I)I" } : MethodName)) ∈ GL := gl_of 983 (by decide +kernel) (by decide +kernel)
theorem gw_944 : (Cond.selects "SectionDesk$Outline" ({ cls := "SectionDesk$Outline", name := "byteAt", desc := "(I)I" } : MethodName) ({ cls := "SectionDesk$Outline", name := "byteAt", desc := "(I)I" } : MethodName)) ∈ GL := gl_of 984 (by decide +kernel) (by decide +kernel)
theorem gw_945 : (Cond.code ({ cls := "SectionDesk$Outline", name := "byteAt", desc := "(I)I" } : MethodName) prog_6_method_2_code (3 : Nat) (Option.some FieldType.int)) ∈ GL := gl_of 985 (by decide +kernel) (by decide +kernel)
theorem gw_949 : (Cond.methodLink "SectionDeskLaw" (112 : Nat) ({ cls := "SectionDesk", name := "undo", desc := "()I" } : MethodName)) ∈ GL := gl_of 989 (by decide +kernel) (by decide +kernel)
theorem gw_950 : (Cond.instanceMethod ({ cls := "SectionDesk", name := "undo", desc := "()I" } : MethodName)) ∈ GL := gl_of 990 (by decide +kernel) (by decide +kernel)
theorem gw_951 : (Cond.selects "SectionDesk" ({ cls := "SectionDesk", name := "undo", desc := "()I" } : MethodName) ({ cls := "SectionDesk", name := "undo", desc := "()I" } : MethodName)) ∈ GL := gl_of 991 (by decide +kernel) (by decide +kernel)
theorem gw_952 : (Cond.code ({ cls := "SectionDesk", name := "undo", desc := "()I" } : MethodName) prog_1_method_37_code (1 : Nat) (Option.some FieldType.int)) ∈ GL := gl_of 992 (by decide +kernel) (by decide +kernel)
theorem gw_953 : (Cond.methodLink "SectionDesk" (295 : Nat) ({ cls := "SectionDesk$SavedStates", name := "pop", desc := "(LSectionDesk$Desk;)V" } : MethodName)) ∈ GL := gl_of 993 (by decide +kernel) (by decide +kernel)
theorem gw_954 : (Cond.instanceMethod ({ cls := "SectionDesk$SavedStates", name := "pop", desc := "(LSectionDesk$Desk;)V" } : MethodName)) ∈ GL := gl_of 994 (by decide +kernel) (by decide +kernel)
theorem gw_955 : (Cond.selects "SectionDesk$SavedStates" ({ cls := "SectionDesk$SavedStates", name := "pop", desc := "(LSectionDesk$Desk;)V" } : MethodName) ({ cls := "SectionDesk$SavedStates", name := "pop", desc := "(LSectionDesk$Desk;)V" } : MethodName)) ∈ GL := gl_of 995 (by decide +kernel) (by decide +kernel)
theorem gw_956 : (Cond.code ({ cls := "SectionDesk$SavedStates", name := "pop", desc := "(LSectionDesk$Desk;)V" } : MethodName) prog_8_method_4_code (2 : Nat) (Option.none : Option FieldType)) ∈ GL := gl_of 996 (by decide +kernel) (by decide +kernel)
theorem gw_979 : (Cond.methodLink "SectionDeskLaw" (28 : Nat) ({ cls := "SectionDesk", name := "section", desc := "(II)I" } : MethodName)) ∈ GL := gl_of 1019 (by decide +kernel) (by decide +kernel)
theorem gw_980 : (Cond.instanceMethod ({ cls := "SectionDesk", name := "section", desc := "(II)I" } : MethodName)) ∈ GL := gl_of 1020 (by decide +kernel) (by decide +kernel)
theorem gw_981 : (Cond.selects "SectionDesk" ({ cls := "SectionDesk", name := "section", desc := "(II)I" } : MethodName) ({ cls := "SectionDesk", name := "section", desc := "(II)I" } : MethodName)) ∈ GL := gl_of 1021 (by decide +kernel) (by decide +kernel)
theorem gw_982 : (Cond.code ({ cls := "SectionDesk", name := "section", desc := "(II)I" } : MethodName) prog_1_method_6_code (3 : Nat) (Option.some FieldType.int)) ∈ GL := gl_of 1022 (by decide +kernel) (by decide +kernel)
theorem gw_983 : (Cond.methodLink "SectionDesk" (82 : Nat) ({ cls := "SectionDesk$Tree", name := "has", desc := "(I)Z" } : MethodName)) ∈ GL := gl_of 1023 (by decide +kernel) (by decide +kernel)
theorem gw_984 : (Cond.methodLink "SectionDesk" (94 : Nat) ({ cls := "SectionDesk$Tree", name := "parentOf", desc := "(I)I" } : MethodName)) ∈ GL := gl_of 1024 (by decide +kernel) (by decide +kernel)
theorem gw_985 : (Cond.methodLink "SectionDesk" (97 : Nat) ({ cls := "SectionDesk$Tree", name := "childrenOf", desc := "(I)I" } : MethodName)) ∈ GL := gl_of 1025 (by decide +kernel) (by decide +kernel)
theorem gw_986 : (Cond.methodLink "SectionDesk" (100 : Nat) ({ cls := "SectionDesk$Tree", name := "versionOf", desc := "(I)I" } : MethodName)) ∈ GL := gl_of 1026 (by decide +kernel) (by decide +kernel)
theorem gw_987 : (Cond.instanceMethod ({ cls := "SectionDesk$Tree", name := "versionOf", desc := "(I)I" } : MethodName)) ∈ GL := gl_of 1027 (by decide +kernel) (by decide +kernel)
theorem gw_988 : (Cond.selects "SectionDesk$Tree" ({ cls := "SectionDesk$Tree", name := "versionOf", desc := "(I)I" } : MethodName) ({ cls := "SectionDesk$Tree", name := "versionOf", desc := "(I)I" } : MethodName)) ∈ GL := gl_of 1028 (by decide +kernel) (by decide +kernel)
theorem gw_989 : (Cond.code ({ cls := "SectionDesk$Tree", name := "versionOf", desc := "(I)I" } : MethodName) prog_9_method_5_code (2 : Nat) (Option.some FieldType.int)) ∈ GL := gl_of 1029 (by decide +kernel) (by decide +kernel)
theorem gw_990 : (Cond.methodLink "SectionDesk" (103 : Nat) ({ cls := "SectionDesk$Tree", name := "subtreeOf", desc := "(I)I" } : MethodName)) ∈ GL := gl_of 1030 (by decide +kernel) (by decide +kernel)
theorem gw_991 : (Cond.methodLink "SectionDesk" (106 : Nat) ({ cls := "java/lang/Integer", name := "bitCount", desc := "(I)I" } : MethodName)) ∈ GL := gl_of 1031 (by decide +kernel) (by decide +kernel)
theorem gw_995 : (Cond.methodLink "SectionDeskLaw" (34 : Nat) ({ cls := "SectionDesk", name := "line", desc := "(II)I" } : MethodName)) ∈ GL := gl_of 1035 (by decide +kernel) (by decide +kernel)
theorem gw_996 : (Cond.instanceMethod ({ cls := "SectionDesk", name := "line", desc := "(II)I" } : MethodName)) ∈ GL := gl_of 1036 (by decide +kernel) (by decide +kernel)
theorem gw_997 : (Cond.selects "SectionDesk" ({ cls := "SectionDesk", name := "line", desc := "(II)I" } : MethodName) ({ cls := "SectionDesk", name := "line", desc := "(II)I" } : MethodName)) ∈ GL := gl_of 1037 (by decide +kernel) (by decide +kernel)
theorem gw_998 : (Cond.code ({ cls := "SectionDesk", name := "line", desc := "(II)I" } : MethodName) prog_1_method_8_code (3 : Nat) (Option.some FieldType.int)) ∈ GL := gl_of 1038 (by decide +kernel) (by decide +kernel)
theorem gw_999 : (Cond.methodLink "SectionDesk" (114 : Nat) ({ cls := "SectionDesk$Desk", name := "hasLine", desc := "(II)Z" } : MethodName)) ∈ GL := gl_of 1039 (by decide +kernel) (by decide +kernel)
theorem gw_1000 : (Cond.methodLink "SectionDesk" (118 : Nat) ({ cls := "SectionDesk", name := "cellOf", desc := "(II)I" } : MethodName)) ∈ GL := gl_of 1040 (by decide +kernel) (by decide +kernel)
theorem gw_1001 : (Cond.methodLink "SectionDesk" (121 : Nat) ({ cls := "SectionDesk$Tree", name := "valueAt", desc := "(I)I" } : MethodName)) ∈ GL := gl_of 1041 (by decide +kernel) (by decide +kernel)
theorem gw_1005 : (Cond.methodLink "SectionDeskLaw" (73 : Nat) ({ cls := "SectionDesk", name := "holders", desc := "(I)I" } : MethodName)) ∈ GL := gl_of 1045 (by decide +kernel) (by decide +kernel)
theorem gw_1006 : (Cond.instanceMethod ({ cls := "SectionDesk", name := "holders", desc := "(I)I" } : MethodName)) ∈ GL := gl_of 1046 (by decide +kernel) (by decide +kernel)
theorem gw_1007 : (Cond.selects "SectionDesk" ({ cls := "SectionDesk", name := "holders", desc := "(I)I" } : MethodName) ({ cls := "SectionDesk", name := "holders", desc := "(I)I" } : MethodName)) ∈ GL := gl_of 1047 (by decide +kernel) (by decide +kernel)
theorem gw_1008 : (Cond.code ({ cls := "SectionDesk", name := "holders", desc := "(I)I" } : MethodName) prog_1_method_20_code (2 : Nat) (Option.some FieldType.int)) ∈ GL := gl_of 1048 (by decide +kernel) (by decide +kernel)
theorem gw_1009 : (Cond.methodLink "SectionDesk" (200 : Nat) ({ cls := "SectionDesk$Desk", name := "holdersOf", desc := "(I)I" } : MethodName)) ∈ GL := gl_of 1049 (by decide +kernel) (by decide +kernel)
theorem gw_1010 : (Cond.instanceMethod ({ cls := "SectionDesk$Desk", name := "holdersOf", desc := "(I)I" } : MethodName)) ∈ GL := gl_of 1050 (by decide +kernel) (by decide +kernel)
theorem gw_1011 : (Cond.selects "SectionDesk$Desk" ({ cls := "SectionDesk$Desk", name := "holdersOf", desc := "(I)I" } : MethodName) ({ cls := "SectionDesk$Desk", name := "holdersOf", desc := "(I)I" } : MethodName)) ∈ GL := gl_of 1051 (by decide +kernel) (by decide +kernel)
theorem gw_1012 : (Cond.code ({ cls := "SectionDesk$Desk", name := "holdersOf", desc := "(I)I" } : MethodName) prog_3_method_44_code (4 : Nat) (Option.some FieldType.int)) ∈ GL := gl_of 1052 (by decide +kernel) (by decide +kernel)
theorem gw_1016 : (Cond.methodLink "SectionDeskLaw" (70 : Nat) ({ cls := "SectionDesk", name := "checkOut", desc := "(II)I" } : MethodName)) ∈ GL := gl_of 1056 (by decide +kernel) (by decide +kernel)
theorem gw_1017 : (Cond.instanceMethod ({ cls := "SectionDesk", name := "checkOut", desc := "(II)I" } : MethodName)) ∈ GL := gl_of 1057 (by decide +kernel) (by decide +kernel)
theorem gw_1018 : (Cond.selects "SectionDesk" ({ cls := "SectionDesk", name := "checkOut", desc := "(II)I" } : MethodName) ({ cls := "SectionDesk", name := "checkOut", desc := "(II)I" } : MethodName)) ∈ GL := gl_of 1058 (by decide +kernel) (by decide +kernel)
theorem gw_1019 : (Cond.code ({ cls := "SectionDesk", name := "checkOut", desc := "(II)I" } : MethodName) prog_1_method_19_code (3 : Nat) (Option.some FieldType.int)) ∈ GL := gl_of 1059 (by decide +kernel) (by decide +kernel)
theorem gw_1020 : (Cond.methodLink "SectionDesk" (193 : Nat) ({ cls := "SectionDesk$CheckOuts", name := "has", desc := "(I)Z" } : MethodName)) ∈ GL := gl_of 1060 (by decide +kernel) (by decide +kernel)
theorem gw_1021 : (Cond.methodLink "SectionDesk" (194 : Nat) ({ cls := "SectionDesk$CheckOuts", name := "fact", desc := "(II)I" } : MethodName)) ∈ GL := gl_of 1061 (by decide +kernel) (by decide +kernel)
theorem gw_1022 : (Cond.methodLink "SectionDesk" (197 : Nat) ({ cls := "SectionDesk$Desk", name := "countEdited", desc := "(I)I" } : MethodName)) ∈ GL := gl_of 1062 (by decide +kernel) (by decide +kernel)
theorem gw_1029 : (Cond.methodLink "SectionDeskLaw" (61 : Nat) ({ cls := "SectionDesk", name := "copied", desc := "(IIIZ)I" } : MethodName)) ∈ GL := gl_of 1069 (by decide +kernel) (by decide +kernel)
theorem gw_1030 : (Cond.instanceMethod ({ cls := "SectionDesk", name := "copied", desc := "(IIIZ)I" } : MethodName)) ∈ GL := gl_of 1070 (by decide +kernel) (by decide +kernel)
theorem gw_1031 : (Cond.selects "SectionDesk" ({ cls := "SectionDesk", name := "copied", desc := "(IIIZ)I" } : MethodName) ({ cls := "SectionDesk", name := "copied", desc := "(IIIZ)I" } : MethodName)) ∈ GL := gl_of 1071 (by decide +kernel) (by decide +kernel)
theorem gw_1032 : (Cond.code ({ cls := "SectionDesk", name := "copied", desc := "(IIIZ)I" } : MethodName) prog_1_method_16_code (6 : Nat) (Option.some FieldType.int)) ∈ GL := gl_of 1072 (by decide +kernel) (by decide +kernel)
theorem gw_1033 : (Cond.methodLink "SectionDesk" (169 : Nat) ({ cls := "SectionDesk$Desk", name := "hasCopy", desc := "(III)Z" } : MethodName)) ∈ GL := gl_of 1073 (by decide +kernel) (by decide +kernel)
theorem gw_1034 : (Cond.methodLink "SectionDesk" (176 : Nat) ({ cls := "SectionDesk$CheckOuts", name := "baseAt", desc := "(II)I" } : MethodName)) ∈ GL := gl_of 1074 (by decide +kernel) (by decide +kernel)
theorem gw_1035 : (Cond.methodLink "SectionDesk" (181 : Nat) ({ cls := "SectionDesk$CheckOuts", name := "ownAt", desc := "(II)I" } : MethodName)) ∈ GL := gl_of 1075 (by decide +kernel) (by decide +kernel)
theorem gw_1039 : (Cond.methodLink "SectionDeskLaw" (97 : Nat) ({ cls := "SectionDesk", name := "waitingAt", desc := "(II)I" } : MethodName)) ∈ GL := gl_of 1079 (by decide +kernel) (by decide +kernel)
theorem gw_1040 : (Cond.instanceMethod ({ cls := "SectionDesk", name := "waitingAt", desc := "(II)I" } : MethodName)) ∈ GL := gl_of 1080 (by decide +kernel) (by decide +kernel)
theorem gw_1041 : (Cond.selects "SectionDesk" ({ cls := "SectionDesk", name := "waitingAt", desc := "(II)I" } : MethodName) ({ cls := "SectionDesk", name := "waitingAt", desc := "(II)I" } : MethodName)) ∈ GL := gl_of 1081 (by decide +kernel) (by decide +kernel)
theorem gw_1042 : (Cond.code ({ cls := "SectionDesk", name := "waitingAt", desc := "(II)I" } : MethodName) prog_1_method_30_code (4 : Nat) (Option.some FieldType.int)) ∈ GL := gl_of 1082 (by decide +kernel) (by decide +kernel)
theorem gw_1043 : (Cond.methodLink "SectionDesk" (257 : Nat) ({ cls := "SectionDesk$Queue", name := "fact", desc := "(II)I" } : MethodName)) ∈ GL := gl_of 1083 (by decide +kernel) (by decide +kernel)
theorem gw_1047 : (Cond.methodLink "SectionDeskLaw" (103 : Nat) ({ cls := "SectionDesk", name := "useBits", desc := "(I)I" } : MethodName)) ∈ GL := gl_of 1087 (by decide +kernel) (by decide +kernel)
theorem gw_1048 : (Cond.instanceMethod ({ cls := "SectionDesk", name := "useBits", desc := "(I)I" } : MethodName)) ∈ GL := gl_of 1088 (by decide +kernel) (by decide +kernel)
theorem gw_1049 : (Cond.selects "SectionDesk" ({ cls := "SectionDesk", name := "useBits", desc := "(I)I" } : MethodName) ({ cls := "SectionDesk", name := "useBits", desc := "(I)I" } : MethodName)) ∈ GL := gl_of 1089 (by decide +kernel) (by decide +kernel)
theorem gw_1050 : (Cond.code ({ cls := "SectionDesk", name := "useBits", desc := "(I)I" } : MethodName) prog_1_method_32_code (2 : Nat) (Option.some FieldType.int)) ∈ GL := gl_of 1090 (by decide +kernel) (by decide +kernel)
theorem gw_1051 : (Cond.methodLink "SectionDesk" (261 : Nat) ({ cls := "SectionDesk", name := "isUser", desc := "(I)Z" } : MethodName)) ∈ GL := gl_of 1091 (by decide +kernel) (by decide +kernel)
theorem gw_1052 : (Cond.methodLink "SectionDesk" (264 : Nat) ({ cls := "SectionDesk$Desk", name := "heldTicksOf", desc := "(I)I" } : MethodName)) ∈ GL := gl_of 1092 (by decide +kernel) (by decide +kernel)
theorem gw_1053 : (Cond.instanceMethod ({ cls := "SectionDesk$Desk", name := "heldTicksOf", desc := "(I)I" } : MethodName)) ∈ GL := gl_of 1093 (by decide +kernel) (by decide +kernel)
theorem gw_1054 : (Cond.selects "SectionDesk$Desk" ({ cls := "SectionDesk$Desk", name := "heldTicksOf", desc := "(I)I" } : MethodName) ({ cls := "SectionDesk$Desk", name := "heldTicksOf", desc := "(I)I" } : MethodName)) ∈ GL := gl_of 1094 (by decide +kernel) (by decide +kernel)
theorem gw_1055 : (Cond.code ({ cls := "SectionDesk$Desk", name := "heldTicksOf", desc := "(I)I" } : MethodName) prog_3_method_56_code (2 : Nat) (Option.some FieldType.int)) ∈ GL := gl_of 1095 (by decide +kernel) (by decide +kernel)
theorem gw_1056 : (Cond.methodLink "SectionDesk" (267 : Nat) ({ cls := "SectionDesk", name := "floatBits", desc := "(F)I" } : MethodName)) ∈ GL := gl_of 1096 (by decide +kernel) (by decide +kernel)
theorem gw_1057 : (Cond.static ({ cls := "SectionDesk", name := "floatBits", desc := "(F)I" } : MethodName)) ∈ GL := gl_of 1097 (by decide +kernel) (by decide +kernel)
theorem gw_1058 : (Cond.code ({ cls := "SectionDesk", name := "floatBits", desc := "(F)I" } : MethodName) prog_1_method_51_code (4 : Nat) (Option.some FieldType.int)) ∈ GL := gl_of 1098 (by decide +kernel) (by decide +kernel)
theorem gw_1064 : (Cond.methodLink "SectionDeskLaw" (31 : Nat) ({ cls := "SectionDesk", name := "child", desc := "(II)I" } : MethodName)) ∈ GL := gl_of 1104 (by decide +kernel) (by decide +kernel)
theorem gw_1065 : (Cond.instanceMethod ({ cls := "SectionDesk", name := "child", desc := "(II)I" } : MethodName)) ∈ GL := gl_of 1105 (by decide +kernel) (by decide +kernel)
theorem gw_1066 : (Cond.selects "SectionDesk" ({ cls := "SectionDesk", name := "child", desc := "(II)I" } : MethodName) ({ cls := "SectionDesk", name := "child", desc := "(II)I" } : MethodName)) ∈ GL := gl_of 1106 (by decide +kernel) (by decide +kernel)
theorem gw_1067 : (Cond.code ({ cls := "SectionDesk", name := "child", desc := "(II)I" } : MethodName) prog_1_method_7_code (4 : Nat) (Option.some FieldType.int)) ∈ GL := gl_of 1107 (by decide +kernel) (by decide +kernel)
theorem gw_1068 : (Cond.methodLink "SectionDesk" (111 : Nat) ({ cls := "SectionDesk$Tree", name := "childAt", desc := "(II)I" } : MethodName)) ∈ GL := gl_of 1108 (by decide +kernel) (by decide +kernel)
theorem gw_1072 : (Cond.methodLink "SectionDeskLaw" (54 : Nat) ({ cls := "SectionDesk", name := "discard", desc := "(I)I" } : MethodName)) ∈ GL := gl_of 1112 (by decide +kernel) (by decide +kernel)
theorem gw_1073 : (Cond.instanceMethod ({ cls := "SectionDesk", name := "discard", desc := "(I)I" } : MethodName)) ∈ GL := gl_of 1113 (by decide +kernel) (by decide +kernel)
theorem gw_1074 : (Cond.selects "SectionDesk" ({ cls := "SectionDesk", name := "discard", desc := "(I)I" } : MethodName) ({ cls := "SectionDesk", name := "discard", desc := "(I)I" } : MethodName)) ∈ GL := gl_of 1114 (by decide +kernel) (by decide +kernel)
theorem gw_1075 : (Cond.code ({ cls := "SectionDesk", name := "discard", desc := "(I)I" } : MethodName) prog_1_method_14_code (2 : Nat) (Option.some FieldType.int)) ∈ GL := gl_of 1115 (by decide +kernel) (by decide +kernel)
theorem gw_1088 : (Cond.methodLink "SectionDeskLaw" (76 : Nat) ({ cls := "SectionDesk", name := "ifBroken", desc := "(I)I" } : MethodName)) ∈ GL := gl_of 1128 (by decide +kernel) (by decide +kernel)
theorem gw_1089 : (Cond.instanceMethod ({ cls := "SectionDesk", name := "ifBroken", desc := "(I)I" } : MethodName)) ∈ GL := gl_of 1129 (by decide +kernel) (by decide +kernel)
theorem gw_1090 : (Cond.selects "SectionDesk" ({ cls := "SectionDesk", name := "ifBroken", desc := "(I)I" } : MethodName) ({ cls := "SectionDesk", name := "ifBroken", desc := "(I)I" } : MethodName)) ∈ GL := gl_of 1130 (by decide +kernel) (by decide +kernel)
theorem gw_1091 : (Cond.code ({ cls := "SectionDesk", name := "ifBroken", desc := "(I)I" } : MethodName) prog_1_method_21_code (2 : Nat) (Option.some FieldType.int)) ∈ GL := gl_of 1131 (by decide +kernel) (by decide +kernel)
theorem gw_1092 : (Cond.methodLink "SectionDesk" (203 : Nat) ({ cls := "SectionDesk$CheckOuts", name := "isHeld", desc := "(I)Z" } : MethodName)) ∈ GL := gl_of 1132 (by decide +kernel) (by decide +kernel)
theorem gw_1094 : (Cond.methodLink "SectionDesk" (209 : Nat) ({ cls := "SectionDesk$CheckOuts", name := "lose", desc := "(I)V" } : MethodName)) ∈ GL := gl_of 1134 (by decide +kernel) (by decide +kernel)
theorem gw_1095 : (Cond.methodLink "SectionDesk" (212 : Nat) ({ cls := "SectionDesk$Desk", name := "serve", desc := "()I" } : MethodName)) ∈ GL := gl_of 1135 (by decide +kernel) (by decide +kernel)
theorem gw_1099 : (Cond.methodLink "SectionDeskLaw" (79 : Nat) ({ cls := "SectionDesk", name := "grantedAt", desc := "(I)I" } : MethodName)) ∈ GL := gl_of 1139 (by decide +kernel) (by decide +kernel)
theorem gw_1100 : (Cond.instanceMethod ({ cls := "SectionDesk", name := "grantedAt", desc := "(I)I" } : MethodName)) ∈ GL := gl_of 1140 (by decide +kernel) (by decide +kernel)
theorem gw_1101 : (Cond.selects "SectionDesk" ({ cls := "SectionDesk", name := "grantedAt", desc := "(I)I" } : MethodName) ({ cls := "SectionDesk", name := "grantedAt", desc := "(I)I" } : MethodName)) ∈ GL := gl_of 1141 (by decide +kernel) (by decide +kernel)
theorem gw_1102 : (Cond.code ({ cls := "SectionDesk", name := "grantedAt", desc := "(I)I" } : MethodName) prog_1_method_22_code (2 : Nat) (Option.some FieldType.int)) ∈ GL := gl_of 1142 (by decide +kernel) (by decide +kernel)
theorem gw_1106 : (Cond.methodLink "SectionDeskLaw" (85 : Nat) ({ cls := "SectionDesk", name := "entry", desc := "(II)I" } : MethodName)) ∈ GL := gl_of 1146 (by decide +kernel) (by decide +kernel)
theorem gw_1107 : (Cond.instanceMethod ({ cls := "SectionDesk", name := "entry", desc := "(II)I" } : MethodName)) ∈ GL := gl_of 1147 (by decide +kernel) (by decide +kernel)
theorem gw_1108 : (Cond.selects "SectionDesk" ({ cls := "SectionDesk", name := "entry", desc := "(II)I" } : MethodName) ({ cls := "SectionDesk", name := "entry", desc := "(II)I" } : MethodName)) ∈ GL := gl_of 1148 (by decide +kernel) (by decide +kernel)
theorem gw_1109 : (Cond.code ({ cls := "SectionDesk", name := "entry", desc := "(II)I" } : MethodName) prog_1_method_25_code (4 : Nat) (Option.some FieldType.int)) ∈ GL := gl_of 1149 (by decide +kernel) (by decide +kernel)
theorem gw_1110 : (Cond.methodLink "SectionDesk" (243 : Nat) ({ cls := "SectionDesk$History", name := "fact", desc := "(II)I" } : MethodName)) ∈ GL := gl_of 1150 (by decide +kernel) (by decide +kernel)
theorem gw_1114 : (Cond.methodLink "SectionDeskLaw" (88 : Nat) ({ cls := "SectionDesk", name := "blame", desc := "(II)I" } : MethodName)) ∈ GL := gl_of 1154 (by decide +kernel) (by decide +kernel)
theorem gw_1115 : (Cond.instanceMethod ({ cls := "SectionDesk", name := "blame", desc := "(II)I" } : MethodName)) ∈ GL := gl_of 1155 (by decide +kernel) (by decide +kernel)
theorem gw_1116 : (Cond.selects "SectionDesk" ({ cls := "SectionDesk", name := "blame", desc := "(II)I" } : MethodName) ({ cls := "SectionDesk", name := "blame", desc := "(II)I" } : MethodName)) ∈ GL := gl_of 1156 (by decide +kernel) (by decide +kernel)
theorem gw_1117 : (Cond.code ({ cls := "SectionDesk", name := "blame", desc := "(II)I" } : MethodName) prog_1_method_26_code (3 : Nat) (Option.some FieldType.int)) ∈ GL := gl_of 1157 (by decide +kernel) (by decide +kernel)
theorem gw_1118 : (Cond.methodLink "SectionDesk" (244 : Nat) ({ cls := "SectionDesk$History", name := "latestUserOf", desc := "(II)I" } : MethodName)) ∈ GL := gl_of 1158 (by decide +kernel) (by decide +kernel)
theorem gw_1119 : (Cond.instanceMethod ({ cls := "SectionDesk$History", name := "latestUserOf", desc := "(II)I" } : MethodName)) ∈ GL := gl_of 1159 (by decide +kernel) (by decide +kernel)
theorem gw_1120 : (Cond.selects "SectionDesk$History" ({ cls := "SectionDesk$History", name := "latestUserOf", desc := "(II)I" } : MethodName) ({ cls := "SectionDesk$History", name := "latestUserOf", desc := "(II)I" } : MethodName)) ∈ GL := gl_of 1160 (by decide +kernel) (by decide +kernel)
theorem gw_1121 : (Cond.code ({ cls := "SectionDesk$History", name := "latestUserOf", desc := "(II)I" } : MethodName) prog_4_method_8_code (4 : Nat) (Option.some FieldType.int)) ∈ GL := gl_of 1161 (by decide +kernel) (by decide +kernel)
theorem gw_1125 : (Cond.methodLink "SectionDeskLaw" (91 : Nat) ({ cls := "SectionDesk", name := "lineAt", desc := "(III)I" } : MethodName)) ∈ GL := gl_of 1165 (by decide +kernel) (by decide +kernel)
theorem gw_1126 : (Cond.instanceMethod ({ cls := "SectionDesk", name := "lineAt", desc := "(III)I" } : MethodName)) ∈ GL := gl_of 1166 (by decide +kernel) (by decide +kernel)
theorem gw_1127 : (Cond.selects "SectionDesk" ({ cls := "SectionDesk", name := "lineAt", desc := "(III)I" } : MethodName) ({ cls := "SectionDesk", name := "lineAt", desc := "(III)I" } : MethodName)) ∈ GL := gl_of 1167 (by decide +kernel) (by decide +kernel)
theorem gw_1128 : (Cond.code ({ cls := "SectionDesk", name := "lineAt", desc := "(III)I" } : MethodName) prog_1_method_27_code (4 : Nat) (Option.some FieldType.int)) ∈ GL := gl_of 1168 (by decide +kernel) (by decide +kernel)
theorem gw_1129 : (Cond.methodLink "SectionDesk" (247 : Nat) ({ cls := "SectionDesk$Desk", name := "valueAtEndOf", desc := "(II)I" } : MethodName)) ∈ GL := gl_of 1169 (by decide +kernel) (by decide +kernel)
theorem gw_1130 : (Cond.instanceMethod ({ cls := "SectionDesk$Desk", name := "valueAtEndOf", desc := "(II)I" } : MethodName)) ∈ GL := gl_of 1170 (by decide +kernel) (by decide +kernel)
theorem gw_1131 : (Cond.selects "SectionDesk$Desk" ({ cls := "SectionDesk$Desk", name := "valueAtEndOf", desc := "(II)I" } : MethodName) ({ cls := "SectionDesk$Desk", name := "valueAtEndOf", desc := "(II)I" } : MethodName)) ∈ GL := gl_of 1171 (by decide +kernel) (by decide +kernel)
theorem gw_1132 : (Cond.code ({ cls := "SectionDesk$Desk", name := "valueAtEndOf", desc := "(II)I" } : MethodName) prog_3_method_18_code (3 : Nat) (Option.some FieldType.int)) ∈ GL := gl_of 1172 (by decide +kernel) (by decide +kernel)
theorem gw_1136 : (Cond.methodLink "SectionDeskLaw" (106 : Nat) ({ cls := "SectionDesk", name := "append", desc := "(I)I" } : MethodName)) ∈ GL := gl_of 1176 (by decide +kernel) (by decide +kernel)
theorem gw_1137 : (Cond.instanceMethod ({ cls := "SectionDesk", name := "append", desc := "(I)I" } : MethodName)) ∈ GL := gl_of 1177 (by decide +kernel) (by decide +kernel)
theorem gw_1138 : (Cond.selects "SectionDesk" ({ cls := "SectionDesk", name := "append", desc := "(I)I" } : MethodName) ({ cls := "SectionDesk", name := "append", desc := "(I)I" } : MethodName)) ∈ GL := gl_of 1178 (by decide +kernel) (by decide +kernel)
theorem gw_1139 : (Cond.code ({ cls := "SectionDesk", name := "append", desc := "(I)I" } : MethodName) prog_1_method_33_code (2 : Nat) (Option.some FieldType.int)) ∈ GL := gl_of 1179 (by decide +kernel) (by decide +kernel)
theorem gw_1140 : (Cond.methodLink "SectionDesk" (274 : Nat) ({ cls := "SectionDesk$OrderText", name := "put", desc := "(I)I" } : MethodName)) ∈ GL := gl_of 1180 (by decide +kernel) (by decide +kernel)
theorem gw_1141 : (Cond.instanceMethod ({ cls := "SectionDesk$OrderText", name := "put", desc := "(I)I" } : MethodName)) ∈ GL := gl_of 1181 (by decide +kernel) (by decide +kernel)
theorem gw_1142 : (Cond.selects "SectionDesk$OrderText" ({ cls := "SectionDesk$OrderText", name := "put", desc := "(I)I" } : MethodName) ({ cls := "SectionDesk$OrderText", name := "put", desc := "(I)I" } : MethodName)) ∈ GL := gl_of 1182 (by decide +kernel) (by decide +kernel)
theorem gw_1143 : (Cond.code ({ cls := "SectionDesk$OrderText", name := "put", desc := "(I)I" } : MethodName) prog_5_method_2_code (2 : Nat) (Option.some FieldType.int)) ∈ GL := gl_of 1183 (by decide +kernel) (by decide +kernel)
theorem gw_1154 : (Cond.methodLink "SectionDeskLaw" (64 : Nat) ({ cls := "SectionDesk", name := "conflicts", desc := "(I)I" } : MethodName)) ∈ GL := gl_of 1194 (by decide +kernel) (by decide +kernel)
theorem gw_1155 : (Cond.instanceMethod ({ cls := "SectionDesk", name := "conflicts", desc := "(I)I" } : MethodName)) ∈ GL := gl_of 1195 (by decide +kernel) (by decide +kernel)
theorem gw_1156 : (Cond.selects "SectionDesk" ({ cls := "SectionDesk", name := "conflicts", desc := "(I)I" } : MethodName) ({ cls := "SectionDesk", name := "conflicts", desc := "(I)I" } : MethodName)) ∈ GL := gl_of 1196 (by decide +kernel) (by decide +kernel)
theorem gw_1157 : (Cond.code ({ cls := "SectionDesk", name := "conflicts", desc := "(I)I" } : MethodName) prog_1_method_17_code (2 : Nat) (Option.some FieldType.int)) ∈ GL := gl_of 1197 (by decide +kernel) (by decide +kernel)
theorem gw_1158 : (Cond.methodLink "SectionDesk" (184 : Nat) ({ cls := "SectionDesk$Desk", name := "countConflicts", desc := "(I)I" } : MethodName)) ∈ GL := gl_of 1198 (by decide +kernel) (by decide +kernel)
theorem fw_X8_36 : fldw RX8 36 8 4 "outlined" "" := ⟨RX8, TX8, 5, rfl, by decide, inX8, rfl, rfl, Or.inl gw_215⟩
theorem fw_X8_172 : fldw RX8 172 1 1 "outs" "SectionDesk" := ⟨RX1, TX1, 7, rfl, by decide, inX1, rfl, rfl, Or.inr nw_11⟩
theorem fw_X8_228 : fldw RX8 228 1 6 "tick" "SectionDesk" := ⟨RX1, TX1, 7, rfl, by decide, inX1, rfl, rfl, Or.inr nw_14⟩
theorem fw_X8_286 : fldw RX8 286 4 1 "length" "SectionDesk" := ⟨RX4, TX4, 2, rfl, by decide, inX4, rfl, rfl, Or.inr nw_21⟩
theorem fw_X8_294 : fldw RX8 294 6 1 "count" "SectionDesk" := ⟨RX6, TX6, 2, rfl, by decide, inX6, rfl, rfl, Or.inr nw_16⟩
theorem kd_X1_addFault : cwd yX1_addFault cX1_addFault 2 (some .int) 1 := ⟨gw_2, gw_247, by decide +kernel, by decide +kernel, by decide +kernel⟩
theorem kv_X1_addFault : cwv yX1_addFault := ⟨gw_245, gw_246⟩
theorem kd_X1_cancelNow : cwd yX1_cancelNow cX1_cancelNow 2 (some .int) 1 := ⟨gw_2, gw_734, by decide +kernel, by decide +kernel, by decide +kernel⟩
theorem kv_X1_cancelNow : cwv yX1_cancelNow := ⟨gw_732, gw_733⟩
theorem kd_X1_heldTicksOf : cwd yX1_heldTicksOf cX1_heldTicksOf 2 (some .int) 1 := ⟨gw_2, gw_1055, by decide +kernel, by decide +kernel, by decide +kernel⟩
theorem kv_X1_heldTicksOf : cwv yX1_heldTicksOf := ⟨gw_1053, gw_1054⟩
theorem kd_X1_holdersOf : cwd yX1_holdersOf cX1_holdersOf 4 (some .int) 1 := ⟨gw_2, gw_1012, by decide +kernel, by decide +kernel, by decide +kernel⟩
theorem kv_X1_holdersOf : cwv yX1_holdersOf := ⟨gw_1010, gw_1011⟩
theorem kd_X1_moveFault : cwd yX1_moveFault cX1_moveFault 5 (some .int) 2 := ⟨gw_2, gw_532, by decide +kernel, by decide +kernel, by decide +kernel⟩
theorem kv_X1_moveFault : cwv yX1_moveFault := ⟨gw_530, gw_531⟩
theorem kd_X1_removeFault : cwd yX1_removeFault cX1_removeFault 2 (some .int) 1 := ⟨gw_2, gw_473, by decide +kernel, by decide +kernel, by decide +kernel⟩
theorem kv_X1_removeFault : cwv yX1_removeFault := ⟨gw_471, gw_472⟩
theorem kd_X1_removeNow : cwd yX1_removeNow cX1_removeNow 3 (some .int) 1 := ⟨gw_2, gw_490, by decide +kernel, by decide +kernel, by decide +kernel⟩
theorem kv_X1_removeNow : cwv yX1_removeNow := ⟨gw_488, gw_489⟩
theorem kd_X1_renewFault : cwd yX1_renewFault cX1_renewFault 5 (some .int) 2 := ⟨gw_2, gw_749, by decide +kernel, by decide +kernel, by decide +kernel⟩
theorem kv_X1_renewFault : cwv yX1_renewFault := ⟨gw_747, gw_748⟩
theorem kd_X1_renewNow : cwd yX1_renewNow cX1_renewNow 3 (some .int) 2 := ⟨gw_2, gw_754, by decide +kernel, by decide +kernel, by decide +kernel⟩
theorem kv_X1_renewNow : cwv yX1_renewNow := ⟨gw_752, gw_753⟩
theorem kd_X1_revertFault : cwd yX1_revertFault cX1_revertFault 3 (some .int) 2 := ⟨gw_2, gw_867, by decide +kernel, by decide +kernel, by decide +kernel⟩
theorem kv_X1_revertFault : cwv yX1_revertFault := ⟨gw_865, gw_866⟩
theorem kd_X1_revertNow : cwd yX1_revertNow cX1_revertNow 5 (some .int) 2 := ⟨gw_2, gw_871, by decide +kernel, by decide +kernel, by decide +kernel⟩
theorem kv_X1_revertNow : cwv yX1_revertNow := ⟨gw_869, gw_870⟩
theorem kd_X1_usersBefore : cwd yX1_usersBefore cX1_usersBefore 2 (some .int) 1 := ⟨gw_2, gw_856, by decide +kernel, by decide +kernel, by decide +kernel⟩
theorem kv_X1_usersBefore : cwv yX1_usersBefore := ⟨gw_854, gw_855⟩
theorem kd_X1_valueAtEndOf : cwd yX1_valueAtEndOf cX1_valueAtEndOf 3 (some .int) 2 := ⟨gw_2, gw_1132, by decide +kernel, by decide +kernel, by decide +kernel⟩
theorem kv_X1_valueAtEndOf : cwv yX1_valueAtEndOf := ⟨gw_1130, gw_1131⟩
theorem kd_X1_waitingFault : cwd yX1_waitingFault cX1_waitingFault 2 (some .int) 1 := ⟨gw_2, gw_730, by decide +kernel, by decide +kernel, by decide +kernel⟩
theorem kv_X1_waitingFault : cwv yX1_waitingFault := ⟨gw_728, gw_729⟩
theorem kd_X1_writeFault : cwd yX1_writeFault cX1_writeFault 5 (some .int) 3 := ⟨gw_2, gw_556, by decide +kernel, by decide +kernel, by decide +kernel⟩
theorem kv_X1_writeFault : cwv yX1_writeFault := ⟨gw_554, gw_555⟩
theorem kd_X1_writeNow : cwd yX1_writeNow cX1_writeNow 6 (some .int) 3 := ⟨gw_2, gw_568, by decide +kernel, by decide +kernel, by decide +kernel⟩
theorem kv_X1_writeNow : cwv yX1_writeNow := ⟨gw_566, gw_567⟩
theorem kd_X2_latestUserOf : cwd yX2_latestUserOf cX2_latestUserOf 4 (some .int) 2 := ⟨gw_7, gw_1121, by decide +kernel, by decide +kernel, by decide +kernel⟩
theorem kv_X2_latestUserOf : cwv yX2_latestUserOf := ⟨gw_1119, gw_1120⟩
theorem kd_X3_put : cwd yX3_put cX3_put 2 (some .int) 1 := ⟨gw_9, gw_1143, by decide +kernel, by decide +kernel, by decide +kernel⟩
theorem kv_X3_put : cwv yX3_put := ⟨gw_1141, gw_1142⟩
theorem kd_X4_byteAt : cwd yX4_byteAt cX4_byteAt 3 (some .int) 1 := ⟨gw_10, gw_945, by decide +kernel, by decide +kernel, by decide +kernel⟩
theorem kv_X4_byteAt : cwv yX4_byteAt := ⟨gw_943, gw_944⟩
theorem kd_X4_putNumber : cwd yX4_putNumber cX4_putNumber 2 none 1 := ⟨gw_10, gw_923, by decide +kernel, by decide +kernel, by decide +kernel⟩
theorem kv_X4_putNumber : cwv yX4_putNumber := ⟨gw_922, gs_30⟩
theorem kd_X4_putSection : cwd yX4_putSection cX4_putSection 6 none 4 := ⟨gw_10, gw_919, by decide +kernel, by decide +kernel, by decide +kernel⟩
theorem kd_X6_pop : cwd yX6_pop cX6_pop 2 none 1 := ⟨gw_8, gw_956, by decide +kernel, by decide +kernel, by decide +kernel⟩
theorem kv_X6_pop : cwv yX6_pop := ⟨gw_954, gw_955⟩
theorem kd_X7_add : cwd yX7_add cX7_add 4 (some .int) 1 := ⟨gw_3, gw_438, by decide +kernel, by decide +kernel, by decide +kernel⟩
theorem kv_X7_add : cwv yX7_add := ⟨gw_436, gw_437⟩
theorem kd_X7_childAt : cwd yX7_childAt cX7_childAt 5 (some .int) 2 := ⟨gw_3, gw_940, by decide +kernel, by decide +kernel, by decide +kernel⟩
theorem kv_X7_childAt : cwv yX7_childAt := ⟨gw_938, gw_939⟩
theorem kd_X7_childrenOf : cwd yX7_childrenOf cX7_childrenOf 4 (some .int) 1 := ⟨gw_3, gw_932, by decide +kernel, by decide +kernel, by decide +kernel⟩
theorem kv_X7_childrenOf : cwv yX7_childrenOf := ⟨gw_930, gw_931⟩
theorem kd_X7_depthOf : cwd yX7_depthOf cX7_depthOf 2 (some .int) 1 := ⟨gw_3, gw_544, by decide +kernel, by decide +kernel, by decide +kernel⟩
theorem kv_X7_depthOf : cwv yX7_depthOf := ⟨gw_542, gw_543⟩
theorem kd_X7_move : cwd yX7_move cX7_move 5 none 2 := ⟨gw_3, gw_540, by decide +kernel, by decide +kernel, by decide +kernel⟩
theorem kv_X7_move : cwv yX7_move := ⟨gw_538, gw_539⟩
theorem kd_X7_versionOf : cwd yX7_versionOf cX7_versionOf 2 (some .int) 1 := ⟨gw_3, gw_989, by decide +kernel, by decide +kernel, by decide +kernel⟩
theorem kv_X7_versionOf : cwv yX7_versionOf := ⟨gw_987, gw_988⟩
theorem kd_X8_addSection : cwd yX8_addSection cX8_addSection 2 (some .int) 1 := ⟨gw_1, gw_243, by decide +kernel, by decide +kernel, by decide +kernel⟩
theorem kv_X8_addSection : cwv yX8_addSection := ⟨gw_241, gw_242⟩
theorem kd_X8_append : cwd yX8_append cX8_append 2 (some .int) 1 := ⟨gw_1, gw_1139, by decide +kernel, by decide +kernel, by decide +kernel⟩
theorem kv_X8_append : cwv yX8_append := ⟨gw_1137, gw_1138⟩
theorem kd_X8_blame : cwd yX8_blame cX8_blame 3 (some .int) 2 := ⟨gw_1, gw_1117, by decide +kernel, by decide +kernel, by decide +kernel⟩
theorem kv_X8_blame : cwv yX8_blame := ⟨gw_1115, gw_1116⟩
theorem kd_X8_breakUp : cwd yX8_breakUp cX8_breakUp 2 (some .int) 1 := ⟨gw_1, gw_765, by decide +kernel, by decide +kernel, by decide +kernel⟩
theorem kv_X8_breakUp : cwv yX8_breakUp := ⟨gw_763, gw_764⟩
theorem kd_X8_cancel : cwd yX8_cancel cX8_cancel 2 (some .int) 1 := ⟨gw_1, gw_726, by decide +kernel, by decide +kernel, by decide +kernel⟩
theorem kv_X8_cancel : cwv yX8_cancel := ⟨gw_724, gw_725⟩
theorem kd_X8_checkOut : cwd yX8_checkOut cX8_checkOut 3 (some .int) 2 := ⟨gw_1, gw_1019, by decide +kernel, by decide +kernel, by decide +kernel⟩
theorem kv_X8_checkOut : cwv yX8_checkOut := ⟨gw_1017, gw_1018⟩
theorem kd_X8_child : cwd yX8_child cX8_child 4 (some .int) 2 := ⟨gw_1, gw_1067, by decide +kernel, by decide +kernel, by decide +kernel⟩
theorem kv_X8_child : cwv yX8_child := ⟨gw_1065, gw_1066⟩
theorem kd_X8_conflicts : cwd yX8_conflicts cX8_conflicts 2 (some .int) 1 := ⟨gw_1, gw_1157, by decide +kernel, by decide +kernel, by decide +kernel⟩
theorem kv_X8_conflicts : cwv yX8_conflicts := ⟨gw_1155, gw_1156⟩
theorem kd_X8_copied : cwd yX8_copied cX8_copied 6 (some .int) 4 := ⟨gw_1, gw_1032, by decide +kernel, by decide +kernel, by decide +kernel⟩
theorem kv_X8_copied : cwv yX8_copied := ⟨gw_1030, gw_1031⟩
theorem kd_X8_discard : cwd yX8_discard cX8_discard 2 (some .int) 1 := ⟨gw_1, gw_1075, by decide +kernel, by decide +kernel, by decide +kernel⟩
theorem kv_X8_discard : cwv yX8_discard := ⟨gw_1073, gw_1074⟩
theorem kd_X8_edit : cwd yX8_edit cX8_edit 5 (some .int) 4 := ⟨gw_1, gw_789, by decide +kernel, by decide +kernel, by decide +kernel⟩
theorem kv_X8_edit : cwv yX8_edit := ⟨gw_787, gw_788⟩
theorem kd_X8_entry : cwd yX8_entry cX8_entry 4 (some .int) 2 := ⟨gw_1, gw_1109, by decide +kernel, by decide +kernel, by decide +kernel⟩
theorem kv_X8_entry : cwv yX8_entry := ⟨gw_1107, gw_1108⟩
theorem kd_X8_floatBits : cwd yX8_floatBits cX8_floatBits 4 (some .int) 1 := ⟨gw_1, gw_1058, by decide +kernel, by decide +kernel, by decide +kernel⟩
theorem kd_X8_giveBack : cwd yX8_giveBack cX8_giveBack 3 (some .int) 2 := ⟨gw_1, gw_814, by decide +kernel, by decide +kernel, by decide +kernel⟩
theorem kv_X8_giveBack : cwv yX8_giveBack := ⟨gw_812, gw_813⟩
theorem kd_X8_grantedAt : cwd yX8_grantedAt cX8_grantedAt 2 (some .int) 1 := ⟨gw_1, gw_1102, by decide +kernel, by decide +kernel, by decide +kernel⟩
theorem kv_X8_grantedAt : cwv yX8_grantedAt := ⟨gw_1100, gw_1101⟩
theorem kd_X8_holders : cwd yX8_holders cX8_holders 2 (some .int) 1 := ⟨gw_1, gw_1008, by decide +kernel, by decide +kernel, by decide +kernel⟩
theorem kv_X8_holders : cwv yX8_holders := ⟨gw_1006, gw_1007⟩
theorem kd_X8_ifBroken : cwd yX8_ifBroken cX8_ifBroken 2 (some .int) 1 := ⟨gw_1, gw_1091, by decide +kernel, by decide +kernel, by decide +kernel⟩
theorem kv_X8_ifBroken : cwv yX8_ifBroken := ⟨gw_1089, gw_1090⟩
theorem kd_X8_line : cwd yX8_line cX8_line 3 (some .int) 2 := ⟨gw_1, gw_998, by decide +kernel, by decide +kernel, by decide +kernel⟩
theorem kv_X8_line : cwv yX8_line := ⟨gw_996, gw_997⟩
theorem kd_X8_lineAt : cwd yX8_lineAt cX8_lineAt 4 (some .int) 3 := ⟨gw_1, gw_1128, by decide +kernel, by decide +kernel, by decide +kernel⟩
theorem kv_X8_lineAt : cwv yX8_lineAt := ⟨gw_1126, gw_1127⟩
theorem kd_X8_moveSection : cwd yX8_moveSection cX8_moveSection 3 (some .int) 2 := ⟨gw_1, gw_528, by decide +kernel, by decide +kernel, by decide +kernel⟩
theorem kv_X8_moveSection : cwv yX8_moveSection := ⟨gw_526, gw_527⟩
theorem kd_X8_outline : cwd yX8_outline cX8_outline 2 (some .int) 1 := ⟨gw_1, gw_915, by decide +kernel, by decide +kernel, by decide +kernel⟩
theorem kv_X8_outline : cwv yX8_outline := ⟨gw_913, gw_914⟩
theorem kd_X8_pass : cwd yX8_pass cX8_pass 2 (some .int) 1 := ⟨gw_1, gw_884, by decide +kernel, by decide +kernel, by decide +kernel⟩
theorem kv_X8_pass : cwv yX8_pass := ⟨gw_882, gw_883⟩
theorem kd_X8_refuseFor : cwd yX8_refuseFor cX8_refuseFor 1 none 1 := ⟨gw_1, gw_293, by decide +kernel, by decide +kernel, by decide +kernel⟩
theorem kd_X8_removeSection : cwd yX8_removeSection cX8_removeSection 2 (some .int) 1 := ⟨gw_1, gw_469, by decide +kernel, by decide +kernel, by decide +kernel⟩
theorem kv_X8_removeSection : cwv yX8_removeSection := ⟨gw_467, gw_468⟩
theorem kd_X8_renew : cwd yX8_renew cX8_renew 3 (some .int) 2 := ⟨gw_1, gw_745, by decide +kernel, by decide +kernel, by decide +kernel⟩
theorem kv_X8_renew : cwv yX8_renew := ⟨gw_743, gw_744⟩
theorem kd_X8_request : cwd yX8_request cX8_request 5 (some .int) 4 := ⟨gw_1, gw_606, by decide +kernel, by decide +kernel, by decide +kernel⟩
theorem kv_X8_request : cwv yX8_request := ⟨gw_604, gw_605⟩
theorem kd_X8_revert : cwd yX8_revert cX8_revert 3 (some .int) 2 := ⟨gw_1, gw_863, by decide +kernel, by decide +kernel, by decide +kernel⟩
theorem kv_X8_revert : cwv yX8_revert := ⟨gw_861, gw_862⟩
theorem kd_X8_section : cwd yX8_section cX8_section 3 (some .int) 2 := ⟨gw_1, gw_982, by decide +kernel, by decide +kernel, by decide +kernel⟩
theorem kv_X8_section : cwv yX8_section := ⟨gw_980, gw_981⟩
theorem kd_X8_undo : cwd yX8_undo cX8_undo 1 (some .int) 0 := ⟨gw_1, gw_952, by decide +kernel, by decide +kernel, by decide +kernel⟩
theorem kv_X8_undo : cwv yX8_undo := ⟨gw_950, gw_951⟩
theorem kd_X8_useBits : cwd yX8_useBits cX8_useBits 2 (some .int) 1 := ⟨gw_1, gw_1050, by decide +kernel, by decide +kernel, by decide +kernel⟩
theorem kv_X8_useBits : cwv yX8_useBits := ⟨gw_1048, gw_1049⟩
theorem kd_X8_waitingAt : cwd yX8_waitingAt cX8_waitingAt 4 (some .int) 2 := ⟨gw_1, gw_1042, by decide +kernel, by decide +kernel, by decide +kernel⟩
theorem kv_X8_waitingAt : cwv yX8_waitingAt := ⟨gw_1040, gw_1041⟩
theorem kd_X8_waitsFor : cwd yX8_waitsFor cX8_waitsFor 2 (some .int) 1 := ⟨gw_1, gw_851, by decide +kernel, by decide +kernel, by decide +kernel⟩
theorem kv_X8_waitsFor : cwv yX8_waitsFor := ⟨gw_849, gw_850⟩
theorem kd_X8_write : cwd yX8_write cX8_write 4 (some .int) 3 := ⟨gw_1, gw_552, by decide +kernel, by decide +kernel, by decide +kernel⟩
theorem kv_X8_write : cwv yX8_write := ⟨gw_550, gw_551⟩
theorem hat_1 : ∀ w ∈ (vx_atS RX8 322 (xcls 1) xnames).filter goodWord, w ∈ GL := by
  have h : ((vx_atS RX8 322 (xcls 1) xnames).filter goodWord).all (fun w => decide (w ∈ lw_tbl) && goodWord w) = true := by decide +kernel
  intro w hw
  have h2 := List.all_eq_true.mp h w hw
  simp only [Bool.and_eq_true, decide_eq_true_eq] at h2
  exact List.mem_filter.mpr h2
theorem hax_1 : ∀ w ∈ (vx_atS RX8 322 (xcls 1) xnames).filter (fun w => !goodWord w), w ∈ XW := by decide +kernel
theorem hgd_1 : ∀ w ∈ Cond.classLink RX8 318 (xcls 1) :: Cond.initialized (xcls 1) :: vx_atS RX8 322 (xcls 1) xnames, vx_ot w = true := by decide +kernel
theorem hat_2 : ∀ w ∈ (vx_atS RX8 329 (xcls 2) xnames).filter goodWord, w ∈ GL := by
  have h : ((vx_atS RX8 329 (xcls 2) xnames).filter goodWord).all (fun w => decide (w ∈ lw_tbl) && goodWord w) = true := by decide +kernel
  intro w hw
  have h2 := List.all_eq_true.mp h w hw
  simp only [Bool.and_eq_true, decide_eq_true_eq] at h2
  exact List.mem_filter.mpr h2
theorem hax_2 : ∀ w ∈ (vx_atS RX8 329 (xcls 2) xnames).filter (fun w => !goodWord w), w ∈ XW := by decide +kernel
theorem hgd_2 : ∀ w ∈ Cond.classLink RX8 325 (xcls 2) :: Cond.initialized (xcls 2) :: vx_atS RX8 329 (xcls 2) xnames, vx_ot w = true := by decide +kernel
theorem hat_3 : ∀ w ∈ (vx_atS RX8 334 (xcls 3) xnames).filter goodWord, w ∈ GL := by
  have h : ((vx_atS RX8 334 (xcls 3) xnames).filter goodWord).all (fun w => decide (w ∈ lw_tbl) && goodWord w) = true := by decide +kernel
  intro w hw
  have h2 := List.all_eq_true.mp h w hw
  simp only [Bool.and_eq_true, decide_eq_true_eq] at h2
  exact List.mem_filter.mpr h2
theorem hax_3 : ∀ w ∈ (vx_atS RX8 334 (xcls 3) xnames).filter (fun w => !goodWord w), w ∈ XW := by decide +kernel
theorem hgd_3 : ∀ w ∈ Cond.classLink RX8 330 (xcls 3) :: Cond.initialized (xcls 3) :: vx_atS RX8 334 (xcls 3) xnames, vx_ot w = true := by decide +kernel
