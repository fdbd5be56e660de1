theorem dL_law__480 : decode cL_law_ 480 = .ok (.i2l, 1) := by decide +kernel
theorem eL_law__480 : zD KL_law_ 480 (.i2l) 1 481 := ⟨dL_law__480, rfl⟩
theorem dL_law__481 : decode cL_law_ 481 = .ok (.lcmp, 1) := by decide +kernel
theorem eL_law__481 : zD KL_law_ 481 (.lcmp) 1 482 := ⟨dL_law__481, rfl⟩
theorem dL_law__482 : decode cL_law_ 482 = .ok (.ifCond .eq 5, 3) := by decide +kernel
theorem eL_law__482 : zD KL_law_ 482 (.ifCond .eq 5) 3 485 := ⟨dL_law__482, rfl⟩
theorem dL_law__485 : decode cL_law_ 485 = .ok (.iconst 0, 1) := by decide +kernel
theorem eL_law__485 : zD KL_law_ 485 (.iconst 0) 1 486 := ⟨dL_law__485, rfl⟩
theorem dL_law__486 : decode cL_law_ 486 = .ok (.ireturn, 1) := by decide +kernel
theorem eL_law__486 : zD KL_law_ 486 (.ireturn) 1 487 := ⟨dL_law__486, rfl⟩
theorem dL_law__487 : decode cL_law_ 487 = .ok (.goto 2865, 3) := by decide +kernel
theorem eL_law__487 : zD KL_law_ 487 (.goto 2865) 3 490 := ⟨dL_law__487, rfl⟩
theorem dL_law__490 : decode cL_law_ 490 = .ok (.aload_n 1, 1) := by decide +kernel
theorem eL_law__490 : zD KL_law_ 490 (.aload_n 1) 1 491 := ⟨dL_law__490, rfl⟩
theorem dL_law__491 : decode cL_law_ 491 = .ok (.invokevirtual 176, 3) := by decide +kernel
theorem eL_law__491 : zD KL_law_ 491 (.invokevirtual 176) 3 494 := ⟨dL_law__491, rfl⟩
theorem dL_law__494 : decode cL_law_ 494 = .ok (.aload_n 2, 1) := by decide +kernel
theorem eL_law__494 : zD KL_law_ 494 (.aload_n 2) 1 495 := ⟨dL_law__494, rfl⟩
theorem dL_law__495 : decode cL_law_ 495 = .ok (.invokevirtual 179, 3) := by decide +kernel
theorem eL_law__495 : zD KL_law_ 495 (.invokevirtual 179) 3 498 := ⟨dL_law__495, rfl⟩
theorem dL_law__498 : decode cL_law_ 498 = .ok (.if_icmp .eq 2854, 3) := by decide +kernel
theorem eL_law__498 : zD KL_law_ 498 (.if_icmp .eq 2854) 3 501 := ⟨dL_law__498, rfl⟩
theorem dL_law__501 : decode cL_law_ 501 = .ok (.iconst 0, 1) := by decide +kernel
theorem eL_law__501 : zD KL_law_ 501 (.iconst 0) 1 502 := ⟨dL_law__501, rfl⟩
theorem dL_law__502 : decode cL_law_ 502 = .ok (.ireturn, 1) := by decide +kernel
theorem eL_law__502 : zD KL_law_ 502 (.ireturn) 1 503 := ⟨dL_law__502, rfl⟩
theorem dL_law__503 : decode cL_law_ 503 = .ok (.aload_n 1, 1) := by decide +kernel
theorem eL_law__503 : zD KL_law_ 503 (.aload_n 1) 1 504 := ⟨dL_law__503, rfl⟩
theorem dL_law__504 : decode cL_law_ 504 = .ok (.aload_n 0, 1) := by decide +kernel
theorem eL_law__504 : zD KL_law_ 504 (.aload_n 0) 1 505 := ⟨dL_law__504, rfl⟩
theorem dL_law__505 : decode cL_law_ 505 = .ok (.iload 4, 2) := by decide +kernel
theorem eL_law__505 : zD KL_law_ 505 (.iload 4) 2 507 := ⟨dL_law__505, rfl⟩
theorem dL_law__507 : decode cL_law_ 507 = .ok (.iconst 1, 1) := by decide +kernel
theorem eL_law__507 : zD KL_law_ 507 (.iconst 1) 1 508 := ⟨dL_law__507, rfl⟩
theorem dL_law__508 : decode cL_law_ 508 = .ok (.iadd, 1) := by decide +kernel
theorem eL_law__508 : zD KL_law_ 508 (.iadd) 1 509 := ⟨dL_law__508, rfl⟩
theorem dL_law__509 : decode cL_law_ 509 = .ok (.iaload, 1) := by decide +kernel
theorem eL_law__509 : zD KL_law_ 509 (.iaload) 1 510 := ⟨dL_law__509, rfl⟩
theorem dL_law__510 : decode cL_law_ 510 = .ok (.aload_n 0, 1) := by decide +kernel
theorem eL_law__510 : zD KL_law_ 510 (.aload_n 0) 1 511 := ⟨dL_law__510, rfl⟩
theorem dL_law__511 : decode cL_law_ 511 = .ok (.iload 4, 2) := by decide +kernel
theorem eL_law__511 : zD KL_law_ 511 (.iload 4) 2 513 := ⟨dL_law__511, rfl⟩
theorem dL_law__513 : decode cL_law_ 513 = .ok (.iconst 2, 1) := by decide +kernel
theorem eL_law__513 : zD KL_law_ 513 (.iconst 2) 1 514 := ⟨dL_law__513, rfl⟩
theorem dL_law__514 : decode cL_law_ 514 = .ok (.iadd, 1) := by decide +kernel
theorem eL_law__514 : zD KL_law_ 514 (.iadd) 1 515 := ⟨dL_law__514, rfl⟩
theorem dL_law__515 : decode cL_law_ 515 = .ok (.iaload, 1) := by decide +kernel
theorem eL_law__515 : zD KL_law_ 515 (.iaload) 1 516 := ⟨dL_law__515, rfl⟩
theorem dL_law__516 : decode cL_law_ 516 = .ok (.aload_n 3, 1) := by decide +kernel
theorem eL_law__516 : zD KL_law_ 516 (.aload_n 3) 1 517 := ⟨dL_law__516, rfl⟩
theorem dL_law__517 : decode cL_law_ 517 = .ok (.invokestatic 180, 3) := by decide +kernel
theorem eL_law__517 : zD KL_law_ 517 (.invokestatic 180) 3 520 := ⟨dL_law__517, rfl⟩
theorem dL_law__520 : decode cL_law_ 520 = .ok (.istore 5, 2) := by decide +kernel
theorem eL_law__520 : zD KL_law_ 520 (.istore 5) 2 522 := ⟨dL_law__520, rfl⟩
theorem dL_law__522 : decode cL_law_ 522 = .ok (.aload_n 2, 1) := by decide +kernel
theorem eL_law__522 : zD KL_law_ 522 (.aload_n 2) 1 523 := ⟨dL_law__522, rfl⟩
theorem dL_law__523 : decode cL_law_ 523 = .ok (.aload_n 0, 1) := by decide +kernel
theorem eL_law__523 : zD KL_law_ 523 (.aload_n 0) 1 524 := ⟨dL_law__523, rfl⟩
theorem dL_law__524 : decode cL_law_ 524 = .ok (.iload 4, 2) := by decide +kernel
theorem eL_law__524 : zD KL_law_ 524 (.iload 4) 2 526 := ⟨dL_law__524, rfl⟩
theorem dL_law__526 : decode cL_law_ 526 = .ok (.iconst 1, 1) := by decide +kernel
theorem eL_law__526 : zD KL_law_ 526 (.iconst 1) 1 527 := ⟨dL_law__526, rfl⟩
theorem dL_law__527 : decode cL_law_ 527 = .ok (.iadd, 1) := by decide +kernel
theorem eL_law__527 : zD KL_law_ 527 (.iadd) 1 528 := ⟨dL_law__527, rfl⟩
theorem dL_law__528 : decode cL_law_ 528 = .ok (.iaload, 1) := by decide +kernel
theorem eL_law__528 : zD KL_law_ 528 (.iaload) 1 529 := ⟨dL_law__528, rfl⟩
theorem dL_law__529 : decode cL_law_ 529 = .ok (.aload_n 0, 1) := by decide +kernel
theorem eL_law__529 : zD KL_law_ 529 (.aload_n 0) 1 530 := ⟨dL_law__529, rfl⟩
theorem dL_law__530 : decode cL_law_ 530 = .ok (.iload 4, 2) := by decide +kernel
theorem eL_law__530 : zD KL_law_ 530 (.iload 4) 2 532 := ⟨dL_law__530, rfl⟩
theorem dL_law__532 : decode cL_law_ 532 = .ok (.iconst 2, 1) := by decide +kernel
theorem eL_law__532 : zD KL_law_ 532 (.iconst 2) 1 533 := ⟨dL_law__532, rfl⟩
theorem dL_law__533 : decode cL_law_ 533 = .ok (.iadd, 1) := by decide +kernel
theorem eL_law__533 : zD KL_law_ 533 (.iadd) 1 534 := ⟨dL_law__533, rfl⟩
theorem dL_law__534 : decode cL_law_ 534 = .ok (.iaload, 1) := by decide +kernel
theorem eL_law__534 : zD KL_law_ 534 (.iaload) 1 535 := ⟨dL_law__534, rfl⟩
theorem dL_law__535 : decode cL_law_ 535 = .ok (.invokevirtual 183, 3) := by decide +kernel
theorem eL_law__535 : zD KL_law_ 535 (.invokevirtual 183) 3 538 := ⟨dL_law__535, rfl⟩
theorem dL_law__538 : decode cL_law_ 538 = .ok (.istore 6, 2) := by decide +kernel
theorem eL_law__538 : zD KL_law_ 538 (.istore 6) 2 540 := ⟨dL_law__538, rfl⟩
theorem dL_law__540 : decode cL_law_ 540 = .ok (.aload_n 2, 1) := by decide +kernel
theorem eL_law__540 : zD KL_law_ 540 (.aload_n 2) 1 541 := ⟨dL_law__540, rfl⟩
theorem dL_law__541 : decode cL_law_ 541 = .ok (.invokevirtual 170, 3) := by decide +kernel
theorem eL_law__541 : zD KL_law_ 541 (.invokevirtual 170) 3 544 := ⟨dL_law__541, rfl⟩
theorem dL_law__544 : decode cL_law_ 544 = .ok (.iload 5, 2) := by decide +kernel
theorem eL_law__544 : zD KL_law_ 544 (.iload 5) 2 546 := ⟨dL_law__544, rfl⟩
theorem dL_law__546 : decode cL_law_ 546 = .ok (.if_icmp .eq 5, 3) := by decide +kernel
theorem eL_law__546 : zD KL_law_ 546 (.if_icmp .eq 5) 3 549 := ⟨dL_law__546, rfl⟩
theorem dL_law__549 : decode cL_law_ 549 = .ok (.iconst 0, 1) := by decide +kernel
theorem eL_law__549 : zD KL_law_ 549 (.iconst 0) 1 550 := ⟨dL_law__549, rfl⟩
theorem dL_law__550 : decode cL_law_ 550 = .ok (.ireturn, 1) := by decide +kernel
theorem eL_law__550 : zD KL_law_ 550 (.ireturn) 1 551 := ⟨dL_law__550, rfl⟩
theorem dL_law__551 : decode cL_law_ 551 = .ok (.iload 5, 2) := by decide +kernel
theorem eL_law__551 : zD KL_law_ 551 (.iload 5) 2 553 := ⟨dL_law__551, rfl⟩
theorem dL_law__553 : decode cL_law_ 553 = .ok (.ifCond .ne 15, 3) := by decide +kernel
theorem eL_law__553 : zD KL_law_ 553 (.ifCond .ne 15) 3 556 := ⟨dL_law__553, rfl⟩
theorem dL_law__556 : decode cL_law_ 556 = .ok (.aload_n 3, 1) := by decide +kernel
theorem eL_law__556 : zD KL_law_ 556 (.aload_n 3) 1 557 := ⟨dL_law__556, rfl⟩
theorem dL_law__557 : decode cL_law_ 557 = .ok (.iconst 0, 1) := by decide +kernel
theorem eL_law__557 : zD KL_law_ 557 (.iconst 0) 1 558 := ⟨dL_law__557, rfl⟩
theorem dL_law__558 : decode cL_law_ 558 = .ok (.laload, 1) := by decide +kernel
theorem eL_law__558 : zD KL_law_ 558 (.laload) 1 559 := ⟨dL_law__558, rfl⟩
theorem dL_law__559 : decode cL_law_ 559 = .ok (.iload 6, 2) := by decide +kernel
theorem eL_law__559 : zD KL_law_ 559 (.iload 6) 2 561 := ⟨dL_law__559, rfl⟩
theorem dL_law__561 : decode cL_law_ 561 = .ok (.i2l, 1) := by decide +kernel
theorem eL_law__561 : zD KL_law_ 561 (.i2l) 1 562 := ⟨dL_law__561, rfl⟩
theorem dL_law__562 : decode cL_law_ 562 = .ok (.lcmp, 1) := by decide +kernel
theorem eL_law__562 : zD KL_law_ 562 (.lcmp) 1 563 := ⟨dL_law__562, rfl⟩
theorem dL_law__563 : decode cL_law_ 563 = .ok (.ifCond .eq 5, 3) := by decide +kernel
theorem eL_law__563 : zD KL_law_ 563 (.ifCond .eq 5) 3 566 := ⟨dL_law__563, rfl⟩
theorem dL_law__566 : decode cL_law_ 566 = .ok (.iconst 0, 1) := by decide +kernel
theorem eL_law__566 : zD KL_law_ 566 (.iconst 0) 1 567 := ⟨dL_law__566, rfl⟩
theorem dL_law__567 : decode cL_law_ 567 = .ok (.ireturn, 1) := by decide +kernel
theorem eL_law__567 : zD KL_law_ 567 (.ireturn) 1 568 := ⟨dL_law__567, rfl⟩
theorem dL_law__568 : decode cL_law_ 568 = .ok (.goto 2784, 3) := by decide +kernel
theorem eL_law__568 : zD KL_law_ 568 (.goto 2784) 3 571 := ⟨dL_law__568, rfl⟩
theorem dL_law__571 : decode cL_law_ 571 = .ok (.aload_n 1, 1) := by decide +kernel
theorem eL_law__571 : zD KL_law_ 571 (.aload_n 1) 1 572 := ⟨dL_law__571, rfl⟩
theorem dL_law__572 : decode cL_law_ 572 = .ok (.aload_n 0, 1) := by decide +kernel
theorem eL_law__572 : zD KL_law_ 572 (.aload_n 0) 1 573 := ⟨dL_law__572, rfl⟩
theorem dL_law__573 : decode cL_law_ 573 = .ok (.iload 4, 2) := by decide +kernel
theorem eL_law__573 : zD KL_law_ 573 (.iload 4) 2 575 := ⟨dL_law__573, rfl⟩
theorem dL_law__575 : decode cL_law_ 575 = .ok (.iconst 1, 1) := by decide +kernel
theorem eL_law__575 : zD KL_law_ 575 (.iconst 1) 1 576 := ⟨dL_law__575, rfl⟩
theorem dL_law__576 : decode cL_law_ 576 = .ok (.iadd, 1) := by decide +kernel
theorem eL_law__576 : zD KL_law_ 576 (.iadd) 1 577 := ⟨dL_law__576, rfl⟩
theorem dL_law__577 : decode cL_law_ 577 = .ok (.iaload, 1) := by decide +kernel
theorem eL_law__577 : zD KL_law_ 577 (.iaload) 1 578 := ⟨dL_law__577, rfl⟩
theorem dL_law__578 : decode cL_law_ 578 = .ok (.aload_n 0, 1) := by decide +kernel
theorem eL_law__578 : zD KL_law_ 578 (.aload_n 0) 1 579 := ⟨dL_law__578, rfl⟩
theorem dL_law__579 : decode cL_law_ 579 = .ok (.iload 4, 2) := by decide +kernel
theorem eL_law__579 : zD KL_law_ 579 (.iload 4) 2 581 := ⟨dL_law__579, rfl⟩
theorem dL_law__581 : decode cL_law_ 581 = .ok (.iconst 2, 1) := by decide +kernel
theorem eL_law__581 : zD KL_law_ 581 (.iconst 2) 1 582 := ⟨dL_law__581, rfl⟩
theorem dL_law__582 : decode cL_law_ 582 = .ok (.iadd, 1) := by decide +kernel
theorem eL_law__582 : zD KL_law_ 582 (.iadd) 1 583 := ⟨dL_law__582, rfl⟩
theorem dL_law__583 : decode cL_law_ 583 = .ok (.iaload, 1) := by decide +kernel
theorem eL_law__583 : zD KL_law_ 583 (.iaload) 1 584 := ⟨dL_law__583, rfl⟩
theorem dL_law__584 : decode cL_law_ 584 = .ok (.aload_n 3, 1) := by decide +kernel
theorem eL_law__584 : zD KL_law_ 584 (.aload_n 3) 1 585 := ⟨dL_law__584, rfl⟩
theorem dL_law__585 : decode cL_law_ 585 = .ok (.invokestatic 184, 3) := by decide +kernel
theorem eL_law__585 : zD KL_law_ 585 (.invokestatic 184) 3 588 := ⟨dL_law__585, rfl⟩
theorem dL_law__588 : decode cL_law_ 588 = .ok (.istore 5, 2) := by decide +kernel
theorem eL_law__588 : zD KL_law_ 588 (.istore 5) 2 590 := ⟨dL_law__588, rfl⟩
theorem dL_law__590 : decode cL_law_ 590 = .ok (.aload_n 2, 1) := by decide +kernel
theorem eL_law__590 : zD KL_law_ 590 (.aload_n 2) 1 591 := ⟨dL_law__590, rfl⟩
theorem dL_law__591 : decode cL_law_ 591 = .ok (.aload_n 0, 1) := by decide +kernel
theorem eL_law__591 : zD KL_law_ 591 (.aload_n 0) 1 592 := ⟨dL_law__591, rfl⟩
theorem dL_law__592 : decode cL_law_ 592 = .ok (.iload 4, 2) := by decide +kernel
theorem eL_law__592 : zD KL_law_ 592 (.iload 4) 2 594 := ⟨dL_law__592, rfl⟩
theorem dL_law__594 : decode cL_law_ 594 = .ok (.iconst 1, 1) := by decide +kernel
theorem eL_law__594 : zD KL_law_ 594 (.iconst 1) 1 595 := ⟨dL_law__594, rfl⟩
theorem dL_law__595 : decode cL_law_ 595 = .ok (.iadd, 1) := by decide +kernel
theorem eL_law__595 : zD KL_law_ 595 (.iadd) 1 596 := ⟨dL_law__595, rfl⟩
theorem dL_law__596 : decode cL_law_ 596 = .ok (.iaload, 1) := by decide +kernel
theorem eL_law__596 : zD KL_law_ 596 (.iaload) 1 597 := ⟨dL_law__596, rfl⟩
theorem dL_law__597 : decode cL_law_ 597 = .ok (.aload_n 0, 1) := by decide +kernel
theorem eL_law__597 : zD KL_law_ 597 (.aload_n 0) 1 598 := ⟨dL_law__597, rfl⟩
theorem dL_law__598 : decode cL_law_ 598 = .ok (.iload 4, 2) := by decide +kernel
theorem eL_law__598 : zD KL_law_ 598 (.iload 4) 2 600 := ⟨dL_law__598, rfl⟩
theorem dL_law__600 : decode cL_law_ 600 = .ok (.iconst 2, 1) := by decide +kernel
theorem eL_law__600 : zD KL_law_ 600 (.iconst 2) 1 601 := ⟨dL_law__600, rfl⟩
theorem dL_law__601 : decode cL_law_ 601 = .ok (.iadd, 1) := by decide +kernel
theorem eL_law__601 : zD KL_law_ 601 (.iadd) 1 602 := ⟨dL_law__601, rfl⟩
theorem dL_law__602 : decode cL_law_ 602 = .ok (.iaload, 1) := by decide +kernel
theorem eL_law__602 : zD KL_law_ 602 (.iaload) 1 603 := ⟨dL_law__602, rfl⟩
theorem dL_law__603 : decode cL_law_ 603 = .ok (.invokevirtual 186, 3) := by decide +kernel
theorem eL_law__603 : zD KL_law_ 603 (.invokevirtual 186) 3 606 := ⟨dL_law__603, rfl⟩
theorem dL_law__606 : decode cL_law_ 606 = .ok (.istore 6, 2) := by decide +kernel
theorem eL_law__606 : zD KL_law_ 606 (.istore 6) 2 608 := ⟨dL_law__606, rfl⟩
theorem dL_law__608 : decode cL_law_ 608 = .ok (.aload_n 2, 1) := by decide +kernel
theorem eL_law__608 : zD KL_law_ 608 (.aload_n 2) 1 609 := ⟨dL_law__608, rfl⟩
theorem dL_law__609 : decode cL_law_ 609 = .ok (.invokevirtual 170, 3) := by decide +kernel
theorem eL_law__609 : zD KL_law_ 609 (.invokevirtual 170) 3 612 := ⟨dL_law__609, rfl⟩
theorem dL_law__612 : decode cL_law_ 612 = .ok (.iload 5, 2) := by decide +kernel
theorem eL_law__612 : zD KL_law_ 612 (.iload 5) 2 614 := ⟨dL_law__612, rfl⟩
theorem dL_law__614 : decode cL_law_ 614 = .ok (.if_icmp .eq 5, 3) := by decide +kernel
theorem eL_law__614 : zD KL_law_ 614 (.if_icmp .eq 5) 3 617 := ⟨dL_law__614, rfl⟩
theorem dL_law__617 : decode cL_law_ 617 = .ok (.iconst 0, 1) := by decide +kernel
theorem eL_law__617 : zD KL_law_ 617 (.iconst 0) 1 618 := ⟨dL_law__617, rfl⟩
theorem dL_law__618 : decode cL_law_ 618 = .ok (.ireturn, 1) := by decide +kernel
theorem eL_law__618 : zD KL_law_ 618 (.ireturn) 1 619 := ⟨dL_law__618, rfl⟩
theorem dL_law__619 : decode cL_law_ 619 = .ok (.iload 5, 2) := by decide +kernel
theorem eL_law__619 : zD KL_law_ 619 (.iload 5) 2 621 := ⟨dL_law__619, rfl⟩
theorem dL_law__621 : decode cL_law_ 621 = .ok (.ifCond .ne 15, 3) := by decide +kernel
theorem eL_law__621 : zD KL_law_ 621 (.ifCond .ne 15) 3 624 := ⟨dL_law__621, rfl⟩
theorem dL_law__624 : decode cL_law_ 624 = .ok (.aload_n 3, 1) := by decide +kernel
theorem eL_law__624 : zD KL_law_ 624 (.aload_n 3) 1 625 := ⟨dL_law__624, rfl⟩
theorem dL_law__625 : decode cL_law_ 625 = .ok (.iconst 0, 1) := by decide +kernel
theorem eL_law__625 : zD KL_law_ 625 (.iconst 0) 1 626 := ⟨dL_law__625, rfl⟩
theorem dL_law__626 : decode cL_law_ 626 = .ok (.laload, 1) := by decide +kernel
theorem eL_law__626 : zD KL_law_ 626 (.laload) 1 627 := ⟨dL_law__626, rfl⟩
theorem dL_law__627 : decode cL_law_ 627 = .ok (.iload 6, 2) := by decide +kernel
theorem eL_law__627 : zD KL_law_ 627 (.iload 6) 2 629 := ⟨dL_law__627, rfl⟩
theorem dL_law__629 : decode cL_law_ 629 = .ok (.i2l, 1) := by decide +kernel
theorem eL_law__629 : zD KL_law_ 629 (.i2l) 1 630 := ⟨dL_law__629, rfl⟩
theorem dL_law__630 : decode cL_law_ 630 = .ok (.lcmp, 1) := by decide +kernel
theorem eL_law__630 : zD KL_law_ 630 (.lcmp) 1 631 := ⟨dL_law__630, rfl⟩
theorem dL_law__631 : decode cL_law_ 631 = .ok (.ifCond .eq 5, 3) := by decide +kernel
theorem eL_law__631 : zD KL_law_ 631 (.ifCond .eq 5) 3 634 := ⟨dL_law__631, rfl⟩
theorem dL_law__634 : decode cL_law_ 634 = .ok (.iconst 0, 1) := by decide +kernel
theorem eL_law__634 : zD KL_law_ 634 (.iconst 0) 1 635 := ⟨dL_law__634, rfl⟩
theorem dL_law__635 : decode cL_law_ 635 = .ok (.ireturn, 1) := by decide +kernel
theorem eL_law__635 : zD KL_law_ 635 (.ireturn) 1 636 := ⟨dL_law__635, rfl⟩
theorem dL_law__636 : decode cL_law_ 636 = .ok (.goto 2716, 3) := by decide +kernel
theorem eL_law__636 : zD KL_law_ 636 (.goto 2716) 3 639 := ⟨dL_law__636, rfl⟩
theorem dL_law__639 : decode cL_law_ 639 = .ok (.aload_n 1, 1) := by decide +kernel
theorem eL_law__639 : zD KL_law_ 639 (.aload_n 1) 1 640 := ⟨dL_law__639, rfl⟩
theorem dL_law__640 : decode cL_law_ 640 = .ok (.aload_n 0, 1) := by decide +kernel
theorem eL_law__640 : zD KL_law_ 640 (.aload_n 0) 1 641 := ⟨dL_law__640, rfl⟩
theorem dL_law__641 : decode cL_law_ 641 = .ok (.iload 4, 2) := by decide +kernel
theorem eL_law__641 : zD KL_law_ 641 (.iload 4) 2 643 := ⟨dL_law__641, rfl⟩
theorem dL_law__643 : decode cL_law_ 643 = .ok (.iconst 1, 1) := by decide +kernel
theorem eL_law__643 : zD KL_law_ 643 (.iconst 1) 1 644 := ⟨dL_law__643, rfl⟩
theorem dL_law__644 : decode cL_law_ 644 = .ok (.iadd, 1) := by decide +kernel
theorem eL_law__644 : zD KL_law_ 644 (.iadd) 1 645 := ⟨dL_law__644, rfl⟩
theorem dL_law__645 : decode cL_law_ 645 = .ok (.iaload, 1) := by decide +kernel
theorem eL_law__645 : zD KL_law_ 645 (.iaload) 1 646 := ⟨dL_law__645, rfl⟩
theorem dL_law__646 : decode cL_law_ 646 = .ok (.aload_n 0, 1) := by decide +kernel
theorem eL_law__646 : zD KL_law_ 646 (.aload_n 0) 1 647 := ⟨dL_law__646, rfl⟩
theorem dL_law__647 : decode cL_law_ 647 = .ok (.iload 4, 2) := by decide +kernel
theorem eL_law__647 : zD KL_law_ 647 (.iload 4) 2 649 := ⟨dL_law__647, rfl⟩
theorem dL_law__649 : decode cL_law_ 649 = .ok (.iconst 2, 1) := by decide +kernel
theorem eL_law__649 : zD KL_law_ 649 (.iconst 2) 1 650 := ⟨dL_law__649, rfl⟩
theorem dL_law__650 : decode cL_law_ 650 = .ok (.iadd, 1) := by decide +kernel
theorem eL_law__650 : zD KL_law_ 650 (.iadd) 1 651 := ⟨dL_law__650, rfl⟩
theorem dL_law__651 : decode cL_law_ 651 = .ok (.iaload, 1) := by decide +kernel
theorem eL_law__651 : zD KL_law_ 651 (.iaload) 1 652 := ⟨dL_law__651, rfl⟩
theorem dL_law__652 : decode cL_law_ 652 = .ok (.aload_n 3, 1) := by decide +kernel
theorem eL_law__652 : zD KL_law_ 652 (.aload_n 3) 1 653 := ⟨dL_law__652, rfl⟩
theorem dL_law__653 : decode cL_law_ 653 = .ok (.invokestatic 187, 3) := by decide +kernel
theorem eL_law__653 : zD KL_law_ 653 (.invokestatic 187) 3 656 := ⟨dL_law__653, rfl⟩
theorem dL_law__656 : decode cL_law_ 656 = .ok (.istore 5, 2) := by decide +kernel
theorem eL_law__656 : zD KL_law_ 656 (.istore 5) 2 658 := ⟨dL_law__656, rfl⟩
theorem dL_law__658 : decode cL_law_ 658 = .ok (.aload_n 2, 1) := by decide +kernel
theorem eL_law__658 : zD KL_law_ 658 (.aload_n 2) 1 659 := ⟨dL_law__658, rfl⟩
theorem dL_law__659 : decode cL_law_ 659 = .ok (.aload_n 0, 1) := by decide +kernel
theorem eL_law__659 : zD KL_law_ 659 (.aload_n 0) 1 660 := ⟨dL_law__659, rfl⟩
theorem dL_law__660 : decode cL_law_ 660 = .ok (.iload 4, 2) := by decide +kernel
theorem eL_law__660 : zD KL_law_ 660 (.iload 4) 2 662 := ⟨dL_law__660, rfl⟩
theorem dL_law__662 : decode cL_law_ 662 = .ok (.iconst 1, 1) := by decide +kernel
theorem eL_law__662 : zD KL_law_ 662 (.iconst 1) 1 663 := ⟨dL_law__662, rfl⟩
theorem dL_law__663 : decode cL_law_ 663 = .ok (.iadd, 1) := by decide +kernel
theorem eL_law__663 : zD KL_law_ 663 (.iadd) 1 664 := ⟨dL_law__663, rfl⟩
theorem dL_law__664 : decode cL_law_ 664 = .ok (.iaload, 1) := by decide +kernel
theorem eL_law__664 : zD KL_law_ 664 (.iaload) 1 665 := ⟨dL_law__664, rfl⟩
theorem dL_law__665 : decode cL_law_ 665 = .ok (.aload_n 0, 1) := by decide +kernel
theorem eL_law__665 : zD KL_law_ 665 (.aload_n 0) 1 666 := ⟨dL_law__665, rfl⟩
theorem dL_law__666 : decode cL_law_ 666 = .ok (.iload 4, 2) := by decide +kernel
theorem eL_law__666 : zD KL_law_ 666 (.iload 4) 2 668 := ⟨dL_law__666, rfl⟩
theorem dL_law__668 : decode cL_law_ 668 = .ok (.iconst 2, 1) := by decide +kernel
theorem eL_law__668 : zD KL_law_ 668 (.iconst 2) 1 669 := ⟨dL_law__668, rfl⟩
theorem dL_law__669 : decode cL_law_ 669 = .ok (.iadd, 1) := by decide +kernel
theorem eL_law__669 : zD KL_law_ 669 (.iadd) 1 670 := ⟨dL_law__669, rfl⟩
theorem dL_law__670 : decode cL_law_ 670 = .ok (.iaload, 1) := by decide +kernel
theorem eL_law__670 : zD KL_law_ 670 (.iaload) 1 671 := ⟨dL_law__670, rfl⟩
theorem dL_law__671 : decode cL_law_ 671 = .ok (.invokevirtual 189, 3) := by decide +kernel
theorem eL_law__671 : zD KL_law_ 671 (.invokevirtual 189) 3 674 := ⟨dL_law__671, rfl⟩
theorem dL_law__674 : decode cL_law_ 674 = .ok (.istore 6, 2) := by decide +kernel
theorem eL_law__674 : zD KL_law_ 674 (.istore 6) 2 676 := ⟨dL_law__674, rfl⟩
theorem dL_law__676 : decode cL_law_ 676 = .ok (.aload_n 2, 1) := by decide +kernel
theorem eL_law__676 : zD KL_law_ 676 (.aload_n 2) 1 677 := ⟨dL_law__676, rfl⟩
theorem dL_law__677 : decode cL_law_ 677 = .ok (.invokevirtual 170, 3) := by decide +kernel
theorem eL_law__677 : zD KL_law_ 677 (.invokevirtual 170) 3 680 := ⟨dL_law__677, rfl⟩
theorem dL_law__680 : decode cL_law_ 680 = .ok (.iload 5, 2) := by decide +kernel
theorem eL_law__680 : zD KL_law_ 680 (.iload 5) 2 682 := ⟨dL_law__680, rfl⟩
theorem dL_law__682 : decode cL_law_ 682 = .ok (.if_icmp .eq 5, 3) := by decide +kernel
theorem eL_law__682 : zD KL_law_ 682 (.if_icmp .eq 5) 3 685 := ⟨dL_law__682, rfl⟩
theorem dL_law__685 : decode cL_law_ 685 = .ok (.iconst 0, 1) := by decide +kernel
theorem eL_law__685 : zD KL_law_ 685 (.iconst 0) 1 686 := ⟨dL_law__685, rfl⟩
theorem dL_law__686 : decode cL_law_ 686 = .ok (.ireturn, 1) := by decide +kernel
theorem eL_law__686 : zD KL_law_ 686 (.ireturn) 1 687 := ⟨dL_law__686, rfl⟩
theorem dL_law__687 : decode cL_law_ 687 = .ok (.iload 5, 2) := by decide +kernel
theorem eL_law__687 : zD KL_law_ 687 (.iload 5) 2 689 := ⟨dL_law__687, rfl⟩
theorem dL_law__689 : decode cL_law_ 689 = .ok (.ifCond .ne 15, 3) := by decide +kernel
theorem eL_law__689 : zD KL_law_ 689 (.ifCond .ne 15) 3 692 := ⟨dL_law__689, rfl⟩
theorem dL_law__692 : decode cL_law_ 692 = .ok (.aload_n 3, 1) := by decide +kernel
theorem eL_law__692 : zD KL_law_ 692 (.aload_n 3) 1 693 := ⟨dL_law__692, rfl⟩
theorem dL_law__693 : decode cL_law_ 693 = .ok (.iconst 0, 1) := by decide +kernel
theorem eL_law__693 : zD KL_law_ 693 (.iconst 0) 1 694 := ⟨dL_law__693, rfl⟩
theorem dL_law__694 : decode cL_law_ 694 = .ok (.laload, 1) := by decide +kernel
theorem eL_law__694 : zD KL_law_ 694 (.laload) 1 695 := ⟨dL_law__694, rfl⟩
theorem dL_law__695 : decode cL_law_ 695 = .ok (.iload 6, 2) := by decide +kernel
theorem eL_law__695 : zD KL_law_ 695 (.iload 6) 2 697 := ⟨dL_law__695, rfl⟩
theorem dL_law__697 : decode cL_law_ 697 = .ok (.i2l, 1) := by decide +kernel
theorem eL_law__697 : zD KL_law_ 697 (.i2l) 1 698 := ⟨dL_law__697, rfl⟩
theorem dL_law__698 : decode cL_law_ 698 = .ok (.lcmp, 1) := by decide +kernel
theorem eL_law__698 : zD KL_law_ 698 (.lcmp) 1 699 := ⟨dL_law__698, rfl⟩
theorem dL_law__699 : decode cL_law_ 699 = .ok (.ifCond .eq 5, 3) := by decide +kernel
theorem eL_law__699 : zD KL_law_ 699 (.ifCond .eq 5) 3 702 := ⟨dL_law__699, rfl⟩
theorem dL_law__702 : decode cL_law_ 702 = .ok (.iconst 0, 1) := by decide +kernel
theorem eL_law__702 : zD KL_law_ 702 (.iconst 0) 1 703 := ⟨dL_law__702, rfl⟩
theorem dL_law__703 : decode cL_law_ 703 = .ok (.ireturn, 1) := by decide +kernel
theorem eL_law__703 : zD KL_law_ 703 (.ireturn) 1 704 := ⟨dL_law__703, rfl⟩
theorem dL_law__704 : decode cL_law_ 704 = .ok (.goto 2648, 3) := by decide +kernel
theorem eL_law__704 : zD KL_law_ 704 (.goto 2648) 3 707 := ⟨dL_law__704, rfl⟩
theorem dL_law__707 : decode cL_law_ 707 = .ok (.aload_n 1, 1) := by decide +kernel
theorem eL_law__707 : zD KL_law_ 707 (.aload_n 1) 1 708 := ⟨dL_law__707, rfl⟩
theorem dL_law__708 : decode cL_law_ 708 = .ok (.aload_n 0, 1) := by decide +kernel
theorem eL_law__708 : zD KL_law_ 708 (.aload_n 0) 1 709 := ⟨dL_law__708, rfl⟩
theorem dL_law__709 : decode cL_law_ 709 = .ok (.iload 4, 2) := by decide +kernel
theorem eL_law__709 : zD KL_law_ 709 (.iload 4) 2 711 := ⟨dL_law__709, rfl⟩
theorem dL_law__711 : decode cL_law_ 711 = .ok (.iconst 1, 1) := by decide +kernel
theorem eL_law__711 : zD KL_law_ 711 (.iconst 1) 1 712 := ⟨dL_law__711, rfl⟩
theorem dL_law__712 : decode cL_law_ 712 = .ok (.iadd, 1) := by decide +kernel
theorem eL_law__712 : zD KL_law_ 712 (.iadd) 1 713 := ⟨dL_law__712, rfl⟩
theorem dL_law__713 : decode cL_law_ 713 = .ok (.iaload, 1) := by decide +kernel
theorem eL_law__713 : zD KL_law_ 713 (.iaload) 1 714 := ⟨dL_law__713, rfl⟩
theorem dL_law__714 : decode cL_law_ 714 = .ok (.aload_n 3, 1) := by decide +kernel
theorem eL_law__714 : zD KL_law_ 714 (.aload_n 3) 1 715 := ⟨dL_law__714, rfl⟩
theorem dL_law__715 : decode cL_law_ 715 = .ok (.invokestatic 190, 3) := by decide +kernel
theorem eL_law__715 : zD KL_law_ 715 (.invokestatic 190) 3 718 := ⟨dL_law__715, rfl⟩
theorem dL_law__718 : decode cL_law_ 718 = .ok (.istore 5, 2) := by decide +kernel
theorem eL_law__718 : zD KL_law_ 718 (.istore 5) 2 720 := ⟨dL_law__718, rfl⟩
theorem dL_law__720 : decode cL_law_ 720 = .ok (.aload_n 2, 1) := by decide +kernel
theorem eL_law__720 : zD KL_law_ 720 (.aload_n 2) 1 721 := ⟨dL_law__720, rfl⟩
theorem dL_law__721 : decode cL_law_ 721 = .ok (.aload_n 0, 1) := by decide +kernel
theorem eL_law__721 : zD KL_law_ 721 (.aload_n 0) 1 722 := ⟨dL_law__721, rfl⟩
theorem dL_law__722 : decode cL_law_ 722 = .ok (.iload 4, 2) := by decide +kernel
theorem eL_law__722 : zD KL_law_ 722 (.iload 4) 2 724 := ⟨dL_law__722, rfl⟩
theorem dL_law__724 : decode cL_law_ 724 = .ok (.iconst 1, 1) := by decide +kernel
theorem eL_law__724 : zD KL_law_ 724 (.iconst 1) 1 725 := ⟨dL_law__724, rfl⟩
theorem dL_law__725 : decode cL_law_ 725 = .ok (.iadd, 1) := by decide +kernel
theorem eL_law__725 : zD KL_law_ 725 (.iadd) 1 726 := ⟨dL_law__725, rfl⟩
theorem dL_law__726 : decode cL_law_ 726 = .ok (.iaload, 1) := by decide +kernel
theorem eL_law__726 : zD KL_law_ 726 (.iaload) 1 727 := ⟨dL_law__726, rfl⟩
theorem dL_law__727 : decode cL_law_ 727 = .ok (.invokevirtual 193, 3) := by decide +kernel
theorem eL_law__727 : zD KL_law_ 727 (.invokevirtual 193) 3 730 := ⟨dL_law__727, rfl⟩
theorem dL_law__730 : decode cL_law_ 730 = .ok (.istore 6, 2) := by decide +kernel
theorem eL_law__730 : zD KL_law_ 730 (.istore 6) 2 732 := ⟨dL_law__730, rfl⟩
theorem dL_law__732 : decode cL_law_ 732 = .ok (.aload_n 2, 1) := by decide +kernel
theorem eL_law__732 : zD KL_law_ 732 (.aload_n 2) 1 733 := ⟨dL_law__732, rfl⟩
theorem dL_law__733 : decode cL_law_ 733 = .ok (.invokevirtual 170, 3) := by decide +kernel
theorem eL_law__733 : zD KL_law_ 733 (.invokevirtual 170) 3 736 := ⟨dL_law__733, rfl⟩
theorem dL_law__736 : decode cL_law_ 736 = .ok (.iload 5, 2) := by decide +kernel
theorem eL_law__736 : zD KL_law_ 736 (.iload 5) 2 738 := ⟨dL_law__736, rfl⟩
theorem dL_law__738 : decode cL_law_ 738 = .ok (.if_icmp .eq 5, 3) := by decide +kernel
theorem eL_law__738 : zD KL_law_ 738 (.if_icmp .eq 5) 3 741 := ⟨dL_law__738, rfl⟩
theorem dL_law__741 : decode cL_law_ 741 = .ok (.iconst 0, 1) := by decide +kernel
theorem eL_law__741 : zD KL_law_ 741 (.iconst 0) 1 742 := ⟨dL_law__741, rfl⟩
theorem dL_law__742 : decode cL_law_ 742 = .ok (.ireturn, 1) := by decide +kernel
theorem eL_law__742 : zD KL_law_ 742 (.ireturn) 1 743 := ⟨dL_law__742, rfl⟩
theorem dL_law__743 : decode cL_law_ 743 = .ok (.iload 5, 2) := by decide +kernel
theorem eL_law__743 : zD KL_law_ 743 (.iload 5) 2 745 := ⟨dL_law__743, rfl⟩
theorem dL_law__745 : decode cL_law_ 745 = .ok (.ifCond .ne 15, 3) := by decide +kernel
theorem eL_law__745 : zD KL_law_ 745 (.ifCond .ne 15) 3 748 := ⟨dL_law__745, rfl⟩
theorem dL_law__748 : decode cL_law_ 748 = .ok (.aload_n 3, 1) := by decide +kernel
theorem eL_law__748 : zD KL_law_ 748 (.aload_n 3) 1 749 := ⟨dL_law__748, rfl⟩
theorem dL_law__749 : decode cL_law_ 749 = .ok (.iconst 0, 1) := by decide +kernel
theorem eL_law__749 : zD KL_law_ 749 (.iconst 0) 1 750 := ⟨dL_law__749, rfl⟩
theorem dL_law__750 : decode cL_law_ 750 = .ok (.laload, 1) := by decide +kernel
theorem eL_law__750 : zD KL_law_ 750 (.laload) 1 751 := ⟨dL_law__750, rfl⟩
theorem dL_law__751 : decode cL_law_ 751 = .ok (.iload 6, 2) := by decide +kernel
theorem eL_law__751 : zD KL_law_ 751 (.iload 6) 2 753 := ⟨dL_law__751, rfl⟩
theorem dL_law__753 : decode cL_law_ 753 = .ok (.i2l, 1) := by decide +kernel
theorem eL_law__753 : zD KL_law_ 753 (.i2l) 1 754 := ⟨dL_law__753, rfl⟩
theorem dL_law__754 : decode cL_law_ 754 = .ok (.lcmp, 1) := by decide +kernel
theorem eL_law__754 : zD KL_law_ 754 (.lcmp) 1 755 := ⟨dL_law__754, rfl⟩
theorem dL_law__755 : decode cL_law_ 755 = .ok (.ifCond .eq 5, 3) := by decide +kernel
theorem eL_law__755 : zD KL_law_ 755 (.ifCond .eq 5) 3 758 := ⟨dL_law__755, rfl⟩
theorem dL_law__758 : decode cL_law_ 758 = .ok (.iconst 0, 1) := by decide +kernel
theorem eL_law__758 : zD KL_law_ 758 (.iconst 0) 1 759 := ⟨dL_law__758, rfl⟩
theorem dL_law__759 : decode cL_law_ 759 = .ok (.ireturn, 1) := by decide +kernel
theorem eL_law__759 : zD KL_law_ 759 (.ireturn) 1 760 := ⟨dL_law__759, rfl⟩
theorem dL_law__760 : decode cL_law_ 760 = .ok (.goto 2592, 3) := by decide +kernel
theorem eL_law__760 : zD KL_law_ 760 (.goto 2592) 3 763 := ⟨dL_law__760, rfl⟩
theorem dL_law__763 : decode cL_law_ 763 = .ok (.aload_n 1, 1) := by decide +kernel
theorem eL_law__763 : zD KL_law_ 763 (.aload_n 1) 1 764 := ⟨dL_law__763, rfl⟩
theorem dL_law__764 : decode cL_law_ 764 = .ok (.aload_n 0, 1) := by decide +kernel
theorem eL_law__764 : zD KL_law_ 764 (.aload_n 0) 1 765 := ⟨dL_law__764, rfl⟩
theorem dL_law__765 : decode cL_law_ 765 = .ok (.iload 4, 2) := by decide +kernel
theorem eL_law__765 : zD KL_law_ 765 (.iload 4) 2 767 := ⟨dL_law__765, rfl⟩
theorem dL_law__767 : decode cL_law_ 767 = .ok (.iconst 1, 1) := by decide +kernel
theorem eL_law__767 : zD KL_law_ 767 (.iconst 1) 1 768 := ⟨dL_law__767, rfl⟩
theorem dL_law__768 : decode cL_law_ 768 = .ok (.iadd, 1) := by decide +kernel
theorem eL_law__768 : zD KL_law_ 768 (.iadd) 1 769 := ⟨dL_law__768, rfl⟩
theorem dL_law__769 : decode cL_law_ 769 = .ok (.iaload, 1) := by decide +kernel
theorem eL_law__769 : zD KL_law_ 769 (.iaload) 1 770 := ⟨dL_law__769, rfl⟩
theorem dL_law__770 : decode cL_law_ 770 = .ok (.aload_n 3, 1) := by decide +kernel
theorem eL_law__770 : zD KL_law_ 770 (.aload_n 3) 1 771 := ⟨dL_law__770, rfl⟩
theorem dL_law__771 : decode cL_law_ 771 = .ok (.invokestatic 194, 3) := by decide +kernel
theorem eL_law__771 : zD KL_law_ 771 (.invokestatic 194) 3 774 := ⟨dL_law__771, rfl⟩
theorem dL_law__774 : decode cL_law_ 774 = .ok (.istore 5, 2) := by decide +kernel
theorem eL_law__774 : zD KL_law_ 774 (.istore 5) 2 776 := ⟨dL_law__774, rfl⟩
theorem dL_law__776 : decode cL_law_ 776 = .ok (.aload_n 2, 1) := by decide +kernel
theorem eL_law__776 : zD KL_law_ 776 (.aload_n 2) 1 777 := ⟨dL_law__776, rfl⟩
theorem dL_law__777 : decode cL_law_ 777 = .ok (.aload_n 0, 1) := by decide +kernel
theorem eL_law__777 : zD KL_law_ 777 (.aload_n 0) 1 778 := ⟨dL_law__777, rfl⟩
theorem dL_law__778 : decode cL_law_ 778 = .ok (.iload 4, 2) := by decide +kernel
theorem eL_law__778 : zD KL_law_ 778 (.iload 4) 2 780 := ⟨dL_law__778, rfl⟩
theorem dL_law__780 : decode cL_law_ 780 = .ok (.iconst 1, 1) := by decide +kernel
theorem eL_law__780 : zD KL_law_ 780 (.iconst 1) 1 781 := ⟨dL_law__780, rfl⟩
theorem dL_law__781 : decode cL_law_ 781 = .ok (.iadd, 1) := by decide +kernel
theorem eL_law__781 : zD KL_law_ 781 (.iadd) 1 782 := ⟨dL_law__781, rfl⟩
theorem dL_law__782 : decode cL_law_ 782 = .ok (.iaload, 1) := by decide +kernel
theorem eL_law__782 : zD KL_law_ 782 (.iaload) 1 783 := ⟨dL_law__782, rfl⟩
theorem dL_law__783 : decode cL_law_ 783 = .ok (.invokevirtual 196, 3) := by decide +kernel
theorem eL_law__783 : zD KL_law_ 783 (.invokevirtual 196) 3 786 := ⟨dL_law__783, rfl⟩
theorem dL_law__786 : decode cL_law_ 786 = .ok (.istore 6, 2) := by decide +kernel
theorem eL_law__786 : zD KL_law_ 786 (.istore 6) 2 788 := ⟨dL_law__786, rfl⟩
theorem dL_law__788 : decode cL_law_ 788 = .ok (.aload_n 2, 1) := by decide +kernel
theorem eL_law__788 : zD KL_law_ 788 (.aload_n 2) 1 789 := ⟨dL_law__788, rfl⟩
theorem dL_law__789 : decode cL_law_ 789 = .ok (.invokevirtual 170, 3) := by decide +kernel
theorem eL_law__789 : zD KL_law_ 789 (.invokevirtual 170) 3 792 := ⟨dL_law__789, rfl⟩
theorem dL_law__792 : decode cL_law_ 792 = .ok (.iload 5, 2) := by decide +kernel
theorem eL_law__792 : zD KL_law_ 792 (.iload 5) 2 794 := ⟨dL_law__792, rfl⟩
theorem dL_law__794 : decode cL_law_ 794 = .ok (.if_icmp .eq 5, 3) := by decide +kernel
theorem eL_law__794 : zD KL_law_ 794 (.if_icmp .eq 5) 3 797 := ⟨dL_law__794, rfl⟩
theorem dL_law__797 : decode cL_law_ 797 = .ok (.iconst 0, 1) := by decide +kernel
theorem eL_law__797 : zD KL_law_ 797 (.iconst 0) 1 798 := ⟨dL_law__797, rfl⟩
theorem dL_law__798 : decode cL_law_ 798 = .ok (.ireturn, 1) := by decide +kernel
theorem eL_law__798 : zD KL_law_ 798 (.ireturn) 1 799 := ⟨dL_law__798, rfl⟩
theorem dL_law__799 : decode cL_law_ 799 = .ok (.iload 5, 2) := by decide +kernel
theorem eL_law__799 : zD KL_law_ 799 (.iload 5) 2 801 := ⟨dL_law__799, rfl⟩
theorem dL_law__801 : decode cL_law_ 801 = .ok (.ifCond .ne 15, 3) := by decide +kernel
theorem eL_law__801 : zD KL_law_ 801 (.ifCond .ne 15) 3 804 := ⟨dL_law__801, rfl⟩
theorem dL_law__804 : decode cL_law_ 804 = .ok (.aload_n 3, 1) := by decide +kernel
theorem eL_law__804 : zD KL_law_ 804 (.aload_n 3) 1 805 := ⟨dL_law__804, rfl⟩
theorem dL_law__805 : decode cL_law_ 805 = .ok (.iconst 0, 1) := by decide +kernel
theorem eL_law__805 : zD KL_law_ 805 (.iconst 0) 1 806 := ⟨dL_law__805, rfl⟩
theorem dL_law__806 : decode cL_law_ 806 = .ok (.laload, 1) := by decide +kernel
theorem eL_law__806 : zD KL_law_ 806 (.laload) 1 807 := ⟨dL_law__806, rfl⟩
theorem dL_law__807 : decode cL_law_ 807 = .ok (.iload 6, 2) := by decide +kernel
theorem eL_law__807 : zD KL_law_ 807 (.iload 6) 2 809 := ⟨dL_law__807, rfl⟩
theorem dL_law__809 : decode cL_law_ 809 = .ok (.i2l, 1) := by decide +kernel
theorem eL_law__809 : zD KL_law_ 809 (.i2l) 1 810 := ⟨dL_law__809, rfl⟩
theorem dL_law__810 : decode cL_law_ 810 = .ok (.lcmp, 1) := by decide +kernel
theorem eL_law__810 : zD KL_law_ 810 (.lcmp) 1 811 := ⟨dL_law__810, rfl⟩
theorem dL_law__811 : decode cL_law_ 811 = .ok (.ifCond .eq 5, 3) := by decide +kernel
theorem eL_law__811 : zD KL_law_ 811 (.ifCond .eq 5) 3 814 := ⟨dL_law__811, rfl⟩
theorem dL_law__814 : decode cL_law_ 814 = .ok (.iconst 0, 1) := by decide +kernel
theorem eL_law__814 : zD KL_law_ 814 (.iconst 0) 1 815 := ⟨dL_law__814, rfl⟩
theorem dL_law__815 : decode cL_law_ 815 = .ok (.ireturn, 1) := by decide +kernel
theorem eL_law__815 : zD KL_law_ 815 (.ireturn) 1 816 := ⟨dL_law__815, rfl⟩
theorem dL_law__816 : decode cL_law_ 816 = .ok (.goto 2536, 3) := by decide +kernel
theorem eL_law__816 : zD KL_law_ 816 (.goto 2536) 3 819 := ⟨dL_law__816, rfl⟩
theorem dL_law__819 : decode cL_law_ 819 = .ok (.aload_n 1, 1) := by decide +kernel
theorem eL_law__819 : zD KL_law_ 819 (.aload_n 1) 1 820 := ⟨dL_law__819, rfl⟩
theorem dL_law__820 : decode cL_law_ 820 = .ok (.aload_n 0, 1) := by decide +kernel
theorem eL_law__820 : zD KL_law_ 820 (.aload_n 0) 1 821 := ⟨dL_law__820, rfl⟩
theorem dL_law__821 : decode cL_law_ 821 = .ok (.iload 4, 2) := by decide +kernel
theorem eL_law__821 : zD KL_law_ 821 (.iload 4) 2 823 := ⟨dL_law__821, rfl⟩
theorem dL_law__823 : decode cL_law_ 823 = .ok (.iconst 1, 1) := by decide +kernel
theorem eL_law__823 : zD KL_law_ 823 (.iconst 1) 1 824 := ⟨dL_law__823, rfl⟩
theorem dL_law__824 : decode cL_law_ 824 = .ok (.iadd, 1) := by decide +kernel
theorem eL_law__824 : zD KL_law_ 824 (.iadd) 1 825 := ⟨dL_law__824, rfl⟩
theorem dL_law__825 : decode cL_law_ 825 = .ok (.iaload, 1) := by decide +kernel
theorem eL_law__825 : zD KL_law_ 825 (.iaload) 1 826 := ⟨dL_law__825, rfl⟩
theorem dL_law__826 : decode cL_law_ 826 = .ok (.aload_n 0, 1) := by decide +kernel
theorem eL_law__826 : zD KL_law_ 826 (.aload_n 0) 1 827 := ⟨dL_law__826, rfl⟩
theorem dL_law__827 : decode cL_law_ 827 = .ok (.iload 4, 2) := by decide +kernel
theorem eL_law__827 : zD KL_law_ 827 (.iload 4) 2 829 := ⟨dL_law__827, rfl⟩
theorem dL_law__829 : decode cL_law_ 829 = .ok (.iconst 2, 1) := by decide +kernel
theorem eL_law__829 : zD KL_law_ 829 (.iconst 2) 1 830 := ⟨dL_law__829, rfl⟩
theorem dL_law__830 : decode cL_law_ 830 = .ok (.iadd, 1) := by decide +kernel
theorem eL_law__830 : zD KL_law_ 830 (.iadd) 1 831 := ⟨dL_law__830, rfl⟩
theorem dL_law__831 : decode cL_law_ 831 = .ok (.iaload, 1) := by decide +kernel
theorem eL_law__831 : zD KL_law_ 831 (.iaload) 1 832 := ⟨dL_law__831, rfl⟩
theorem dL_law__832 : decode cL_law_ 832 = .ok (.aload_n 0, 1) := by decide +kernel
theorem eL_law__832 : zD KL_law_ 832 (.aload_n 0) 1 833 := ⟨dL_law__832, rfl⟩
theorem dL_law__833 : decode cL_law_ 833 = .ok (.iload 4, 2) := by decide +kernel
theorem eL_law__833 : zD KL_law_ 833 (.iload 4) 2 835 := ⟨dL_law__833, rfl⟩
theorem dL_law__835 : decode cL_law_ 835 = .ok (.iconst 3, 1) := by decide +kernel
theorem eL_law__835 : zD KL_law_ 835 (.iconst 3) 1 836 := ⟨dL_law__835, rfl⟩
theorem dL_law__836 : decode cL_law_ 836 = .ok (.iadd, 1) := by decide +kernel
theorem eL_law__836 : zD KL_law_ 836 (.iadd) 1 837 := ⟨dL_law__836, rfl⟩
theorem dL_law__837 : decode cL_law_ 837 = .ok (.iaload, 1) := by decide +kernel
theorem eL_law__837 : zD KL_law_ 837 (.iaload) 1 838 := ⟨dL_law__837, rfl⟩
theorem dL_law__838 : decode cL_law_ 838 = .ok (.aload_n 3, 1) := by decide +kernel
theorem eL_law__838 : zD KL_law_ 838 (.aload_n 3) 1 839 := ⟨dL_law__838, rfl⟩
theorem dL_law__839 : decode cL_law_ 839 = .ok (.invokestatic 197, 3) := by decide +kernel
theorem eL_law__839 : zD KL_law_ 839 (.invokestatic 197) 3 842 := ⟨dL_law__839, rfl⟩
theorem dL_law__842 : decode cL_law_ 842 = .ok (.istore 5, 2) := by decide +kernel
theorem eL_law__842 : zD KL_law_ 842 (.istore 5) 2 844 := ⟨dL_law__842, rfl⟩
theorem dL_law__844 : decode cL_law_ 844 = .ok (.aload_n 2, 1) := by decide +kernel
theorem eL_law__844 : zD KL_law_ 844 (.aload_n 2) 1 845 := ⟨dL_law__844, rfl⟩
theorem dL_law__845 : decode cL_law_ 845 = .ok (.aload_n 0, 1) := by decide +kernel
theorem eL_law__845 : zD KL_law_ 845 (.aload_n 0) 1 846 := ⟨dL_law__845, rfl⟩
theorem dL_law__846 : decode cL_law_ 846 = .ok (.iload 4, 2) := by decide +kernel
theorem eL_law__846 : zD KL_law_ 846 (.iload 4) 2 848 := ⟨dL_law__846, rfl⟩
theorem dL_law__848 : decode cL_law_ 848 = .ok (.iconst 1, 1) := by decide +kernel
theorem eL_law__848 : zD KL_law_ 848 (.iconst 1) 1 849 := ⟨dL_law__848, rfl⟩
theorem dL_law__849 : decode cL_law_ 849 = .ok (.iadd, 1) := by decide +kernel
theorem eL_law__849 : zD KL_law_ 849 (.iadd) 1 850 := ⟨dL_law__849, rfl⟩
theorem dL_law__850 : decode cL_law_ 850 = .ok (.iaload, 1) := by decide +kernel
theorem eL_law__850 : zD KL_law_ 850 (.iaload) 1 851 := ⟨dL_law__850, rfl⟩
theorem dL_law__851 : decode cL_law_ 851 = .ok (.aload_n 0, 1) := by decide +kernel
theorem eL_law__851 : zD KL_law_ 851 (.aload_n 0) 1 852 := ⟨dL_law__851, rfl⟩
theorem dL_law__852 : decode cL_law_ 852 = .ok (.iload 4, 2) := by decide +kernel
theorem eL_law__852 : zD KL_law_ 852 (.iload 4) 2 854 := ⟨dL_law__852, rfl⟩
theorem dL_law__854 : decode cL_law_ 854 = .ok (.iconst 2, 1) := by decide +kernel
theorem eL_law__854 : zD KL_law_ 854 (.iconst 2) 1 855 := ⟨dL_law__854, rfl⟩
theorem dL_law__855 : decode cL_law_ 855 = .ok (.iadd, 1) := by decide +kernel
theorem eL_law__855 : zD KL_law_ 855 (.iadd) 1 856 := ⟨dL_law__855, rfl⟩
theorem dL_law__856 : decode cL_law_ 856 = .ok (.iaload, 1) := by decide +kernel
theorem eL_law__856 : zD KL_law_ 856 (.iaload) 1 857 := ⟨dL_law__856, rfl⟩
theorem dL_law__857 : decode cL_law_ 857 = .ok (.aload_n 0, 1) := by decide +kernel
theorem eL_law__857 : zD KL_law_ 857 (.aload_n 0) 1 858 := ⟨dL_law__857, rfl⟩
theorem dL_law__858 : decode cL_law_ 858 = .ok (.iload 4, 2) := by decide +kernel
theorem eL_law__858 : zD KL_law_ 858 (.iload 4) 2 860 := ⟨dL_law__858, rfl⟩
theorem dL_law__860 : decode cL_law_ 860 = .ok (.iconst 3, 1) := by decide +kernel
theorem eL_law__860 : zD KL_law_ 860 (.iconst 3) 1 861 := ⟨dL_law__860, rfl⟩
theorem dL_law__861 : decode cL_law_ 861 = .ok (.iadd, 1) := by decide +kernel
theorem eL_law__861 : zD KL_law_ 861 (.iadd) 1 862 := ⟨dL_law__861, rfl⟩
theorem dL_law__862 : decode cL_law_ 862 = .ok (.iaload, 1) := by decide +kernel
theorem eL_law__862 : zD KL_law_ 862 (.iaload) 1 863 := ⟨dL_law__862, rfl⟩
theorem dL_law__863 : decode cL_law_ 863 = .ok (.invokevirtual 200, 3) := by decide +kernel
theorem eL_law__863 : zD KL_law_ 863 (.invokevirtual 200) 3 866 := ⟨dL_law__863, rfl⟩
theorem dL_law__866 : decode cL_law_ 866 = .ok (.istore 6, 2) := by decide +kernel
theorem eL_law__866 : zD KL_law_ 866 (.istore 6) 2 868 := ⟨dL_law__866, rfl⟩
theorem dL_law__868 : decode cL_law_ 868 = .ok (.aload_n 2, 1) := by decide +kernel
theorem eL_law__868 : zD KL_law_ 868 (.aload_n 2) 1 869 := ⟨dL_law__868, rfl⟩
theorem dL_law__869 : decode cL_law_ 869 = .ok (.invokevirtual 170, 3) := by decide +kernel
theorem eL_law__869 : zD KL_law_ 869 (.invokevirtual 170) 3 872 := ⟨dL_law__869, rfl⟩
theorem dL_law__872 : decode cL_law_ 872 = .ok (.iload 5, 2) := by decide +kernel
theorem eL_law__872 : zD KL_law_ 872 (.iload 5) 2 874 := ⟨dL_law__872, rfl⟩
theorem dL_law__874 : decode cL_law_ 874 = .ok (.if_icmp .eq 5, 3) := by decide +kernel
theorem eL_law__874 : zD KL_law_ 874 (.if_icmp .eq 5) 3 877 := ⟨dL_law__874, rfl⟩
theorem dL_law__877 : decode cL_law_ 877 = .ok (.iconst 0, 1) := by decide +kernel
theorem eL_law__877 : zD KL_law_ 877 (.iconst 0) 1 878 := ⟨dL_law__877, rfl⟩
theorem dL_law__878 : decode cL_law_ 878 = .ok (.ireturn, 1) := by decide +kernel
theorem eL_law__878 : zD KL_law_ 878 (.ireturn) 1 879 := ⟨dL_law__878, rfl⟩
theorem dL_law__879 : decode cL_law_ 879 = .ok (.iload 5, 2) := by decide +kernel
theorem eL_law__879 : zD KL_law_ 879 (.iload 5) 2 881 := ⟨dL_law__879, rfl⟩
theorem dL_law__881 : decode cL_law_ 881 = .ok (.ifCond .ne 15, 3) := by decide +kernel
theorem eL_law__881 : zD KL_law_ 881 (.ifCond .ne 15) 3 884 := ⟨dL_law__881, rfl⟩
theorem dL_law__884 : decode cL_law_ 884 = .ok (.aload_n 3, 1) := by decide +kernel
theorem eL_law__884 : zD KL_law_ 884 (.aload_n 3) 1 885 := ⟨dL_law__884, rfl⟩
theorem dL_law__885 : decode cL_law_ 885 = .ok (.iconst 0, 1) := by decide +kernel
theorem eL_law__885 : zD KL_law_ 885 (.iconst 0) 1 886 := ⟨dL_law__885, rfl⟩
theorem dL_law__886 : decode cL_law_ 886 = .ok (.laload, 1) := by decide +kernel
theorem eL_law__886 : zD KL_law_ 886 (.laload) 1 887 := ⟨dL_law__886, rfl⟩
theorem dL_law__887 : decode cL_law_ 887 = .ok (.iload 6, 2) := by decide +kernel
theorem eL_law__887 : zD KL_law_ 887 (.iload 6) 2 889 := ⟨dL_law__887, rfl⟩
theorem dL_law__889 : decode cL_law_ 889 = .ok (.i2l, 1) := by decide +kernel
theorem eL_law__889 : zD KL_law_ 889 (.i2l) 1 890 := ⟨dL_law__889, rfl⟩
theorem dL_law__890 : decode cL_law_ 890 = .ok (.lcmp, 1) := by decide +kernel
theorem eL_law__890 : zD KL_law_ 890 (.lcmp) 1 891 := ⟨dL_law__890, rfl⟩
theorem dL_law__891 : decode cL_law_ 891 = .ok (.ifCond .eq 5, 3) := by decide +kernel
theorem eL_law__891 : zD KL_law_ 891 (.ifCond .eq 5) 3 894 := ⟨dL_law__891, rfl⟩
theorem dL_law__894 : decode cL_law_ 894 = .ok (.iconst 0, 1) := by decide +kernel
theorem eL_law__894 : zD KL_law_ 894 (.iconst 0) 1 895 := ⟨dL_law__894, rfl⟩
theorem dL_law__895 : decode cL_law_ 895 = .ok (.ireturn, 1) := by decide +kernel
theorem eL_law__895 : zD KL_law_ 895 (.ireturn) 1 896 := ⟨dL_law__895, rfl⟩
theorem dL_law__896 : decode cL_law_ 896 = .ok (.goto 2456, 3) := by decide +kernel
theorem eL_law__896 : zD KL_law_ 896 (.goto 2456) 3 899 := ⟨dL_law__896, rfl⟩
theorem dL_law__899 : decode cL_law_ 899 = .ok (.aload_n 1, 1) := by decide +kernel
theorem eL_law__899 : zD KL_law_ 899 (.aload_n 1) 1 900 := ⟨dL_law__899, rfl⟩
theorem dL_law__900 : decode cL_law_ 900 = .ok (.aload_n 0, 1) := by decide +kernel
theorem eL_law__900 : zD KL_law_ 900 (.aload_n 0) 1 901 := ⟨dL_law__900, rfl⟩
theorem dL_law__901 : decode cL_law_ 901 = .ok (.iload 4, 2) := by decide +kernel
theorem eL_law__901 : zD KL_law_ 901 (.iload 4) 2 903 := ⟨dL_law__901, rfl⟩
theorem dL_law__903 : decode cL_law_ 903 = .ok (.iconst 1, 1) := by decide +kernel
theorem eL_law__903 : zD KL_law_ 903 (.iconst 1) 1 904 := ⟨dL_law__903, rfl⟩
theorem dL_law__904 : decode cL_law_ 904 = .ok (.iadd, 1) := by decide +kernel
theorem eL_law__904 : zD KL_law_ 904 (.iadd) 1 905 := ⟨dL_law__904, rfl⟩
theorem dL_law__905 : decode cL_law_ 905 = .ok (.iaload, 1) := by decide +kernel
theorem eL_law__905 : zD KL_law_ 905 (.iaload) 1 906 := ⟨dL_law__905, rfl⟩
theorem dL_law__906 : decode cL_law_ 906 = .ok (.aload_n 0, 1) := by decide +kernel
theorem eL_law__906 : zD KL_law_ 906 (.aload_n 0) 1 907 := ⟨dL_law__906, rfl⟩
theorem dL_law__907 : decode cL_law_ 907 = .ok (.iload 4, 2) := by decide +kernel
theorem eL_law__907 : zD KL_law_ 907 (.iload 4) 2 909 := ⟨dL_law__907, rfl⟩
theorem dL_law__909 : decode cL_law_ 909 = .ok (.iconst 2, 1) := by decide +kernel
theorem eL_law__909 : zD KL_law_ 909 (.iconst 2) 1 910 := ⟨dL_law__909, rfl⟩
theorem dL_law__910 : decode cL_law_ 910 = .ok (.iadd, 1) := by decide +kernel
theorem eL_law__910 : zD KL_law_ 910 (.iadd) 1 911 := ⟨dL_law__910, rfl⟩
theorem dL_law__911 : decode cL_law_ 911 = .ok (.iaload, 1) := by decide +kernel
theorem eL_law__911 : zD KL_law_ 911 (.iaload) 1 912 := ⟨dL_law__911, rfl⟩
theorem dL_law__912 : decode cL_law_ 912 = .ok (.aload_n 0, 1) := by decide +kernel
theorem eL_law__912 : zD KL_law_ 912 (.aload_n 0) 1 913 := ⟨dL_law__912, rfl⟩
theorem dL_law__913 : decode cL_law_ 913 = .ok (.iload 4, 2) := by decide +kernel
theorem eL_law__913 : zD KL_law_ 913 (.iload 4) 2 915 := ⟨dL_law__913, rfl⟩
theorem dL_law__915 : decode cL_law_ 915 = .ok (.iconst 3, 1) := by decide +kernel
theorem eL_law__915 : zD KL_law_ 915 (.iconst 3) 1 916 := ⟨dL_law__915, rfl⟩
theorem dL_law__916 : decode cL_law_ 916 = .ok (.iadd, 1) := by decide +kernel
theorem eL_law__916 : zD KL_law_ 916 (.iadd) 1 917 := ⟨dL_law__916, rfl⟩
theorem dL_law__917 : decode cL_law_ 917 = .ok (.iaload, 1) := by decide +kernel
theorem eL_law__917 : zD KL_law_ 917 (.iaload) 1 918 := ⟨dL_law__917, rfl⟩
theorem dL_law__918 : decode cL_law_ 918 = .ok (.aload_n 3, 1) := by decide +kernel
theorem eL_law__918 : zD KL_law_ 918 (.aload_n 3) 1 919 := ⟨dL_law__918, rfl⟩
theorem dL_law__919 : decode cL_law_ 919 = .ok (.invokestatic 201, 3) := by decide +kernel
theorem eL_law__919 : zD KL_law_ 919 (.invokestatic 201) 3 922 := ⟨dL_law__919, rfl⟩
theorem dL_law__922 : decode cL_law_ 922 = .ok (.istore 5, 2) := by decide +kernel
theorem eL_law__922 : zD KL_law_ 922 (.istore 5) 2 924 := ⟨dL_law__922, rfl⟩
theorem dL_law__924 : decode cL_law_ 924 = .ok (.aload_n 2, 1) := by decide +kernel
theorem eL_law__924 : zD KL_law_ 924 (.aload_n 2) 1 925 := ⟨dL_law__924, rfl⟩
theorem dL_law__925 : decode cL_law_ 925 = .ok (.aload_n 0, 1) := by decide +kernel
theorem eL_law__925 : zD KL_law_ 925 (.aload_n 0) 1 926 := ⟨dL_law__925, rfl⟩
theorem dL_law__926 : decode cL_law_ 926 = .ok (.iload 4, 2) := by decide +kernel
theorem eL_law__926 : zD KL_law_ 926 (.iload 4) 2 928 := ⟨dL_law__926, rfl⟩
theorem dL_law__928 : decode cL_law_ 928 = .ok (.iconst 1, 1) := by decide +kernel
theorem eL_law__928 : zD KL_law_ 928 (.iconst 1) 1 929 := ⟨dL_law__928, rfl⟩
theorem dL_law__929 : decode cL_law_ 929 = .ok (.iadd, 1) := by decide +kernel
theorem eL_law__929 : zD KL_law_ 929 (.iadd) 1 930 := ⟨dL_law__929, rfl⟩
theorem dL_law__930 : decode cL_law_ 930 = .ok (.iaload, 1) := by decide +kernel
theorem eL_law__930 : zD KL_law_ 930 (.iaload) 1 931 := ⟨dL_law__930, rfl⟩
theorem dL_law__931 : decode cL_law_ 931 = .ok (.aload_n 0, 1) := by decide +kernel
theorem eL_law__931 : zD KL_law_ 931 (.aload_n 0) 1 932 := ⟨dL_law__931, rfl⟩
theorem dL_law__932 : decode cL_law_ 932 = .ok (.iload 4, 2) := by decide +kernel
theorem eL_law__932 : zD KL_law_ 932 (.iload 4) 2 934 := ⟨dL_law__932, rfl⟩
theorem dL_law__934 : decode cL_law_ 934 = .ok (.iconst 2, 1) := by decide +kernel
theorem eL_law__934 : zD KL_law_ 934 (.iconst 2) 1 935 := ⟨dL_law__934, rfl⟩
theorem dL_law__935 : decode cL_law_ 935 = .ok (.iadd, 1) := by decide +kernel
theorem eL_law__935 : zD KL_law_ 935 (.iadd) 1 936 := ⟨dL_law__935, rfl⟩
theorem dL_law__936 : decode cL_law_ 936 = .ok (.iaload, 1) := by decide +kernel
theorem eL_law__936 : zD KL_law_ 936 (.iaload) 1 937 := ⟨dL_law__936, rfl⟩
theorem dL_law__937 : decode cL_law_ 937 = .ok (.aload_n 0, 1) := by decide +kernel
theorem eL_law__937 : zD KL_law_ 937 (.aload_n 0) 1 938 := ⟨dL_law__937, rfl⟩
theorem dL_law__938 : decode cL_law_ 938 = .ok (.iload 4, 2) := by decide +kernel
theorem eL_law__938 : zD KL_law_ 938 (.iload 4) 2 940 := ⟨dL_law__938, rfl⟩
theorem dL_law__940 : decode cL_law_ 940 = .ok (.iconst 3, 1) := by decide +kernel
theorem eL_law__940 : zD KL_law_ 940 (.iconst 3) 1 941 := ⟨dL_law__940, rfl⟩
theorem dL_law__941 : decode cL_law_ 941 = .ok (.iadd, 1) := by decide +kernel
theorem eL_law__941 : zD KL_law_ 941 (.iadd) 1 942 := ⟨dL_law__941, rfl⟩
theorem dL_law__942 : decode cL_law_ 942 = .ok (.iaload, 1) := by decide +kernel
theorem eL_law__942 : zD KL_law_ 942 (.iaload) 1 943 := ⟨dL_law__942, rfl⟩
theorem dL_law__943 : decode cL_law_ 943 = .ok (.invokevirtual 203, 3) := by decide +kernel
theorem eL_law__943 : zD KL_law_ 943 (.invokevirtual 203) 3 946 := ⟨dL_law__943, rfl⟩
theorem dL_law__946 : decode cL_law_ 946 = .ok (.istore 6, 2) := by decide +kernel
theorem eL_law__946 : zD KL_law_ 946 (.istore 6) 2 948 := ⟨dL_law__946, rfl⟩
theorem dL_law__948 : decode cL_law_ 948 = .ok (.aload_n 2, 1) := by decide +kernel
theorem eL_law__948 : zD KL_law_ 948 (.aload_n 2) 1 949 := ⟨dL_law__948, rfl⟩
theorem dL_law__949 : decode cL_law_ 949 = .ok (.invokevirtual 170, 3) := by decide +kernel
theorem eL_law__949 : zD KL_law_ 949 (.invokevirtual 170) 3 952 := ⟨dL_law__949, rfl⟩
theorem dL_law__952 : decode cL_law_ 952 = .ok (.iload 5, 2) := by decide +kernel
theorem eL_law__952 : zD KL_law_ 952 (.iload 5) 2 954 := ⟨dL_law__952, rfl⟩
theorem dL_law__954 : decode cL_law_ 954 = .ok (.if_icmp .eq 5, 3) := by decide +kernel
theorem eL_law__954 : zD KL_law_ 954 (.if_icmp .eq 5) 3 957 := ⟨dL_law__954, rfl⟩
theorem dL_law__957 : decode cL_law_ 957 = .ok (.iconst 0, 1) := by decide +kernel
theorem eL_law__957 : zD KL_law_ 957 (.iconst 0) 1 958 := ⟨dL_law__957, rfl⟩
theorem dL_law__958 : decode cL_law_ 958 = .ok (.ireturn, 1) := by decide +kernel
theorem eL_law__958 : zD KL_law_ 958 (.ireturn) 1 959 := ⟨dL_law__958, rfl⟩
theorem dL_law__959 : decode cL_law_ 959 = .ok (.iload 5, 2) := by decide +kernel
theorem eL_law__959 : zD KL_law_ 959 (.iload 5) 2 961 := ⟨dL_law__959, rfl⟩
