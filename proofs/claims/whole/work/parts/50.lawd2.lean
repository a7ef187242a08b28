/-! The law's instructions. -/
theorem dX5_law_343 : decode code 343 = .ok (.laload, 1) := by decide +kernel
theorem dX5_law_344 : decode code 344 = .ok (.iload 6, 2) := by decide +kernel
theorem dX5_law_346 : decode code 346 = .ok (.i2l, 1) := by decide +kernel
theorem dX5_law_347 : decode code 347 = .ok (.lcmp, 1) := by decide +kernel
theorem dX5_law_348 : decode code 348 = .ok (.ifCond .eq 5, 3) := by decide +kernel
theorem dX5_law_351 : decode code 351 = .ok (.iconst 0, 1) := by decide +kernel
theorem dX5_law_352 : decode code 352 = .ok (.ireturn, 1) := by decide +kernel
theorem dX5_law_353 : decode code 353 = .ok (.goto 642, 3) := by decide +kernel
theorem dX5_law_356 : decode code 356 = .ok (.aload_n 1, 1) := by decide +kernel
theorem dX5_law_357 : decode code 357 = .ok (.aload_n 0, 1) := by decide +kernel
theorem dX5_law_358 : decode code 358 = .ok (.iload 4, 2) := by decide +kernel
theorem dX5_law_360 : decode code 360 = .ok (.iconst 1, 1) := by decide +kernel
theorem dX5_law_361 : decode code 361 = .ok (.iadd, 1) := by decide +kernel
theorem dX5_law_362 : decode code 362 = .ok (.iaload, 1) := by decide +kernel
theorem dX5_law_363 : decode code 363 = .ok (.aload_n 0, 1) := by decide +kernel
theorem dX5_law_364 : decode code 364 = .ok (.iload 4, 2) := by decide +kernel
theorem dX5_law_366 : decode code 366 = .ok (.iconst 2, 1) := by decide +kernel
theorem dX5_law_367 : decode code 367 = .ok (.iadd, 1) := by decide +kernel
theorem dX5_law_368 : decode code 368 = .ok (.iaload, 1) := by decide +kernel
theorem dX5_law_369 : decode code 369 = .ok (.aload_n 3, 1) := by decide +kernel
theorem dX5_law_370 : decode code 370 = .ok (.invokestatic 63, 3) := by decide +kernel
theorem dX5_law_373 : decode code 373 = .ok (.istore 5, 2) := by decide +kernel
theorem dX5_law_375 : decode code 375 = .ok (.aload_n 2, 1) := by decide +kernel
theorem dX5_law_376 : decode code 376 = .ok (.aload_n 0, 1) := by decide +kernel
theorem dX5_law_377 : decode code 377 = .ok (.iload 4, 2) := by decide +kernel
theorem dX5_law_379 : decode code 379 = .ok (.iconst 1, 1) := by decide +kernel
theorem dX5_law_380 : decode code 380 = .ok (.iadd, 1) := by decide +kernel
theorem dX5_law_381 : decode code 381 = .ok (.iaload, 1) := by decide +kernel
theorem dX5_law_382 : decode code 382 = .ok (.aload_n 0, 1) := by decide +kernel
theorem dX5_law_383 : decode code 383 = .ok (.iload 4, 2) := by decide +kernel
theorem dX5_law_385 : decode code 385 = .ok (.iconst 2, 1) := by decide +kernel
theorem dX5_law_386 : decode code 386 = .ok (.iadd, 1) := by decide +kernel
theorem dX5_law_387 : decode code 387 = .ok (.iaload, 1) := by decide +kernel
theorem dX5_law_388 : decode code 388 = .ok (.invokevirtual 66, 3) := by decide +kernel
theorem dX5_law_391 : decode code 391 = .ok (.istore 6, 2) := by decide +kernel
theorem dX5_law_393 : decode code 393 = .ok (.aload_n 2, 1) := by decide +kernel
theorem dX5_law_394 : decode code 394 = .ok (.invokevirtual 52, 3) := by decide +kernel
theorem dX5_law_397 : decode code 397 = .ok (.iload 5, 2) := by decide +kernel
theorem dX5_law_399 : decode code 399 = .ok (.if_icmp .eq 5, 3) := by decide +kernel
theorem dX5_law_402 : decode code 402 = .ok (.iconst 0, 1) := by decide +kernel
theorem dX5_law_403 : decode code 403 = .ok (.ireturn, 1) := by decide +kernel
theorem dX5_law_404 : decode code 404 = .ok (.iload 5, 2) := by decide +kernel
theorem dX5_law_406 : decode code 406 = .ok (.ifCond .ne 15, 3) := by decide +kernel
theorem dX5_law_409 : decode code 409 = .ok (.aload_n 3, 1) := by decide +kernel
theorem dX5_law_410 : decode code 410 = .ok (.iconst 0, 1) := by decide +kernel
theorem dX5_law_411 : decode code 411 = .ok (.laload, 1) := by decide +kernel
theorem dX5_law_412 : decode code 412 = .ok (.iload 6, 2) := by decide +kernel
theorem dX5_law_414 : decode code 414 = .ok (.i2l, 1) := by decide +kernel
theorem dX5_law_415 : decode code 415 = .ok (.lcmp, 1) := by decide +kernel
theorem dX5_law_416 : decode code 416 = .ok (.ifCond .eq 5, 3) := by decide +kernel
theorem dX5_law_419 : decode code 419 = .ok (.iconst 0, 1) := by decide +kernel
theorem dX5_law_420 : decode code 420 = .ok (.ireturn, 1) := by decide +kernel
theorem dX5_law_421 : decode code 421 = .ok (.goto 574, 3) := by decide +kernel
theorem dX5_law_424 : decode code 424 = .ok (.aload_n 1, 1) := by decide +kernel
theorem dX5_law_425 : decode code 425 = .ok (.aload_n 0, 1) := by decide +kernel
theorem dX5_law_426 : decode code 426 = .ok (.iload 4, 2) := by decide +kernel
theorem dX5_law_428 : decode code 428 = .ok (.iconst 1, 1) := by decide +kernel
theorem dX5_law_429 : decode code 429 = .ok (.iadd, 1) := by decide +kernel
theorem dX5_law_430 : decode code 430 = .ok (.iaload, 1) := by decide +kernel
theorem dX5_law_431 : decode code 431 = .ok (.aload_n 0, 1) := by decide +kernel
theorem dX5_law_432 : decode code 432 = .ok (.iload 4, 2) := by decide +kernel
theorem dX5_law_434 : decode code 434 = .ok (.iconst 2, 1) := by decide +kernel
theorem dX5_law_435 : decode code 435 = .ok (.iadd, 1) := by decide +kernel
theorem dX5_law_436 : decode code 436 = .ok (.iaload, 1) := by decide +kernel
theorem dX5_law_437 : decode code 437 = .ok (.aload_n 0, 1) := by decide +kernel
theorem dX5_law_438 : decode code 438 = .ok (.iload 4, 2) := by decide +kernel
theorem dX5_law_440 : decode code 440 = .ok (.iconst 3, 1) := by decide +kernel
theorem dX5_law_441 : decode code 441 = .ok (.iadd, 1) := by decide +kernel
theorem dX5_law_442 : decode code 442 = .ok (.iaload, 1) := by decide +kernel
theorem dX5_law_443 : decode code 443 = .ok (.invokevirtual 67, 3) := by decide +kernel
theorem dX5_law_446 : decode code 446 = .ok (.aload_n 2, 1) := by decide +kernel
theorem dX5_law_447 : decode code 447 = .ok (.aload_n 0, 1) := by decide +kernel
theorem dX5_law_448 : decode code 448 = .ok (.iload 4, 2) := by decide +kernel
theorem dX5_law_450 : decode code 450 = .ok (.iconst 1, 1) := by decide +kernel
theorem dX5_law_451 : decode code 451 = .ok (.iadd, 1) := by decide +kernel
theorem dX5_law_452 : decode code 452 = .ok (.iaload, 1) := by decide +kernel
theorem dX5_law_453 : decode code 453 = .ok (.aload_n 0, 1) := by decide +kernel
theorem dX5_law_454 : decode code 454 = .ok (.iload 4, 2) := by decide +kernel
theorem dX5_law_456 : decode code 456 = .ok (.iconst 2, 1) := by decide +kernel
theorem dX5_law_457 : decode code 457 = .ok (.iadd, 1) := by decide +kernel
theorem dX5_law_458 : decode code 458 = .ok (.iaload, 1) := by decide +kernel
theorem dX5_law_459 : decode code 459 = .ok (.aload_n 0, 1) := by decide +kernel
theorem dX5_law_460 : decode code 460 = .ok (.iload 4, 2) := by decide +kernel
theorem dX5_law_462 : decode code 462 = .ok (.iconst 3, 1) := by decide +kernel
theorem dX5_law_463 : decode code 463 = .ok (.iadd, 1) := by decide +kernel
theorem dX5_law_464 : decode code 464 = .ok (.iaload, 1) := by decide +kernel
theorem dX5_law_465 : decode code 465 = .ok (.invokevirtual 71, 3) := by decide +kernel
theorem dX5_law_468 : decode code 468 = .ok (.if_icmp .eq 527, 3) := by decide +kernel
theorem dX5_law_471 : decode code 471 = .ok (.iconst 0, 1) := by decide +kernel
theorem dX5_law_472 : decode code 472 = .ok (.ireturn, 1) := by decide +kernel
theorem dX5_law_473 : decode code 473 = .ok (.aload_n 1, 1) := by decide +kernel
theorem dX5_law_474 : decode code 474 = .ok (.aload_n 3, 1) := by decide +kernel
theorem dX5_law_475 : decode code 475 = .ok (.invokestatic 72, 3) := by decide +kernel
theorem dX5_law_478 : decode code 478 = .ok (.istore 5, 2) := by decide +kernel
theorem dX5_law_480 : decode code 480 = .ok (.aload_n 2, 1) := by decide +kernel
theorem dX5_law_481 : decode code 481 = .ok (.invokevirtual 74, 3) := by decide +kernel
theorem dX5_law_484 : decode code 484 = .ok (.istore 6, 2) := by decide +kernel
theorem dX5_law_486 : decode code 486 = .ok (.aload_n 2, 1) := by decide +kernel
theorem dX5_law_487 : decode code 487 = .ok (.invokevirtual 52, 3) := by decide +kernel
theorem dX5_law_490 : decode code 490 = .ok (.iload 5, 2) := by decide +kernel
theorem dX5_law_492 : decode code 492 = .ok (.if_icmp .eq 5, 3) := by decide +kernel
theorem dX5_law_495 : decode code 495 = .ok (.iconst 0, 1) := by decide +kernel
theorem dX5_law_496 : decode code 496 = .ok (.ireturn, 1) := by decide +kernel
theorem dX5_law_497 : decode code 497 = .ok (.iload 5, 2) := by decide +kernel
theorem dX5_law_499 : decode code 499 = .ok (.ifCond .ne 15, 3) := by decide +kernel
theorem dX5_law_502 : decode code 502 = .ok (.aload_n 3, 1) := by decide +kernel
theorem dX5_law_503 : decode code 503 = .ok (.iconst 0, 1) := by decide +kernel
theorem dX5_law_504 : decode code 504 = .ok (.laload, 1) := by decide +kernel
theorem dX5_law_505 : decode code 505 = .ok (.iload 6, 2) := by decide +kernel
theorem dX5_law_507 : decode code 507 = .ok (.i2l, 1) := by decide +kernel
theorem dX5_law_508 : decode code 508 = .ok (.lcmp, 1) := by decide +kernel
theorem dX5_law_509 : decode code 509 = .ok (.ifCond .eq 5, 3) := by decide +kernel
theorem dX5_law_512 : decode code 512 = .ok (.iconst 0, 1) := by decide +kernel
theorem dX5_law_513 : decode code 513 = .ok (.ireturn, 1) := by decide +kernel
theorem dX5_law_514 : decode code 514 = .ok (.goto 481, 3) := by decide +kernel
theorem dX5_law_517 : decode code 517 = .ok (.aload_n 1, 1) := by decide +kernel
theorem dX5_law_518 : decode code 518 = .ok (.aload_n 0, 1) := by decide +kernel
theorem dX5_law_519 : decode code 519 = .ok (.iload 4, 2) := by decide +kernel
theorem dX5_law_521 : decode code 521 = .ok (.iconst 1, 1) := by decide +kernel
theorem dX5_law_522 : decode code 522 = .ok (.iadd, 1) := by decide +kernel
theorem dX5_law_523 : decode code 523 = .ok (.iaload, 1) := by decide +kernel
theorem dX5_law_524 : decode code 524 = .ok (.aload_n 0, 1) := by decide +kernel
theorem dX5_law_525 : decode code 525 = .ok (.iload 4, 2) := by decide +kernel
theorem dX5_law_527 : decode code 527 = .ok (.iconst 2, 1) := by decide +kernel
theorem dX5_law_528 : decode code 528 = .ok (.iadd, 1) := by decide +kernel
theorem dX5_law_529 : decode code 529 = .ok (.iaload, 1) := by decide +kernel
theorem dX5_law_530 : decode code 530 = .ok (.invokevirtual 75, 3) := by decide +kernel
theorem dX5_law_533 : decode code 533 = .ok (.aload_n 2, 1) := by decide +kernel
theorem dX5_law_534 : decode code 534 = .ok (.aload_n 0, 1) := by decide +kernel
theorem dX5_law_535 : decode code 535 = .ok (.iload 4, 2) := by decide +kernel
theorem dX5_law_537 : decode code 537 = .ok (.iconst 1, 1) := by decide +kernel
theorem dX5_law_538 : decode code 538 = .ok (.iadd, 1) := by decide +kernel
theorem dX5_law_539 : decode code 539 = .ok (.iaload, 1) := by decide +kernel
theorem dX5_law_540 : decode code 540 = .ok (.aload_n 0, 1) := by decide +kernel
theorem dX5_law_541 : decode code 541 = .ok (.iload 4, 2) := by decide +kernel
theorem dX5_law_543 : decode code 543 = .ok (.iconst 2, 1) := by decide +kernel
theorem dX5_law_544 : decode code 544 = .ok (.iadd, 1) := by decide +kernel
theorem dX5_law_545 : decode code 545 = .ok (.iaload, 1) := by decide +kernel
theorem dX5_law_546 : decode code 546 = .ok (.invokevirtual 78, 3) := by decide +kernel
theorem dX5_law_549 : decode code 549 = .ok (.if_icmp .eq 446, 3) := by decide +kernel
theorem dX5_law_552 : decode code 552 = .ok (.iconst 0, 1) := by decide +kernel
theorem dX5_law_553 : decode code 553 = .ok (.ireturn, 1) := by decide +kernel
theorem dX5_law_554 : decode code 554 = .ok (.aload_n 1, 1) := by decide +kernel
theorem dX5_law_555 : decode code 555 = .ok (.aload_n 0, 1) := by decide +kernel
theorem dX5_law_556 : decode code 556 = .ok (.iload 4, 2) := by decide +kernel
theorem dX5_law_558 : decode code 558 = .ok (.iconst 1, 1) := by decide +kernel
theorem dX5_law_559 : decode code 559 = .ok (.iadd, 1) := by decide +kernel
theorem dX5_law_560 : decode code 560 = .ok (.iaload, 1) := by decide +kernel
theorem dX5_law_561 : decode code 561 = .ok (.aload_n 0, 1) := by decide +kernel
theorem dX5_law_562 : decode code 562 = .ok (.iload 4, 2) := by decide +kernel
theorem dX5_law_564 : decode code 564 = .ok (.iconst 2, 1) := by decide +kernel
theorem dX5_law_565 : decode code 565 = .ok (.iadd, 1) := by decide +kernel
theorem dX5_law_566 : decode code 566 = .ok (.iaload, 1) := by decide +kernel
theorem dX5_law_567 : decode code 567 = .ok (.invokevirtual 79, 3) := by decide +kernel
theorem dX5_law_570 : decode code 570 = .ok (.aload_n 2, 1) := by decide +kernel
theorem dX5_law_571 : decode code 571 = .ok (.aload_n 0, 1) := by decide +kernel
theorem dX5_law_572 : decode code 572 = .ok (.iload 4, 2) := by decide +kernel
theorem dX5_law_574 : decode code 574 = .ok (.iconst 1, 1) := by decide +kernel
theorem dX5_law_575 : decode code 575 = .ok (.iadd, 1) := by decide +kernel
theorem dX5_law_576 : decode code 576 = .ok (.iaload, 1) := by decide +kernel
theorem dX5_law_577 : decode code 577 = .ok (.aload_n 0, 1) := by decide +kernel
theorem dX5_law_578 : decode code 578 = .ok (.iload 4, 2) := by decide +kernel
theorem dX5_law_580 : decode code 580 = .ok (.iconst 2, 1) := by decide +kernel
theorem dX5_law_581 : decode code 581 = .ok (.iadd, 1) := by decide +kernel
theorem dX5_law_582 : decode code 582 = .ok (.iaload, 1) := by decide +kernel
theorem dX5_law_583 : decode code 583 = .ok (.invokevirtual 82, 3) := by decide +kernel
theorem dX5_law_586 : decode code 586 = .ok (.if_icmp .eq 409, 3) := by decide +kernel
theorem dX5_law_589 : decode code 589 = .ok (.iconst 0, 1) := by decide +kernel
theorem dX5_law_590 : decode code 590 = .ok (.ireturn, 1) := by decide +kernel
theorem dX5_law_591 : decode code 591 = .ok (.aload_n 1, 1) := by decide +kernel
theorem dX5_law_592 : decode code 592 = .ok (.aload_n 3, 1) := by decide +kernel
theorem dX5_law_593 : decode code 593 = .ok (.invokestatic 83, 3) := by decide +kernel
theorem dX5_law_596 : decode code 596 = .ok (.istore 5, 2) := by decide +kernel
theorem dX5_law_598 : decode code 598 = .ok (.aload_n 2, 1) := by decide +kernel
theorem dX5_law_599 : decode code 599 = .ok (.invokevirtual 85, 3) := by decide +kernel
theorem dX5_law_602 : decode code 602 = .ok (.istore 6, 2) := by decide +kernel
theorem dX5_law_604 : decode code 604 = .ok (.aload_n 2, 1) := by decide +kernel
theorem dX5_law_605 : decode code 605 = .ok (.invokevirtual 52, 3) := by decide +kernel
theorem dX5_law_608 : decode code 608 = .ok (.iload 5, 2) := by decide +kernel
theorem dX5_law_610 : decode code 610 = .ok (.if_icmp .eq 5, 3) := by decide +kernel
theorem dX5_law_613 : decode code 613 = .ok (.iconst 0, 1) := by decide +kernel
theorem dX5_law_614 : decode code 614 = .ok (.ireturn, 1) := by decide +kernel
theorem dX5_law_615 : decode code 615 = .ok (.iload 5, 2) := by decide +kernel
theorem dX5_law_617 : decode code 617 = .ok (.ifCond .ne 15, 3) := by decide +kernel
theorem dX5_law_620 : decode code 620 = .ok (.aload_n 3, 1) := by decide +kernel
theorem dX5_law_621 : decode code 621 = .ok (.iconst 0, 1) := by decide +kernel
theorem dX5_law_622 : decode code 622 = .ok (.laload, 1) := by decide +kernel
theorem dX5_law_623 : decode code 623 = .ok (.iload 6, 2) := by decide +kernel
theorem dX5_law_625 : decode code 625 = .ok (.i2l, 1) := by decide +kernel
theorem dX5_law_626 : decode code 626 = .ok (.lcmp, 1) := by decide +kernel
theorem dX5_law_627 : decode code 627 = .ok (.ifCond .eq 5, 3) := by decide +kernel
theorem dX5_law_630 : decode code 630 = .ok (.iconst 0, 1) := by decide +kernel
theorem dX5_law_631 : decode code 631 = .ok (.ireturn, 1) := by decide +kernel
theorem dX5_law_632 : decode code 632 = .ok (.goto 363, 3) := by decide +kernel
theorem dX5_law_635 : decode code 635 = .ok (.aload_n 1, 1) := by decide +kernel
theorem dX5_law_636 : decode code 636 = .ok (.aload_n 0, 1) := by decide +kernel
theorem dX5_law_637 : decode code 637 = .ok (.iload 4, 2) := by decide +kernel
theorem dX5_law_639 : decode code 639 = .ok (.iconst 1, 1) := by decide +kernel
theorem dX5_law_640 : decode code 640 = .ok (.iadd, 1) := by decide +kernel
theorem dX5_law_641 : decode code 641 = .ok (.iaload, 1) := by decide +kernel
theorem dX5_law_642 : decode code 642 = .ok (.aload_n 0, 1) := by decide +kernel
theorem dX5_law_643 : decode code 643 = .ok (.iload 4, 2) := by decide +kernel
theorem dX5_law_645 : decode code 645 = .ok (.iconst 2, 1) := by decide +kernel
theorem dX5_law_646 : decode code 646 = .ok (.iadd, 1) := by decide +kernel
theorem dX5_law_647 : decode code 647 = .ok (.iaload, 1) := by decide +kernel
theorem dX5_law_648 : decode code 648 = .ok (.invokevirtual 86, 3) := by decide +kernel
theorem dX5_law_651 : decode code 651 = .ok (.aload_n 2, 1) := by decide +kernel
theorem dX5_law_652 : decode code 652 = .ok (.aload_n 0, 1) := by decide +kernel
theorem dX5_law_653 : decode code 653 = .ok (.iload 4, 2) := by decide +kernel
theorem dX5_law_655 : decode code 655 = .ok (.iconst 1, 1) := by decide +kernel
theorem dX5_law_656 : decode code 656 = .ok (.iadd, 1) := by decide +kernel
theorem dX5_law_657 : decode code 657 = .ok (.iaload, 1) := by decide +kernel
theorem dX5_law_658 : decode code 658 = .ok (.aload_n 0, 1) := by decide +kernel
theorem dX5_law_659 : decode code 659 = .ok (.iload 4, 2) := by decide +kernel
theorem dX5_law_661 : decode code 661 = .ok (.iconst 2, 1) := by decide +kernel
theorem dX5_law_662 : decode code 662 = .ok (.iadd, 1) := by decide +kernel
theorem dX5_law_663 : decode code 663 = .ok (.iaload, 1) := by decide +kernel
theorem dX5_law_664 : decode code 664 = .ok (.invokevirtual 89, 3) := by decide +kernel
theorem dX5_law_667 : decode code 667 = .ok (.if_icmp .eq 328, 3) := by decide +kernel
theorem dX5_law_670 : decode code 670 = .ok (.iconst 0, 1) := by decide +kernel
theorem dX5_law_671 : decode code 671 = .ok (.ireturn, 1) := by decide +kernel
theorem dX5_law_672 : decode code 672 = .ok (.aload_n 1, 1) := by decide +kernel
theorem dX5_law_673 : decode code 673 = .ok (.aload_n 0, 1) := by decide +kernel
theorem dX5_law_674 : decode code 674 = .ok (.iload 4, 2) := by decide +kernel
theorem dX5_law_676 : decode code 676 = .ok (.iconst 1, 1) := by decide +kernel
theorem dX5_law_677 : decode code 677 = .ok (.iadd, 1) := by decide +kernel
theorem dX5_law_678 : decode code 678 = .ok (.iaload, 1) := by decide +kernel
theorem dX5_law_679 : decode code 679 = .ok (.aload_n 0, 1) := by decide +kernel
theorem dX5_law_680 : decode code 680 = .ok (.iload 4, 2) := by decide +kernel
theorem dX5_law_682 : decode code 682 = .ok (.iconst 2, 1) := by decide +kernel
theorem dX5_law_683 : decode code 683 = .ok (.iadd, 1) := by decide +kernel
theorem dX5_law_684 : decode code 684 = .ok (.iaload, 1) := by decide +kernel
theorem dX5_law_685 : decode code 685 = .ok (.aload_n 3, 1) := by decide +kernel
theorem dX5_law_686 : decode code 686 = .ok (.invokestatic 90, 3) := by decide +kernel
theorem dX5_law_689 : decode code 689 = .ok (.istore 5, 2) := by decide +kernel
theorem dX5_law_691 : decode code 691 = .ok (.aload_n 2, 1) := by decide +kernel
theorem dX5_law_692 : decode code 692 = .ok (.aload_n 0, 1) := by decide +kernel
theorem dX5_law_693 : decode code 693 = .ok (.iload 4, 2) := by decide +kernel
theorem dX5_law_695 : decode code 695 = .ok (.iconst 1, 1) := by decide +kernel
theorem dX5_law_696 : decode code 696 = .ok (.iadd, 1) := by decide +kernel
theorem dX5_law_697 : decode code 697 = .ok (.iaload, 1) := by decide +kernel
theorem dX5_law_698 : decode code 698 = .ok (.aload_n 0, 1) := by decide +kernel
theorem dX5_law_699 : decode code 699 = .ok (.iload 4, 2) := by decide +kernel
theorem dX5_law_701 : decode code 701 = .ok (.iconst 2, 1) := by decide +kernel
theorem dX5_law_702 : decode code 702 = .ok (.iadd, 1) := by decide +kernel
theorem dX5_law_703 : decode code 703 = .ok (.iaload, 1) := by decide +kernel
theorem dX5_law_704 : decode code 704 = .ok (.invokevirtual 92, 3) := by decide +kernel
theorem dX5_law_707 : decode code 707 = .ok (.istore 6, 2) := by decide +kernel
theorem dX5_law_709 : decode code 709 = .ok (.aload_n 2, 1) := by decide +kernel
theorem dX5_law_710 : decode code 710 = .ok (.invokevirtual 52, 3) := by decide +kernel
theorem dX5_law_713 : decode code 713 = .ok (.iload 5, 2) := by decide +kernel
theorem dX5_law_715 : decode code 715 = .ok (.if_icmp .eq 5, 3) := by decide +kernel
theorem dX5_law_718 : decode code 718 = .ok (.iconst 0, 1) := by decide +kernel
theorem dX5_law_719 : decode code 719 = .ok (.ireturn, 1) := by decide +kernel
theorem dX5_law_720 : decode code 720 = .ok (.iload 5, 2) := by decide +kernel
theorem dX5_law_722 : decode code 722 = .ok (.ifCond .ne 22, 3) := by decide +kernel
theorem dX5_law_725 : decode code 725 = .ok (.aload_n 3, 1) := by decide +kernel
theorem dX5_law_726 : decode code 726 = .ok (.iconst 0, 1) := by decide +kernel
theorem dX5_law_727 : decode code 727 = .ok (.laload, 1) := by decide +kernel
theorem dX5_law_728 : decode code 728 = .ok (.iload 6, 2) := by decide +kernel
theorem dX5_law_730 : decode code 730 = .ok (.ifCond .eq 7, 3) := by decide +kernel
theorem dX5_law_733 : decode code 733 = .ok (.lconst 1, 1) := by decide +kernel
theorem dX5_law_734 : decode code 734 = .ok (.goto 4, 3) := by decide +kernel
theorem dX5_law_737 : decode code 737 = .ok (.lconst 0, 1) := by decide +kernel
theorem dX5_law_738 : decode code 738 = .ok (.lcmp, 1) := by decide +kernel
theorem dX5_law_739 : decode code 739 = .ok (.ifCond .eq 5, 3) := by decide +kernel
theorem dX5_law_742 : decode code 742 = .ok (.iconst 0, 1) := by decide +kernel
theorem dX5_law_743 : decode code 743 = .ok (.ireturn, 1) := by decide +kernel
theorem dX5_law_744 : decode code 744 = .ok (.goto 251, 3) := by decide +kernel
theorem dX5_law_747 : decode code 747 = .ok (.aload_n 1, 1) := by decide +kernel
theorem dX5_law_748 : decode code 748 = .ok (.aload_n 0, 1) := by decide +kernel
theorem dX5_law_749 : decode code 749 = .ok (.iload 4, 2) := by decide +kernel
theorem dX5_law_751 : decode code 751 = .ok (.iconst 1, 1) := by decide +kernel
theorem dX5_law_752 : decode code 752 = .ok (.iadd, 1) := by decide +kernel
theorem dX5_law_753 : decode code 753 = .ok (.iaload, 1) := by decide +kernel
theorem dX5_law_754 : decode code 754 = .ok (.aload_n 0, 1) := by decide +kernel
theorem dX5_law_755 : decode code 755 = .ok (.iload 4, 2) := by decide +kernel
theorem dX5_law_757 : decode code 757 = .ok (.iconst 2, 1) := by decide +kernel
theorem dX5_law_758 : decode code 758 = .ok (.iadd, 1) := by decide +kernel
theorem dX5_law_759 : decode code 759 = .ok (.iaload, 1) := by decide +kernel
theorem dX5_law_760 : decode code 760 = .ok (.invokevirtual 93, 3) := by decide +kernel
theorem dX5_law_763 : decode code 763 = .ok (.aload_n 2, 1) := by decide +kernel
theorem dX5_law_764 : decode code 764 = .ok (.aload_n 0, 1) := by decide +kernel
theorem dX5_law_765 : decode code 765 = .ok (.iload 4, 2) := by decide +kernel
theorem dX5_law_767 : decode code 767 = .ok (.iconst 1, 1) := by decide +kernel
theorem dX5_law_768 : decode code 768 = .ok (.iadd, 1) := by decide +kernel
theorem dX5_law_769 : decode code 769 = .ok (.iaload, 1) := by decide +kernel
theorem dX5_law_770 : decode code 770 = .ok (.aload_n 0, 1) := by decide +kernel
theorem dX5_law_771 : decode code 771 = .ok (.iload 4, 2) := by decide +kernel
theorem dX5_law_773 : decode code 773 = .ok (.iconst 2, 1) := by decide +kernel
theorem dX5_law_774 : decode code 774 = .ok (.iadd, 1) := by decide +kernel
theorem dX5_law_775 : decode code 775 = .ok (.iaload, 1) := by decide +kernel
theorem dX5_law_776 : decode code 776 = .ok (.invokevirtual 96, 3) := by decide +kernel
theorem dX5_law_779 : decode code 779 = .ok (.if_icmp .eq 216, 3) := by decide +kernel
theorem dX5_law_782 : decode code 782 = .ok (.iconst 0, 1) := by decide +kernel
theorem dX5_law_783 : decode code 783 = .ok (.ireturn, 1) := by decide +kernel
theorem dX5_law_784 : decode code 784 = .ok (.aload_n 1, 1) := by decide +kernel
theorem dX5_law_785 : decode code 785 = .ok (.aload_n 0, 1) := by decide +kernel
theorem dX5_law_786 : decode code 786 = .ok (.iload 4, 2) := by decide +kernel
theorem dX5_law_788 : decode code 788 = .ok (.iconst 1, 1) := by decide +kernel
theorem dX5_law_789 : decode code 789 = .ok (.iadd, 1) := by decide +kernel
theorem dX5_law_790 : decode code 790 = .ok (.iaload, 1) := by decide +kernel
theorem dX5_law_791 : decode code 791 = .ok (.aload_n 0, 1) := by decide +kernel
theorem dX5_law_792 : decode code 792 = .ok (.iload 4, 2) := by decide +kernel
theorem dX5_law_794 : decode code 794 = .ok (.iconst 2, 1) := by decide +kernel
theorem dX5_law_795 : decode code 795 = .ok (.iadd, 1) := by decide +kernel
theorem dX5_law_796 : decode code 796 = .ok (.iaload, 1) := by decide +kernel
theorem dX5_law_797 : decode code 797 = .ok (.aload_n 0, 1) := by decide +kernel
theorem dX5_law_798 : decode code 798 = .ok (.iload 4, 2) := by decide +kernel
theorem dX5_law_800 : decode code 800 = .ok (.iconst 3, 1) := by decide +kernel
theorem dX5_law_801 : decode code 801 = .ok (.iadd, 1) := by decide +kernel
theorem dX5_law_802 : decode code 802 = .ok (.iaload, 1) := by decide +kernel
theorem dX5_law_803 : decode code 803 = .ok (.invokevirtual 97, 3) := by decide +kernel
theorem dX5_law_806 : decode code 806 = .ok (.aload_n 2, 1) := by decide +kernel
theorem dX5_law_807 : decode code 807 = .ok (.aload_n 0, 1) := by decide +kernel
theorem dX5_law_808 : decode code 808 = .ok (.iload 4, 2) := by decide +kernel
theorem dX5_law_810 : decode code 810 = .ok (.iconst 1, 1) := by decide +kernel
theorem dX5_law_811 : decode code 811 = .ok (.iadd, 1) := by decide +kernel
theorem dX5_law_812 : decode code 812 = .ok (.iaload, 1) := by decide +kernel
theorem dX5_law_813 : decode code 813 = .ok (.aload_n 0, 1) := by decide +kernel
theorem dX5_law_814 : decode code 814 = .ok (.iload 4, 2) := by decide +kernel
theorem dX5_law_816 : decode code 816 = .ok (.iconst 2, 1) := by decide +kernel
theorem dX5_law_817 : decode code 817 = .ok (.iadd, 1) := by decide +kernel
theorem dX5_law_818 : decode code 818 = .ok (.iaload, 1) := by decide +kernel
theorem dX5_law_819 : decode code 819 = .ok (.aload_n 0, 1) := by decide +kernel
theorem dX5_law_820 : decode code 820 = .ok (.iload 4, 2) := by decide +kernel
theorem dX5_law_822 : decode code 822 = .ok (.iconst 3, 1) := by decide +kernel
theorem dX5_law_823 : decode code 823 = .ok (.iadd, 1) := by decide +kernel
theorem dX5_law_824 : decode code 824 = .ok (.iaload, 1) := by decide +kernel
theorem dX5_law_825 : decode code 825 = .ok (.invokevirtual 101, 3) := by decide +kernel
theorem dX5_law_828 : decode code 828 = .ok (.if_icmp .eq 167, 3) := by decide +kernel
theorem dX5_law_831 : decode code 831 = .ok (.iconst 0, 1) := by decide +kernel
theorem dX5_law_832 : decode code 832 = .ok (.ireturn, 1) := by decide +kernel
theorem dX5_law_833 : decode code 833 = .ok (.aload_n 1, 1) := by decide +kernel
theorem dX5_law_834 : decode code 834 = .ok (.aload_n 0, 1) := by decide +kernel
theorem dX5_law_835 : decode code 835 = .ok (.iload 4, 2) := by decide +kernel
theorem dX5_law_837 : decode code 837 = .ok (.iconst 1, 1) := by decide +kernel
theorem dX5_law_838 : decode code 838 = .ok (.iadd, 1) := by decide +kernel
theorem dX5_law_839 : decode code 839 = .ok (.iaload, 1) := by decide +kernel
theorem dX5_law_840 : decode code 840 = .ok (.invokevirtual 102, 3) := by decide +kernel
theorem dX5_law_843 : decode code 843 = .ok (.aload_n 2, 1) := by decide +kernel
theorem dX5_law_844 : decode code 844 = .ok (.aload_n 0, 1) := by decide +kernel
theorem dX5_law_845 : decode code 845 = .ok (.iload 4, 2) := by decide +kernel
theorem dX5_law_847 : decode code 847 = .ok (.iconst 1, 1) := by decide +kernel
theorem dX5_law_848 : decode code 848 = .ok (.iadd, 1) := by decide +kernel
theorem dX5_law_849 : decode code 849 = .ok (.iaload, 1) := by decide +kernel
theorem dX5_law_850 : decode code 850 = .ok (.invokevirtual 106, 3) := by decide +kernel
theorem dX5_law_853 : decode code 853 = .ok (.if_icmp .eq 142, 3) := by decide +kernel
theorem dX5_law_856 : decode code 856 = .ok (.iconst 0, 1) := by decide +kernel
theorem dX5_law_857 : decode code 857 = .ok (.ireturn, 1) := by decide +kernel
theorem dX5_law_858 : decode code 858 = .ok (.aload_n 1, 1) := by decide +kernel
theorem dX5_law_859 : decode code 859 = .ok (.aload_n 0, 1) := by decide +kernel
theorem dX5_law_860 : decode code 860 = .ok (.iload 4, 2) := by decide +kernel
theorem dX5_law_862 : decode code 862 = .ok (.iconst 1, 1) := by decide +kernel
theorem dX5_law_863 : decode code 863 = .ok (.iadd, 1) := by decide +kernel
theorem dX5_law_864 : decode code 864 = .ok (.iaload, 1) := by decide +kernel
theorem dX5_law_865 : decode code 865 = .ok (.aload_n 0, 1) := by decide +kernel
theorem dX5_law_866 : decode code 866 = .ok (.iload 4, 2) := by decide +kernel
theorem dX5_law_868 : decode code 868 = .ok (.iconst 2, 1) := by decide +kernel
theorem dX5_law_869 : decode code 869 = .ok (.iadd, 1) := by decide +kernel
theorem dX5_law_870 : decode code 870 = .ok (.iaload, 1) := by decide +kernel
theorem dX5_law_871 : decode code 871 = .ok (.aload_n 3, 1) := by decide +kernel
theorem dX5_law_872 : decode code 872 = .ok (.invokestatic 107, 3) := by decide +kernel
theorem dX5_law_875 : decode code 875 = .ok (.istore 5, 2) := by decide +kernel
theorem dX5_law_877 : decode code 877 = .ok (.aload_n 2, 1) := by decide +kernel
theorem dX5_law_878 : decode code 878 = .ok (.aload_n 0, 1) := by decide +kernel
theorem dX5_law_879 : decode code 879 = .ok (.iload 4, 2) := by decide +kernel
theorem dX5_law_881 : decode code 881 = .ok (.iconst 1, 1) := by decide +kernel
theorem dX5_law_882 : decode code 882 = .ok (.iadd, 1) := by decide +kernel
theorem dX5_law_883 : decode code 883 = .ok (.iaload, 1) := by decide +kernel
theorem dX5_law_884 : decode code 884 = .ok (.aload_n 0, 1) := by decide +kernel
theorem dX5_law_885 : decode code 885 = .ok (.iload 4, 2) := by decide +kernel
theorem dX5_law_887 : decode code 887 = .ok (.iconst 2, 1) := by decide +kernel
theorem dX5_law_888 : decode code 888 = .ok (.iadd, 1) := by decide +kernel
theorem dX5_law_889 : decode code 889 = .ok (.iaload, 1) := by decide +kernel
theorem dX5_law_890 : decode code 890 = .ok (.invokevirtual 109, 3) := by decide +kernel
theorem dX5_law_893 : decode code 893 = .ok (.istore 6, 2) := by decide +kernel
theorem dX5_law_895 : decode code 895 = .ok (.aload_n 2, 1) := by decide +kernel
theorem dX5_law_896 : decode code 896 = .ok (.invokevirtual 52, 3) := by decide +kernel
theorem dX5_law_899 : decode code 899 = .ok (.iload 5, 2) := by decide +kernel
theorem dX5_law_901 : decode code 901 = .ok (.if_icmp .eq 5, 3) := by decide +kernel
theorem dX5_law_904 : decode code 904 = .ok (.iconst 0, 1) := by decide +kernel
theorem dX5_law_905 : decode code 905 = .ok (.ireturn, 1) := by decide +kernel
theorem dX5_law_906 : decode code 906 = .ok (.iload 5, 2) := by decide +kernel
theorem dX5_law_908 : decode code 908 = .ok (.ifCond .ne 22, 3) := by decide +kernel
theorem dX5_law_911 : decode code 911 = .ok (.aload_n 3, 1) := by decide +kernel
theorem dX5_law_912 : decode code 912 = .ok (.iconst 0, 1) := by decide +kernel
theorem dX5_law_913 : decode code 913 = .ok (.laload, 1) := by decide +kernel
theorem dX5_law_914 : decode code 914 = .ok (.iload 6, 2) := by decide +kernel
theorem dX5_law_916 : decode code 916 = .ok (.ifCond .eq 7, 3) := by decide +kernel
theorem dX5_law_919 : decode code 919 = .ok (.lconst 1, 1) := by decide +kernel
theorem dX5_law_920 : decode code 920 = .ok (.goto 4, 3) := by decide +kernel
theorem dX5_law_923 : decode code 923 = .ok (.lconst 0, 1) := by decide +kernel
theorem dX5_law_924 : decode code 924 = .ok (.lcmp, 1) := by decide +kernel
theorem dX5_law_925 : decode code 925 = .ok (.ifCond .eq 5, 3) := by decide +kernel
theorem dX5_law_928 : decode code 928 = .ok (.iconst 0, 1) := by decide +kernel
theorem dX5_law_929 : decode code 929 = .ok (.ireturn, 1) := by decide +kernel
theorem dX5_law_930 : decode code 930 = .ok (.goto 65, 3) := by decide +kernel
theorem dX5_law_933 : decode code 933 = .ok (.aload_n 1, 1) := by decide +kernel
theorem dX5_law_934 : decode code 934 = .ok (.aload_n 0, 1) := by decide +kernel
theorem dX5_law_935 : decode code 935 = .ok (.iload 4, 2) := by decide +kernel
theorem dX5_law_937 : decode code 937 = .ok (.iconst 1, 1) := by decide +kernel
theorem dX5_law_938 : decode code 938 = .ok (.iadd, 1) := by decide +kernel
theorem dX5_law_939 : decode code 939 = .ok (.iaload, 1) := by decide +kernel
theorem dX5_law_940 : decode code 940 = .ok (.aload_n 0, 1) := by decide +kernel
theorem dX5_law_941 : decode code 941 = .ok (.iload 4, 2) := by decide +kernel
theorem dX5_law_943 : decode code 943 = .ok (.iconst 2, 1) := by decide +kernel
theorem dX5_law_944 : decode code 944 = .ok (.iadd, 1) := by decide +kernel
theorem dX5_law_945 : decode code 945 = .ok (.iaload, 1) := by decide +kernel
theorem dX5_law_946 : decode code 946 = .ok (.invokevirtual 110, 3) := by decide +kernel
theorem dX5_law_949 : decode code 949 = .ok (.aload_n 2, 1) := by decide +kernel
theorem dX5_law_950 : decode code 950 = .ok (.aload_n 0, 1) := by decide +kernel
theorem dX5_law_951 : decode code 951 = .ok (.iload 4, 2) := by decide +kernel
theorem dX5_law_953 : decode code 953 = .ok (.iconst 1, 1) := by decide +kernel
theorem dX5_law_954 : decode code 954 = .ok (.iadd, 1) := by decide +kernel
theorem dX5_law_955 : decode code 955 = .ok (.iaload, 1) := by decide +kernel
theorem dX5_law_956 : decode code 956 = .ok (.aload_n 0, 1) := by decide +kernel
theorem dX5_law_957 : decode code 957 = .ok (.iload 4, 2) := by decide +kernel
theorem dX5_law_959 : decode code 959 = .ok (.iconst 2, 1) := by decide +kernel
theorem dX5_law_960 : decode code 960 = .ok (.iadd, 1) := by decide +kernel
theorem dX5_law_961 : decode code 961 = .ok (.iaload, 1) := by decide +kernel
theorem dX5_law_962 : decode code 962 = .ok (.invokevirtual 113, 3) := by decide +kernel
theorem dX5_law_965 : decode code 965 = .ok (.if_icmp .eq 30, 3) := by decide +kernel
theorem dX5_law_968 : decode code 968 = .ok (.iconst 0, 1) := by decide +kernel
theorem dX5_law_969 : decode code 969 = .ok (.ireturn, 1) := by decide +kernel
theorem dX5_law_970 : decode code 970 = .ok (.aload_n 1, 1) := by decide +kernel
theorem dX5_law_971 : decode code 971 = .ok (.aload_n 0, 1) := by decide +kernel
theorem dX5_law_972 : decode code 972 = .ok (.iload 4, 2) := by decide +kernel
theorem dX5_law_974 : decode code 974 = .ok (.iconst 1, 1) := by decide +kernel
theorem dX5_law_975 : decode code 975 = .ok (.iadd, 1) := by decide +kernel
theorem dX5_law_976 : decode code 976 = .ok (.iaload, 1) := by decide +kernel
theorem dX5_law_977 : decode code 977 = .ok (.invokevirtual 114, 3) := by decide +kernel
theorem dX5_law_980 : decode code 980 = .ok (.aload_n 2, 1) := by decide +kernel
theorem dX5_law_981 : decode code 981 = .ok (.aload_n 0, 1) := by decide +kernel
theorem dX5_law_982 : decode code 982 = .ok (.iload 4, 2) := by decide +kernel
theorem dX5_law_984 : decode code 984 = .ok (.iconst 1, 1) := by decide +kernel
theorem dX5_law_985 : decode code 985 = .ok (.iadd, 1) := by decide +kernel
theorem dX5_law_986 : decode code 986 = .ok (.iaload, 1) := by decide +kernel
theorem dX5_law_987 : decode code 987 = .ok (.invokevirtual 117, 3) := by decide +kernel
theorem dX5_law_990 : decode code 990 = .ok (.if_icmp .eq 5, 3) := by decide +kernel
theorem dX5_law_993 : decode code 993 = .ok (.iconst 0, 1) := by decide +kernel
theorem dX5_law_994 : decode code 994 = .ok (.ireturn, 1) := by decide +kernel
theorem dX5_law_995 : decode code 995 = .ok (.iinc 4 6, 3) := by decide +kernel
theorem dX5_law_998 : decode code 998 = .ok (.goto (-975), 3) := by decide +kernel
theorem dX5_law_1001 : decode code 1001 = .ok (.iconst 1, 1) := by decide +kernel
theorem dX5_law_1002 : decode code 1002 = .ok (.ireturn, 1) := by decide +kernel
