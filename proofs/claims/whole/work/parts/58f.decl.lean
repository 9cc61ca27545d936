/-! decode rows: the law -/
theorem dL_law_2393 : decode cL_law 2393 = .ok (.invokevirtual 309, 3) := by decide +kernel
theorem dL_law_2396 : decode cL_law 2396 = .ok (.istore 7, 2) := by decide +kernel
theorem dL_law_2398 : decode cL_law 2398 = .ok (.aload_n 2, 1) := by decide +kernel
theorem dL_law_2399 : decode cL_law 2399 = .ok (.invokevirtual 185, 3) := by decide +kernel
theorem dL_law_2402 : decode cL_law 2402 = .ok (.iload 6, 2) := by decide +kernel
theorem dL_law_2404 : decode cL_law 2404 = .ok (.if_icmp .eq 5, 3) := by decide +kernel
theorem dL_law_2407 : decode cL_law 2407 = .ok (.iconst 0, 1) := by decide +kernel
theorem dL_law_2408 : decode cL_law 2408 = .ok (.ireturn, 1) := by decide +kernel
theorem dL_law_2409 : decode cL_law 2409 = .ok (.iload 6, 2) := by decide +kernel
theorem dL_law_2411 : decode cL_law 2411 = .ok (.ifCond .ne 15, 3) := by decide +kernel
theorem dL_law_2414 : decode cL_law 2414 = .ok (.aload_n 3, 1) := by decide +kernel
theorem dL_law_2415 : decode cL_law 2415 = .ok (.iconst 0, 1) := by decide +kernel
theorem dL_law_2416 : decode cL_law 2416 = .ok (.laload, 1) := by decide +kernel
theorem dL_law_2417 : decode cL_law 2417 = .ok (.iload 7, 2) := by decide +kernel
theorem dL_law_2419 : decode cL_law 2419 = .ok (.i2l, 1) := by decide +kernel
theorem dL_law_2420 : decode cL_law 2420 = .ok (.lcmp, 1) := by decide +kernel
theorem dL_law_2421 : decode cL_law 2421 = .ok (.ifCond .eq 5, 3) := by decide +kernel
theorem dL_law_2424 : decode cL_law 2424 = .ok (.iconst 0, 1) := by decide +kernel
theorem dL_law_2425 : decode cL_law 2425 = .ok (.ireturn, 1) := by decide +kernel
theorem dL_law_2426 : decode cL_law 2426 = .ok (.goto 897, 3) := by decide +kernel
theorem dL_law_2429 : decode cL_law 2429 = .ok (.aload_n 1, 1) := by decide +kernel
theorem dL_law_2430 : decode cL_law 2430 = .ok (.invokevirtual 310, 3) := by decide +kernel
theorem dL_law_2433 : decode cL_law 2433 = .ok (.aload_n 2, 1) := by decide +kernel
theorem dL_law_2434 : decode cL_law 2434 = .ok (.invokevirtual 313, 3) := by decide +kernel
theorem dL_law_2437 : decode cL_law 2437 = .ok (.if_icmp .eq 886, 3) := by decide +kernel
theorem dL_law_2440 : decode cL_law 2440 = .ok (.iconst 0, 1) := by decide +kernel
theorem dL_law_2441 : decode cL_law 2441 = .ok (.ireturn, 1) := by decide +kernel
theorem dL_law_2442 : decode cL_law 2442 = .ok (.aload_n 1, 1) := by decide +kernel
theorem dL_law_2443 : decode cL_law 2443 = .ok (.invokevirtual 314, 3) := by decide +kernel
theorem dL_law_2446 : decode cL_law 2446 = .ok (.aload_n 2, 1) := by decide +kernel
theorem dL_law_2447 : decode cL_law 2447 = .ok (.invokevirtual 317, 3) := by decide +kernel
theorem dL_law_2450 : decode cL_law 2450 = .ok (.if_icmp .eq 873, 3) := by decide +kernel
theorem dL_law_2453 : decode cL_law 2453 = .ok (.iconst 0, 1) := by decide +kernel
theorem dL_law_2454 : decode cL_law 2454 = .ok (.ireturn, 1) := by decide +kernel
theorem dL_law_2455 : decode cL_law 2455 = .ok (.aload_n 1, 1) := by decide +kernel
theorem dL_law_2456 : decode cL_law 2456 = .ok (.invokevirtual 318, 3) := by decide +kernel
theorem dL_law_2459 : decode cL_law 2459 = .ok (.aload_n 2, 1) := by decide +kernel
theorem dL_law_2460 : decode cL_law 2460 = .ok (.invokevirtual 321, 3) := by decide +kernel
theorem dL_law_2463 : decode cL_law 2463 = .ok (.if_icmp .eq 860, 3) := by decide +kernel
theorem dL_law_2466 : decode cL_law 2466 = .ok (.iconst 0, 1) := by decide +kernel
theorem dL_law_2467 : decode cL_law 2467 = .ok (.ireturn, 1) := by decide +kernel
theorem dL_law_2468 : decode cL_law 2468 = .ok (.aload_n 1, 1) := by decide +kernel
theorem dL_law_2469 : decode cL_law 2469 = .ok (.invokevirtual 322, 3) := by decide +kernel
theorem dL_law_2472 : decode cL_law 2472 = .ok (.aload_n 2, 1) := by decide +kernel
theorem dL_law_2473 : decode cL_law 2473 = .ok (.invokevirtual 325, 3) := by decide +kernel
theorem dL_law_2476 : decode cL_law 2476 = .ok (.if_icmp .eq 847, 3) := by decide +kernel
theorem dL_law_2479 : decode cL_law 2479 = .ok (.iconst 0, 1) := by decide +kernel
theorem dL_law_2480 : decode cL_law 2480 = .ok (.ireturn, 1) := by decide +kernel
theorem dL_law_2481 : decode cL_law 2481 = .ok (.aload_n 1, 1) := by decide +kernel
theorem dL_law_2482 : decode cL_law 2482 = .ok (.invokevirtual 326, 3) := by decide +kernel
theorem dL_law_2485 : decode cL_law 2485 = .ok (.aload_n 2, 1) := by decide +kernel
theorem dL_law_2486 : decode cL_law 2486 = .ok (.invokevirtual 329, 3) := by decide +kernel
theorem dL_law_2489 : decode cL_law 2489 = .ok (.if_icmp .eq 834, 3) := by decide +kernel
theorem dL_law_2492 : decode cL_law 2492 = .ok (.iconst 0, 1) := by decide +kernel
theorem dL_law_2493 : decode cL_law 2493 = .ok (.ireturn, 1) := by decide +kernel
theorem dL_law_2494 : decode cL_law 2494 = .ok (.aload_n 1, 1) := by decide +kernel
theorem dL_law_2495 : decode cL_law 2495 = .ok (.invokevirtual 330, 3) := by decide +kernel
theorem dL_law_2498 : decode cL_law 2498 = .ok (.aload_n 2, 1) := by decide +kernel
theorem dL_law_2499 : decode cL_law 2499 = .ok (.invokevirtual 333, 3) := by decide +kernel
theorem dL_law_2502 : decode cL_law 2502 = .ok (.if_icmp .eq 821, 3) := by decide +kernel
theorem dL_law_2505 : decode cL_law 2505 = .ok (.iconst 0, 1) := by decide +kernel
theorem dL_law_2506 : decode cL_law 2506 = .ok (.ireturn, 1) := by decide +kernel
theorem dL_law_2507 : decode cL_law 2507 = .ok (.aload_n 1, 1) := by decide +kernel
theorem dL_law_2508 : decode cL_law 2508 = .ok (.invokevirtual 334, 3) := by decide +kernel
theorem dL_law_2511 : decode cL_law 2511 = .ok (.aload_n 2, 1) := by decide +kernel
theorem dL_law_2512 : decode cL_law 2512 = .ok (.invokevirtual 337, 3) := by decide +kernel
theorem dL_law_2515 : decode cL_law 2515 = .ok (.if_icmp .eq 808, 3) := by decide +kernel
theorem dL_law_2518 : decode cL_law 2518 = .ok (.iconst 0, 1) := by decide +kernel
theorem dL_law_2519 : decode cL_law 2519 = .ok (.ireturn, 1) := by decide +kernel
theorem dL_law_2520 : decode cL_law 2520 = .ok (.aload_n 1, 1) := by decide +kernel
theorem dL_law_2521 : decode cL_law 2521 = .ok (.aload_n 0, 1) := by decide +kernel
theorem dL_law_2522 : decode cL_law 2522 = .ok (.iload 5, 2) := by decide +kernel
theorem dL_law_2524 : decode cL_law 2524 = .ok (.iconst 1, 1) := by decide +kernel
theorem dL_law_2525 : decode cL_law 2525 = .ok (.iadd, 1) := by decide +kernel
theorem dL_law_2526 : decode cL_law 2526 = .ok (.iaload, 1) := by decide +kernel
theorem dL_law_2527 : decode cL_law 2527 = .ok (.aload_n 3, 1) := by decide +kernel
theorem dL_law_2528 : decode cL_law 2528 = .ok (.invokestatic 338, 3) := by decide +kernel
theorem dL_law_2531 : decode cL_law 2531 = .ok (.istore 6, 2) := by decide +kernel
theorem dL_law_2533 : decode cL_law 2533 = .ok (.aload_n 2, 1) := by decide +kernel
theorem dL_law_2534 : decode cL_law 2534 = .ok (.aload_n 0, 1) := by decide +kernel
theorem dL_law_2535 : decode cL_law 2535 = .ok (.iload 5, 2) := by decide +kernel
theorem dL_law_2537 : decode cL_law 2537 = .ok (.iconst 1, 1) := by decide +kernel
theorem dL_law_2538 : decode cL_law 2538 = .ok (.iadd, 1) := by decide +kernel
theorem dL_law_2539 : decode cL_law 2539 = .ok (.iaload, 1) := by decide +kernel
theorem dL_law_2540 : decode cL_law 2540 = .ok (.invokevirtual 340, 3) := by decide +kernel
theorem dL_law_2543 : decode cL_law 2543 = .ok (.istore 7, 2) := by decide +kernel
theorem dL_law_2545 : decode cL_law 2545 = .ok (.aload_n 2, 1) := by decide +kernel
theorem dL_law_2546 : decode cL_law 2546 = .ok (.invokevirtual 185, 3) := by decide +kernel
theorem dL_law_2549 : decode cL_law 2549 = .ok (.iload 6, 2) := by decide +kernel
theorem dL_law_2551 : decode cL_law 2551 = .ok (.if_icmp .eq 5, 3) := by decide +kernel
theorem dL_law_2554 : decode cL_law 2554 = .ok (.iconst 0, 1) := by decide +kernel
theorem dL_law_2555 : decode cL_law 2555 = .ok (.ireturn, 1) := by decide +kernel
theorem dL_law_2556 : decode cL_law 2556 = .ok (.iload 6, 2) := by decide +kernel
theorem dL_law_2558 : decode cL_law 2558 = .ok (.ifCond .ne 15, 3) := by decide +kernel
theorem dL_law_2561 : decode cL_law 2561 = .ok (.aload_n 3, 1) := by decide +kernel
theorem dL_law_2562 : decode cL_law 2562 = .ok (.iconst 0, 1) := by decide +kernel
theorem dL_law_2563 : decode cL_law 2563 = .ok (.laload, 1) := by decide +kernel
theorem dL_law_2564 : decode cL_law 2564 = .ok (.iload 7, 2) := by decide +kernel
theorem dL_law_2566 : decode cL_law 2566 = .ok (.i2l, 1) := by decide +kernel
theorem dL_law_2567 : decode cL_law 2567 = .ok (.lcmp, 1) := by decide +kernel
theorem dL_law_2568 : decode cL_law 2568 = .ok (.ifCond .eq 5, 3) := by decide +kernel
theorem dL_law_2571 : decode cL_law 2571 = .ok (.iconst 0, 1) := by decide +kernel
theorem dL_law_2572 : decode cL_law 2572 = .ok (.ireturn, 1) := by decide +kernel
theorem dL_law_2573 : decode cL_law 2573 = .ok (.goto 750, 3) := by decide +kernel
theorem dL_law_2576 : decode cL_law 2576 = .ok (.aload_n 1, 1) := by decide +kernel
theorem dL_law_2577 : decode cL_law 2577 = .ok (.aload_n 0, 1) := by decide +kernel
theorem dL_law_2578 : decode cL_law 2578 = .ok (.iload 5, 2) := by decide +kernel
theorem dL_law_2580 : decode cL_law 2580 = .ok (.iconst 1, 1) := by decide +kernel
theorem dL_law_2581 : decode cL_law 2581 = .ok (.iadd, 1) := by decide +kernel
theorem dL_law_2582 : decode cL_law 2582 = .ok (.iaload, 1) := by decide +kernel
theorem dL_law_2583 : decode cL_law 2583 = .ok (.aload_n 3, 1) := by decide +kernel
theorem dL_law_2584 : decode cL_law 2584 = .ok (.invokestatic 341, 3) := by decide +kernel
theorem dL_law_2587 : decode cL_law 2587 = .ok (.istore 6, 2) := by decide +kernel
theorem dL_law_2589 : decode cL_law 2589 = .ok (.aload_n 2, 1) := by decide +kernel
theorem dL_law_2590 : decode cL_law 2590 = .ok (.aload_n 0, 1) := by decide +kernel
theorem dL_law_2591 : decode cL_law 2591 = .ok (.iload 5, 2) := by decide +kernel
theorem dL_law_2593 : decode cL_law 2593 = .ok (.iconst 1, 1) := by decide +kernel
theorem dL_law_2594 : decode cL_law 2594 = .ok (.iadd, 1) := by decide +kernel
theorem dL_law_2595 : decode cL_law 2595 = .ok (.iaload, 1) := by decide +kernel
theorem dL_law_2596 : decode cL_law 2596 = .ok (.invokevirtual 343, 3) := by decide +kernel
theorem dL_law_2599 : decode cL_law 2599 = .ok (.istore 7, 2) := by decide +kernel
theorem dL_law_2601 : decode cL_law 2601 = .ok (.aload_n 2, 1) := by decide +kernel
theorem dL_law_2602 : decode cL_law 2602 = .ok (.invokevirtual 185, 3) := by decide +kernel
theorem dL_law_2605 : decode cL_law 2605 = .ok (.iload 6, 2) := by decide +kernel
theorem dL_law_2607 : decode cL_law 2607 = .ok (.if_icmp .eq 5, 3) := by decide +kernel
theorem dL_law_2610 : decode cL_law 2610 = .ok (.iconst 0, 1) := by decide +kernel
theorem dL_law_2611 : decode cL_law 2611 = .ok (.ireturn, 1) := by decide +kernel
theorem dL_law_2612 : decode cL_law 2612 = .ok (.iload 6, 2) := by decide +kernel
theorem dL_law_2614 : decode cL_law 2614 = .ok (.ifCond .ne 15, 3) := by decide +kernel
theorem dL_law_2617 : decode cL_law 2617 = .ok (.aload_n 3, 1) := by decide +kernel
theorem dL_law_2618 : decode cL_law 2618 = .ok (.iconst 0, 1) := by decide +kernel
theorem dL_law_2619 : decode cL_law 2619 = .ok (.laload, 1) := by decide +kernel
theorem dL_law_2620 : decode cL_law 2620 = .ok (.iload 7, 2) := by decide +kernel
theorem dL_law_2622 : decode cL_law 2622 = .ok (.i2l, 1) := by decide +kernel
theorem dL_law_2623 : decode cL_law 2623 = .ok (.lcmp, 1) := by decide +kernel
theorem dL_law_2624 : decode cL_law 2624 = .ok (.ifCond .eq 5, 3) := by decide +kernel
theorem dL_law_2627 : decode cL_law 2627 = .ok (.iconst 0, 1) := by decide +kernel
theorem dL_law_2628 : decode cL_law 2628 = .ok (.ireturn, 1) := by decide +kernel
theorem dL_law_2629 : decode cL_law 2629 = .ok (.goto 694, 3) := by decide +kernel
theorem dL_law_2632 : decode cL_law 2632 = .ok (.aload_n 1, 1) := by decide +kernel
theorem dL_law_2633 : decode cL_law 2633 = .ok (.aload 4, 2) := by decide +kernel
theorem dL_law_2635 : decode cL_law 2635 = .ok (.invokestatic 344, 3) := by decide +kernel
theorem dL_law_2638 : decode cL_law 2638 = .ok (.istore 6, 2) := by decide +kernel
theorem dL_law_2640 : decode cL_law 2640 = .ok (.aload_n 2, 1) := by decide +kernel
theorem dL_law_2641 : decode cL_law 2641 = .ok (.invokevirtual 347, 3) := by decide +kernel
theorem dL_law_2644 : decode cL_law 2644 = .ok (.dstore 7, 2) := by decide +kernel
theorem dL_law_2646 : decode cL_law 2646 = .ok (.aload_n 2, 1) := by decide +kernel
theorem dL_law_2647 : decode cL_law 2647 = .ok (.invokevirtual 185, 3) := by decide +kernel
theorem dL_law_2650 : decode cL_law 2650 = .ok (.iload 6, 2) := by decide +kernel
theorem dL_law_2652 : decode cL_law 2652 = .ok (.if_icmp .eq 5, 3) := by decide +kernel
theorem dL_law_2655 : decode cL_law 2655 = .ok (.iconst 0, 1) := by decide +kernel
theorem dL_law_2656 : decode cL_law 2656 = .ok (.ireturn, 1) := by decide +kernel
theorem dL_law_2657 : decode cL_law 2657 = .ok (.iload 6, 2) := by decide +kernel
theorem dL_law_2659 : decode cL_law 2659 = .ok (.ifCond .ne 35, 3) := by decide +kernel
theorem dL_law_2662 : decode cL_law 2662 = .ok (.aload 4, 2) := by decide +kernel
theorem dL_law_2664 : decode cL_law 2664 = .ok (.iconst 0, 1) := by decide +kernel
theorem dL_law_2665 : decode cL_law 2665 = .ok (.daload, 1) := by decide +kernel
theorem dL_law_2666 : decode cL_law 2666 = .ok (.dload 7, 2) := by decide +kernel
theorem dL_law_2668 : decode cL_law 2668 = .ok (.dcmp .l, 1) := by decide +kernel
theorem dL_law_2669 : decode cL_law 2669 = .ok (.ifCond .eq 25, 3) := by decide +kernel
theorem dL_law_2672 : decode cL_law 2672 = .ok (.aload 4, 2) := by decide +kernel
theorem dL_law_2674 : decode cL_law 2674 = .ok (.iconst 0, 1) := by decide +kernel
theorem dL_law_2675 : decode cL_law 2675 = .ok (.daload, 1) := by decide +kernel
theorem dL_law_2676 : decode cL_law 2676 = .ok (.aload 4, 2) := by decide +kernel
theorem dL_law_2678 : decode cL_law 2678 = .ok (.iconst 0, 1) := by decide +kernel
theorem dL_law_2679 : decode cL_law 2679 = .ok (.daload, 1) := by decide +kernel
theorem dL_law_2680 : decode cL_law 2680 = .ok (.dcmp .l, 1) := by decide +kernel
theorem dL_law_2681 : decode cL_law 2681 = .ok (.ifCond .eq 11, 3) := by decide +kernel
theorem dL_law_2684 : decode cL_law 2684 = .ok (.dload 7, 2) := by decide +kernel
theorem dL_law_2686 : decode cL_law 2686 = .ok (.dload 7, 2) := by decide +kernel
theorem dL_law_2688 : decode cL_law 2688 = .ok (.dcmp .l, 1) := by decide +kernel
theorem dL_law_2689 : decode cL_law 2689 = .ok (.ifCond .ne 5, 3) := by decide +kernel
theorem dL_law_2692 : decode cL_law 2692 = .ok (.iconst 0, 1) := by decide +kernel
theorem dL_law_2693 : decode cL_law 2693 = .ok (.ireturn, 1) := by decide +kernel
theorem dL_law_2694 : decode cL_law 2694 = .ok (.goto 629, 3) := by decide +kernel
theorem dL_law_2697 : decode cL_law 2697 = .ok (.aload_n 1, 1) := by decide +kernel
theorem dL_law_2698 : decode cL_law 2698 = .ok (.aload 4, 2) := by decide +kernel
theorem dL_law_2700 : decode cL_law 2700 = .ok (.invokestatic 348, 3) := by decide +kernel
theorem dL_law_2703 : decode cL_law 2703 = .ok (.istore 6, 2) := by decide +kernel
theorem dL_law_2705 : decode cL_law 2705 = .ok (.aload_n 2, 1) := by decide +kernel
theorem dL_law_2706 : decode cL_law 2706 = .ok (.invokevirtual 350, 3) := by decide +kernel
theorem dL_law_2709 : decode cL_law 2709 = .ok (.fstore 7, 2) := by decide +kernel
theorem dL_law_2711 : decode cL_law 2711 = .ok (.aload_n 2, 1) := by decide +kernel
theorem dL_law_2712 : decode cL_law 2712 = .ok (.invokevirtual 185, 3) := by decide +kernel
theorem dL_law_2715 : decode cL_law 2715 = .ok (.iload 6, 2) := by decide +kernel
theorem dL_law_2717 : decode cL_law 2717 = .ok (.if_icmp .eq 5, 3) := by decide +kernel
theorem dL_law_2720 : decode cL_law 2720 = .ok (.iconst 0, 1) := by decide +kernel
theorem dL_law_2721 : decode cL_law 2721 = .ok (.ireturn, 1) := by decide +kernel
theorem dL_law_2722 : decode cL_law 2722 = .ok (.iload 6, 2) := by decide +kernel
theorem dL_law_2724 : decode cL_law 2724 = .ok (.ifCond .ne 36, 3) := by decide +kernel
theorem dL_law_2727 : decode cL_law 2727 = .ok (.aload 4, 2) := by decide +kernel
theorem dL_law_2729 : decode cL_law 2729 = .ok (.iconst 0, 1) := by decide +kernel
theorem dL_law_2730 : decode cL_law 2730 = .ok (.daload, 1) := by decide +kernel
theorem dL_law_2731 : decode cL_law 2731 = .ok (.fload 7, 2) := by decide +kernel
theorem dL_law_2733 : decode cL_law 2733 = .ok (.f2d, 1) := by decide +kernel
theorem dL_law_2734 : decode cL_law 2734 = .ok (.dcmp .l, 1) := by decide +kernel
theorem dL_law_2735 : decode cL_law 2735 = .ok (.ifCond .eq 25, 3) := by decide +kernel
theorem dL_law_2738 : decode cL_law 2738 = .ok (.aload 4, 2) := by decide +kernel
theorem dL_law_2740 : decode cL_law 2740 = .ok (.iconst 0, 1) := by decide +kernel
theorem dL_law_2741 : decode cL_law 2741 = .ok (.daload, 1) := by decide +kernel
theorem dL_law_2742 : decode cL_law 2742 = .ok (.aload 4, 2) := by decide +kernel
theorem dL_law_2744 : decode cL_law 2744 = .ok (.iconst 0, 1) := by decide +kernel
theorem dL_law_2745 : decode cL_law 2745 = .ok (.daload, 1) := by decide +kernel
theorem dL_law_2746 : decode cL_law 2746 = .ok (.dcmp .l, 1) := by decide +kernel
theorem dL_law_2747 : decode cL_law 2747 = .ok (.ifCond .eq 11, 3) := by decide +kernel
theorem dL_law_2750 : decode cL_law 2750 = .ok (.fload 7, 2) := by decide +kernel
theorem dL_law_2752 : decode cL_law 2752 = .ok (.fload 7, 2) := by decide +kernel
theorem dL_law_2754 : decode cL_law 2754 = .ok (.fcmp .l, 1) := by decide +kernel
theorem dL_law_2755 : decode cL_law 2755 = .ok (.ifCond .ne 5, 3) := by decide +kernel
theorem dL_law_2758 : decode cL_law 2758 = .ok (.iconst 0, 1) := by decide +kernel
theorem dL_law_2759 : decode cL_law 2759 = .ok (.ireturn, 1) := by decide +kernel
theorem dL_law_2760 : decode cL_law 2760 = .ok (.goto 563, 3) := by decide +kernel
theorem dL_law_2763 : decode cL_law 2763 = .ok (.aload_n 1, 1) := by decide +kernel
theorem dL_law_2764 : decode cL_law 2764 = .ok (.invokevirtual 351, 3) := by decide +kernel
theorem dL_law_2767 : decode cL_law 2767 = .ok (.aload_n 2, 1) := by decide +kernel
theorem dL_law_2768 : decode cL_law 2768 = .ok (.invokevirtual 355, 3) := by decide +kernel
theorem dL_law_2771 : decode cL_law 2771 = .ok (.if_icmp .eq 552, 3) := by decide +kernel
theorem dL_law_2774 : decode cL_law 2774 = .ok (.iconst 0, 1) := by decide +kernel
theorem dL_law_2775 : decode cL_law 2775 = .ok (.ireturn, 1) := by decide +kernel
theorem dL_law_2776 : decode cL_law 2776 = .ok (.aload_n 1, 1) := by decide +kernel
theorem dL_law_2777 : decode cL_law 2777 = .ok (.aload_n 0, 1) := by decide +kernel
theorem dL_law_2778 : decode cL_law 2778 = .ok (.iload 5, 2) := by decide +kernel
theorem dL_law_2780 : decode cL_law 2780 = .ok (.iconst 1, 1) := by decide +kernel
theorem dL_law_2781 : decode cL_law 2781 = .ok (.iadd, 1) := by decide +kernel
theorem dL_law_2782 : decode cL_law 2782 = .ok (.iaload, 1) := by decide +kernel
theorem dL_law_2783 : decode cL_law 2783 = .ok (.aload_n 3, 1) := by decide +kernel
theorem dL_law_2784 : decode cL_law 2784 = .ok (.invokestatic 356, 3) := by decide +kernel
theorem dL_law_2787 : decode cL_law 2787 = .ok (.istore 6, 2) := by decide +kernel
theorem dL_law_2789 : decode cL_law 2789 = .ok (.aload_n 2, 1) := by decide +kernel
theorem dL_law_2790 : decode cL_law 2790 = .ok (.aload_n 0, 1) := by decide +kernel
theorem dL_law_2791 : decode cL_law 2791 = .ok (.iload 5, 2) := by decide +kernel
theorem dL_law_2793 : decode cL_law 2793 = .ok (.iconst 1, 1) := by decide +kernel
theorem dL_law_2794 : decode cL_law 2794 = .ok (.iadd, 1) := by decide +kernel
theorem dL_law_2795 : decode cL_law 2795 = .ok (.iaload, 1) := by decide +kernel
theorem dL_law_2796 : decode cL_law 2796 = .ok (.invokevirtual 358, 3) := by decide +kernel
theorem dL_law_2799 : decode cL_law 2799 = .ok (.istore 7, 2) := by decide +kernel
theorem dL_law_2801 : decode cL_law 2801 = .ok (.aload_n 2, 1) := by decide +kernel
theorem dL_law_2802 : decode cL_law 2802 = .ok (.invokevirtual 185, 3) := by decide +kernel
theorem dL_law_2805 : decode cL_law 2805 = .ok (.iload 6, 2) := by decide +kernel
theorem dL_law_2807 : decode cL_law 2807 = .ok (.if_icmp .eq 5, 3) := by decide +kernel
theorem dL_law_2810 : decode cL_law 2810 = .ok (.iconst 0, 1) := by decide +kernel
theorem dL_law_2811 : decode cL_law 2811 = .ok (.ireturn, 1) := by decide +kernel
theorem dL_law_2812 : decode cL_law 2812 = .ok (.iload 6, 2) := by decide +kernel
theorem dL_law_2814 : decode cL_law 2814 = .ok (.ifCond .ne 15, 3) := by decide +kernel
theorem dL_law_2817 : decode cL_law 2817 = .ok (.aload_n 3, 1) := by decide +kernel
theorem dL_law_2818 : decode cL_law 2818 = .ok (.iconst 0, 1) := by decide +kernel
theorem dL_law_2819 : decode cL_law 2819 = .ok (.laload, 1) := by decide +kernel
theorem dL_law_2820 : decode cL_law 2820 = .ok (.iload 7, 2) := by decide +kernel
theorem dL_law_2822 : decode cL_law 2822 = .ok (.i2l, 1) := by decide +kernel
theorem dL_law_2823 : decode cL_law 2823 = .ok (.lcmp, 1) := by decide +kernel
theorem dL_law_2824 : decode cL_law 2824 = .ok (.ifCond .eq 5, 3) := by decide +kernel
theorem dL_law_2827 : decode cL_law 2827 = .ok (.iconst 0, 1) := by decide +kernel
theorem dL_law_2828 : decode cL_law 2828 = .ok (.ireturn, 1) := by decide +kernel
theorem dL_law_2829 : decode cL_law 2829 = .ok (.goto 494, 3) := by decide +kernel
theorem dL_law_2832 : decode cL_law 2832 = .ok (.aload_n 1, 1) := by decide +kernel
theorem dL_law_2833 : decode cL_law 2833 = .ok (.aload_n 0, 1) := by decide +kernel
theorem dL_law_2834 : decode cL_law 2834 = .ok (.iload 5, 2) := by decide +kernel
theorem dL_law_2836 : decode cL_law 2836 = .ok (.iconst 1, 1) := by decide +kernel
theorem dL_law_2837 : decode cL_law 2837 = .ok (.iadd, 1) := by decide +kernel
theorem dL_law_2838 : decode cL_law 2838 = .ok (.iaload, 1) := by decide +kernel
theorem dL_law_2839 : decode cL_law 2839 = .ok (.aload_n 3, 1) := by decide +kernel
theorem dL_law_2840 : decode cL_law 2840 = .ok (.invokestatic 359, 3) := by decide +kernel
theorem dL_law_2843 : decode cL_law 2843 = .ok (.istore 6, 2) := by decide +kernel
theorem dL_law_2845 : decode cL_law 2845 = .ok (.aload_n 2, 1) := by decide +kernel
theorem dL_law_2846 : decode cL_law 2846 = .ok (.aload_n 0, 1) := by decide +kernel
theorem dL_law_2847 : decode cL_law 2847 = .ok (.iload 5, 2) := by decide +kernel
theorem dL_law_2849 : decode cL_law 2849 = .ok (.iconst 1, 1) := by decide +kernel
theorem dL_law_2850 : decode cL_law 2850 = .ok (.iadd, 1) := by decide +kernel
theorem dL_law_2851 : decode cL_law 2851 = .ok (.iaload, 1) := by decide +kernel
theorem dL_law_2852 : decode cL_law 2852 = .ok (.invokevirtual 361, 3) := by decide +kernel
