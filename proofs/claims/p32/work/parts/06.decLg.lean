theorem dL_law_2620 : decode cL_law 2620 = .ok (.aload 6, 2) := by decide +kernel
theorem dL_law_2622 : decode cL_law 2622 = .ok (.aload 7, 2) := by decide +kernel
theorem dL_law_2624 : decode cL_law 2624 = .ok (.aload 8, 2) := by decide +kernel
theorem dL_law_2626 : decode cL_law 2626 = .ok (.aload 9, 2) := by decide +kernel
theorem dL_law_2628 : decode cL_law 2628 = .ok (.aload 11, 2) := by decide +kernel
theorem dL_law_2630 : decode cL_law 2630 = .ok (.aload 14, 2) := by decide +kernel
theorem dL_law_2632 : decode cL_law 2632 = .ok (.aload 15, 2) := by decide +kernel
theorem dL_law_2634 : decode cL_law 2634 = .ok (.iconst 1, 1) := by decide +kernel
theorem dL_law_2635 : decode cL_law 2635 = .ok (.invokestatic 121, 3) := by decide +kernel
theorem dL_law_2638 : decode cL_law 2638 = .ok (.ifCond .eq 7, 3) := by decide +kernel
theorem dL_law_2641 : decode cL_law 2641 = .ok (.iconst 1, 1) := by decide +kernel
theorem dL_law_2642 : decode cL_law 2642 = .ok (.goto 4, 3) := by decide +kernel
theorem dL_law_2645 : decode cL_law 2645 = .ok (.iconst 0, 1) := by decide +kernel
theorem dL_law_2646 : decode cL_law 2646 = .ok (.ireturn, 1) := by decide +kernel
