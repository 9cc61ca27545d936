/-! decode rows: the law -/
theorem dL_law_3318 : decode cL_law 3318 = .ok (.iconst 0, 1) := by decide +kernel
theorem dL_law_3319 : decode cL_law 3319 = .ok (.ireturn, 1) := by decide +kernel
theorem dL_law_3320 : decode cL_law 3320 = .ok (.goto 3, 3) := by decide +kernel
theorem dL_law_3323 : decode cL_law 3323 = .ok (.iinc 5 4, 3) := by decide +kernel
theorem dL_law_3326 : decode cL_law 3326 = .ok (.goto (-3298), 3) := by decide +kernel
theorem dL_law_3329 : decode cL_law 3329 = .ok (.iconst 1, 1) := by decide +kernel
theorem dL_law_3330 : decode cL_law 3330 = .ok (.ireturn, 1) := by decide +kernel
