theorem dL_ordered_377 : decode cL_ordered 377 = .ok (.invokestatic 188, 3) := by decide +kernel
theorem dL_ordered_380 : decode cL_ordered 380 = .ok (.invokestatic 194, 3) := by decide +kernel
theorem dL_ordered_383 : decode cL_ordered 383 = .ok (.ifCond .lt 7, 3) := by decide +kernel
theorem dL_ordered_386 : decode cL_ordered 386 = .ok (.iconst 1, 1) := by decide +kernel
theorem dL_ordered_387 : decode cL_ordered 387 = .ok (.goto 4, 3) := by decide +kernel
theorem dL_ordered_390 : decode cL_ordered 390 = .ok (.iconst 0, 1) := by decide +kernel
theorem dL_ordered_391 : decode cL_ordered 391 = .ok (.iand, 1) := by decide +kernel
theorem dL_ordered_392 : decode cL_ordered 392 = .ok (.istore_n 3, 1) := by decide +kernel
theorem dL_ordered_393 : decode cL_ordered 393 = .ok (.iinc 8 1, 3) := by decide +kernel
theorem dL_ordered_396 : decode cL_ordered 396 = .ok (.goto (-43), 3) := by decide +kernel
theorem dL_ordered_399 : decode cL_ordered 399 = .ok (.iload_n 3, 1) := by decide +kernel
theorem dL_ordered_400 : decode cL_ordered 400 = .ok (.ireturn, 1) := by decide +kernel
