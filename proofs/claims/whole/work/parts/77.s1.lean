/-! rank: all walls of six points, 1 of 4 -/
theorem ak_0_0 : allW 15 tbR6 tbS6 3 (appA (appA [18] (mapA 0 [18])) (mapA 0 (appA [18] (mapA 0 [18])))) = true := by decide +kernel
theorem ak_0_1 : allW 15 tbR6 tbS6 3 (appA (appA [18] (mapA 0 [18])) (mapA 1 (appA [18] (mapA 0 [18])))) = true := by decide +kernel
theorem ak_0_2 : allW 15 tbR6 tbS6 3 (appA (appA [18] (mapA 0 [18])) (mapA 2 (appA [18] (mapA 0 [18])))) = true := by decide +kernel
theorem ak_0_3 : allW 15 tbR6 tbS6 3 (appA (appA [18] (mapA 0 [18])) (mapA 3 (appA [18] (mapA 0 [18])))) = true := by decide +kernel
theorem ak_0_4 : allW 15 tbR6 tbS6 3 (appA (appA [18] (mapA 0 [18])) (mapA 4 (appA [18] (mapA 0 [18])))) = true := by decide +kernel
theorem ak_0_5 : allW 15 tbR6 tbS6 3 (appA (appA [18] (mapA 0 [18])) (mapA 5 (appA [18] (mapA 0 [18])))) = true := by decide +kernel
theorem ak_0_6 : allW 15 tbR6 tbS6 3 (appA (appA [18] (mapA 0 [18])) (mapA 6 (appA [18] (mapA 0 [18])))) = true := by decide +kernel
theorem ak_1_0 : allW 15 tbR6 tbS6 3 (appA (appA [18] (mapA 1 [18])) (mapA 0 (appA [18] (mapA 1 [18])))) = true := by decide +kernel
theorem ak_1_1 : allW 15 tbR6 tbS6 3 (appA (appA [18] (mapA 1 [18])) (mapA 1 (appA [18] (mapA 1 [18])))) = true := by decide +kernel
theorem ak_1_2 : allW 15 tbR6 tbS6 3 (appA (appA [18] (mapA 1 [18])) (mapA 2 (appA [18] (mapA 1 [18])))) = true := by decide +kernel
theorem ak_1_3 : allW 15 tbR6 tbS6 3 (appA (appA [18] (mapA 1 [18])) (mapA 3 (appA [18] (mapA 1 [18])))) = true := by decide +kernel
theorem ak_1_4 : allW 15 tbR6 tbS6 3 (appA (appA [18] (mapA 1 [18])) (mapA 4 (appA [18] (mapA 1 [18])))) = true := by decide +kernel
theorem ak_1_5 : allW 15 tbR6 tbS6 3 (appA (appA [18] (mapA 1 [18])) (mapA 5 (appA [18] (mapA 1 [18])))) = true := by decide +kernel
theorem ak2 : allW 1 tbR2 tbS2 1 [18] = true := by decide +kernel
theorem ak3 : allW 3 tbR3 tbS3 2 [18] = true := by decide +kernel
theorem ak4 : allW 6 tbR4 tbS4 3 [18] = true := by decide +kernel
theorem ak5 : allW 10 tbR5 tbS5 4 [18] = true := by decide +kernel
