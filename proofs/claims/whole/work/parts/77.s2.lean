/-! rank: all walls of six points, 2 of 4 -/
theorem ak_1_6 : allW 15 tbR6 tbS6 3 (appA (appA [18] (mapA 1 [18])) (mapA 6 (appA [18] (mapA 1 [18])))) = true := by decide +kernel
theorem ak_2_0 : allW 15 tbR6 tbS6 3 (appA (appA [18] (mapA 2 [18])) (mapA 0 (appA [18] (mapA 2 [18])))) = true := by decide +kernel
theorem ak_2_1 : allW 15 tbR6 tbS6 3 (appA (appA [18] (mapA 2 [18])) (mapA 1 (appA [18] (mapA 2 [18])))) = true := by decide +kernel
theorem ak_2_2 : allW 15 tbR6 tbS6 3 (appA (appA [18] (mapA 2 [18])) (mapA 2 (appA [18] (mapA 2 [18])))) = true := by decide +kernel
theorem ak_2_3 : allW 15 tbR6 tbS6 3 (appA (appA [18] (mapA 2 [18])) (mapA 3 (appA [18] (mapA 2 [18])))) = true := by decide +kernel
theorem ak_2_4 : allW 15 tbR6 tbS6 3 (appA (appA [18] (mapA 2 [18])) (mapA 4 (appA [18] (mapA 2 [18])))) = true := by decide +kernel
theorem ak_2_5 : allW 15 tbR6 tbS6 3 (appA (appA [18] (mapA 2 [18])) (mapA 5 (appA [18] (mapA 2 [18])))) = true := by decide +kernel
theorem ak_2_6 : allW 15 tbR6 tbS6 3 (appA (appA [18] (mapA 2 [18])) (mapA 6 (appA [18] (mapA 2 [18])))) = true := by decide +kernel
theorem ak_3_0 : allW 15 tbR6 tbS6 3 (appA (appA [18] (mapA 3 [18])) (mapA 0 (appA [18] (mapA 3 [18])))) = true := by decide +kernel
theorem ak_3_1 : allW 15 tbR6 tbS6 3 (appA (appA [18] (mapA 3 [18])) (mapA 1 (appA [18] (mapA 3 [18])))) = true := by decide +kernel
theorem ak_3_2 : allW 15 tbR6 tbS6 3 (appA (appA [18] (mapA 3 [18])) (mapA 2 (appA [18] (mapA 3 [18])))) = true := by decide +kernel
theorem ak_3_3 : allW 15 tbR6 tbS6 3 (appA (appA [18] (mapA 3 [18])) (mapA 3 (appA [18] (mapA 3 [18])))) = true := by decide +kernel
theorem ak_3_4 : allW 15 tbR6 tbS6 3 (appA (appA [18] (mapA 3 [18])) (mapA 4 (appA [18] (mapA 3 [18])))) = true := by decide +kernel
