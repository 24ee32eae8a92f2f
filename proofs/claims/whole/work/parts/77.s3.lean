/-! rank: all walls of six points, 3 of 4 -/
theorem ak_3_5 : allW 15 tbR6 tbS6 3 (appA (appA [18] (mapA 3 [18])) (mapA 5 (appA [18] (mapA 3 [18])))) = true := by decide +kernel
theorem ak_3_6 : allW 15 tbR6 tbS6 3 (appA (appA [18] (mapA 3 [18])) (mapA 6 (appA [18] (mapA 3 [18])))) = true := by decide +kernel
theorem ak_4_0 : allW 15 tbR6 tbS6 3 (appA (appA [18] (mapA 4 [18])) (mapA 0 (appA [18] (mapA 4 [18])))) = true := by decide +kernel
theorem ak_4_1 : allW 15 tbR6 tbS6 3 (appA (appA [18] (mapA 4 [18])) (mapA 1 (appA [18] (mapA 4 [18])))) = true := by decide +kernel
theorem ak_4_2 : allW 15 tbR6 tbS6 3 (appA (appA [18] (mapA 4 [18])) (mapA 2 (appA [18] (mapA 4 [18])))) = true := by decide +kernel
theorem ak_4_3 : allW 15 tbR6 tbS6 3 (appA (appA [18] (mapA 4 [18])) (mapA 3 (appA [18] (mapA 4 [18])))) = true := by decide +kernel
theorem ak_4_4 : allW 15 tbR6 tbS6 3 (appA (appA [18] (mapA 4 [18])) (mapA 4 (appA [18] (mapA 4 [18])))) = true := by decide +kernel
theorem ak_4_5 : allW 15 tbR6 tbS6 3 (appA (appA [18] (mapA 4 [18])) (mapA 5 (appA [18] (mapA 4 [18])))) = true := by decide +kernel
theorem ak_4_6 : allW 15 tbR6 tbS6 3 (appA (appA [18] (mapA 4 [18])) (mapA 6 (appA [18] (mapA 4 [18])))) = true := by decide +kernel
theorem ak_5_0 : allW 15 tbR6 tbS6 3 (appA (appA [18] (mapA 5 [18])) (mapA 0 (appA [18] (mapA 5 [18])))) = true := by decide +kernel
theorem ak_5_1 : allW 15 tbR6 tbS6 3 (appA (appA [18] (mapA 5 [18])) (mapA 1 (appA [18] (mapA 5 [18])))) = true := by decide +kernel
theorem ak_5_2 : allW 15 tbR6 tbS6 3 (appA (appA [18] (mapA 5 [18])) (mapA 2 (appA [18] (mapA 5 [18])))) = true := by decide +kernel
theorem ak_5_3 : allW 15 tbR6 tbS6 3 (appA (appA [18] (mapA 5 [18])) (mapA 3 (appA [18] (mapA 5 [18])))) = true := by decide +kernel
