/-! rank: all walls of six points, 4 of 4 -/
theorem ak_5_4 : allW 15 tbR6 tbS6 3 (appA (appA [18] (mapA 5 [18])) (mapA 4 (appA [18] (mapA 5 [18])))) = true := by decide +kernel
theorem ak_5_5 : allW 15 tbR6 tbS6 3 (appA (appA [18] (mapA 5 [18])) (mapA 5 (appA [18] (mapA 5 [18])))) = true := by decide +kernel
theorem ak_5_6 : allW 15 tbR6 tbS6 3 (appA (appA [18] (mapA 5 [18])) (mapA 6 (appA [18] (mapA 5 [18])))) = true := by decide +kernel
theorem ak_6_0 : allW 15 tbR6 tbS6 3 (appA (appA [18] (mapA 6 [18])) (mapA 0 (appA [18] (mapA 6 [18])))) = true := by decide +kernel
theorem ak_6_1 : allW 15 tbR6 tbS6 3 (appA (appA [18] (mapA 6 [18])) (mapA 1 (appA [18] (mapA 6 [18])))) = true := by decide +kernel
theorem ak_6_2 : allW 15 tbR6 tbS6 3 (appA (appA [18] (mapA 6 [18])) (mapA 2 (appA [18] (mapA 6 [18])))) = true := by decide +kernel
theorem ak_6_3 : allW 15 tbR6 tbS6 3 (appA (appA [18] (mapA 6 [18])) (mapA 3 (appA [18] (mapA 6 [18])))) = true := by decide +kernel
theorem ak_6_4 : allW 15 tbR6 tbS6 3 (appA (appA [18] (mapA 6 [18])) (mapA 4 (appA [18] (mapA 6 [18])))) = true := by decide +kernel
theorem ak_6_5 : allW 15 tbR6 tbS6 3 (appA (appA [18] (mapA 6 [18])) (mapA 5 (appA [18] (mapA 6 [18])))) = true := by decide +kernel
theorem ak_6_6 : allW 15 tbR6 tbS6 3 (appA (appA [18] (mapA 6 [18])) (mapA 6 (appA [18] (mapA 6 [18])))) = true := by decide +kernel
