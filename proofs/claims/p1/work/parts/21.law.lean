theorem cm_upto59 {x : Int32} (h : 0 ≤ x ∧ x ≤ 59) : x = 0 ∨ x = 1 ∨ x = 2 ∨ x = 3 ∨ x = 4 ∨ x = 5 ∨ x = 6 ∨ x = 7 ∨ x = 8 ∨ x = 9 ∨ x = 10 ∨ x = 11 ∨ x = 12 ∨ x = 13 ∨ x = 14 ∨ x = 15 ∨ x = 16 ∨ x = 17 ∨ x = 18 ∨ x = 19 ∨ x = 20 ∨ x = 21 ∨ x = 22 ∨ x = 23 ∨ x = 24 ∨ x = 25 ∨ x = 26 ∨ x = 27 ∨ x = 28 ∨ x = 29 ∨ x = 30 ∨ x = 31 ∨ x = 32 ∨ x = 33 ∨ x = 34 ∨ x = 35 ∨ x = 36 ∨ x = 37 ∨ x = 38 ∨ x = 39 ∨ x = 40 ∨ x = 41 ∨ x = 42 ∨ x = 43 ∨ x = 44 ∨ x = 45 ∨ x = 46 ∨ x = 47 ∨ x = 48 ∨ x = 49 ∨ x = 50 ∨ x = 51 ∨ x = 52 ∨ x = 53 ∨ x = 54 ∨ x = 55 ∨ x = 56 ∨ x = 57 ∨ x = 58 ∨ x = 59 := by
  obtain ⟨h0, h1⟩ := h
  rw [Int32.le_iff_toInt_le] at h0 h1
  have z : (0 : Int32).toInt = 0 := by decide
  have y : (59 : Int32).toInt = 59 := by decide
  have k : x.toInt = 0 ∨ x.toInt = 1 ∨ x.toInt = 2 ∨ x.toInt = 3 ∨ x.toInt = 4 ∨ x.toInt = 5 ∨ x.toInt = 6 ∨ x.toInt = 7 ∨ x.toInt = 8 ∨ x.toInt = 9 ∨ x.toInt = 10 ∨ x.toInt = 11 ∨ x.toInt = 12 ∨ x.toInt = 13 ∨ x.toInt = 14 ∨ x.toInt = 15 ∨ x.toInt = 16 ∨ x.toInt = 17 ∨ x.toInt = 18 ∨ x.toInt = 19 ∨ x.toInt = 20 ∨ x.toInt = 21 ∨ x.toInt = 22 ∨ x.toInt = 23 ∨ x.toInt = 24 ∨ x.toInt = 25 ∨ x.toInt = 26 ∨ x.toInt = 27 ∨ x.toInt = 28 ∨ x.toInt = 29 ∨ x.toInt = 30 ∨ x.toInt = 31 ∨ x.toInt = 32 ∨ x.toInt = 33 ∨ x.toInt = 34 ∨ x.toInt = 35 ∨ x.toInt = 36 ∨ x.toInt = 37 ∨ x.toInt = 38 ∨ x.toInt = 39 ∨ x.toInt = 40 ∨ x.toInt = 41 ∨ x.toInt = 42 ∨ x.toInt = 43 ∨ x.toInt = 44 ∨ x.toInt = 45 ∨ x.toInt = 46 ∨ x.toInt = 47 ∨ x.toInt = 48 ∨ x.toInt = 49 ∨ x.toInt = 50 ∨ x.toInt = 51 ∨ x.toInt = 52 ∨ x.toInt = 53 ∨ x.toInt = 54 ∨ x.toInt = 55 ∨ x.toInt = 56 ∨ x.toInt = 57 ∨ x.toInt = 58 ∨ x.toInt = 59 := by omega
  rcases k with k | k | k | k | k | k | k | k | k | k | k | k | k | k | k | k | k | k | k | k | k | k | k | k | k | k | k | k | k | k | k | k | k | k | k | k | k | k | k | k | k | k | k | k | k | k | k | k | k | k | k | k | k | k | k | k | k | k | k | k
  · exact Or.inl (Int32.toInt_inj.mp (k.trans (by decide)))
  · exact Or.inr (Or.inl (Int32.toInt_inj.mp (k.trans (by decide))))
  · exact Or.inr (Or.inr (Or.inl (Int32.toInt_inj.mp (k.trans (by decide)))))
  · exact Or.inr (Or.inr (Or.inr (Or.inl (Int32.toInt_inj.mp (k.trans (by decide))))))
  · exact Or.inr (Or.inr (Or.inr (Or.inr (Or.inl (Int32.toInt_inj.mp (k.trans (by decide)))))))
  · exact Or.inr (Or.inr (Or.inr (Or.inr (Or.inr (Or.inl (Int32.toInt_inj.mp (k.trans (by decide))))))))
  · exact Or.inr (Or.inr (Or.inr (Or.inr (Or.inr (Or.inr (Or.inl (Int32.toInt_inj.mp (k.trans (by decide)))))))))
  · exact Or.inr (Or.inr (Or.inr (Or.inr (Or.inr (Or.inr (Or.inr (Or.inl (Int32.toInt_inj.mp (k.trans (by decide))))))))))
  · exact Or.inr (Or.inr (Or.inr (Or.inr (Or.inr (Or.inr (Or.inr (Or.inr (Or.inl (Int32.toInt_inj.mp (k.trans (by decide)))))))))))
  · exact Or.inr (Or.inr (Or.inr (Or.inr (Or.inr (Or.inr (Or.inr (Or.inr (Or.inr (Or.inl (Int32.toInt_inj.mp (k.trans (by decide))))))))))))
  · exact Or.inr (Or.inr (Or.inr (Or.inr (Or.inr (Or.inr (Or.inr (Or.inr (Or.inr (Or.inr (Or.inl (Int32.toInt_inj.mp (k.trans (by decide)))))))))))))
  · exact Or.inr (Or.inr (Or.inr (Or.inr (Or.inr (Or.inr (Or.inr (Or.inr (Or.inr (Or.inr (Or.inr (Or.inl (Int32.toInt_inj.mp (k.trans (by decide))))))))))))))
  · exact Or.inr (Or.inr (Or.inr (Or.inr (Or.inr (Or.inr (Or.inr (Or.inr (Or.inr (Or.inr (Or.inr (Or.inr (Or.inl (Int32.toInt_inj.mp (k.trans (by decide)))))))))))))))
  · exact Or.inr (Or.inr (Or.inr (Or.inr (Or.inr (Or.inr (Or.inr (Or.inr (Or.inr (Or.inr (Or.inr (Or.inr (Or.inr (Or.inl (Int32.toInt_inj.mp (k.trans (by decide))))))))))))))))
  · exact Or.inr (Or.inr (Or.inr (Or.inr (Or.inr (Or.inr (Or.inr (Or.inr (Or.inr (Or.inr (Or.inr (Or.inr (Or.inr (Or.inr (Or.inl (Int32.toInt_inj.mp (k.trans (by decide)))))))))))))))))
  · exact Or.inr (Or.inr (Or.inr (Or.inr (Or.inr (Or.inr (Or.inr (Or.inr (Or.inr (Or.inr (Or.inr (Or.inr (Or.inr (Or.inr (Or.inr (Or.inl (Int32.toInt_inj.mp (k.trans (by decide))))))))))))))))))
  · exact Or.inr (Or.inr (Or.inr (Or.inr (Or.inr (Or.inr (Or.inr (Or.inr (Or.inr (Or.inr (Or.inr (Or.inr (Or.inr (Or.inr (Or.inr (Or.inr (Or.inl (Int32.toInt_inj.mp (k.trans (by decide)))))))))))))))))))
  · exact Or.inr (Or.inr (Or.inr (Or.inr (Or.inr (Or.inr (Or.inr (Or.inr (Or.inr (Or.inr (Or.inr (Or.inr (Or.inr (Or.inr (Or.inr (Or.inr (Or.inr (Or.inl (Int32.toInt_inj.mp (k.trans (by decide))))))))))))))))))))
  · exact Or.inr (Or.inr (Or.inr (Or.inr (Or.inr (Or.inr (Or.inr (Or.inr (Or.inr (Or.inr (Or.inr (Or.inr (Or.inr (Or.inr (Or.inr (Or.inr (Or.inr (Or.inr (Or.inl (Int32.toInt_inj.mp (k.trans (by decide)))))))))))))))))))))
  · exact Or.inr (Or.inr (Or.inr (Or.inr (Or.inr (Or.inr (Or.inr (Or.inr (Or.inr (Or.inr (Or.inr (Or.inr (Or.inr (Or.inr (Or.inr (Or.inr (Or.inr (Or.inr (Or.inr (Or.inl (Int32.toInt_inj.mp (k.trans (by decide))))))))))))))))))))))
  · exact Or.inr (Or.inr (Or.inr (Or.inr (Or.inr (Or.inr (Or.inr (Or.inr (Or.inr (Or.inr (Or.inr (Or.inr (Or.inr (Or.inr (Or.inr (Or.inr (Or.inr (Or.inr (Or.inr (Or.inr (Or.inl (Int32.toInt_inj.mp (k.trans (by decide)))))))))))))))))))))))
  · exact Or.inr (Or.inr (Or.inr (Or.inr (Or.inr (Or.inr (Or.inr (Or.inr (Or.inr (Or.inr (Or.inr (Or.inr (Or.inr (Or.inr (Or.inr (Or.inr (Or.inr (Or.inr (Or.inr (Or.inr (Or.inr (Or.inl (Int32.toInt_inj.mp (k.trans (by decide))))))))))))))))))))))))
  · exact Or.inr (Or.inr (Or.inr (Or.inr (Or.inr (Or.inr (Or.inr (Or.inr (Or.inr (Or.inr (Or.inr (Or.inr (Or.inr (Or.inr (Or.inr (Or.inr (Or.inr (Or.inr (Or.inr (Or.inr (Or.inr (Or.inr (Or.inl (Int32.toInt_inj.mp (k.trans (by decide)))))))))))))))))))))))))
  · exact Or.inr (Or.inr (Or.inr (Or.inr (Or.inr (Or.inr (Or.inr (Or.inr (Or.inr (Or.inr (Or.inr (Or.inr (Or.inr (Or.inr (Or.inr (Or.inr (Or.inr (Or.inr (Or.inr (Or.inr (Or.inr (Or.inr (Or.inr (Or.inl (Int32.toInt_inj.mp (k.trans (by decide))))))))))))))))))))))))))
  · exact Or.inr (Or.inr (Or.inr (Or.inr (Or.inr (Or.inr (Or.inr (Or.inr (Or.inr (Or.inr (Or.inr (Or.inr (Or.inr (Or.inr (Or.inr (Or.inr (Or.inr (Or.inr (Or.inr (Or.inr (Or.inr (Or.inr (Or.inr (Or.inr (Or.inl (Int32.toInt_inj.mp (k.trans (by decide)))))))))))))))))))))))))))
  · exact Or.inr (Or.inr (Or.inr (Or.inr (Or.inr (Or.inr (Or.inr (Or.inr (Or.inr (Or.inr (Or.inr (Or.inr (Or.inr (Or.inr (Or.inr (Or.inr (Or.inr (Or.inr (Or.inr (Or.inr (Or.inr (Or.inr (Or.inr (Or.inr (Or.inr (Or.inl (Int32.toInt_inj.mp (k.trans (by decide))))))))))))))))))))))))))))
  · exact Or.inr (Or.inr (Or.inr (Or.inr (Or.inr (Or.inr (Or.inr (Or.inr (Or.inr (Or.inr (Or.inr (Or.inr (Or.inr (Or.inr (Or.inr (Or.inr (Or.inr (Or.inr (Or.inr (Or.inr (Or.inr (Or.inr (Or.inr (Or.inr (Or.inr (Or.inr (Or.inl (Int32.toInt_inj.mp (k.trans (by decide)))))))))))))))))))))))))))))
  · exact Or.inr (Or.inr (Or.inr (Or.inr (Or.inr (Or.inr (Or.inr (Or.inr (Or.inr (Or.inr (Or.inr (Or.inr (Or.inr (Or.inr (Or.inr (Or.inr (Or.inr (Or.inr (Or.inr (Or.inr (Or.inr (Or.inr (Or.inr (Or.inr (Or.inr (Or.inr (Or.inr (Or.inl (Int32.toInt_inj.mp (k.trans (by decide))))))))))))))))))))))))))))))
  · exact Or.inr (Or.inr (Or.inr (Or.inr (Or.inr (Or.inr (Or.inr (Or.inr (Or.inr (Or.inr (Or.inr (Or.inr (Or.inr (Or.inr (Or.inr (Or.inr (Or.inr (Or.inr (Or.inr (Or.inr (Or.inr (Or.inr (Or.inr (Or.inr (Or.inr (Or.inr (Or.inr (Or.inr (Or.inl (Int32.toInt_inj.mp (k.trans (by decide)))))))))))))))))))))))))))))))
  · exact Or.inr (Or.inr (Or.inr (Or.inr (Or.inr (Or.inr (Or.inr (Or.inr (Or.inr (Or.inr (Or.inr (Or.inr (Or.inr (Or.inr (Or.inr (Or.inr (Or.inr (Or.inr (Or.inr (Or.inr (Or.inr (Or.inr (Or.inr (Or.inr (Or.inr (Or.inr (Or.inr (Or.inr (Or.inr (Or.inl (Int32.toInt_inj.mp (k.trans (by decide))))))))))))))))))))))))))))))))
  · exact Or.inr (Or.inr (Or.inr (Or.inr (Or.inr (Or.inr (Or.inr (Or.inr (Or.inr (Or.inr (Or.inr (Or.inr (Or.inr (Or.inr (Or.inr (Or.inr (Or.inr (Or.inr (Or.inr (Or.inr (Or.inr (Or.inr (Or.inr (Or.inr (Or.inr (Or.inr (Or.inr (Or.inr (Or.inr (Or.inr (Or.inl (Int32.toInt_inj.mp (k.trans (by decide)))))))))))))))))))))))))))))))))
  · exact Or.inr (Or.inr (Or.inr (Or.inr (Or.inr (Or.inr (Or.inr (Or.inr (Or.inr (Or.inr (Or.inr (Or.inr (Or.inr (Or.inr (Or.inr (Or.inr (Or.inr (Or.inr (Or.inr (Or.inr (Or.inr (Or.inr (Or.inr (Or.inr (Or.inr (Or.inr (Or.inr (Or.inr (Or.inr (Or.inr (Or.inr (Or.inl (Int32.toInt_inj.mp (k.trans (by decide))))))))))))))))))))))))))))))))))
  · exact Or.inr (Or.inr (Or.inr (Or.inr (Or.inr (Or.inr (Or.inr (Or.inr (Or.inr (Or.inr (Or.inr (Or.inr (Or.inr (Or.inr (Or.inr (Or.inr (Or.inr (Or.inr (Or.inr (Or.inr (Or.inr (Or.inr (Or.inr (Or.inr (Or.inr (Or.inr (Or.inr (Or.inr (Or.inr (Or.inr (Or.inr (Or.inr (Or.inl (Int32.toInt_inj.mp (k.trans (by decide)))))))))))))))))))))))))))))))))))
  · exact Or.inr (Or.inr (Or.inr (Or.inr (Or.inr (Or.inr (Or.inr (Or.inr (Or.inr (Or.inr (Or.inr (Or.inr (Or.inr (Or.inr (Or.inr (Or.inr (Or.inr (Or.inr (Or.inr (Or.inr (Or.inr (Or.inr (Or.inr (Or.inr (Or.inr (Or.inr (Or.inr (Or.inr (Or.inr (Or.inr (Or.inr (Or.inr (Or.inr (Or.inl (Int32.toInt_inj.mp (k.trans (by decide))))))))))))))))))))))))))))))))))))
  · exact Or.inr (Or.inr (Or.inr (Or.inr (Or.inr (Or.inr (Or.inr (Or.inr (Or.inr (Or.inr (Or.inr (Or.inr (Or.inr (Or.inr (Or.inr (Or.inr (Or.inr (Or.inr (Or.inr (Or.inr (Or.inr (Or.inr (Or.inr (Or.inr (Or.inr (Or.inr (Or.inr (Or.inr (Or.inr (Or.inr (Or.inr (Or.inr (Or.inr (Or.inr (Or.inl (Int32.toInt_inj.mp (k.trans (by decide)))))))))))))))))))))))))))))))))))))
  · exact Or.inr (Or.inr (Or.inr (Or.inr (Or.inr (Or.inr (Or.inr (Or.inr (Or.inr (Or.inr (Or.inr (Or.inr (Or.inr (Or.inr (Or.inr (Or.inr (Or.inr (Or.inr (Or.inr (Or.inr (Or.inr (Or.inr (Or.inr (Or.inr (Or.inr (Or.inr (Or.inr (Or.inr (Or.inr (Or.inr (Or.inr (Or.inr (Or.inr (Or.inr (Or.inr (Or.inl (Int32.toInt_inj.mp (k.trans (by decide))))))))))))))))))))))))))))))))))))))
  · exact Or.inr (Or.inr (Or.inr (Or.inr (Or.inr (Or.inr (Or.inr (Or.inr (Or.inr (Or.inr (Or.inr (Or.inr (Or.inr (Or.inr (Or.inr (Or.inr (Or.inr (Or.inr (Or.inr (Or.inr (Or.inr (Or.inr (Or.inr (Or.inr (Or.inr (Or.inr (Or.inr (Or.inr (Or.inr (Or.inr (Or.inr (Or.inr (Or.inr (Or.inr (Or.inr (Or.inr (Or.inl (Int32.toInt_inj.mp (k.trans (by decide)))))))))))))))))))))))))))))))))))))))
  · exact Or.inr (Or.inr (Or.inr (Or.inr (Or.inr (Or.inr (Or.inr (Or.inr (Or.inr (Or.inr (Or.inr (Or.inr (Or.inr (Or.inr (Or.inr (Or.inr (Or.inr (Or.inr (Or.inr (Or.inr (Or.inr (Or.inr (Or.inr (Or.inr (Or.inr (Or.inr (Or.inr (Or.inr (Or.inr (Or.inr (Or.inr (Or.inr (Or.inr (Or.inr (Or.inr (Or.inr (Or.inr (Or.inl (Int32.toInt_inj.mp (k.trans (by decide))))))))))))))))))))))))))))))))))))))))
  · exact Or.inr (Or.inr (Or.inr (Or.inr (Or.inr (Or.inr (Or.inr (Or.inr (Or.inr (Or.inr (Or.inr (Or.inr (Or.inr (Or.inr (Or.inr (Or.inr (Or.inr (Or.inr (Or.inr (Or.inr (Or.inr (Or.inr (Or.inr (Or.inr (Or.inr (Or.inr (Or.inr (Or.inr (Or.inr (Or.inr (Or.inr (Or.inr (Or.inr (Or.inr (Or.inr (Or.inr (Or.inr (Or.inr (Or.inl (Int32.toInt_inj.mp (k.trans (by decide)))))))))))))))))))))))))))))))))))))))))
  · exact Or.inr (Or.inr (Or.inr (Or.inr (Or.inr (Or.inr (Or.inr (Or.inr (Or.inr (Or.inr (Or.inr (Or.inr (Or.inr (Or.inr (Or.inr (Or.inr (Or.inr (Or.inr (Or.inr (Or.inr (Or.inr (Or.inr (Or.inr (Or.inr (Or.inr (Or.inr (Or.inr (Or.inr (Or.inr (Or.inr (Or.inr (Or.inr (Or.inr (Or.inr (Or.inr (Or.inr (Or.inr (Or.inr (Or.inr (Or.inl (Int32.toInt_inj.mp (k.trans (by decide))))))))))))))))))))))))))))))))))))))))))
  · exact Or.inr (Or.inr (Or.inr (Or.inr (Or.inr (Or.inr (Or.inr (Or.inr (Or.inr (Or.inr (Or.inr (Or.inr (Or.inr (Or.inr (Or.inr (Or.inr (Or.inr (Or.inr (Or.inr (Or.inr (Or.inr (Or.inr (Or.inr (Or.inr (Or.inr (Or.inr (Or.inr (Or.inr (Or.inr (Or.inr (Or.inr (Or.inr (Or.inr (Or.inr (Or.inr (Or.inr (Or.inr (Or.inr (Or.inr (Or.inr (Or.inl (Int32.toInt_inj.mp (k.trans (by decide)))))))))))))))))))))))))))))))))))))))))))
  · exact Or.inr (Or.inr (Or.inr (Or.inr (Or.inr (Or.inr (Or.inr (Or.inr (Or.inr (Or.inr (Or.inr (Or.inr (Or.inr (Or.inr (Or.inr (Or.inr (Or.inr (Or.inr (Or.inr (Or.inr (Or.inr (Or.inr (Or.inr (Or.inr (Or.inr (Or.inr (Or.inr (Or.inr (Or.inr (Or.inr (Or.inr (Or.inr (Or.inr (Or.inr (Or.inr (Or.inr (Or.inr (Or.inr (Or.inr (Or.inr (Or.inr (Or.inl (Int32.toInt_inj.mp (k.trans (by decide))))))))))))))))))))))))))))))))))))))))))))
  · exact Or.inr (Or.inr (Or.inr (Or.inr (Or.inr (Or.inr (Or.inr (Or.inr (Or.inr (Or.inr (Or.inr (Or.inr (Or.inr (Or.inr (Or.inr (Or.inr (Or.inr (Or.inr (Or.inr (Or.inr (Or.inr (Or.inr (Or.inr (Or.inr (Or.inr (Or.inr (Or.inr (Or.inr (Or.inr (Or.inr (Or.inr (Or.inr (Or.inr (Or.inr (Or.inr (Or.inr (Or.inr (Or.inr (Or.inr (Or.inr (Or.inr (Or.inr (Or.inl (Int32.toInt_inj.mp (k.trans (by decide)))))))))))))))))))))))))))))))))))))))))))))
  · exact Or.inr (Or.inr (Or.inr (Or.inr (Or.inr (Or.inr (Or.inr (Or.inr (Or.inr (Or.inr (Or.inr (Or.inr (Or.inr (Or.inr (Or.inr (Or.inr (Or.inr (Or.inr (Or.inr (Or.inr (Or.inr (Or.inr (Or.inr (Or.inr (Or.inr (Or.inr (Or.inr (Or.inr (Or.inr (Or.inr (Or.inr (Or.inr (Or.inr (Or.inr (Or.inr (Or.inr (Or.inr (Or.inr (Or.inr (Or.inr (Or.inr (Or.inr (Or.inr (Or.inl (Int32.toInt_inj.mp (k.trans (by decide))))))))))))))))))))))))))))))))))))))))))))))
  · exact Or.inr (Or.inr (Or.inr (Or.inr (Or.inr (Or.inr (Or.inr (Or.inr (Or.inr (Or.inr (Or.inr (Or.inr (Or.inr (Or.inr (Or.inr (Or.inr (Or.inr (Or.inr (Or.inr (Or.inr (Or.inr (Or.inr (Or.inr (Or.inr (Or.inr (Or.inr (Or.inr (Or.inr (Or.inr (Or.inr (Or.inr (Or.inr (Or.inr (Or.inr (Or.inr (Or.inr (Or.inr (Or.inr (Or.inr (Or.inr (Or.inr (Or.inr (Or.inr (Or.inr (Or.inl (Int32.toInt_inj.mp (k.trans (by decide)))))))))))))))))))))))))))))))))))))))))))))))
  · exact Or.inr (Or.inr (Or.inr (Or.inr (Or.inr (Or.inr (Or.inr (Or.inr (Or.inr (Or.inr (Or.inr (Or.inr (Or.inr (Or.inr (Or.inr (Or.inr (Or.inr (Or.inr (Or.inr (Or.inr (Or.inr (Or.inr (Or.inr (Or.inr (Or.inr (Or.inr (Or.inr (Or.inr (Or.inr (Or.inr (Or.inr (Or.inr (Or.inr (Or.inr (Or.inr (Or.inr (Or.inr (Or.inr (Or.inr (Or.inr (Or.inr (Or.inr (Or.inr (Or.inr (Or.inr (Or.inl (Int32.toInt_inj.mp (k.trans (by decide))))))))))))))))))))))))))))))))))))))))))))))))
  · exact Or.inr (Or.inr (Or.inr (Or.inr (Or.inr (Or.inr (Or.inr (Or.inr (Or.inr (Or.inr (Or.inr (Or.inr (Or.inr (Or.inr (Or.inr (Or.inr (Or.inr (Or.inr (Or.inr (Or.inr (Or.inr (Or.inr (Or.inr (Or.inr (Or.inr (Or.inr (Or.inr (Or.inr (Or.inr (Or.inr (Or.inr (Or.inr (Or.inr (Or.inr (Or.inr (Or.inr (Or.inr (Or.inr (Or.inr (Or.inr (Or.inr (Or.inr (Or.inr (Or.inr (Or.inr (Or.inr (Or.inl (Int32.toInt_inj.mp (k.trans (by decide)))))))))))))))))))))))))))))))))))))))))))))))))
  · exact Or.inr (Or.inr (Or.inr (Or.inr (Or.inr (Or.inr (Or.inr (Or.inr (Or.inr (Or.inr (Or.inr (Or.inr (Or.inr (Or.inr (Or.inr (Or.inr (Or.inr (Or.inr (Or.inr (Or.inr (Or.inr (Or.inr (Or.inr (Or.inr (Or.inr (Or.inr (Or.inr (Or.inr (Or.inr (Or.inr (Or.inr (Or.inr (Or.inr (Or.inr (Or.inr (Or.inr (Or.inr (Or.inr (Or.inr (Or.inr (Or.inr (Or.inr (Or.inr (Or.inr (Or.inr (Or.inr (Or.inr (Or.inl (Int32.toInt_inj.mp (k.trans (by decide))))))))))))))))))))))))))))))))))))))))))))))))))
  · exact Or.inr (Or.inr (Or.inr (Or.inr (Or.inr (Or.inr (Or.inr (Or.inr (Or.inr (Or.inr (Or.inr (Or.inr (Or.inr (Or.inr (Or.inr (Or.inr (Or.inr (Or.inr (Or.inr (Or.inr (Or.inr (Or.inr (Or.inr (Or.inr (Or.inr (Or.inr (Or.inr (Or.inr (Or.inr (Or.inr (Or.inr (Or.inr (Or.inr (Or.inr (Or.inr (Or.inr (Or.inr (Or.inr (Or.inr (Or.inr (Or.inr (Or.inr (Or.inr (Or.inr (Or.inr (Or.inr (Or.inr (Or.inr (Or.inl (Int32.toInt_inj.mp (k.trans (by decide)))))))))))))))))))))))))))))))))))))))))))))))))))
  · exact Or.inr (Or.inr (Or.inr (Or.inr (Or.inr (Or.inr (Or.inr (Or.inr (Or.inr (Or.inr (Or.inr (Or.inr (Or.inr (Or.inr (Or.inr (Or.inr (Or.inr (Or.inr (Or.inr (Or.inr (Or.inr (Or.inr (Or.inr (Or.inr (Or.inr (Or.inr (Or.inr (Or.inr (Or.inr (Or.inr (Or.inr (Or.inr (Or.inr (Or.inr (Or.inr (Or.inr (Or.inr (Or.inr (Or.inr (Or.inr (Or.inr (Or.inr (Or.inr (Or.inr (Or.inr (Or.inr (Or.inr (Or.inr (Or.inr (Or.inl (Int32.toInt_inj.mp (k.trans (by decide))))))))))))))))))))))))))))))))))))))))))))))))))))
  · exact Or.inr (Or.inr (Or.inr (Or.inr (Or.inr (Or.inr (Or.inr (Or.inr (Or.inr (Or.inr (Or.inr (Or.inr (Or.inr (Or.inr (Or.inr (Or.inr (Or.inr (Or.inr (Or.inr (Or.inr (Or.inr (Or.inr (Or.inr (Or.inr (Or.inr (Or.inr (Or.inr (Or.inr (Or.inr (Or.inr (Or.inr (Or.inr (Or.inr (Or.inr (Or.inr (Or.inr (Or.inr (Or.inr (Or.inr (Or.inr (Or.inr (Or.inr (Or.inr (Or.inr (Or.inr (Or.inr (Or.inr (Or.inr (Or.inr (Or.inr (Or.inl (Int32.toInt_inj.mp (k.trans (by decide)))))))))))))))))))))))))))))))))))))))))))))))))))))
  · exact Or.inr (Or.inr (Or.inr (Or.inr (Or.inr (Or.inr (Or.inr (Or.inr (Or.inr (Or.inr (Or.inr (Or.inr (Or.inr (Or.inr (Or.inr (Or.inr (Or.inr (Or.inr (Or.inr (Or.inr (Or.inr (Or.inr (Or.inr (Or.inr (Or.inr (Or.inr (Or.inr (Or.inr (Or.inr (Or.inr (Or.inr (Or.inr (Or.inr (Or.inr (Or.inr (Or.inr (Or.inr (Or.inr (Or.inr (Or.inr (Or.inr (Or.inr (Or.inr (Or.inr (Or.inr (Or.inr (Or.inr (Or.inr (Or.inr (Or.inr (Or.inr (Or.inl (Int32.toInt_inj.mp (k.trans (by decide))))))))))))))))))))))))))))))))))))))))))))))))))))))
  · exact Or.inr (Or.inr (Or.inr (Or.inr (Or.inr (Or.inr (Or.inr (Or.inr (Or.inr (Or.inr (Or.inr (Or.inr (Or.inr (Or.inr (Or.inr (Or.inr (Or.inr (Or.inr (Or.inr (Or.inr (Or.inr (Or.inr (Or.inr (Or.inr (Or.inr (Or.inr (Or.inr (Or.inr (Or.inr (Or.inr (Or.inr (Or.inr (Or.inr (Or.inr (Or.inr (Or.inr (Or.inr (Or.inr (Or.inr (Or.inr (Or.inr (Or.inr (Or.inr (Or.inr (Or.inr (Or.inr (Or.inr (Or.inr (Or.inr (Or.inr (Or.inr (Or.inr (Or.inl (Int32.toInt_inj.mp (k.trans (by decide)))))))))))))))))))))))))))))))))))))))))))))))))))))))
  · exact Or.inr (Or.inr (Or.inr (Or.inr (Or.inr (Or.inr (Or.inr (Or.inr (Or.inr (Or.inr (Or.inr (Or.inr (Or.inr (Or.inr (Or.inr (Or.inr (Or.inr (Or.inr (Or.inr (Or.inr (Or.inr (Or.inr (Or.inr (Or.inr (Or.inr (Or.inr (Or.inr (Or.inr (Or.inr (Or.inr (Or.inr (Or.inr (Or.inr (Or.inr (Or.inr (Or.inr (Or.inr (Or.inr (Or.inr (Or.inr (Or.inr (Or.inr (Or.inr (Or.inr (Or.inr (Or.inr (Or.inr (Or.inr (Or.inr (Or.inr (Or.inr (Or.inr (Or.inr (Or.inl (Int32.toInt_inj.mp (k.trans (by decide))))))))))))))))))))))))))))))))))))))))))))))))))))))))
  · exact Or.inr (Or.inr (Or.inr (Or.inr (Or.inr (Or.inr (Or.inr (Or.inr (Or.inr (Or.inr (Or.inr (Or.inr (Or.inr (Or.inr (Or.inr (Or.inr (Or.inr (Or.inr (Or.inr (Or.inr (Or.inr (Or.inr (Or.inr (Or.inr (Or.inr (Or.inr (Or.inr (Or.inr (Or.inr (Or.inr (Or.inr (Or.inr (Or.inr (Or.inr (Or.inr (Or.inr (Or.inr (Or.inr (Or.inr (Or.inr (Or.inr (Or.inr (Or.inr (Or.inr (Or.inr (Or.inr (Or.inr (Or.inr (Or.inr (Or.inr (Or.inr (Or.inr (Or.inr (Or.inr (Or.inl (Int32.toInt_inj.mp (k.trans (by decide)))))))))))))))))))))))))))))))))))))))))))))))))))))))))
  · exact Or.inr (Or.inr (Or.inr (Or.inr (Or.inr (Or.inr (Or.inr (Or.inr (Or.inr (Or.inr (Or.inr (Or.inr (Or.inr (Or.inr (Or.inr (Or.inr (Or.inr (Or.inr (Or.inr (Or.inr (Or.inr (Or.inr (Or.inr (Or.inr (Or.inr (Or.inr (Or.inr (Or.inr (Or.inr (Or.inr (Or.inr (Or.inr (Or.inr (Or.inr (Or.inr (Or.inr (Or.inr (Or.inr (Or.inr (Or.inr (Or.inr (Or.inr (Or.inr (Or.inr (Or.inr (Or.inr (Or.inr (Or.inr (Or.inr (Or.inr (Or.inr (Or.inr (Or.inr (Or.inr (Or.inr (Or.inl (Int32.toInt_inj.mp (k.trans (by decide))))))))))))))))))))))))))))))))))))))))))))))))))))))))))
  · exact Or.inr (Or.inr (Or.inr (Or.inr (Or.inr (Or.inr (Or.inr (Or.inr (Or.inr (Or.inr (Or.inr (Or.inr (Or.inr (Or.inr (Or.inr (Or.inr (Or.inr (Or.inr (Or.inr (Or.inr (Or.inr (Or.inr (Or.inr (Or.inr (Or.inr (Or.inr (Or.inr (Or.inr (Or.inr (Or.inr (Or.inr (Or.inr (Or.inr (Or.inr (Or.inr (Or.inr (Or.inr (Or.inr (Or.inr (Or.inr (Or.inr (Or.inr (Or.inr (Or.inr (Or.inr (Or.inr (Or.inr (Or.inr (Or.inr (Or.inr (Or.inr (Or.inr (Or.inr (Or.inr (Or.inr (Or.inr (Or.inl (Int32.toInt_inj.mp (k.trans (by decide)))))))))))))))))))))))))))))))))))))))))))))))))))))))))))
  · exact Or.inr (Or.inr (Or.inr (Or.inr (Or.inr (Or.inr (Or.inr (Or.inr (Or.inr (Or.inr (Or.inr (Or.inr (Or.inr (Or.inr (Or.inr (Or.inr (Or.inr (Or.inr (Or.inr (Or.inr (Or.inr (Or.inr (Or.inr (Or.inr (Or.inr (Or.inr (Or.inr (Or.inr (Or.inr (Or.inr (Or.inr (Or.inr (Or.inr (Or.inr (Or.inr (Or.inr (Or.inr (Or.inr (Or.inr (Or.inr (Or.inr (Or.inr (Or.inr (Or.inr (Or.inr (Or.inr (Or.inr (Or.inr (Or.inr (Or.inr (Or.inr (Or.inr (Or.inr (Or.inr (Or.inr (Or.inr (Or.inr (Or.inl (Int32.toInt_inj.mp (k.trans (by decide))))))))))))))))))))))))))))))))))))))))))))))))))))))))))))
  · exact Or.inr (Or.inr (Or.inr (Or.inr (Or.inr (Or.inr (Or.inr (Or.inr (Or.inr (Or.inr (Or.inr (Or.inr (Or.inr (Or.inr (Or.inr (Or.inr (Or.inr (Or.inr (Or.inr (Or.inr (Or.inr (Or.inr (Or.inr (Or.inr (Or.inr (Or.inr (Or.inr (Or.inr (Or.inr (Or.inr (Or.inr (Or.inr (Or.inr (Or.inr (Or.inr (Or.inr (Or.inr (Or.inr (Or.inr (Or.inr (Or.inr (Or.inr (Or.inr (Or.inr (Or.inr (Or.inr (Or.inr (Or.inr (Or.inr (Or.inr (Or.inr (Or.inr (Or.inr (Or.inr (Or.inr (Or.inr (Or.inr (Or.inr (Or.inl (Int32.toInt_inj.mp (k.trans (by decide)))))))))))))))))))))))))))))))))))))))))))))))))))))))))))))
  · exact Or.inr (Or.inr (Or.inr (Or.inr (Or.inr (Or.inr (Or.inr (Or.inr (Or.inr (Or.inr (Or.inr (Or.inr (Or.inr (Or.inr (Or.inr (Or.inr (Or.inr (Or.inr (Or.inr (Or.inr (Or.inr (Or.inr (Or.inr (Or.inr (Or.inr (Or.inr (Or.inr (Or.inr (Or.inr (Or.inr (Or.inr (Or.inr (Or.inr (Or.inr (Or.inr (Or.inr (Or.inr (Or.inr (Or.inr (Or.inr (Or.inr (Or.inr (Or.inr (Or.inr (Or.inr (Or.inr (Or.inr (Or.inr (Or.inr (Or.inr (Or.inr (Or.inr (Or.inr (Or.inr (Or.inr (Or.inr (Or.inr (Or.inr (Or.inr (Int32.toInt_inj.mp (k.trans (by decide)))))))))))))))))))))))))))))))))))))))))))))))))))))))))))))
theorem cm_lceq (x : Int64) : lg_cmp x x = 0 := by
  unfold lg_cmp
  have h : ¬ x > x := by
    rw [gt_iff_lt, Int64.lt_iff_toInt_lt]
    omega
  rw [if_neg h, if_pos rfl]
theorem cm_no {p lo hi : Int32} (h : lo ≤ p ∧ p ≤ hi) (g : p < lo ∨ hi < p) : False := by
  rcases g with g | g
  · exact cm_nlt h.1 g
  · exact cm_nlt h.2 g
theorem cm_no4 {p q : Int32} (h : (0 ≤ p ∧ p ≤ 5000) ∧ (p ≤ q ∧ q ≤ 5000)) (g : p < 0 ∨ 5000 < p ∨ q < p ∨ 5000 < q) : False := by
  rcases g with g | g | g | g
  · exact cm_nlt h.1.1 g
  · exact cm_nlt h.1.2 g
  · exact cm_nlt h.2.1 g
  · exact cm_nlt h.2.2 g
/-- what the law's body stands on -/
def cmL (p : Program) (s : State) (m : MethodId) (meth : Method) (c : Code) (D : va_G) (ct : Nat → ClassId) (A : Nat → Prop) (b L : Nat) (xs : Nat → Int32) : Prop := p.tables.exec = Jvm.exec ∧ c.code = code ∧ meth.sig.returnType = ret ∧ c.maxLocals = 9 ∧ s.vm.findClass RL = some m.cls ∧ (∀ w ∈ cm_all, w.before #[Value.ref b] s = true) ∧ va_K D vwCl (cT ct) s ∧ cmX A s s.heap ∧ va_X b L xs s s.heap ∧ b < s.heap.size ∧ ¬ A b ∧ (∀ q, s.heap.size ≤ q → A q) ∧ (∀ q, A q → s.heap.size ≤ q) ∧ meth.locks = false
theorem dL_law_28 : decode cL_law 28 = .ok (.iload 5, 2) := by decide +kernel
theorem dL_law_30 : decode cL_law 30 = .ok (.aload_n 0, 1) := by decide +kernel
theorem dL_law_31 : decode cL_law 31 = .ok (.arraylength, 1) := by decide +kernel
theorem dL_law_32 : decode cL_law 32 = .ok (.iconst 4, 1) := by decide +kernel
theorem dL_law_33 : decode cL_law 33 = .ok (.isub, 1) := by decide +kernel
theorem dL_law_34 : decode cL_law 34 = .ok (.if_icmp .gt 3595, 3) := by decide +kernel
theorem dL_law_3623 : decode cL_law 3623 = .ok (.iinc 5 4, 3) := by decide +kernel
theorem dL_law_3626 : decode cL_law 3626 = .ok (.goto (-3598), 3) := by decide +kernel
theorem dL_law_3629 : decode cL_law 3629 = .ok (.iconst 1, 1) := by decide +kernel
theorem dL_law_3630 : decode cL_law 3630 = .ok (.ireturn, 1) := by decide +kernel
set_option maxRecDepth 100000 in
set_option maxHeartbeats 4000000 in
theorem law_end {p : Program} {l : Launch} {e : Env} {s : State} {m : MethodId} {below : List Frame} {meth : Method} {c : Code} {D : va_G} {ct : Nat → ClassId} {A : Nat → Prop} {b : Nat} {xs : Nat → Int32} {H : Heap} {locs : List Loc} {ls : Array Slot} {cells slots : Nat} (C1 : cmL p s m meth c D ct A b 4 xs) (hS : va_S A s.heap H locs) (hl : lv_has ls 9 [(0, .ref b), (5, .int 0)]) (hc : cells ≤ 600002) (hs : slots ≤ 7302232) : W p l e room_1 s m #[Value.ref b] below meth c H locs cells slots (lw_Z below #[Value.ref b] s) (F0 m 3623 ls []) := by
  obtain ⟨hx, hb, hr, hml, hown, hts, hK, hX, hXs, hbl, hbA, hA, hAr, hlocks⟩ := id C1
  refine lv_iinc (v := 4) (lv' := [(5, .int 4), (0, .ref b)]) hx hb dL_law_3623 hl (k := 1) rfl (by decide) (by decide) rfl (fun ls hl => ?_)
  refine lv_goto (tgt := 28) hx hb dL_law_3626 (by decide) ?_
  refine lv_iload hx hb dL_law_28 (lv_at hl 0 rfl) ?_
  refine lv_aload_n hx hb dL_law_30 rfl (lv_at hl 1 rfl) ?_
  refine va_slen hx hb hXs hbl hbA hS dL_law_31 ?_
  refine cm_cst (y := 4) rfl ?_
  refine lv_iconst (v := 4) hx hb dL_law_32 (by decide) ?_
  refine lv_isub hx hb dL_law_33 ?_
  refine cm_cst (y := 0) (by decide) ?_
  refine lv_icmp_gt (tgt := 3629) hx hb dL_law_34 (by decide) (fun _ => ?_) (fun hc => absurd (by decide) hc)
  refine lv_iconst (v := 1) hx hb dL_law_3629 (by decide) ?_
  refine va_forget (fun q hq => hAr _ (hS.2.2 q hq)) ?_
  refine W.widen (k := 600002) (n := 7302232) hc hs ?_
  refine W.base ?_
  exact lw_ret (Drawn.sameBut.refl s.drawn lw_cs) hx hb hr hlocks dL_law_3630
theorem dL_law_300 : decode cL_law 300 = .ok (.aload_n 1, 1) := by decide +kernel
theorem dL_law_301 : decode cL_law 301 = .ok (.aload_n 0, 1) := by decide +kernel
theorem dL_law_302 : decode cL_law 302 = .ok (.iload 5, 2) := by decide +kernel
theorem dL_law_304 : decode cL_law 304 = .ok (.iconst 1, 1) := by decide +kernel
theorem dL_law_305 : decode cL_law 305 = .ok (.iadd, 1) := by decide +kernel
theorem dL_law_306 : decode cL_law 306 = .ok (.iaload, 1) := by decide +kernel
theorem dL_law_307 : decode cL_law 307 = .ok (.i2l, 1) := by decide +kernel
theorem dL_law_308 : decode cL_law 308 = .ok (.bipush 32, 2) := by decide +kernel
theorem dL_law_310 : decode cL_law 310 = .ok (.lshl, 1) := by decide +kernel
theorem dL_law_311 : decode cL_law 311 = .ok (.aload_n 0, 1) := by decide +kernel
theorem dL_law_312 : decode cL_law 312 = .ok (.iload 5, 2) := by decide +kernel
theorem dL_law_314 : decode cL_law 314 = .ok (.iconst 2, 1) := by decide +kernel
theorem dL_law_315 : decode cL_law 315 = .ok (.iadd, 1) := by decide +kernel
theorem dL_law_316 : decode cL_law 316 = .ok (.iaload, 1) := by decide +kernel
theorem dL_law_317 : decode cL_law 317 = .ok (.i2l, 1) := by decide +kernel
theorem dL_law_318 : decode cL_law 318 = .ok (.ldc2_w 176, 3) := by decide +kernel
theorem dL_law_321 : decode cL_law 321 = .ok (.land, 1) := by decide +kernel
theorem dL_law_322 : decode cL_law 322 = .ok (.lor, 1) := by decide +kernel
theorem dL_law_323 : decode cL_law 323 = .ok (.invokevirtual 178, 3) := by decide +kernel
theorem dL_law_326 : decode cL_law 326 = .ok (.aload_n 2, 1) := by decide +kernel
theorem dL_law_327 : decode cL_law 327 = .ok (.aload_n 0, 1) := by decide +kernel
theorem dL_law_328 : decode cL_law 328 = .ok (.iload 5, 2) := by decide +kernel
theorem dL_law_330 : decode cL_law 330 = .ok (.iconst 1, 1) := by decide +kernel
theorem dL_law_331 : decode cL_law 331 = .ok (.iadd, 1) := by decide +kernel
theorem dL_law_332 : decode cL_law 332 = .ok (.iaload, 1) := by decide +kernel
theorem dL_law_333 : decode cL_law 333 = .ok (.i2l, 1) := by decide +kernel
theorem dL_law_334 : decode cL_law 334 = .ok (.bipush 32, 2) := by decide +kernel
theorem dL_law_336 : decode cL_law 336 = .ok (.lshl, 1) := by decide +kernel
theorem dL_law_337 : decode cL_law 337 = .ok (.aload_n 0, 1) := by decide +kernel
theorem dL_law_338 : decode cL_law 338 = .ok (.iload 5, 2) := by decide +kernel
theorem dL_law_340 : decode cL_law 340 = .ok (.iconst 2, 1) := by decide +kernel
theorem dL_law_341 : decode cL_law 341 = .ok (.iadd, 1) := by decide +kernel
theorem dL_law_342 : decode cL_law 342 = .ok (.iaload, 1) := by decide +kernel
theorem dL_law_343 : decode cL_law 343 = .ok (.i2l, 1) := by decide +kernel
theorem dL_law_344 : decode cL_law 344 = .ok (.ldc2_w 176, 3) := by decide +kernel
theorem dL_law_347 : decode cL_law 347 = .ok (.land, 1) := by decide +kernel
theorem dL_law_348 : decode cL_law 348 = .ok (.lor, 1) := by decide +kernel
theorem dL_law_349 : decode cL_law 349 = .ok (.invokevirtual 182, 3) := by decide +kernel
theorem dL_law_352 : decode cL_law 352 = .ok (.if_icmp .eq 3271, 3) := by decide +kernel
set_option maxRecDepth 100000 in
set_option maxHeartbeats 4000000 in
theorem law_0 {p : Program} {l : Launch} {e : Env} {s : State} {m : MethodId} {below : List Frame} {meth : Method} {c : Code} {D : va_G} {ct : Nat → ClassId} {A : Nat → Prop} {b : Nat} {xs : Nat → Int32} {H : Heap} {locs : List Loc} {ls : Array Slot} (hfl : l.stackTraces = false) (C1 : cmL p s m meth c D ct A b 4 xs) (x : Nat) (w : Nat) (sp : Nat) (sv : Nat) (bu : Nat) (mo : Nat) (mw : Nat) (ma : Nat) (mf : Nat) (m0 : Nat) (m1 : Nat) (mu : Nat) (mv : Nat) (u0 : Nat) (u1 : Nat) (iz : Nat) (mb : Nat) (ov : Nat) (od : Nat) (hP : va_P D vwCl [(x, .inr (10, [.ref w, .ref sp, .ref sv, .ref bu, .int 0, .int 0])), (bu, .inl (ct 0, 800, .inl (fun _ => 0))), (mo, .inr (11, [.ref mw, .ref ma, .ref mf, .ref m0, .ref m1, .ref mu, .ref mv, .ref u0, .ref u1, .ref iz, .int 0, .ref mb, .int 0, .int 0, .int 0, .int 0, .int 0, .int 0, .int 0])), (mb, .inl (ct 0, 800, .inl (fun _ => 0)))] H) (hD : va_D A [(x, .inr (10, [.ref w, .ref sp, .ref sv, .ref bu, .int 0, .int 0])), (bu, .inl (ct 0, 800, .inl (fun _ => 0))), (mo, .inr (11, [.ref mw, .ref ma, .ref mf, .ref m0, .ref m1, .ref mu, .ref mv, .ref u0, .ref u1, .ref iz, .int 0, .ref mb, .int 0, .int 0, .int 0, .int 0, .int 0, .int 0, .int 0])), (mb, .inl (ct 0, 800, .inl (fun _ => 0)))]) (hS : va_S A s.heap H locs) (hl : lv_has ls 9 [(0, .ref b), (1, .ref x), (2, .ref mo), (3, .ref ov), (4, .ref od), (5, .int 0)]) : W p l e room_1 s m #[Value.ref b] below meth c H locs 157 8795 (lw_Z below #[Value.ref b] s) (F0 m 300 ls []) := by
  obtain ⟨hx, hb, hr, hml, hown, hts, hK, hX, hXs, hbl, hbA, hA, hAr, hlocks⟩ := id C1
  refine lv_aload_n hx hb dL_law_300 rfl (lv_at hl 1 rfl) ?_
  refine lv_aload_n hx hb dL_law_301 rfl (lv_at hl 0 rfl) ?_
  refine lv_iload hx hb dL_law_302 (lv_at hl 5 rfl) ?_
  refine lv_iconst (v := 1) hx hb dL_law_304 (by decide) ?_
  refine lv_iadd hx hb dL_law_305 ?_
  refine cm_cst (y := 1) (by decide) ?_
  refine va_sld hx hb hXs hbl hbA hS (cm_vin (by decide)) dL_law_306 ?_
  refine lv_i2l hx hb dL_law_307 rfl ?_
  refine lv_bipush (v := 32) hx hb dL_law_308 (by decide) ?_
  refine lv_lshl (v := (((xs (1 : Int32).toNatClampNeg).toInt64) <<< ((32 : Int32).toInt64 &&& 63))) hx hb dL_law_310 rfl ?_
  refine lv_aload_n hx hb dL_law_311 rfl (lv_at hl 0 rfl) ?_
  refine lv_iload hx hb dL_law_312 (lv_at hl 5 rfl) ?_
  refine lv_iconst (v := 2) hx hb dL_law_314 (by decide) ?_
  refine lv_iadd hx hb dL_law_315 ?_
  refine cm_cst (y := 2) (by decide) ?_
  refine va_sld hx hb hXs hbl hbA hS (cm_vin (by decide)) dL_law_316 ?_
  refine lv_i2l hx hb dL_law_317 rfl ?_
  refine lv_ldc2 hx hb hown (hts _ kl_RL_176) dL_law_318 ?_
  refine lv_land hx hb dL_law_321 ?_
  refine lv_lor hx hb dL_law_322 ?_
  refine cm_ki (wr := [(mo, .inr (11, [.ref mw, .ref ma, .ref mf, .ref m0, .ref m1, .ref mu, .ref mv, .ref u0, .ref u1, .ref iz, .int 0, .ref mb, .int 0, .int 0, .int 0, .int 0, .int 0, .int 0, .int 0])), (mb, .inl (ct 0, 800, .inl (fun _ => 0)))]) (va_runV (As := [.long ((((xs (1 : Int32).toNatClampNeg).toInt64) <<< ((32 : Int32).toInt64 &&& 63)) ||| (((xs (2 : Int32).toNatClampNeg).toInt64) &&& 4294967295))]) (rest := []) ⟨hx, hb, hml, hown, hts⟩ (c_append_0 l D ct x w sp sv bu (fun _ => 0) ((((xs (1 : Int32).toNatClampNeg).toInt64) <<< ((32 : Int32).toInt64 &&& 63)) ||| (((xs (2 : Int32).toNatClampNeg).toInt64) &&& 4294967295)) _) (cm_V 1 hts kc_X10_append ki_RX10 kl_RL_178 kv_X10_append kx_X10_append kd_X10_append ⟨Nat.le_of_ble_eq_true rfl, Nat.le_of_ble_eq_true rfl⟩) (cm_preV hP hK hD hS hA hX [0, 1] rfl rfl rfl (q0 := 0) (ci := 10) rfl rfl) rfl rfl hl.1 rfl (lv_room (Nat.le_of_ble_eq_true rfl)) dL_law_323 ⟨Nat.le_of_ble_eq_true rfl, Nat.le_of_ble_eq_true rfl⟩) hP hD hS hA [0, 1] [2, 3] rfl rfl rfl (by decide) (fun r_1 u H locs hw_2 hP hD hS => ?_)
  obtain ⟨g_3, rfl⟩ : ∃ z, z = u := ⟨_, rfl⟩
  have hw_2 : r_1 = (cm_cn2 ((((xs (1 : Int32).toNatClampNeg).toInt64) <<< ((32 : Int32).toInt64 &&& 63)) ||| (((xs (2 : Int32).toNatClampNeg).toInt64) &&& 4294967295)) 8) := hw_2
  obtain rfl := hw_2
  have hP : va_P D vwCl [(mo, .inr (11, [.ref mw, .ref ma, .ref mf, .ref m0, .ref m1, .ref mu, .ref mv, .ref u0, .ref u1, .ref iz, .int 0, .ref mb, .int 0, .int 0, .int 0, .int 0, .int 0, .int 0, .int 0])), (mb, .inl (ct 0, 800, .inl (fun _ => 0))), (x, .inr (10, [.ref w, .ref sp, .ref sv, .ref bu, .int (cm_cn2 ((((xs (1 : Int32).toNatClampNeg).toInt64) <<< ((32 : Int32).toInt64 &&& 63)) ||| (((xs (2 : Int32).toNatClampNeg).toInt64) &&& 4294967295)) 8), .int 0])), (bu, .inl (ct 0, 800, .inl g_3))] H := hP
  have hD : va_D A [(mo, .inr (11, [.ref mw, .ref ma, .ref mf, .ref m0, .ref m1, .ref mu, .ref mv, .ref u0, .ref u1, .ref iz, .int 0, .ref mb, .int 0, .int 0, .int 0, .int 0, .int 0, .int 0, .int 0])), (mb, .inl (ct 0, 800, .inl (fun _ => 0))), (x, .inr (10, [.ref w, .ref sp, .ref sv, .ref bu, .int (cm_cn2 ((((xs (1 : Int32).toNatClampNeg).toInt64) <<< ((32 : Int32).toInt64 &&& 63)) ||| (((xs (2 : Int32).toNatClampNeg).toInt64) &&& 4294967295)) 8), .int 0])), (bu, .inl (ct 0, 800, .inl g_3))] := hD
  refine lv_aload_n hx hb dL_law_326 rfl (lv_at hl 2 rfl) ?_
  refine lv_aload_n hx hb dL_law_327 rfl (lv_at hl 0 rfl) ?_
  refine lv_iload hx hb dL_law_328 (lv_at hl 5 rfl) ?_
  refine lv_iconst (v := 1) hx hb dL_law_330 (by decide) ?_
  refine lv_iadd hx hb dL_law_331 ?_
  refine cm_cst (y := 1) (by decide) ?_
  refine va_sld hx hb hXs hbl hbA hS (cm_vin (by decide)) dL_law_332 ?_
  refine lv_i2l hx hb dL_law_333 rfl ?_
  refine lv_bipush (v := 32) hx hb dL_law_334 (by decide) ?_
  refine lv_lshl (v := (((xs (1 : Int32).toNatClampNeg).toInt64) <<< ((32 : Int32).toInt64 &&& 63))) hx hb dL_law_336 rfl ?_
  refine lv_aload_n hx hb dL_law_337 rfl (lv_at hl 0 rfl) ?_
  refine lv_iload hx hb dL_law_338 (lv_at hl 5 rfl) ?_
  refine lv_iconst (v := 2) hx hb dL_law_340 (by decide) ?_
  refine lv_iadd hx hb dL_law_341 ?_
  refine cm_cst (y := 2) (by decide) ?_
  refine va_sld hx hb hXs hbl hbA hS (cm_vin (by decide)) dL_law_342 ?_
  refine lv_i2l hx hb dL_law_343 rfl ?_
  refine lv_ldc2 hx hb hown (hts _ kl_RL_176) dL_law_344 ?_
  refine lv_land hx hb dL_law_347 ?_
  refine lv_lor hx hb dL_law_348 ?_
  refine cm_ki (wr := [(x, .inr (10, [.ref w, .ref sp, .ref sv, .ref bu, .int (cm_cn2 ((((xs (1 : Int32).toNatClampNeg).toInt64) <<< ((32 : Int32).toInt64 &&& 63)) ||| (((xs (2 : Int32).toNatClampNeg).toInt64) &&& 4294967295)) 8), .int 0])), (bu, .inl (ct 0, 800, .inl g_3))]) (va_runV (As := [.long ((((xs (1 : Int32).toNatClampNeg).toInt64) <<< ((32 : Int32).toInt64 &&& 63)) ||| (((xs (2 : Int32).toNatClampNeg).toInt64) &&& 4294967295))]) (rest := [.int (cm_cn2 ((((xs (1 : Int32).toNatClampNeg).toInt64) <<< ((32 : Int32).toInt64 &&& 63)) ||| (((xs (2 : Int32).toNatClampNeg).toInt64) &&& 4294967295)) 8)]) ⟨hx, hb, hml, hown, hts⟩ (m_append_0 l D ct mo mw ma mf m0 m1 mu mv u0 u1 iz mb ((((xs (1 : Int32).toNatClampNeg).toInt64) <<< ((32 : Int32).toInt64 &&& 63)) ||| (((xs (2 : Int32).toNatClampNeg).toInt64) &&& 4294967295)) _) (cm_V 1 hts kc_X11_append ki_RX11 kl_RL_182 kv_X11_append kx_X11_append kd_X11_append ⟨Nat.le_of_ble_eq_true rfl, Nat.le_of_ble_eq_true rfl⟩) (cm_preV hP hK hD hS hA hX [0, 1] rfl rfl rfl (q0 := 0) (ci := 11) rfl rfl) rfl rfl hl.1 rfl (lv_room (Nat.le_of_ble_eq_true rfl)) dL_law_349 ⟨Nat.le_of_ble_eq_true rfl, Nat.le_of_ble_eq_true rfl⟩) hP hD hS hA [0, 1] [2, 3] rfl rfl rfl (by decide) (fun r_4 u H locs hw_5 hP hD hS => ?_)
  have hw_5 : r_4 = (cm_cn2 ((((xs (1 : Int32).toNatClampNeg).toInt64) <<< ((32 : Int32).toInt64 &&& 63)) ||| (((xs (2 : Int32).toNatClampNeg).toInt64) &&& 4294967295)) 8) := hw_5
  obtain rfl := hw_5
  have hP : va_P D vwCl [(x, .inr (10, [.ref w, .ref sp, .ref sv, .ref bu, .int (cm_cn2 ((((xs (1 : Int32).toNatClampNeg).toInt64) <<< ((32 : Int32).toInt64 &&& 63)) ||| (((xs (2 : Int32).toNatClampNeg).toInt64) &&& 4294967295)) 8), .int 0])), (bu, .inl (ct 0, 800, .inl g_3)), (mo, .inr (11, [.ref mw, .ref ma, .ref mf, .ref m0, .ref m1, .ref mu, .ref mv, .ref u0, .ref u1, .ref iz, .int 0, .ref mb, .int (cm_cn2 ((((xs (1 : Int32).toNatClampNeg).toInt64) <<< ((32 : Int32).toInt64 &&& 63)) ||| (((xs (2 : Int32).toNatClampNeg).toInt64) &&& 4294967295)) 8), .int 0, .int 0, .int 0, .int 0, .int 0, .int 0]))] H := hP
  have hD : va_D A [(x, .inr (10, [.ref w, .ref sp, .ref sv, .ref bu, .int (cm_cn2 ((((xs (1 : Int32).toNatClampNeg).toInt64) <<< ((32 : Int32).toInt64 &&& 63)) ||| (((xs (2 : Int32).toNatClampNeg).toInt64) &&& 4294967295)) 8), .int 0])), (bu, .inl (ct 0, 800, .inl g_3)), (mo, .inr (11, [.ref mw, .ref ma, .ref mf, .ref m0, .ref m1, .ref mu, .ref mv, .ref u0, .ref u1, .ref iz, .int 0, .ref mb, .int (cm_cn2 ((((xs (1 : Int32).toNatClampNeg).toInt64) <<< ((32 : Int32).toInt64 &&& 63)) ||| (((xs (2 : Int32).toNatClampNeg).toInt64) &&& 4294967295)) 8), .int 0, .int 0, .int 0, .int 0, .int 0, .int 0]))] := hD
  refine lv_icmp_eq (tgt := 3623) hx hb dL_law_352 (by decide) (fun _ => ?_) (fun hc => absurd rfl hc)
  exact law_end C1 hS (lv_sub hl [0, 5] rfl) (Nat.le_of_ble_eq_true rfl) (Nat.le_of_ble_eq_true rfl)
theorem dL_law_357 : decode cL_law 357 = .ok (.aload_n 1, 1) := by decide +kernel
theorem dL_law_358 : decode cL_law 358 = .ok (.invokevirtual 183, 3) := by decide +kernel
theorem dL_law_361 : decode cL_law 361 = .ok (.aload_n 2, 1) := by decide +kernel
theorem dL_law_362 : decode cL_law 362 = .ok (.invokevirtual 187, 3) := by decide +kernel
theorem dL_law_365 : decode cL_law 365 = .ok (.if_icmp .eq 3258, 3) := by decide +kernel
set_option maxRecDepth 100000 in
set_option maxHeartbeats 4000000 in
theorem law_1 {p : Program} {l : Launch} {e : Env} {s : State} {m : MethodId} {below : List Frame} {meth : Method} {c : Code} {D : va_G} {ct : Nat → ClassId} {A : Nat → Prop} {b : Nat} {xs : Nat → Int32} {H : Heap} {locs : List Loc} {ls : Array Slot} (hfl : l.stackTraces = false) (C1 : cmL p s m meth c D ct A b 4 xs) (x : Nat) (w : Nat) (sp : Nat) (sv : Nat) (bu : Nat) (s_se : Nat) (s_cu : Nat) (s_pr : Nat) (s_ch : Nat) (s_re : Nat) (s_lo : Nat) (s_c1 : Nat) (s_c2 : Nat) (s_c3 : Nat) (s_p1 : Nat) (s_p2 : Nat) (s_p3 : Nat) (s_p4 : Nat) (s_ra : Nat) (s_la : Nat) (mo : Nat) (mw : Nat) (ma : Nat) (mf : Nat) (m0 : Nat) (m1 : Nat) (mu : Nat) (mv : Nat) (u0 : Nat) (u1 : Nat) (iz : Nat) (mb : Nat) (ov : Nat) (od : Nat) (hP : va_P D vwCl [(x, .inr (10, [.ref w, .ref sp, .ref sv, .ref bu, .int 0, .int 0])), (sp, .inr (9, [.int 0, .ref s_se, .ref s_cu, .ref s_pr, .int 0, .ref s_ch, .ref s_re, .ref s_lo])), (s_se, .inr (7, [.int 990, .int 100000, .int 100, .int 5, .int 0, .int 5000, .int 600, .int 250, .int 0, .int 5000, .int 1000, .int 0])), (s_cu, .inr (2, [.int 0, .ref s_c1, .ref s_c2, .ref s_c3])), (s_pr, .inr (5, [.int 0, .ref s_p1, .ref s_p2, .ref s_p3, .ref s_p4])), (s_re, .inr (8, [.int 30, .int 5, .ref s_ra, .int 0, .int 0])), (s_lo, .inr (8, [.int 60, .int 4, .ref s_la, .int 0, .int 0])), (mo, .inr (11, [.ref mw, .ref ma, .ref mf, .ref m0, .ref m1, .ref mu, .ref mv, .ref u0, .ref u1, .ref iz, .int 0, .ref mb, .int 0, .int 0, .int 0, .int 0, .int 0, .int 0, .int 0])), (mf, .inl (ct 0, 958, .inl (fun _ => 0)))] H) (hD : va_D A [(x, .inr (10, [.ref w, .ref sp, .ref sv, .ref bu, .int 0, .int 0])), (sp, .inr (9, [.int 0, .ref s_se, .ref s_cu, .ref s_pr, .int 0, .ref s_ch, .ref s_re, .ref s_lo])), (s_se, .inr (7, [.int 990, .int 100000, .int 100, .int 5, .int 0, .int 5000, .int 600, .int 250, .int 0, .int 5000, .int 1000, .int 0])), (s_cu, .inr (2, [.int 0, .ref s_c1, .ref s_c2, .ref s_c3])), (s_pr, .inr (5, [.int 0, .ref s_p1, .ref s_p2, .ref s_p3, .ref s_p4])), (s_re, .inr (8, [.int 30, .int 5, .ref s_ra, .int 0, .int 0])), (s_lo, .inr (8, [.int 60, .int 4, .ref s_la, .int 0, .int 0])), (mo, .inr (11, [.ref mw, .ref ma, .ref mf, .ref m0, .ref m1, .ref mu, .ref mv, .ref u0, .ref u1, .ref iz, .int 0, .ref mb, .int 0, .int 0, .int 0, .int 0, .int 0, .int 0, .int 0])), (mf, .inl (ct 0, 958, .inl (fun _ => 0)))]) (hS : va_S A s.heap H locs) (hl : lv_has ls 9 [(0, .ref b), (1, .ref x), (2, .ref mo), (3, .ref ov), (4, .ref od), (5, .int 0)]) : W p l e room_1 s m #[Value.ref b] below meth c H locs 157 8795 (lw_Z below #[Value.ref b] s) (F0 m 357 ls []) := by
  obtain ⟨hx, hb, hr, hml, hown, hts, hK, hX, hXs, hbl, hbA, hA, hAr, hlocks⟩ := id C1
  refine lv_aload_n hx hb dL_law_357 rfl (lv_at hl 1 rfl) ?_
  refine cm_ki (wr := [(mo, .inr (11, [.ref mw, .ref ma, .ref mf, .ref m0, .ref m1, .ref mu, .ref mv, .ref u0, .ref u1, .ref iz, .int 0, .ref mb, .int 0, .int 0, .int 0, .int 0, .int 0, .int 0, .int 0])), (mf, .inl (ct 0, 958, .inl (fun _ => 0)))]) (va_runV (As := []) (rest := []) ⟨hx, hb, hml, hown, hts⟩ (c_load_0 l D ct x w sp sv bu s_se s_cu s_pr s_ch s_re s_lo s_c1 s_c2 s_c3 s_p1 s_p2 s_p3 s_p4 s_ra s_la _) (cm_V 0 hts kc_X10_load ki_RX10 kl_RL_183 kv_X10_load kx_X10_load kd_X10_load ⟨Nat.le_of_ble_eq_true rfl, Nat.le_of_ble_eq_true rfl⟩) (cm_preV hP hK hD hS hA hX [0, 1, 2, 3, 4, 5, 6] rfl rfl rfl (q0 := 0) (ci := 10) rfl rfl) rfl rfl hl.1 rfl (lv_room (Nat.le_of_ble_eq_true rfl)) dL_law_358 ⟨Nat.le_of_ble_eq_true rfl, Nat.le_of_ble_eq_true rfl⟩) hP hD hS hA [0, 1, 2, 3, 4, 5, 6] [7, 8] rfl rfl rfl (by decide) (fun r_1 u H locs hw_2 hP hD hS => ?_)
  have hw_2 : r_1 = (-100) := hw_2
  obtain rfl := hw_2
  have hP : va_P D vwCl [(mo, .inr (11, [.ref mw, .ref ma, .ref mf, .ref m0, .ref m1, .ref mu, .ref mv, .ref u0, .ref u1, .ref iz, .int 0, .ref mb, .int 0, .int 0, .int 0, .int 0, .int 0, .int 0, .int 0])), (mf, .inl (ct 0, 958, .inl (fun _ => 0))), (x, .inr (10, [.ref w, .ref sp, .ref sv, .ref bu, .int 0, .int 1]))] H := hP
  have hD : va_D A [(mo, .inr (11, [.ref mw, .ref ma, .ref mf, .ref m0, .ref m1, .ref mu, .ref mv, .ref u0, .ref u1, .ref iz, .int 0, .ref mb, .int 0, .int 0, .int 0, .int 0, .int 0, .int 0, .int 0])), (mf, .inl (ct 0, 958, .inl (fun _ => 0))), (x, .inr (10, [.ref w, .ref sp, .ref sv, .ref bu, .int 0, .int 1]))] := hD
  refine W.widen (k := 158) (n := 8802) (Nat.le_of_ble_eq_true rfl) (Nat.le_of_ble_eq_true rfl) ?_
  refine lv_aload_n hx hb dL_law_361 rfl (lv_at hl 2 rfl) ?_
  refine cm_ki (wr := [(x, .inr (10, [.ref w, .ref sp, .ref sv, .ref bu, .int 0, .int 1]))]) (va_runV (As := []) (rest := [.int (-100)]) ⟨hx, hb, hml, hown, hts⟩ (m_load_0 l D ct mo mw ma mf m0 m1 mu mv u0 u1 iz mb _) (cm_V 0 hts kc_X11_load ki_RX11 kl_RL_187 kv_X11_load kx_X11_load kd_X11_load ⟨Nat.le_of_ble_eq_true rfl, Nat.le_of_ble_eq_true rfl⟩) (cm_preV hP hK hD hS hA hX [0, 1] rfl rfl rfl (q0 := 0) (ci := 11) rfl rfl) rfl rfl hl.1 rfl (lv_room (Nat.le_of_ble_eq_true rfl)) dL_law_362 ⟨Nat.le_of_ble_eq_true rfl, Nat.le_of_ble_eq_true rfl⟩) hP hD hS hA [0, 1] [2] rfl rfl rfl (by decide) (fun r_3 u H locs hw_4 hP hD hS => ?_)
  have hw_4 : r_3 = (-100) := hw_4
  obtain rfl := hw_4
  have hP : va_P D vwCl [(x, .inr (10, [.ref w, .ref sp, .ref sv, .ref bu, .int 0, .int 1])), (mo, .inr (11, [.ref mw, .ref ma, .ref mf, .ref m0, .ref m1, .ref mu, .ref mv, .ref u0, .ref u1, .ref iz, .int 0, .ref mb, .int 0, .int 0, .int 0, .int 0, .int 1, .int 1, .int 0]))] H := hP
  have hD : va_D A [(x, .inr (10, [.ref w, .ref sp, .ref sv, .ref bu, .int 0, .int 1])), (mo, .inr (11, [.ref mw, .ref ma, .ref mf, .ref m0, .ref m1, .ref mu, .ref mv, .ref u0, .ref u1, .ref iz, .int 0, .ref mb, .int 0, .int 0, .int 0, .int 0, .int 1, .int 1, .int 0]))] := hD
  refine lv_icmp_eq (tgt := 3623) hx hb dL_law_365 (by decide) (fun _ => ?_) (fun hc => absurd (by decide) hc)
  exact law_end C1 hS (lv_sub hl [0, 5] rfl) (Nat.le_of_ble_eq_true rfl) (Nat.le_of_ble_eq_true rfl)
theorem dL_law_370 : decode cL_law 370 = .ok (.aload_n 1, 1) := by decide +kernel
theorem dL_law_371 : decode cL_law 371 = .ok (.invokevirtual 188, 3) := by decide +kernel
theorem dL_law_374 : decode cL_law 374 = .ok (.aload_n 2, 1) := by decide +kernel
theorem dL_law_375 : decode cL_law 375 = .ok (.invokevirtual 191, 3) := by decide +kernel
theorem dL_law_378 : decode cL_law 378 = .ok (.if_icmp .eq 3245, 3) := by decide +kernel
set_option maxRecDepth 100000 in
set_option maxHeartbeats 4000000 in
theorem law_2 {p : Program} {l : Launch} {e : Env} {s : State} {m : MethodId} {below : List Frame} {meth : Method} {c : Code} {D : va_G} {ct : Nat → ClassId} {A : Nat → Prop} {b : Nat} {xs : Nat → Int32} {H : Heap} {locs : List Loc} {ls : Array Slot} (hfl : l.stackTraces = false) (C1 : cmL p s m meth c D ct A b 4 xs) (x : Nat) (w : Nat) (sp : Nat) (sv : Nat) (bu : Nat) (mo : Nat) (mw : Nat) (ma : Nat) (mf : Nat) (m0 : Nat) (m1 : Nat) (mu : Nat) (mv : Nat) (u0 : Nat) (u1 : Nat) (iz : Nat) (mb : Nat) (ov : Nat) (od : Nat) (hP : va_P D vwCl [(x, .inr (10, [.ref w, .ref sp, .ref sv, .ref bu, .int 0, .int 0])), (mo, .inr (11, [.ref mw, .ref ma, .ref mf, .ref m0, .ref m1, .ref mu, .ref mv, .ref u0, .ref u1, .ref iz, .int 0, .ref mb, .int 0, .int 0, .int 0, .int 0, .int 0, .int 0, .int 0])), (mw, .inl (ct 0, 958, .inl m_w0))] H) (hD : va_D A [(x, .inr (10, [.ref w, .ref sp, .ref sv, .ref bu, .int 0, .int 0])), (mo, .inr (11, [.ref mw, .ref ma, .ref mf, .ref m0, .ref m1, .ref mu, .ref mv, .ref u0, .ref u1, .ref iz, .int 0, .ref mb, .int 0, .int 0, .int 0, .int 0, .int 0, .int 0, .int 0])), (mw, .inl (ct 0, 958, .inl m_w0))]) (hS : va_S A s.heap H locs) (hl : lv_has ls 9 [(0, .ref b), (1, .ref x), (2, .ref mo), (3, .ref ov), (4, .ref od), (5, .int 0)]) : W p l e room_1 s m #[Value.ref b] below meth c H locs 157 8795 (lw_Z below #[Value.ref b] s) (F0 m 370 ls []) := by
  obtain ⟨hx, hb, hr, hml, hown, hts, hK, hX, hXs, hbl, hbA, hA, hAr, hlocks⟩ := id C1
  refine lv_aload_n hx hb dL_law_370 rfl (lv_at hl 1 rfl) ?_
  refine cm_ki (wr := [(mo, .inr (11, [.ref mw, .ref ma, .ref mf, .ref m0, .ref m1, .ref mu, .ref mv, .ref u0, .ref u1, .ref iz, .int 0, .ref mb, .int 0, .int 0, .int 0, .int 0, .int 0, .int 0, .int 0])), (mw, .inl (ct 0, 958, .inl m_w0))]) (va_runV (As := []) (rest := []) ⟨hx, hb, hml, hown, hts⟩ (c_loadError_0 l D ct x w sp sv bu _) (cm_V 0 hts kc_X10_loadError ki_RX10 kl_RL_188 kv_X10_loadError kx_X10_loadError kd_X10_loadError ⟨Nat.le_of_ble_eq_true rfl, Nat.le_of_ble_eq_true rfl⟩) (cm_preV hP hK hD hS hA hX [0] rfl rfl rfl (q0 := 0) (ci := 10) rfl rfl) rfl rfl hl.1 rfl (lv_room (Nat.le_of_ble_eq_true rfl)) dL_law_371 ⟨Nat.le_of_ble_eq_true rfl, Nat.le_of_ble_eq_true rfl⟩) hP hD hS hA [0] [1, 2] rfl rfl rfl (by decide) (fun r_1 u H locs hw_2 hP hD hS => ?_)
  have hw_2 : r_1 = 0 := hw_2
  obtain rfl := hw_2
  have hP : va_P D vwCl [(mo, .inr (11, [.ref mw, .ref ma, .ref mf, .ref m0, .ref m1, .ref mu, .ref mv, .ref u0, .ref u1, .ref iz, .int 0, .ref mb, .int 0, .int 0, .int 0, .int 0, .int 0, .int 0, .int 0])), (mw, .inl (ct 0, 958, .inl m_w0)), (x, .inr (10, [.ref w, .ref sp, .ref sv, .ref bu, .int 0, .int 0]))] H := hP
  have hD : va_D A [(mo, .inr (11, [.ref mw, .ref ma, .ref mf, .ref m0, .ref m1, .ref mu, .ref mv, .ref u0, .ref u1, .ref iz, .int 0, .ref mb, .int 0, .int 0, .int 0, .int 0, .int 0, .int 0, .int 0])), (mw, .inl (ct 0, 958, .inl m_w0)), (x, .inr (10, [.ref w, .ref sp, .ref sv, .ref bu, .int 0, .int 0]))] := hD
  refine lv_aload_n hx hb dL_law_374 rfl (lv_at hl 2 rfl) ?_
  refine cm_ki (wr := [(x, .inr (10, [.ref w, .ref sp, .ref sv, .ref bu, .int 0, .int 0]))]) (va_runV (As := []) (rest := [.int 0]) ⟨hx, hb, hml, hown, hts⟩ (m_loadError_0 l D ct mo mw ma mf m0 m1 mu mv u0 u1 iz mb _) (cm_V 0 hts kc_X11_loadError ki_RX11 kl_RL_191 kv_X11_loadError kx_X11_loadError kd_X11_loadError ⟨Nat.le_of_ble_eq_true rfl, Nat.le_of_ble_eq_true rfl⟩) (cm_preV hP hK hD hS hA hX [0, 1] rfl rfl rfl (q0 := 0) (ci := 11) rfl rfl) rfl rfl hl.1 rfl (lv_room (Nat.le_of_ble_eq_true rfl)) dL_law_375 ⟨Nat.le_of_ble_eq_true rfl, Nat.le_of_ble_eq_true rfl⟩) hP hD hS hA [0, 1] [2] rfl rfl rfl (by decide) (fun r_3 u H locs hw_4 hP hD hS => ?_)
  have hw_4 : r_3 = 0 := hw_4
  obtain rfl := hw_4
  have hP : va_P D vwCl [(x, .inr (10, [.ref w, .ref sp, .ref sv, .ref bu, .int 0, .int 0])), (mo, .inr (11, [.ref mw, .ref ma, .ref mf, .ref m0, .ref m1, .ref mu, .ref mv, .ref u0, .ref u1, .ref iz, .int 0, .ref mb, .int 0, .int 0, .int 0, .int 0, .int 0, .int 0, .int 0])), (mw, .inl (ct 0, 958, .inl m_w0))] H := hP
  have hD : va_D A [(x, .inr (10, [.ref w, .ref sp, .ref sv, .ref bu, .int 0, .int 0])), (mo, .inr (11, [.ref mw, .ref ma, .ref mf, .ref m0, .ref m1, .ref mu, .ref mv, .ref u0, .ref u1, .ref iz, .int 0, .ref mb, .int 0, .int 0, .int 0, .int 0, .int 0, .int 0, .int 0])), (mw, .inl (ct 0, 958, .inl m_w0))] := hD
  refine lv_icmp_eq (tgt := 3623) hx hb dL_law_378 (by decide) (fun _ => ?_) (fun hc => absurd (by decide) hc)
  exact law_end C1 hS (lv_sub hl [0, 5] rfl) (Nat.le_of_ble_eq_true rfl) (Nat.le_of_ble_eq_true rfl)
theorem dL_law_383 : decode cL_law 383 = .ok (.aload_n 1, 1) := by decide +kernel
theorem dL_law_384 : decode cL_law 384 = .ok (.invokevirtual 192, 3) := by decide +kernel
theorem dL_law_387 : decode cL_law 387 = .ok (.aload_n 2, 1) := by decide +kernel
theorem dL_law_388 : decode cL_law 388 = .ok (.invokevirtual 195, 3) := by decide +kernel
theorem dL_law_391 : decode cL_law 391 = .ok (.if_icmp .eq 3232, 3) := by decide +kernel
set_option maxRecDepth 100000 in
set_option maxHeartbeats 4000000 in
theorem law_3 {p : Program} {l : Launch} {e : Env} {s : State} {m : MethodId} {below : List Frame} {meth : Method} {c : Code} {D : va_G} {ct : Nat → ClassId} {A : Nat → Prop} {b : Nat} {xs : Nat → Int32} {H : Heap} {locs : List Loc} {ls : Array Slot} (hfl : l.stackTraces = false) (C1 : cmL p s m meth c D ct A b 4 xs) (x : Nat) (w : Nat) (sp : Nat) (sv : Nat) (bu : Nat) (mo : Nat) (mw : Nat) (ma : Nat) (mf : Nat) (m0 : Nat) (m1 : Nat) (mu : Nat) (mv : Nat) (u0 : Nat) (u1 : Nat) (iz : Nat) (mb : Nat) (ov : Nat) (od : Nat) (hP : va_P D vwCl [(x, .inr (10, [.ref w, .ref sp, .ref sv, .ref bu, .int 0, .int 0])), (mo, .inr (11, [.ref mw, .ref ma, .ref mf, .ref m0, .ref m1, .ref mu, .ref mv, .ref u0, .ref u1, .ref iz, .int 0, .ref mb, .int 0, .int 0, .int 0, .int 0, .int 0, .int 0, .int 0])), (mw, .inl (ct 0, 958, .inl m_w0))] H) (hD : va_D A [(x, .inr (10, [.ref w, .ref sp, .ref sv, .ref bu, .int 0, .int 0])), (mo, .inr (11, [.ref mw, .ref ma, .ref mf, .ref m0, .ref m1, .ref mu, .ref mv, .ref u0, .ref u1, .ref iz, .int 0, .ref mb, .int 0, .int 0, .int 0, .int 0, .int 0, .int 0, .int 0])), (mw, .inl (ct 0, 958, .inl m_w0))]) (hS : va_S A s.heap H locs) (hl : lv_has ls 9 [(0, .ref b), (1, .ref x), (2, .ref mo), (3, .ref ov), (4, .ref od), (5, .int 0)]) : W p l e room_1 s m #[Value.ref b] below meth c H locs 157 8795 (lw_Z below #[Value.ref b] s) (F0 m 383 ls []) := by
  obtain ⟨hx, hb, hr, hml, hown, hts, hK, hX, hXs, hbl, hbA, hA, hAr, hlocks⟩ := id C1
  refine lv_aload_n hx hb dL_law_383 rfl (lv_at hl 1 rfl) ?_
  refine cm_ki (wr := [(mo, .inr (11, [.ref mw, .ref ma, .ref mf, .ref m0, .ref m1, .ref mu, .ref mv, .ref u0, .ref u1, .ref iz, .int 0, .ref mb, .int 0, .int 0, .int 0, .int 0, .int 0, .int 0, .int 0])), (mw, .inl (ct 0, 958, .inl m_w0))]) (va_runV (As := []) (rest := []) ⟨hx, hb, hml, hown, hts⟩ (c_curveNamed_0 l D ct x w sp sv bu _) (cm_V 0 hts kc_X10_curveNamed ki_RX10 kl_RL_192 kv_X10_curveNamed kx_X10_curveNamed kd_X10_curveNamed ⟨Nat.le_of_ble_eq_true rfl, Nat.le_of_ble_eq_true rfl⟩) (cm_preV hP hK hD hS hA hX [0] rfl rfl rfl (q0 := 0) (ci := 10) rfl rfl) rfl rfl hl.1 rfl (lv_room (Nat.le_of_ble_eq_true rfl)) dL_law_384 ⟨Nat.le_of_ble_eq_true rfl, Nat.le_of_ble_eq_true rfl⟩) hP hD hS hA [0] [1, 2] rfl rfl rfl (by decide) (fun r_1 u H locs hw_2 hP hD hS => ?_)
  have hw_2 : r_1 = (-1) := hw_2
  obtain rfl := hw_2
  have hP : va_P D vwCl [(mo, .inr (11, [.ref mw, .ref ma, .ref mf, .ref m0, .ref m1, .ref mu, .ref mv, .ref u0, .ref u1, .ref iz, .int 0, .ref mb, .int 0, .int 0, .int 0, .int 0, .int 0, .int 0, .int 0])), (mw, .inl (ct 0, 958, .inl m_w0)), (x, .inr (10, [.ref w, .ref sp, .ref sv, .ref bu, .int 0, .int 0]))] H := hP
  have hD : va_D A [(mo, .inr (11, [.ref mw, .ref ma, .ref mf, .ref m0, .ref m1, .ref mu, .ref mv, .ref u0, .ref u1, .ref iz, .int 0, .ref mb, .int 0, .int 0, .int 0, .int 0, .int 0, .int 0, .int 0])), (mw, .inl (ct 0, 958, .inl m_w0)), (x, .inr (10, [.ref w, .ref sp, .ref sv, .ref bu, .int 0, .int 0]))] := hD
  refine lv_aload_n hx hb dL_law_387 rfl (lv_at hl 2 rfl) ?_
  refine cm_ki (wr := [(x, .inr (10, [.ref w, .ref sp, .ref sv, .ref bu, .int 0, .int 0]))]) (va_runV (As := []) (rest := [.int (-1)]) ⟨hx, hb, hml, hown, hts⟩ (m_curveNamed_0 l D ct mo mw ma mf m0 m1 mu mv u0 u1 iz mb _) (cm_V 0 hts kc_X11_curveNamed ki_RX11 kl_RL_195 kv_X11_curveNamed kx_X11_curveNamed kd_X11_curveNamed ⟨Nat.le_of_ble_eq_true rfl, Nat.le_of_ble_eq_true rfl⟩) (cm_preV hP hK hD hS hA hX [0, 1] rfl rfl rfl (q0 := 0) (ci := 11) rfl rfl) rfl rfl hl.1 rfl (lv_room (Nat.le_of_ble_eq_true rfl)) dL_law_388 ⟨Nat.le_of_ble_eq_true rfl, Nat.le_of_ble_eq_true rfl⟩) hP hD hS hA [0, 1] [2] rfl rfl rfl (by decide) (fun r_3 u H locs hw_4 hP hD hS => ?_)
  have hw_4 : r_3 = (-1) := hw_4
  obtain rfl := hw_4
  have hP : va_P D vwCl [(x, .inr (10, [.ref w, .ref sp, .ref sv, .ref bu, .int 0, .int 0])), (mo, .inr (11, [.ref mw, .ref ma, .ref mf, .ref m0, .ref m1, .ref mu, .ref mv, .ref u0, .ref u1, .ref iz, .int 0, .ref mb, .int 0, .int 0, .int 0, .int 0, .int 0, .int 0, .int 0])), (mw, .inl (ct 0, 958, .inl m_w0))] H := hP
  have hD : va_D A [(x, .inr (10, [.ref w, .ref sp, .ref sv, .ref bu, .int 0, .int 0])), (mo, .inr (11, [.ref mw, .ref ma, .ref mf, .ref m0, .ref m1, .ref mu, .ref mv, .ref u0, .ref u1, .ref iz, .int 0, .ref mb, .int 0, .int 0, .int 0, .int 0, .int 0, .int 0, .int 0])), (mw, .inl (ct 0, 958, .inl m_w0))] := hD
  refine lv_icmp_eq (tgt := 3623) hx hb dL_law_391 (by decide) (fun _ => ?_) (fun hc => absurd (by decide) hc)
  exact law_end C1 hS (lv_sub hl [0, 5] rfl) (Nat.le_of_ble_eq_true rfl) (Nat.le_of_ble_eq_true rfl)
theorem dL_law_396 : decode cL_law 396 = .ok (.aload_n 1, 1) := by decide +kernel
theorem dL_law_397 : decode cL_law 397 = .ok (.aload_n 0, 1) := by decide +kernel
theorem dL_law_398 : decode cL_law 398 = .ok (.iload 5, 2) := by decide +kernel
theorem dL_law_400 : decode cL_law 400 = .ok (.iconst 1, 1) := by decide +kernel
theorem dL_law_401 : decode cL_law 401 = .ok (.iadd, 1) := by decide +kernel
theorem dL_law_402 : decode cL_law 402 = .ok (.iaload, 1) := by decide +kernel
theorem dL_law_403 : decode cL_law 403 = .ok (.aload_n 3, 1) := by decide +kernel
theorem dL_law_404 : decode cL_law 404 = .ok (.invokestatic 196, 3) := by decide +kernel
theorem dL_law_407 : decode cL_law 407 = .ok (.istore 6, 2) := by decide +kernel
theorem dL_law_409 : decode cL_law 409 = .ok (.aload_n 2, 1) := by decide +kernel
theorem dL_law_410 : decode cL_law 410 = .ok (.aload_n 0, 1) := by decide +kernel
theorem dL_law_411 : decode cL_law 411 = .ok (.iload 5, 2) := by decide +kernel
theorem dL_law_413 : decode cL_law 413 = .ok (.iconst 1, 1) := by decide +kernel
theorem dL_law_414 : decode cL_law 414 = .ok (.iadd, 1) := by decide +kernel
theorem dL_law_415 : decode cL_law 415 = .ok (.iaload, 1) := by decide +kernel
theorem dL_law_416 : decode cL_law 416 = .ok (.invokevirtual 201, 3) := by decide +kernel
theorem dL_law_419 : decode cL_law 419 = .ok (.istore 7, 2) := by decide +kernel
theorem dL_law_421 : decode cL_law 421 = .ok (.aload_n 2, 1) := by decide +kernel
theorem dL_law_422 : decode cL_law 422 = .ok (.invokevirtual 202, 3) := by decide +kernel
theorem dL_law_425 : decode cL_law 425 = .ok (.iload 6, 2) := by decide +kernel
theorem dL_law_427 : decode cL_law 427 = .ok (.if_icmp .eq 5, 3) := by decide +kernel
theorem dL_law_432 : decode cL_law 432 = .ok (.iload 6, 2) := by decide +kernel
theorem dL_law_434 : decode cL_law 434 = .ok (.ifCond .ne 15, 3) := by decide +kernel
theorem dL_law_437 : decode cL_law 437 = .ok (.aload_n 3, 1) := by decide +kernel
theorem dL_law_438 : decode cL_law 438 = .ok (.iconst 0, 1) := by decide +kernel
theorem dL_law_439 : decode cL_law 439 = .ok (.laload, 1) := by decide +kernel
theorem dL_law_440 : decode cL_law 440 = .ok (.iload 7, 2) := by decide +kernel
theorem dL_law_442 : decode cL_law 442 = .ok (.i2l, 1) := by decide +kernel
theorem dL_law_443 : decode cL_law 443 = .ok (.lcmp, 1) := by decide +kernel
theorem dL_law_444 : decode cL_law 444 = .ok (.ifCond .eq 5, 3) := by decide +kernel
theorem dL_law_449 : decode cL_law 449 = .ok (.goto 3174, 3) := by decide +kernel
set_option maxRecDepth 100000 in
set_option maxHeartbeats 4000000 in
theorem law_4 {p : Program} {l : Launch} {e : Env} {s : State} {m : MethodId} {below : List Frame} {meth : Method} {c : Code} {D : va_G} {ct : Nat → ClassId} {A : Nat → Prop} {b : Nat} {xs : Nat → Int32} {H : Heap} {locs : List Loc} {ls : Array Slot} (hfl : l.stackTraces = false) (C1 : cmL p s m meth c D ct A b 4 xs) (x : Nat) (w : Nat) (sp : Nat) (sv : Nat) (bu : Nat) (w_se : Nat) (w_cu : Nat) (w_pr : Nat) (w_ch : Nat) (w_re : Nat) (w_lo : Nat) (w_c1 : Nat) (w_c2 : Nat) (w_c3 : Nat) (w_p1 : Nat) (w_p2 : Nat) (w_p3 : Nat) (w_p4 : Nat) (mo : Nat) (mw : Nat) (ma : Nat) (mf : Nat) (m0 : Nat) (m1 : Nat) (mu : Nat) (mv : Nat) (u0 : Nat) (u1 : Nat) (iz : Nat) (mb : Nat) (ov : Nat) (od : Nat) (hP : va_P D vwCl [(x, .inr (10, [.ref w, .ref sp, .ref sv, .ref bu, .int 0, .int 0])), (w, .inr (9, [.int 0, .ref w_se, .ref w_cu, .ref w_pr, .int 0, .ref w_ch, .ref w_re, .ref w_lo])), (w_cu, .inr (2, [.int 0, .ref w_c1, .ref w_c2, .ref w_c3])), (w_pr, .inr (5, [.int 0, .ref w_p1, .ref w_p2, .ref w_p3, .ref w_p4])), (mo, .inr (11, [.ref mw, .ref ma, .ref mf, .ref m0, .ref m1, .ref mu, .ref mv, .ref u0, .ref u1, .ref iz, .int 0, .ref mb, .int 0, .int 0, .int 0, .int 0, .int 0, .int 0, .int 0])), (mw, .inl (ct 0, 958, .inl m_w0)), (ov, .inl (ct 1, 1, .inr (.inl (fun _ => 0))))] H) (hD : va_D A [(x, .inr (10, [.ref w, .ref sp, .ref sv, .ref bu, .int 0, .int 0])), (w, .inr (9, [.int 0, .ref w_se, .ref w_cu, .ref w_pr, .int 0, .ref w_ch, .ref w_re, .ref w_lo])), (w_cu, .inr (2, [.int 0, .ref w_c1, .ref w_c2, .ref w_c3])), (w_pr, .inr (5, [.int 0, .ref w_p1, .ref w_p2, .ref w_p3, .ref w_p4])), (mo, .inr (11, [.ref mw, .ref ma, .ref mf, .ref m0, .ref m1, .ref mu, .ref mv, .ref u0, .ref u1, .ref iz, .int 0, .ref mb, .int 0, .int 0, .int 0, .int 0, .int 0, .int 0, .int 0])), (mw, .inl (ct 0, 958, .inl m_w0)), (ov, .inl (ct 1, 1, .inr (.inl (fun _ => 0))))]) (hS : va_S A s.heap H locs) (hl : lv_has ls 9 [(0, .ref b), (1, .ref x), (2, .ref mo), (3, .ref ov), (4, .ref od), (5, .int 0)]) : W p l e room_1 s m #[Value.ref b] below meth c H locs 157 8795 (lw_Z below #[Value.ref b] s) (F0 m 396 ls []) := by
  obtain ⟨hx, hb, hr, hml, hown, hts, hK, hX, hXs, hbl, hbA, hA, hAr, hlocks⟩ := id C1
  refine lv_aload_n hx hb dL_law_396 rfl (lv_at hl 1 rfl) ?_
  refine lv_aload_n hx hb dL_law_397 rfl (lv_at hl 0 rfl) ?_
  refine lv_iload hx hb dL_law_398 (lv_at hl 5 rfl) ?_
  refine lv_iconst (v := 1) hx hb dL_law_400 (by decide) ?_
  refine lv_iadd hx hb dL_law_401 ?_
  refine cm_cst (y := 1) (by decide) ?_
  refine va_sld hx hb hXs hbl hbA hS (cm_vin (by decide)) dL_law_402 ?_
  refine lv_aload_n hx hb dL_law_403 rfl (lv_at hl 3 rfl) ?_
  refine cm_ki (wr := [(mo, .inr (11, [.ref mw, .ref ma, .ref mf, .ref m0, .ref m1, .ref mu, .ref mv, .ref u0, .ref u1, .ref iz, .int 0, .ref mb, .int 0, .int 0, .int 0, .int 0, .int 0, .int 0, .int 0])), (mw, .inl (ct 0, 958, .inl m_w0))]) (vx_runSW (As := [.ref x, .int (xs (1 : Int32).toNatClampNeg), .ref ov]) (rest := []) ⟨hx, hb, hml, hown, hts⟩ (l_count l hfl D ct x w sp sv bu w_se w_cu w_pr w_ch w_re w_lo w_c1 w_c2 w_c3 w_p1 w_p2 w_p3 w_p4 ov (fun _ => 0) (xs (1 : Int32).toNatClampNeg) _) (cm_SW 3 hts kw_L_count ki_RL kl_RL_196 ks_L_count kd_L_count ⟨Nat.le_of_ble_eq_true rfl, Nat.le_of_ble_eq_true rfl⟩) (cm_preS hP hK hD hS hA hX [0, 1, 2, 3, 6] rfl rfl rfl) rfl rfl hl.1 rfl (lv_room (Nat.le_of_ble_eq_true rfl)) dL_law_404 ⟨Nat.le_of_ble_eq_true rfl, Nat.le_of_ble_eq_true rfl⟩) hP hD hS hA [0, 1, 2, 3, 6] [4, 5] rfl rfl rfl (by decide) (fun r_1 u H locs hw_2 hP hD hS => ?_)
  obtain ⟨g_3, rfl⟩ : ∃ z, z = u := ⟨_, rfl⟩
  have hw_2 : (r_1 = 0 ∧ (0 ≤ (xs (1 : Int32).toNatClampNeg) ∧ (xs (1 : Int32).toNatClampNeg) ≤ 2) ∧ g_3 (0 : Int32).toNatClampNeg = 0) ∨ (r_1 = 1 ∧ ((xs (1 : Int32).toNatClampNeg) < 0 ∨ 2 < (xs (1 : Int32).toNatClampNeg))) := hw_2
  have hP : va_P D vwCl [(mo, .inr (11, [.ref mw, .ref ma, .ref mf, .ref m0, .ref m1, .ref mu, .ref mv, .ref u0, .ref u1, .ref iz, .int 0, .ref mb, .int 0, .int 0, .int 0, .int 0, .int 0, .int 0, .int 0])), (mw, .inl (ct 0, 958, .inl m_w0)), (ov, .inl (ct 1, 1, .inr (.inl g_3)))] H := hP
  have hD : va_D A [(mo, .inr (11, [.ref mw, .ref ma, .ref mf, .ref m0, .ref m1, .ref mu, .ref mv, .ref u0, .ref u1, .ref iz, .int 0, .ref mb, .int 0, .int 0, .int 0, .int 0, .int 0, .int 0, .int 0])), (mw, .inl (ct 0, 958, .inl m_w0)), (ov, .inl (ct 1, 1, .inr (.inl g_3)))] := hD
  refine W.widen (k := 158) (n := 8801) (Nat.le_of_ble_eq_true rfl) (Nat.le_of_ble_eq_true rfl) ?_
  refine lv_istore (lv' := [(6, .int r_1), (0, .ref b), (1, .ref x), (2, .ref mo), (3, .ref ov), (4, .ref od), (5, .int 0)]) hx hb dL_law_407 hl (by decide) rfl (fun ls hl => ?_)
  refine lv_aload_n hx hb dL_law_409 rfl (lv_at hl 3 rfl) ?_
  refine lv_aload_n hx hb dL_law_410 rfl (lv_at hl 1 rfl) ?_
  refine lv_iload hx hb dL_law_411 (lv_at hl 6 rfl) ?_
  refine lv_iconst (v := 1) hx hb dL_law_413 (by decide) ?_
  refine lv_iadd hx hb dL_law_414 ?_
  refine cm_cst (y := 1) (by decide) ?_
  refine va_sld hx hb hXs hbl hbA hS (cm_vin (by decide)) dL_law_415 ?_
  refine cm_ki (wr := [(ov, .inl (ct 1, 1, .inr (.inl g_3)))]) (va_runV (As := [.int (xs (1 : Int32).toNatClampNeg)]) (rest := []) ⟨hx, hb, hml, hown, hts⟩ (m_count_0 l D ct mo mw ma mf m0 m1 mu mv u0 u1 iz mb (xs (1 : Int32).toNatClampNeg) _) (cm_V 1 hts kc_X11_count ki_RX11 kl_RL_201 kv_X11_count kx_X11_count kd_X11_count ⟨Nat.le_of_ble_eq_true rfl, Nat.le_of_ble_eq_true rfl⟩) (cm_preV hP hK hD hS hA hX [0, 1] rfl rfl rfl (q0 := 0) (ci := 11) rfl rfl) rfl rfl hl.1 rfl (lv_room (Nat.le_of_ble_eq_true rfl)) dL_law_416 ⟨Nat.le_of_ble_eq_true rfl, Nat.le_of_ble_eq_true rfl⟩) hP hD hS hA [0, 1] [2] rfl rfl rfl (by decide) (fun r_4 u H locs hw_5 hP hD hS => ?_)
  obtain ⟨th_6, rfl⟩ : ∃ z, z = u := ⟨_, rfl⟩
  have hw_5 : (th_6 = 0 ∧ (0 ≤ (xs (1 : Int32).toNatClampNeg) ∧ (xs (1 : Int32).toNatClampNeg) ≤ 2) ∧ r_4 = 0) ∨ (th_6 = 1 ∧ ((xs (1 : Int32).toNatClampNeg) < 0 ∨ 2 < (xs (1 : Int32).toNatClampNeg))) := hw_5
  have hP : va_P D vwCl [(ov, .inl (ct 1, 1, .inr (.inl g_3))), (mo, .inr (11, [.ref mw, .ref ma, .ref mf, .ref m0, .ref m1, .ref mu, .ref mv, .ref u0, .ref u1, .ref iz, .int th_6, .ref mb, .int 0, .int 0, .int 0, .int 0, .int 0, .int 0, .int 0]))] H := hP
  have hD : va_D A [(ov, .inl (ct 1, 1, .inr (.inl g_3))), (mo, .inr (11, [.ref mw, .ref ma, .ref mf, .ref m0, .ref m1, .ref mu, .ref mv, .ref u0, .ref u1, .ref iz, .int th_6, .ref mb, .int 0, .int 0, .int 0, .int 0, .int 0, .int 0, .int 0]))] := hD
  refine lv_istore (lv' := [(7, .int r_4), (6, .int r_1), (0, .ref b), (1, .ref x), (2, .ref mo), (3, .ref ov), (4, .ref od), (5, .int 0)]) hx hb dL_law_419 hl (by decide) rfl (fun ls hl => ?_)
  rcases hw_2 with ⟨rfl, hq1, hg⟩ | ⟨rfl, hq1⟩
  · rcases hw_5 with ⟨rfl, hq2, rfl⟩ | ⟨rfl, hq2⟩
    · refine lv_aload_n hx hb dL_law_421 rfl (lv_at hl 4 rfl) ?_
      refine cm_ki (wr := [(ov, .inl (ct 1, 1, .inr (.inl g_3)))]) (va_runV (As := []) (rest := []) ⟨hx, hb, hml, hown, hts⟩ (m_thrown l D ct mo mw ma mf m0 m1 mu mv u0 u1 iz mb 0 _) (cm_V 0 hts kc_X11_thrown ki_RX11 kl_RL_202 kv_X11_thrown kx_X11_thrown kd_X11_thrown ⟨Nat.le_of_ble_eq_true rfl, Nat.le_of_ble_eq_true rfl⟩) (cm_preV hP hK hD hS hA hX [1] rfl rfl rfl (q0 := 1) (ci := 11) rfl rfl) rfl rfl hl.1 rfl (lv_room (Nat.le_of_ble_eq_true rfl)) dL_law_422 ⟨Nat.le_of_ble_eq_true rfl, Nat.le_of_ble_eq_true rfl⟩) hP hD hS hA [1] [0] rfl rfl rfl (by decide) (fun r_7 u H locs hw_8 hP hD hS => ?_)
      have hw_8 : r_7 = 0 := hw_8
      obtain rfl := hw_8
      have hP : va_P D vwCl [(ov, .inl (ct 1, 1, .inr (.inl g_3))), (mo, .inr (11, [.ref mw, .ref ma, .ref mf, .ref m0, .ref m1, .ref mu, .ref mv, .ref u0, .ref u1, .ref iz, .int 0, .ref mb, .int 0, .int 0, .int 0, .int 0, .int 0, .int 0, .int 0]))] H := hP
      have hD : va_D A [(ov, .inl (ct 1, 1, .inr (.inl g_3))), (mo, .inr (11, [.ref mw, .ref ma, .ref mf, .ref m0, .ref m1, .ref mu, .ref mv, .ref u0, .ref u1, .ref iz, .int 0, .ref mb, .int 0, .int 0, .int 0, .int 0, .int 0, .int 0, .int 0]))] := hD
      refine lv_iload hx hb dL_law_425 (lv_at hl 1 rfl) ?_
      refine lv_icmp_eq (tgt := 432) hx hb dL_law_427 (by decide) (fun _ => ?_) (fun hc => absurd (by decide) hc)
      refine lv_iload hx hb dL_law_432 (lv_at hl 1 rfl) ?_
      refine lv_if_ne (tgt := 449) hx hb dL_law_434 (by decide) (fun hc => absurd (by decide) hc) (fun _ => ?_)
      refine lv_aload_n hx hb dL_law_437 rfl (lv_at hl 5 rfl) ?_
      refine lv_iconst (v := 0) hx hb dL_law_438 (by decide) ?_
      refine va_lald hx hb hK hP 0 1 rfl rfl (cm_vin (by decide)) dL_law_439 ?_
      refine cm_cstl (y := 0) hg ?_
      refine lv_iload hx hb dL_law_440 (lv_at hl 0 rfl) ?_
      refine lv_i2l (v := 0) hx hb dL_law_442 (by decide) ?_
      refine W.lcmp hx hb dL_law_443 ?_
      refine cm_cst (y := 0) (by decide) ?_
      refine lv_if_eq (tgt := 449) hx hb dL_law_444 (by decide) (fun _ => ?_) (fun hc => absurd (by decide) hc)
      refine lv_goto (tgt := 3623) hx hb dL_law_449 (by decide) ?_
      exact law_end C1 hS (lv_sub hl [2, 7] rfl) (Nat.le_of_ble_eq_true rfl) (Nat.le_of_ble_eq_true rfl)
    · exact (cm_no hq1 hq2).elim
  · rcases hw_5 with ⟨rfl, hq2, rfl⟩ | ⟨rfl, hq2⟩
    · exact (cm_no hq2 hq1).elim
    · refine lv_aload_n hx hb dL_law_421 rfl (lv_at hl 4 rfl) ?_
      refine cm_ki (wr := [(ov, .inl (ct 1, 1, .inr (.inl g_3)))]) (va_runV (As := []) (rest := []) ⟨hx, hb, hml, hown, hts⟩ (m_thrown l D ct mo mw ma mf m0 m1 mu mv u0 u1 iz mb 1 _) (cm_V 0 hts kc_X11_thrown ki_RX11 kl_RL_202 kv_X11_thrown kx_X11_thrown kd_X11_thrown ⟨Nat.le_of_ble_eq_true rfl, Nat.le_of_ble_eq_true rfl⟩) (cm_preV hP hK hD hS hA hX [1] rfl rfl rfl (q0 := 1) (ci := 11) rfl rfl) rfl rfl hl.1 rfl (lv_room (Nat.le_of_ble_eq_true rfl)) dL_law_422 ⟨Nat.le_of_ble_eq_true rfl, Nat.le_of_ble_eq_true rfl⟩) hP hD hS hA [1] [0] rfl rfl rfl (by decide) (fun r_9 u H locs hw_10 hP hD hS => ?_)
      have hw_10 : r_9 = 1 := hw_10
      obtain rfl := hw_10
      have hP : va_P D vwCl [(ov, .inl (ct 1, 1, .inr (.inl g_3))), (mo, .inr (11, [.ref mw, .ref ma, .ref mf, .ref m0, .ref m1, .ref mu, .ref mv, .ref u0, .ref u1, .ref iz, .int 1, .ref mb, .int 0, .int 0, .int 0, .int 0, .int 0, .int 0, .int 0]))] H := hP
      have hD : va_D A [(ov, .inl (ct 1, 1, .inr (.inl g_3))), (mo, .inr (11, [.ref mw, .ref ma, .ref mf, .ref m0, .ref m1, .ref mu, .ref mv, .ref u0, .ref u1, .ref iz, .int 1, .ref mb, .int 0, .int 0, .int 0, .int 0, .int 0, .int 0, .int 0]))] := hD
      refine lv_iload hx hb dL_law_425 (lv_at hl 1 rfl) ?_
      refine lv_icmp_eq (tgt := 432) hx hb dL_law_427 (by decide) (fun _ => ?_) (fun hc => absurd (by decide) hc)
      refine lv_iload hx hb dL_law_432 (lv_at hl 1 rfl) ?_
      refine lv_if_ne (tgt := 449) hx hb dL_law_434 (by decide) (fun _ => ?_) (fun hc => absurd hc (by decide))
      refine lv_goto (tgt := 3623) hx hb dL_law_449 (by decide) ?_
      exact law_end C1 hS (lv_sub hl [2, 7] rfl) (Nat.le_of_ble_eq_true rfl) (Nat.le_of_ble_eq_true rfl)
theorem dL_law_452 : decode cL_law 452 = .ok (.aload_n 1, 1) := by decide +kernel
theorem dL_law_453 : decode cL_law 453 = .ok (.aload_n 0, 1) := by decide +kernel
theorem dL_law_454 : decode cL_law 454 = .ok (.iload 5, 2) := by decide +kernel
theorem dL_law_456 : decode cL_law 456 = .ok (.iconst 1, 1) := by decide +kernel
theorem dL_law_457 : decode cL_law 457 = .ok (.iadd, 1) := by decide +kernel
theorem dL_law_458 : decode cL_law 458 = .ok (.iaload, 1) := by decide +kernel
theorem dL_law_459 : decode cL_law 459 = .ok (.aload_n 3, 1) := by decide +kernel
theorem dL_law_460 : decode cL_law 460 = .ok (.invokestatic 205, 3) := by decide +kernel
theorem dL_law_463 : decode cL_law 463 = .ok (.istore 6, 2) := by decide +kernel
theorem dL_law_465 : decode cL_law 465 = .ok (.aload_n 2, 1) := by decide +kernel
theorem dL_law_466 : decode cL_law 466 = .ok (.aload_n 0, 1) := by decide +kernel
theorem dL_law_467 : decode cL_law 467 = .ok (.iload 5, 2) := by decide +kernel
theorem dL_law_469 : decode cL_law 469 = .ok (.iconst 1, 1) := by decide +kernel
theorem dL_law_470 : decode cL_law 470 = .ok (.iadd, 1) := by decide +kernel
theorem dL_law_471 : decode cL_law 471 = .ok (.iaload, 1) := by decide +kernel
theorem dL_law_472 : decode cL_law 472 = .ok (.invokevirtual 207, 3) := by decide +kernel
theorem dL_law_475 : decode cL_law 475 = .ok (.istore 7, 2) := by decide +kernel
theorem dL_law_477 : decode cL_law 477 = .ok (.aload_n 2, 1) := by decide +kernel
theorem dL_law_478 : decode cL_law 478 = .ok (.invokevirtual 202, 3) := by decide +kernel
theorem dL_law_481 : decode cL_law 481 = .ok (.iload 6, 2) := by decide +kernel
theorem dL_law_483 : decode cL_law 483 = .ok (.if_icmp .eq 5, 3) := by decide +kernel
theorem dL_law_488 : decode cL_law 488 = .ok (.iload 6, 2) := by decide +kernel
theorem dL_law_490 : decode cL_law 490 = .ok (.ifCond .ne 15, 3) := by decide +kernel
theorem dL_law_493 : decode cL_law 493 = .ok (.aload_n 3, 1) := by decide +kernel
theorem dL_law_494 : decode cL_law 494 = .ok (.iconst 0, 1) := by decide +kernel
theorem dL_law_495 : decode cL_law 495 = .ok (.laload, 1) := by decide +kernel
theorem dL_law_496 : decode cL_law 496 = .ok (.iload 7, 2) := by decide +kernel
theorem dL_law_498 : decode cL_law 498 = .ok (.i2l, 1) := by decide +kernel
theorem dL_law_499 : decode cL_law 499 = .ok (.lcmp, 1) := by decide +kernel
theorem dL_law_500 : decode cL_law 500 = .ok (.ifCond .eq 5, 3) := by decide +kernel
theorem dL_law_505 : decode cL_law 505 = .ok (.goto 3118, 3) := by decide +kernel
set_option maxRecDepth 100000 in
set_option maxHeartbeats 4000000 in
theorem law_5 {p : Program} {l : Launch} {e : Env} {s : State} {m : MethodId} {below : List Frame} {meth : Method} {c : Code} {D : va_G} {ct : Nat → ClassId} {A : Nat → Prop} {b : Nat} {xs : Nat → Int32} {H : Heap} {locs : List Loc} {ls : Array Slot} (hfl : l.stackTraces = false) (C1 : cmL p s m meth c D ct A b 4 xs) (x : Nat) (w : Nat) (sp : Nat) (sv : Nat) (bu : Nat) (w_se : Nat) (w_cu : Nat) (w_pr : Nat) (w_ch : Nat) (w_re : Nat) (w_lo : Nat) (mo : Nat) (mw : Nat) (ma : Nat) (mf : Nat) (m0 : Nat) (m1 : Nat) (mu : Nat) (mv : Nat) (u0 : Nat) (u1 : Nat) (iz : Nat) (mb : Nat) (ov : Nat) (od : Nat) (hP : va_P D vwCl [(x, .inr (10, [.ref w, .ref sp, .ref sv, .ref bu, .int 0, .int 0])), (w, .inr (9, [.int 0, .ref w_se, .ref w_cu, .ref w_pr, .int 0, .ref w_ch, .ref w_re, .ref w_lo])), (w_se, .inr (7, [.int 990, .int 100000, .int 100, .int 5, .int 0, .int 5000, .int 600, .int 250, .int 0, .int 5000, .int 1000, .int 0])), (mo, .inr (11, [.ref mw, .ref ma, .ref mf, .ref m0, .ref m1, .ref mu, .ref mv, .ref u0, .ref u1, .ref iz, .int 0, .ref mb, .int 0, .int 0, .int 0, .int 0, .int 0, .int 0, .int 0])), (mw, .inl (ct 0, 958, .inl m_w0)), (ov, .inl (ct 1, 1, .inr (.inl (fun _ => 0))))] H) (hD : va_D A [(x, .inr (10, [.ref w, .ref sp, .ref sv, .ref bu, .int 0, .int 0])), (w, .inr (9, [.int 0, .ref w_se, .ref w_cu, .ref w_pr, .int 0, .ref w_ch, .ref w_re, .ref w_lo])), (w_se, .inr (7, [.int 990, .int 100000, .int 100, .int 5, .int 0, .int 5000, .int 600, .int 250, .int 0, .int 5000, .int 1000, .int 0])), (mo, .inr (11, [.ref mw, .ref ma, .ref mf, .ref m0, .ref m1, .ref mu, .ref mv, .ref u0, .ref u1, .ref iz, .int 0, .ref mb, .int 0, .int 0, .int 0, .int 0, .int 0, .int 0, .int 0])), (mw, .inl (ct 0, 958, .inl m_w0)), (ov, .inl (ct 1, 1, .inr (.inl (fun _ => 0))))]) (hS : va_S A s.heap H locs) (hl : lv_has ls 9 [(0, .ref b), (1, .ref x), (2, .ref mo), (3, .ref ov), (4, .ref od), (5, .int 0)]) : W p l e room_1 s m #[Value.ref b] below meth c H locs 157 8795 (lw_Z below #[Value.ref b] s) (F0 m 452 ls []) := by
  obtain ⟨hx, hb, hr, hml, hown, hts, hK, hX, hXs, hbl, hbA, hA, hAr, hlocks⟩ := id C1
  refine lv_aload_n hx hb dL_law_452 rfl (lv_at hl 1 rfl) ?_
  refine lv_aload_n hx hb dL_law_453 rfl (lv_at hl 0 rfl) ?_
  refine lv_iload hx hb dL_law_454 (lv_at hl 5 rfl) ?_
  refine lv_iconst (v := 1) hx hb dL_law_456 (by decide) ?_
  refine lv_iadd hx hb dL_law_457 ?_
  refine cm_cst (y := 1) (by decide) ?_
  refine va_sld hx hb hXs hbl hbA hS (cm_vin (by decide)) dL_law_458 ?_
  refine lv_aload_n hx hb dL_law_459 rfl (lv_at hl 3 rfl) ?_
  refine cm_ki (wr := [(mo, .inr (11, [.ref mw, .ref ma, .ref mf, .ref m0, .ref m1, .ref mu, .ref mv, .ref u0, .ref u1, .ref iz, .int 0, .ref mb, .int 0, .int 0, .int 0, .int 0, .int 0, .int 0, .int 0])), (mw, .inl (ct 0, 958, .inl m_w0))]) (vx_runSW (As := [.ref x, .int (xs (1 : Int32).toNatClampNeg), .ref ov]) (rest := []) ⟨hx, hb, hml, hown, hts⟩ (l_setting l hfl D ct x w sp sv bu w_se w_cu w_pr w_ch w_re w_lo ov (fun _ => 0) (xs (1 : Int32).toNatClampNeg) _) (cm_SW 3 hts kw_L_setting ki_RL kl_RL_205 ks_L_setting kd_L_setting ⟨Nat.le_of_ble_eq_true rfl, Nat.le_of_ble_eq_true rfl⟩) (cm_preS hP hK hD hS hA hX [0, 1, 2, 5] rfl rfl rfl) rfl rfl hl.1 rfl (lv_room (Nat.le_of_ble_eq_true rfl)) dL_law_460 ⟨Nat.le_of_ble_eq_true rfl, Nat.le_of_ble_eq_true rfl⟩) hP hD hS hA [0, 1, 2, 5] [3, 4] rfl rfl rfl (by decide) (fun r_1 u H locs hw_2 hP hD hS => ?_)
  obtain ⟨g_3, rfl⟩ : ∃ z, z = u := ⟨_, rfl⟩
  have hw_2 : (r_1 = 0 ∧ (0 ≤ (xs (1 : Int32).toNatClampNeg) ∧ (xs (1 : Int32).toNatClampNeg) ≤ 7) ∧ g_3 (0 : Int32).toNatClampNeg = (cm_set0 (xs (1 : Int32).toNatClampNeg)).toInt64) ∨ (r_1 = 1 ∧ ((xs (1 : Int32).toNatClampNeg) < 0 ∨ 7 < (xs (1 : Int32).toNatClampNeg))) := hw_2
  have hP : va_P D vwCl [(mo, .inr (11, [.ref mw, .ref ma, .ref mf, .ref m0, .ref m1, .ref mu, .ref mv, .ref u0, .ref u1, .ref iz, .int 0, .ref mb, .int 0, .int 0, .int 0, .int 0, .int 0, .int 0, .int 0])), (mw, .inl (ct 0, 958, .inl m_w0)), (ov, .inl (ct 1, 1, .inr (.inl g_3)))] H := hP
  have hD : va_D A [(mo, .inr (11, [.ref mw, .ref ma, .ref mf, .ref m0, .ref m1, .ref mu, .ref mv, .ref u0, .ref u1, .ref iz, .int 0, .ref mb, .int 0, .int 0, .int 0, .int 0, .int 0, .int 0, .int 0])), (mw, .inl (ct 0, 958, .inl m_w0)), (ov, .inl (ct 1, 1, .inr (.inl g_3)))] := hD
  refine W.widen (k := 158) (n := 8801) (Nat.le_of_ble_eq_true rfl) (Nat.le_of_ble_eq_true rfl) ?_
  refine lv_istore (lv' := [(6, .int r_1), (0, .ref b), (1, .ref x), (2, .ref mo), (3, .ref ov), (4, .ref od), (5, .int 0)]) hx hb dL_law_463 hl (by decide) rfl (fun ls hl => ?_)
  refine lv_aload_n hx hb dL_law_465 rfl (lv_at hl 3 rfl) ?_
  refine lv_aload_n hx hb dL_law_466 rfl (lv_at hl 1 rfl) ?_
  refine lv_iload hx hb dL_law_467 (lv_at hl 6 rfl) ?_
  refine lv_iconst (v := 1) hx hb dL_law_469 (by decide) ?_
  refine lv_iadd hx hb dL_law_470 ?_
  refine cm_cst (y := 1) (by decide) ?_
  refine va_sld hx hb hXs hbl hbA hS (cm_vin (by decide)) dL_law_471 ?_
  refine cm_ki (wr := [(ov, .inl (ct 1, 1, .inr (.inl g_3)))]) (va_runV (As := [.int (xs (1 : Int32).toNatClampNeg)]) (rest := []) ⟨hx, hb, hml, hown, hts⟩ (m_setting_0 l D ct mo mw ma mf m0 m1 mu mv u0 u1 iz mb (xs (1 : Int32).toNatClampNeg) _) (cm_V 1 hts kc_X11_setting ki_RX11 kl_RL_207 kv_X11_setting kx_X11_setting kd_X11_setting ⟨Nat.le_of_ble_eq_true rfl, Nat.le_of_ble_eq_true rfl⟩) (cm_preV hP hK hD hS hA hX [0, 1] rfl rfl rfl (q0 := 0) (ci := 11) rfl rfl) rfl rfl hl.1 rfl (lv_room (Nat.le_of_ble_eq_true rfl)) dL_law_472 ⟨Nat.le_of_ble_eq_true rfl, Nat.le_of_ble_eq_true rfl⟩) hP hD hS hA [0, 1] [2] rfl rfl rfl (by decide) (fun r_4 u H locs hw_5 hP hD hS => ?_)
  obtain ⟨th_6, rfl⟩ : ∃ z, z = u := ⟨_, rfl⟩
  have hw_5 : (th_6 = 0 ∧ (0 ≤ (xs (1 : Int32).toNatClampNeg) ∧ (xs (1 : Int32).toNatClampNeg) ≤ 7) ∧ r_4 = (cm_set0 (xs (1 : Int32).toNatClampNeg))) ∨ (th_6 = 1 ∧ ((xs (1 : Int32).toNatClampNeg) < 0 ∨ 7 < (xs (1 : Int32).toNatClampNeg))) := hw_5
  have hP : va_P D vwCl [(ov, .inl (ct 1, 1, .inr (.inl g_3))), (mo, .inr (11, [.ref mw, .ref ma, .ref mf, .ref m0, .ref m1, .ref mu, .ref mv, .ref u0, .ref u1, .ref iz, .int th_6, .ref mb, .int 0, .int 0, .int 0, .int 0, .int 0, .int 0, .int 0]))] H := hP
  have hD : va_D A [(ov, .inl (ct 1, 1, .inr (.inl g_3))), (mo, .inr (11, [.ref mw, .ref ma, .ref mf, .ref m0, .ref m1, .ref mu, .ref mv, .ref u0, .ref u1, .ref iz, .int th_6, .ref mb, .int 0, .int 0, .int 0, .int 0, .int 0, .int 0, .int 0]))] := hD
  refine lv_istore (lv' := [(7, .int r_4), (6, .int r_1), (0, .ref b), (1, .ref x), (2, .ref mo), (3, .ref ov), (4, .ref od), (5, .int 0)]) hx hb dL_law_475 hl (by decide) rfl (fun ls hl => ?_)
  rcases hw_2 with ⟨rfl, hq1, hg⟩ | ⟨rfl, hq1⟩
  · rcases hw_5 with ⟨rfl, hq2, rfl⟩ | ⟨rfl, hq2⟩
    · refine lv_aload_n hx hb dL_law_477 rfl (lv_at hl 4 rfl) ?_
      refine cm_ki (wr := [(ov, .inl (ct 1, 1, .inr (.inl g_3)))]) (va_runV (As := []) (rest := []) ⟨hx, hb, hml, hown, hts⟩ (m_thrown l D ct mo mw ma mf m0 m1 mu mv u0 u1 iz mb 0 _) (cm_V 0 hts kc_X11_thrown ki_RX11 kl_RL_202 kv_X11_thrown kx_X11_thrown kd_X11_thrown ⟨Nat.le_of_ble_eq_true rfl, Nat.le_of_ble_eq_true rfl⟩) (cm_preV hP hK hD hS hA hX [1] rfl rfl rfl (q0 := 1) (ci := 11) rfl rfl) rfl rfl hl.1 rfl (lv_room (Nat.le_of_ble_eq_true rfl)) dL_law_478 ⟨Nat.le_of_ble_eq_true rfl, Nat.le_of_ble_eq_true rfl⟩) hP hD hS hA [1] [0] rfl rfl rfl (by decide) (fun r_7 u H locs hw_8 hP hD hS => ?_)
      have hw_8 : r_7 = 0 := hw_8
      obtain rfl := hw_8
      have hP : va_P D vwCl [(ov, .inl (ct 1, 1, .inr (.inl g_3))), (mo, .inr (11, [.ref mw, .ref ma, .ref mf, .ref m0, .ref m1, .ref mu, .ref mv, .ref u0, .ref u1, .ref iz, .int 0, .ref mb, .int 0, .int 0, .int 0, .int 0, .int 0, .int 0, .int 0]))] H := hP
      have hD : va_D A [(ov, .inl (ct 1, 1, .inr (.inl g_3))), (mo, .inr (11, [.ref mw, .ref ma, .ref mf, .ref m0, .ref m1, .ref mu, .ref mv, .ref u0, .ref u1, .ref iz, .int 0, .ref mb, .int 0, .int 0, .int 0, .int 0, .int 0, .int 0, .int 0]))] := hD
      refine lv_iload hx hb dL_law_481 (lv_at hl 1 rfl) ?_
      refine lv_icmp_eq (tgt := 488) hx hb dL_law_483 (by decide) (fun _ => ?_) (fun hc => absurd (by decide) hc)
      refine lv_iload hx hb dL_law_488 (lv_at hl 1 rfl) ?_
      refine lv_if_ne (tgt := 505) hx hb dL_law_490 (by decide) (fun hc => absurd (by decide) hc) (fun _ => ?_)
      refine lv_aload_n hx hb dL_law_493 rfl (lv_at hl 5 rfl) ?_
      refine lv_iconst (v := 0) hx hb dL_law_494 (by decide) ?_
      refine va_lald hx hb hK hP 0 1 rfl rfl (cm_vin (by decide)) dL_law_495 ?_
      refine cm_cstl (y := (cm_set0 (xs (1 : Int32).toNatClampNeg)).toInt64) hg ?_
      refine lv_iload hx hb dL_law_496 (lv_at hl 0 rfl) ?_
      refine lv_i2l hx hb dL_law_498 rfl ?_
      refine W.lcmp hx hb dL_law_499 ?_
      refine cm_cst (y := 0) (cm_lceq _) ?_
      refine lv_if_eq (tgt := 505) hx hb dL_law_500 (by decide) (fun _ => ?_) (fun hc => absurd (by decide) hc)
      refine lv_goto (tgt := 3623) hx hb dL_law_505 (by decide) ?_
      exact law_end C1 hS (lv_sub hl [2, 7] rfl) (Nat.le_of_ble_eq_true rfl) (Nat.le_of_ble_eq_true rfl)
    · exact (cm_no hq1 hq2).elim
  · rcases hw_5 with ⟨rfl, hq2, rfl⟩ | ⟨rfl, hq2⟩
    · exact (cm_no hq2 hq1).elim
    · refine lv_aload_n hx hb dL_law_477 rfl (lv_at hl 4 rfl) ?_
      refine cm_ki (wr := [(ov, .inl (ct 1, 1, .inr (.inl g_3)))]) (va_runV (As := []) (rest := []) ⟨hx, hb, hml, hown, hts⟩ (m_thrown l D ct mo mw ma mf m0 m1 mu mv u0 u1 iz mb 1 _) (cm_V 0 hts kc_X11_thrown ki_RX11 kl_RL_202 kv_X11_thrown kx_X11_thrown kd_X11_thrown ⟨Nat.le_of_ble_eq_true rfl, Nat.le_of_ble_eq_true rfl⟩) (cm_preV hP hK hD hS hA hX [1] rfl rfl rfl (q0 := 1) (ci := 11) rfl rfl) rfl rfl hl.1 rfl (lv_room (Nat.le_of_ble_eq_true rfl)) dL_law_478 ⟨Nat.le_of_ble_eq_true rfl, Nat.le_of_ble_eq_true rfl⟩) hP hD hS hA [1] [0] rfl rfl rfl (by decide) (fun r_9 u H locs hw_10 hP hD hS => ?_)
      have hw_10 : r_9 = 1 := hw_10
      obtain rfl := hw_10
      have hP : va_P D vwCl [(ov, .inl (ct 1, 1, .inr (.inl g_3))), (mo, .inr (11, [.ref mw, .ref ma, .ref mf, .ref m0, .ref m1, .ref mu, .ref mv, .ref u0, .ref u1, .ref iz, .int 1, .ref mb, .int 0, .int 0, .int 0, .int 0, .int 0, .int 0, .int 0]))] H := hP
      have hD : va_D A [(ov, .inl (ct 1, 1, .inr (.inl g_3))), (mo, .inr (11, [.ref mw, .ref ma, .ref mf, .ref m0, .ref m1, .ref mu, .ref mv, .ref u0, .ref u1, .ref iz, .int 1, .ref mb, .int 0, .int 0, .int 0, .int 0, .int 0, .int 0, .int 0]))] := hD
      refine lv_iload hx hb dL_law_481 (lv_at hl 1 rfl) ?_
      refine lv_icmp_eq (tgt := 488) hx hb dL_law_483 (by decide) (fun _ => ?_) (fun hc => absurd (by decide) hc)
      refine lv_iload hx hb dL_law_488 (lv_at hl 1 rfl) ?_
      refine lv_if_ne (tgt := 505) hx hb dL_law_490 (by decide) (fun _ => ?_) (fun hc => absurd hc (by decide))
      refine lv_goto (tgt := 3623) hx hb dL_law_505 (by decide) ?_
      exact law_end C1 hS (lv_sub hl [2, 7] rfl) (Nat.le_of_ble_eq_true rfl) (Nat.le_of_ble_eq_true rfl)
theorem dL_law_508 : decode cL_law 508 = .ok (.aload_n 1, 1) := by decide +kernel
theorem dL_law_509 : decode cL_law 509 = .ok (.aload_n 0, 1) := by decide +kernel
theorem dL_law_510 : decode cL_law 510 = .ok (.iload 5, 2) := by decide +kernel
theorem dL_law_512 : decode cL_law 512 = .ok (.iconst 1, 1) := by decide +kernel
theorem dL_law_513 : decode cL_law 513 = .ok (.iadd, 1) := by decide +kernel
theorem dL_law_514 : decode cL_law 514 = .ok (.iaload, 1) := by decide +kernel
theorem dL_law_515 : decode cL_law 515 = .ok (.aload_n 3, 1) := by decide +kernel
theorem dL_law_516 : decode cL_law 516 = .ok (.invokestatic 208, 3) := by decide +kernel
theorem dL_law_519 : decode cL_law 519 = .ok (.istore 6, 2) := by decide +kernel
theorem dL_law_521 : decode cL_law 521 = .ok (.aload_n 2, 1) := by decide +kernel
theorem dL_law_522 : decode cL_law 522 = .ok (.aload_n 0, 1) := by decide +kernel
theorem dL_law_523 : decode cL_law 523 = .ok (.iload 5, 2) := by decide +kernel
theorem dL_law_525 : decode cL_law 525 = .ok (.iconst 1, 1) := by decide +kernel
theorem dL_law_526 : decode cL_law 526 = .ok (.iadd, 1) := by decide +kernel
theorem dL_law_527 : decode cL_law 527 = .ok (.iaload, 1) := by decide +kernel
theorem dL_law_528 : decode cL_law 528 = .ok (.invokevirtual 210, 3) := by decide +kernel
theorem dL_law_531 : decode cL_law 531 = .ok (.istore 7, 2) := by decide +kernel
theorem dL_law_533 : decode cL_law 533 = .ok (.aload_n 2, 1) := by decide +kernel
theorem dL_law_534 : decode cL_law 534 = .ok (.invokevirtual 202, 3) := by decide +kernel
theorem dL_law_537 : decode cL_law 537 = .ok (.iload 6, 2) := by decide +kernel
theorem dL_law_539 : decode cL_law 539 = .ok (.if_icmp .eq 5, 3) := by decide +kernel
theorem dL_law_544 : decode cL_law 544 = .ok (.iload 6, 2) := by decide +kernel
theorem dL_law_546 : decode cL_law 546 = .ok (.ifCond .ne 15, 3) := by decide +kernel
theorem dL_law_549 : decode cL_law 549 = .ok (.aload_n 3, 1) := by decide +kernel
theorem dL_law_550 : decode cL_law 550 = .ok (.iconst 0, 1) := by decide +kernel
theorem dL_law_551 : decode cL_law 551 = .ok (.laload, 1) := by decide +kernel
theorem dL_law_552 : decode cL_law 552 = .ok (.iload 7, 2) := by decide +kernel
theorem dL_law_554 : decode cL_law 554 = .ok (.i2l, 1) := by decide +kernel
theorem dL_law_555 : decode cL_law 555 = .ok (.lcmp, 1) := by decide +kernel
theorem dL_law_556 : decode cL_law 556 = .ok (.ifCond .eq 5, 3) := by decide +kernel
theorem dL_law_561 : decode cL_law 561 = .ok (.goto 3062, 3) := by decide +kernel
set_option maxRecDepth 100000 in
set_option maxHeartbeats 4000000 in
theorem law_6 {p : Program} {l : Launch} {e : Env} {s : State} {m : MethodId} {below : List Frame} {meth : Method} {c : Code} {D : va_G} {ct : Nat → ClassId} {A : Nat → Prop} {b : Nat} {xs : Nat → Int32} {H : Heap} {locs : List Loc} {ls : Array Slot} (hfl : l.stackTraces = false) (C1 : cmL p s m meth c D ct A b 4 xs) (x : Nat) (w : Nat) (sp : Nat) (sv : Nat) (bu : Nat) (w_se : Nat) (w_cu : Nat) (w_pr : Nat) (w_ch : Nat) (w_re : Nat) (w_lo : Nat) (mo : Nat) (mw : Nat) (ma : Nat) (mf : Nat) (m0 : Nat) (m1 : Nat) (mu : Nat) (mv : Nat) (u0 : Nat) (u1 : Nat) (iz : Nat) (mb : Nat) (ov : Nat) (od : Nat) (hP : va_P D vwCl [(x, .inr (10, [.ref w, .ref sp, .ref sv, .ref bu, .int 0, .int 0])), (w, .inr (9, [.int 0, .ref w_se, .ref w_cu, .ref w_pr, .int 0, .ref w_ch, .ref w_re, .ref w_lo])), (w_se, .inr (7, [.int 990, .int 100000, .int 100, .int 5, .int 0, .int 5000, .int 600, .int 250, .int 0, .int 5000, .int 1000, .int 0])), (mo, .inr (11, [.ref mw, .ref ma, .ref mf, .ref m0, .ref m1, .ref mu, .ref mv, .ref u0, .ref u1, .ref iz, .int 0, .ref mb, .int 0, .int 0, .int 0, .int 0, .int 0, .int 0, .int 0])), (mw, .inl (ct 0, 958, .inl m_w0)), (ov, .inl (ct 1, 1, .inr (.inl (fun _ => 0))))] H) (hD : va_D A [(x, .inr (10, [.ref w, .ref sp, .ref sv, .ref bu, .int 0, .int 0])), (w, .inr (9, [.int 0, .ref w_se, .ref w_cu, .ref w_pr, .int 0, .ref w_ch, .ref w_re, .ref w_lo])), (w_se, .inr (7, [.int 990, .int 100000, .int 100, .int 5, .int 0, .int 5000, .int 600, .int 250, .int 0, .int 5000, .int 1000, .int 0])), (mo, .inr (11, [.ref mw, .ref ma, .ref mf, .ref m0, .ref m1, .ref mu, .ref mv, .ref u0, .ref u1, .ref iz, .int 0, .ref mb, .int 0, .int 0, .int 0, .int 0, .int 0, .int 0, .int 0])), (mw, .inl (ct 0, 958, .inl m_w0)), (ov, .inl (ct 1, 1, .inr (.inl (fun _ => 0))))]) (hS : va_S A s.heap H locs) (hl : lv_has ls 9 [(0, .ref b), (1, .ref x), (2, .ref mo), (3, .ref ov), (4, .ref od), (5, .int 0)]) : W p l e room_1 s m #[Value.ref b] below meth c H locs 157 8795 (lw_Z below #[Value.ref b] s) (F0 m 508 ls []) := by
  obtain ⟨hx, hb, hr, hml, hown, hts, hK, hX, hXs, hbl, hbA, hA, hAr, hlocks⟩ := id C1
  refine lv_aload_n hx hb dL_law_508 rfl (lv_at hl 1 rfl) ?_
  refine lv_aload_n hx hb dL_law_509 rfl (lv_at hl 0 rfl) ?_
  refine lv_iload hx hb dL_law_510 (lv_at hl 5 rfl) ?_
  refine lv_iconst (v := 1) hx hb dL_law_512 (by decide) ?_
  refine lv_iadd hx hb dL_law_513 ?_
  refine cm_cst (y := 1) (by decide) ?_
  refine va_sld hx hb hXs hbl hbA hS (cm_vin (by decide)) dL_law_514 ?_
  refine lv_aload_n hx hb dL_law_515 rfl (lv_at hl 3 rfl) ?_
  refine cm_ki (wr := [(mo, .inr (11, [.ref mw, .ref ma, .ref mf, .ref m0, .ref m1, .ref mu, .ref mv, .ref u0, .ref u1, .ref iz, .int 0, .ref mb, .int 0, .int 0, .int 0, .int 0, .int 0, .int 0, .int 0])), (mw, .inl (ct 0, 958, .inl m_w0))]) (vx_runSW (As := [.ref x, .int (xs (1 : Int32).toNatClampNeg), .ref ov]) (rest := []) ⟨hx, hb, hml, hown, hts⟩ (l_setAmbient l hfl D ct x w sp sv bu w_se w_cu w_pr w_ch w_re w_lo ov (fun _ => 0) (xs (1 : Int32).toNatClampNeg) _) (cm_SW 3 hts kw_L_setAmbient ki_RL kl_RL_208 ks_L_setAmbient kd_L_setAmbient ⟨Nat.le_of_ble_eq_true rfl, Nat.le_of_ble_eq_true rfl⟩) (cm_preS hP hK hD hS hA hX [0, 1, 2, 5] rfl rfl rfl) rfl rfl hl.1 rfl (lv_room (Nat.le_of_ble_eq_true rfl)) dL_law_516 ⟨Nat.le_of_ble_eq_true rfl, Nat.le_of_ble_eq_true rfl⟩) hP hD hS hA [0, 1, 2, 5] [3, 4] rfl rfl rfl (by decide) (fun r_1 u H locs hw_2 hP hD hS => ?_)
  obtain ⟨g_3, rfl⟩ : ∃ z, z = u := ⟨_, rfl⟩
  have hw_2 : (r_1 = 0 ∧ (0 ≤ (xs (1 : Int32).toNatClampNeg) ∧ (xs (1 : Int32).toNatClampNeg) ≤ 500) ∧ g_3 (0 : Int32).toNatClampNeg = 250) ∨ (r_1 = 1 ∧ ((xs (1 : Int32).toNatClampNeg) < 0 ∨ 500 < (xs (1 : Int32).toNatClampNeg))) := hw_2
  have hP : va_P D vwCl [(mo, .inr (11, [.ref mw, .ref ma, .ref mf, .ref m0, .ref m1, .ref mu, .ref mv, .ref u0, .ref u1, .ref iz, .int 0, .ref mb, .int 0, .int 0, .int 0, .int 0, .int 0, .int 0, .int 0])), (mw, .inl (ct 0, 958, .inl m_w0)), (ov, .inl (ct 1, 1, .inr (.inl g_3)))] H := hP
  have hD : va_D A [(mo, .inr (11, [.ref mw, .ref ma, .ref mf, .ref m0, .ref m1, .ref mu, .ref mv, .ref u0, .ref u1, .ref iz, .int 0, .ref mb, .int 0, .int 0, .int 0, .int 0, .int 0, .int 0, .int 0])), (mw, .inl (ct 0, 958, .inl m_w0)), (ov, .inl (ct 1, 1, .inr (.inl g_3)))] := hD
  refine W.widen (k := 158) (n := 8801) (Nat.le_of_ble_eq_true rfl) (Nat.le_of_ble_eq_true rfl) ?_
  refine lv_istore (lv' := [(6, .int r_1), (0, .ref b), (1, .ref x), (2, .ref mo), (3, .ref ov), (4, .ref od), (5, .int 0)]) hx hb dL_law_519 hl (by decide) rfl (fun ls hl => ?_)
  refine lv_aload_n hx hb dL_law_521 rfl (lv_at hl 3 rfl) ?_
  refine lv_aload_n hx hb dL_law_522 rfl (lv_at hl 1 rfl) ?_
  refine lv_iload hx hb dL_law_523 (lv_at hl 6 rfl) ?_
  refine lv_iconst (v := 1) hx hb dL_law_525 (by decide) ?_
  refine lv_iadd hx hb dL_law_526 ?_
  refine cm_cst (y := 1) (by decide) ?_
  refine va_sld hx hb hXs hbl hbA hS (cm_vin (by decide)) dL_law_527 ?_
  refine cm_ki (wr := [(ov, .inl (ct 1, 1, .inr (.inl g_3)))]) (va_runV (As := [.int (xs (1 : Int32).toNatClampNeg)]) (rest := []) ⟨hx, hb, hml, hown, hts⟩ (m_setAmbient_0 l D ct mo mw ma mf m0 m1 mu mv u0 u1 iz mb (xs (1 : Int32).toNatClampNeg) _) (cm_V 1 hts kc_X11_setAmbient ki_RX11 kl_RL_210 kv_X11_setAmbient kx_X11_setAmbient kd_X11_setAmbient ⟨Nat.le_of_ble_eq_true rfl, Nat.le_of_ble_eq_true rfl⟩) (cm_preV hP hK hD hS hA hX [0, 1] rfl rfl rfl (q0 := 0) (ci := 11) rfl rfl) rfl rfl hl.1 rfl (lv_room (Nat.le_of_ble_eq_true rfl)) dL_law_528 ⟨Nat.le_of_ble_eq_true rfl, Nat.le_of_ble_eq_true rfl⟩) hP hD hS hA [0, 1] [2] rfl rfl rfl (by decide) (fun r_4 u H locs hw_5 hP hD hS => ?_)
  obtain ⟨th_6, rfl⟩ : ∃ z, z = u := ⟨_, rfl⟩
  have hw_5 : (th_6 = 0 ∧ (0 ≤ (xs (1 : Int32).toNatClampNeg) ∧ (xs (1 : Int32).toNatClampNeg) ≤ 500) ∧ r_4 = 250) ∨ (th_6 = 1 ∧ ((xs (1 : Int32).toNatClampNeg) < 0 ∨ 500 < (xs (1 : Int32).toNatClampNeg))) := hw_5
  have hP : va_P D vwCl [(ov, .inl (ct 1, 1, .inr (.inl g_3))), (mo, .inr (11, [.ref mw, .ref ma, .ref mf, .ref m0, .ref m1, .ref mu, .ref mv, .ref u0, .ref u1, .ref iz, .int th_6, .ref mb, .int 0, .int 0, .int 0, .int 0, .int 0, .int 0, .int 0]))] H := hP
  have hD : va_D A [(ov, .inl (ct 1, 1, .inr (.inl g_3))), (mo, .inr (11, [.ref mw, .ref ma, .ref mf, .ref m0, .ref m1, .ref mu, .ref mv, .ref u0, .ref u1, .ref iz, .int th_6, .ref mb, .int 0, .int 0, .int 0, .int 0, .int 0, .int 0, .int 0]))] := hD
  refine lv_istore (lv' := [(7, .int r_4), (6, .int r_1), (0, .ref b), (1, .ref x), (2, .ref mo), (3, .ref ov), (4, .ref od), (5, .int 0)]) hx hb dL_law_531 hl (by decide) rfl (fun ls hl => ?_)
  rcases hw_2 with ⟨rfl, hq1, hg⟩ | ⟨rfl, hq1⟩
  · rcases hw_5 with ⟨rfl, hq2, rfl⟩ | ⟨rfl, hq2⟩
    · refine lv_aload_n hx hb dL_law_533 rfl (lv_at hl 4 rfl) ?_
      refine cm_ki (wr := [(ov, .inl (ct 1, 1, .inr (.inl g_3)))]) (va_runV (As := []) (rest := []) ⟨hx, hb, hml, hown, hts⟩ (m_thrown l D ct mo mw ma mf m0 m1 mu mv u0 u1 iz mb 0 _) (cm_V 0 hts kc_X11_thrown ki_RX11 kl_RL_202 kv_X11_thrown kx_X11_thrown kd_X11_thrown ⟨Nat.le_of_ble_eq_true rfl, Nat.le_of_ble_eq_true rfl⟩) (cm_preV hP hK hD hS hA hX [1] rfl rfl rfl (q0 := 1) (ci := 11) rfl rfl) rfl rfl hl.1 rfl (lv_room (Nat.le_of_ble_eq_true rfl)) dL_law_534 ⟨Nat.le_of_ble_eq_true rfl, Nat.le_of_ble_eq_true rfl⟩) hP hD hS hA [1] [0] rfl rfl rfl (by decide) (fun r_7 u H locs hw_8 hP hD hS => ?_)
      have hw_8 : r_7 = 0 := hw_8
      obtain rfl := hw_8
      have hP : va_P D vwCl [(ov, .inl (ct 1, 1, .inr (.inl g_3))), (mo, .inr (11, [.ref mw, .ref ma, .ref mf, .ref m0, .ref m1, .ref mu, .ref mv, .ref u0, .ref u1, .ref iz, .int 0, .ref mb, .int 0, .int 0, .int 0, .int 0, .int 0, .int 0, .int 0]))] H := hP
      have hD : va_D A [(ov, .inl (ct 1, 1, .inr (.inl g_3))), (mo, .inr (11, [.ref mw, .ref ma, .ref mf, .ref m0, .ref m1, .ref mu, .ref mv, .ref u0, .ref u1, .ref iz, .int 0, .ref mb, .int 0, .int 0, .int 0, .int 0, .int 0, .int 0, .int 0]))] := hD
      refine lv_iload hx hb dL_law_537 (lv_at hl 1 rfl) ?_
      refine lv_icmp_eq (tgt := 544) hx hb dL_law_539 (by decide) (fun _ => ?_) (fun hc => absurd (by decide) hc)
      refine lv_iload hx hb dL_law_544 (lv_at hl 1 rfl) ?_
      refine lv_if_ne (tgt := 561) hx hb dL_law_546 (by decide) (fun hc => absurd (by decide) hc) (fun _ => ?_)
      refine lv_aload_n hx hb dL_law_549 rfl (lv_at hl 5 rfl) ?_
      refine lv_iconst (v := 0) hx hb dL_law_550 (by decide) ?_
      refine va_lald hx hb hK hP 0 1 rfl rfl (cm_vin (by decide)) dL_law_551 ?_
      refine cm_cstl (y := 250) hg ?_
      refine lv_iload hx hb dL_law_552 (lv_at hl 0 rfl) ?_
      refine lv_i2l (v := 250) hx hb dL_law_554 (by decide) ?_
      refine W.lcmp hx hb dL_law_555 ?_
      refine cm_cst (y := 0) (by decide) ?_
      refine lv_if_eq (tgt := 561) hx hb dL_law_556 (by decide) (fun _ => ?_) (fun hc => absurd (by decide) hc)
      refine lv_goto (tgt := 3623) hx hb dL_law_561 (by decide) ?_
      exact law_end C1 hS (lv_sub hl [2, 7] rfl) (Nat.le_of_ble_eq_true rfl) (Nat.le_of_ble_eq_true rfl)
    · exact (cm_no hq1 hq2).elim
  · rcases hw_5 with ⟨rfl, hq2, rfl⟩ | ⟨rfl, hq2⟩
    · exact (cm_no hq2 hq1).elim
    · refine lv_aload_n hx hb dL_law_533 rfl (lv_at hl 4 rfl) ?_
      refine cm_ki (wr := [(ov, .inl (ct 1, 1, .inr (.inl g_3)))]) (va_runV (As := []) (rest := []) ⟨hx, hb, hml, hown, hts⟩ (m_thrown l D ct mo mw ma mf m0 m1 mu mv u0 u1 iz mb 1 _) (cm_V 0 hts kc_X11_thrown ki_RX11 kl_RL_202 kv_X11_thrown kx_X11_thrown kd_X11_thrown ⟨Nat.le_of_ble_eq_true rfl, Nat.le_of_ble_eq_true rfl⟩) (cm_preV hP hK hD hS hA hX [1] rfl rfl rfl (q0 := 1) (ci := 11) rfl rfl) rfl rfl hl.1 rfl (lv_room (Nat.le_of_ble_eq_true rfl)) dL_law_534 ⟨Nat.le_of_ble_eq_true rfl, Nat.le_of_ble_eq_true rfl⟩) hP hD hS hA [1] [0] rfl rfl rfl (by decide) (fun r_9 u H locs hw_10 hP hD hS => ?_)
      have hw_10 : r_9 = 1 := hw_10
      obtain rfl := hw_10
      have hP : va_P D vwCl [(ov, .inl (ct 1, 1, .inr (.inl g_3))), (mo, .inr (11, [.ref mw, .ref ma, .ref mf, .ref m0, .ref m1, .ref mu, .ref mv, .ref u0, .ref u1, .ref iz, .int 1, .ref mb, .int 0, .int 0, .int 0, .int 0, .int 0, .int 0, .int 0]))] H := hP
      have hD : va_D A [(ov, .inl (ct 1, 1, .inr (.inl g_3))), (mo, .inr (11, [.ref mw, .ref ma, .ref mf, .ref m0, .ref m1, .ref mu, .ref mv, .ref u0, .ref u1, .ref iz, .int 1, .ref mb, .int 0, .int 0, .int 0, .int 0, .int 0, .int 0, .int 0]))] := hD
      refine lv_iload hx hb dL_law_537 (lv_at hl 1 rfl) ?_
      refine lv_icmp_eq (tgt := 544) hx hb dL_law_539 (by decide) (fun _ => ?_) (fun hc => absurd (by decide) hc)
      refine lv_iload hx hb dL_law_544 (lv_at hl 1 rfl) ?_
      refine lv_if_ne (tgt := 561) hx hb dL_law_546 (by decide) (fun _ => ?_) (fun hc => absurd hc (by decide))
      refine lv_goto (tgt := 3623) hx hb dL_law_561 (by decide) ?_
      exact law_end C1 hS (lv_sub hl [2, 7] rfl) (Nat.le_of_ble_eq_true rfl) (Nat.le_of_ble_eq_true rfl)
theorem dL_law_564 : decode cL_law 564 = .ok (.aload_n 1, 1) := by decide +kernel
theorem dL_law_565 : decode cL_law 565 = .ok (.aload_n 0, 1) := by decide +kernel
theorem dL_law_566 : decode cL_law 566 = .ok (.iload 5, 2) := by decide +kernel
theorem dL_law_568 : decode cL_law 568 = .ok (.iconst 1, 1) := by decide +kernel
theorem dL_law_569 : decode cL_law 569 = .ok (.iadd, 1) := by decide +kernel
theorem dL_law_570 : decode cL_law 570 = .ok (.iaload, 1) := by decide +kernel
theorem dL_law_571 : decode cL_law 571 = .ok (.aload_n 0, 1) := by decide +kernel
theorem dL_law_572 : decode cL_law 572 = .ok (.iload 5, 2) := by decide +kernel
theorem dL_law_574 : decode cL_law 574 = .ok (.iconst 2, 1) := by decide +kernel
theorem dL_law_575 : decode cL_law 575 = .ok (.iadd, 1) := by decide +kernel
theorem dL_law_576 : decode cL_law 576 = .ok (.iaload, 1) := by decide +kernel
theorem dL_law_577 : decode cL_law 577 = .ok (.aload_n 3, 1) := by decide +kernel
theorem dL_law_578 : decode cL_law 578 = .ok (.invokestatic 211, 3) := by decide +kernel
theorem dL_law_581 : decode cL_law 581 = .ok (.istore 6, 2) := by decide +kernel
theorem dL_law_583 : decode cL_law 583 = .ok (.aload_n 2, 1) := by decide +kernel
theorem dL_law_584 : decode cL_law 584 = .ok (.aload_n 0, 1) := by decide +kernel
theorem dL_law_585 : decode cL_law 585 = .ok (.iload 5, 2) := by decide +kernel
theorem dL_law_587 : decode cL_law 587 = .ok (.iconst 1, 1) := by decide +kernel
theorem dL_law_588 : decode cL_law 588 = .ok (.iadd, 1) := by decide +kernel
theorem dL_law_589 : decode cL_law 589 = .ok (.iaload, 1) := by decide +kernel
theorem dL_law_590 : decode cL_law 590 = .ok (.aload_n 0, 1) := by decide +kernel
theorem dL_law_591 : decode cL_law 591 = .ok (.iload 5, 2) := by decide +kernel
theorem dL_law_593 : decode cL_law 593 = .ok (.iconst 2, 1) := by decide +kernel
theorem dL_law_594 : decode cL_law 594 = .ok (.iadd, 1) := by decide +kernel
theorem dL_law_595 : decode cL_law 595 = .ok (.iaload, 1) := by decide +kernel
theorem dL_law_596 : decode cL_law 596 = .ok (.invokevirtual 214, 3) := by decide +kernel
theorem dL_law_599 : decode cL_law 599 = .ok (.istore 7, 2) := by decide +kernel
theorem dL_law_601 : decode cL_law 601 = .ok (.aload_n 2, 1) := by decide +kernel
theorem dL_law_602 : decode cL_law 602 = .ok (.invokevirtual 202, 3) := by decide +kernel
theorem dL_law_605 : decode cL_law 605 = .ok (.iload 6, 2) := by decide +kernel
theorem dL_law_607 : decode cL_law 607 = .ok (.if_icmp .eq 5, 3) := by decide +kernel
theorem dL_law_612 : decode cL_law 612 = .ok (.iload 6, 2) := by decide +kernel
theorem dL_law_614 : decode cL_law 614 = .ok (.ifCond .ne 15, 3) := by decide +kernel
theorem dL_law_617 : decode cL_law 617 = .ok (.aload_n 3, 1) := by decide +kernel
theorem dL_law_618 : decode cL_law 618 = .ok (.iconst 0, 1) := by decide +kernel
theorem dL_law_619 : decode cL_law 619 = .ok (.laload, 1) := by decide +kernel
theorem dL_law_620 : decode cL_law 620 = .ok (.iload 7, 2) := by decide +kernel
theorem dL_law_622 : decode cL_law 622 = .ok (.i2l, 1) := by decide +kernel
theorem dL_law_623 : decode cL_law 623 = .ok (.lcmp, 1) := by decide +kernel
theorem dL_law_624 : decode cL_law 624 = .ok (.ifCond .eq 5, 3) := by decide +kernel
theorem dL_law_629 : decode cL_law 629 = .ok (.goto 2994, 3) := by decide +kernel
set_option maxRecDepth 100000 in
set_option maxHeartbeats 4000000 in
theorem law_7 {p : Program} {l : Launch} {e : Env} {s : State} {m : MethodId} {below : List Frame} {meth : Method} {c : Code} {D : va_G} {ct : Nat → ClassId} {A : Nat → Prop} {b : Nat} {xs : Nat → Int32} {H : Heap} {locs : List Loc} {ls : Array Slot} (hfl : l.stackTraces = false) (C1 : cmL p s m meth c D ct A b 4 xs) (x : Nat) (w : Nat) (sp : Nat) (sv : Nat) (bu : Nat) (w_se : Nat) (w_cu : Nat) (w_pr : Nat) (w_ch : Nat) (w_re : Nat) (w_lo : Nat) (mo : Nat) (mw : Nat) (ma : Nat) (mf : Nat) (m0 : Nat) (m1 : Nat) (mu : Nat) (mv : Nat) (u0 : Nat) (u1 : Nat) (iz : Nat) (mb : Nat) (ov : Nat) (od : Nat) (hP : va_P D vwCl [(x, .inr (10, [.ref w, .ref sp, .ref sv, .ref bu, .int 0, .int 0])), (w, .inr (9, [.int 0, .ref w_se, .ref w_cu, .ref w_pr, .int 0, .ref w_ch, .ref w_re, .ref w_lo])), (w_se, .inr (7, [.int 990, .int 100000, .int 100, .int 5, .int 0, .int 5000, .int 600, .int 250, .int 0, .int 5000, .int 1000, .int 0])), (mo, .inr (11, [.ref mw, .ref ma, .ref mf, .ref m0, .ref m1, .ref mu, .ref mv, .ref u0, .ref u1, .ref iz, .int 0, .ref mb, .int 0, .int 0, .int 0, .int 0, .int 0, .int 0, .int 0])), (mw, .inl (ct 0, 958, .inl m_w0)), (ov, .inl (ct 1, 1, .inr (.inl (fun _ => 0))))] H) (hD : va_D A [(x, .inr (10, [.ref w, .ref sp, .ref sv, .ref bu, .int 0, .int 0])), (w, .inr (9, [.int 0, .ref w_se, .ref w_cu, .ref w_pr, .int 0, .ref w_ch, .ref w_re, .ref w_lo])), (w_se, .inr (7, [.int 990, .int 100000, .int 100, .int 5, .int 0, .int 5000, .int 600, .int 250, .int 0, .int 5000, .int 1000, .int 0])), (mo, .inr (11, [.ref mw, .ref ma, .ref mf, .ref m0, .ref m1, .ref mu, .ref mv, .ref u0, .ref u1, .ref iz, .int 0, .ref mb, .int 0, .int 0, .int 0, .int 0, .int 0, .int 0, .int 0])), (mw, .inl (ct 0, 958, .inl m_w0)), (ov, .inl (ct 1, 1, .inr (.inl (fun _ => 0))))]) (hS : va_S A s.heap H locs) (hl : lv_has ls 9 [(0, .ref b), (1, .ref x), (2, .ref mo), (3, .ref ov), (4, .ref od), (5, .int 0)]) : W p l e room_1 s m #[Value.ref b] below meth c H locs 157 8795 (lw_Z below #[Value.ref b] s) (F0 m 564 ls []) := by
  obtain ⟨hx, hb, hr, hml, hown, hts, hK, hX, hXs, hbl, hbA, hA, hAr, hlocks⟩ := id C1
  refine lv_aload_n hx hb dL_law_564 rfl (lv_at hl 1 rfl) ?_
  refine lv_aload_n hx hb dL_law_565 rfl (lv_at hl 0 rfl) ?_
  refine lv_iload hx hb dL_law_566 (lv_at hl 5 rfl) ?_
  refine lv_iconst (v := 1) hx hb dL_law_568 (by decide) ?_
  refine lv_iadd hx hb dL_law_569 ?_
  refine cm_cst (y := 1) (by decide) ?_
  refine va_sld hx hb hXs hbl hbA hS (cm_vin (by decide)) dL_law_570 ?_
  refine lv_aload_n hx hb dL_law_571 rfl (lv_at hl 0 rfl) ?_
  refine lv_iload hx hb dL_law_572 (lv_at hl 5 rfl) ?_
  refine lv_iconst (v := 2) hx hb dL_law_574 (by decide) ?_
  refine lv_iadd hx hb dL_law_575 ?_
  refine cm_cst (y := 2) (by decide) ?_
  refine va_sld hx hb hXs hbl hbA hS (cm_vin (by decide)) dL_law_576 ?_
  refine lv_aload_n hx hb dL_law_577 rfl (lv_at hl 3 rfl) ?_
  refine cm_ki (wr := [(mo, .inr (11, [.ref mw, .ref ma, .ref mf, .ref m0, .ref m1, .ref mu, .ref mv, .ref u0, .ref u1, .ref iz, .int 0, .ref mb, .int 0, .int 0, .int 0, .int 0, .int 0, .int 0, .int 0])), (mw, .inl (ct 0, 958, .inl m_w0))]) (vx_runSW (As := [.ref x, .int (xs (1 : Int32).toNatClampNeg), .int (xs (2 : Int32).toNatClampNeg), .ref ov]) (rest := []) ⟨hx, hb, hml, hown, hts⟩ (l_setLimits l hfl D ct x w sp sv bu w_se w_cu w_pr w_ch w_re w_lo ov (fun _ => 0) (xs (1 : Int32).toNatClampNeg) (xs (2 : Int32).toNatClampNeg) _) (cm_SW 4 hts kw_L_setLimits ki_RL kl_RL_211 ks_L_setLimits kd_L_setLimits ⟨Nat.le_of_ble_eq_true rfl, Nat.le_of_ble_eq_true rfl⟩) (cm_preS hP hK hD hS hA hX [0, 1, 2, 5] rfl rfl rfl) rfl rfl hl.1 rfl (lv_room (Nat.le_of_ble_eq_true rfl)) dL_law_578 ⟨Nat.le_of_ble_eq_true rfl, Nat.le_of_ble_eq_true rfl⟩) hP hD hS hA [0, 1, 2, 5] [3, 4] rfl rfl rfl (by decide) (fun r_1 u H locs hw_2 hP hD hS => ?_)
  obtain ⟨g_3, rfl⟩ : ∃ z, z = u := ⟨_, rfl⟩
  have hw_2 : (r_1 = 0 ∧ ((0 ≤ (xs (1 : Int32).toNatClampNeg) ∧ (xs (1 : Int32).toNatClampNeg) ≤ 5000) ∧ ((xs (1 : Int32).toNatClampNeg) ≤ (xs (2 : Int32).toNatClampNeg) ∧ (xs (2 : Int32).toNatClampNeg) ≤ 5000)) ∧ g_3 (0 : Int32).toNatClampNeg = 0) ∨ (r_1 = 1 ∧ ((xs (1 : Int32).toNatClampNeg) < 0 ∨ 5000 < (xs (1 : Int32).toNatClampNeg) ∨ (xs (2 : Int32).toNatClampNeg) < (xs (1 : Int32).toNatClampNeg) ∨ 5000 < (xs (2 : Int32).toNatClampNeg))) := hw_2
  have hP : va_P D vwCl [(mo, .inr (11, [.ref mw, .ref ma, .ref mf, .ref m0, .ref m1, .ref mu, .ref mv, .ref u0, .ref u1, .ref iz, .int 0, .ref mb, .int 0, .int 0, .int 0, .int 0, .int 0, .int 0, .int 0])), (mw, .inl (ct 0, 958, .inl m_w0)), (ov, .inl (ct 1, 1, .inr (.inl g_3)))] H := hP
  have hD : va_D A [(mo, .inr (11, [.ref mw, .ref ma, .ref mf, .ref m0, .ref m1, .ref mu, .ref mv, .ref u0, .ref u1, .ref iz, .int 0, .ref mb, .int 0, .int 0, .int 0, .int 0, .int 0, .int 0, .int 0])), (mw, .inl (ct 0, 958, .inl m_w0)), (ov, .inl (ct 1, 1, .inr (.inl g_3)))] := hD
  refine W.widen (k := 159) (n := 8807) (Nat.le_of_ble_eq_true rfl) (Nat.le_of_ble_eq_true rfl) ?_
  refine lv_istore (lv' := [(6, .int r_1), (0, .ref b), (1, .ref x), (2, .ref mo), (3, .ref ov), (4, .ref od), (5, .int 0)]) hx hb dL_law_581 hl (by decide) rfl (fun ls hl => ?_)
  refine lv_aload_n hx hb dL_law_583 rfl (lv_at hl 3 rfl) ?_
  refine lv_aload_n hx hb dL_law_584 rfl (lv_at hl 1 rfl) ?_
  refine lv_iload hx hb dL_law_585 (lv_at hl 6 rfl) ?_
  refine lv_iconst (v := 1) hx hb dL_law_587 (by decide) ?_
  refine lv_iadd hx hb dL_law_588 ?_
  refine cm_cst (y := 1) (by decide) ?_
  refine va_sld hx hb hXs hbl hbA hS (cm_vin (by decide)) dL_law_589 ?_
  refine lv_aload_n hx hb dL_law_590 rfl (lv_at hl 1 rfl) ?_
  refine lv_iload hx hb dL_law_591 (lv_at hl 6 rfl) ?_
  refine lv_iconst (v := 2) hx hb dL_law_593 (by decide) ?_
  refine lv_iadd hx hb dL_law_594 ?_
  refine cm_cst (y := 2) (by decide) ?_
  refine va_sld hx hb hXs hbl hbA hS (cm_vin (by decide)) dL_law_595 ?_
  refine cm_ki (wr := [(ov, .inl (ct 1, 1, .inr (.inl g_3)))]) (va_runV (As := [.int (xs (1 : Int32).toNatClampNeg), .int (xs (2 : Int32).toNatClampNeg)]) (rest := []) ⟨hx, hb, hml, hown, hts⟩ (m_setLimits_0 l D ct mo mw ma mf m0 m1 mu mv u0 u1 iz mb (xs (1 : Int32).toNatClampNeg) (xs (2 : Int32).toNatClampNeg) _) (cm_V 2 hts kc_X11_setLimits ki_RX11 kl_RL_214 kv_X11_setLimits kx_X11_setLimits kd_X11_setLimits ⟨Nat.le_of_ble_eq_true rfl, Nat.le_of_ble_eq_true rfl⟩) (cm_preV hP hK hD hS hA hX [0, 1] rfl rfl rfl (q0 := 0) (ci := 11) rfl rfl) rfl rfl hl.1 rfl (lv_room (Nat.le_of_ble_eq_true rfl)) dL_law_596 ⟨Nat.le_of_ble_eq_true rfl, Nat.le_of_ble_eq_true rfl⟩) hP hD hS hA [0, 1] [2] rfl rfl rfl (by decide) (fun r_4 u H locs hw_5 hP hD hS => ?_)
  obtain ⟨th_6, rfl⟩ : ∃ z, z = u := ⟨_, rfl⟩
  have hw_5 : (th_6 = 0 ∧ ((0 ≤ (xs (1 : Int32).toNatClampNeg) ∧ (xs (1 : Int32).toNatClampNeg) ≤ 5000) ∧ ((xs (1 : Int32).toNatClampNeg) ≤ (xs (2 : Int32).toNatClampNeg) ∧ (xs (2 : Int32).toNatClampNeg) ≤ 5000)) ∧ r_4 = 0) ∨ (th_6 = 1 ∧ ((xs (1 : Int32).toNatClampNeg) < 0 ∨ 5000 < (xs (1 : Int32).toNatClampNeg) ∨ (xs (2 : Int32).toNatClampNeg) < (xs (1 : Int32).toNatClampNeg) ∨ 5000 < (xs (2 : Int32).toNatClampNeg))) := hw_5
  have hP : va_P D vwCl [(ov, .inl (ct 1, 1, .inr (.inl g_3))), (mo, .inr (11, [.ref mw, .ref ma, .ref mf, .ref m0, .ref m1, .ref mu, .ref mv, .ref u0, .ref u1, .ref iz, .int th_6, .ref mb, .int 0, .int 0, .int 0, .int 0, .int 0, .int 0, .int 0]))] H := hP
  have hD : va_D A [(ov, .inl (ct 1, 1, .inr (.inl g_3))), (mo, .inr (11, [.ref mw, .ref ma, .ref mf, .ref m0, .ref m1, .ref mu, .ref mv, .ref u0, .ref u1, .ref iz, .int th_6, .ref mb, .int 0, .int 0, .int 0, .int 0, .int 0, .int 0, .int 0]))] := hD
  refine lv_istore (lv' := [(7, .int r_4), (6, .int r_1), (0, .ref b), (1, .ref x), (2, .ref mo), (3, .ref ov), (4, .ref od), (5, .int 0)]) hx hb dL_law_599 hl (by decide) rfl (fun ls hl => ?_)
  rcases hw_2 with ⟨rfl, hq1, hg⟩ | ⟨rfl, hq1⟩
  · rcases hw_5 with ⟨rfl, hq2, rfl⟩ | ⟨rfl, hq2⟩
    · refine lv_aload_n hx hb dL_law_601 rfl (lv_at hl 4 rfl) ?_
      refine cm_ki (wr := [(ov, .inl (ct 1, 1, .inr (.inl g_3)))]) (va_runV (As := []) (rest := []) ⟨hx, hb, hml, hown, hts⟩ (m_thrown l D ct mo mw ma mf m0 m1 mu mv u0 u1 iz mb 0 _) (cm_V 0 hts kc_X11_thrown ki_RX11 kl_RL_202 kv_X11_thrown kx_X11_thrown kd_X11_thrown ⟨Nat.le_of_ble_eq_true rfl, Nat.le_of_ble_eq_true rfl⟩) (cm_preV hP hK hD hS hA hX [1] rfl rfl rfl (q0 := 1) (ci := 11) rfl rfl) rfl rfl hl.1 rfl (lv_room (Nat.le_of_ble_eq_true rfl)) dL_law_602 ⟨Nat.le_of_ble_eq_true rfl, Nat.le_of_ble_eq_true rfl⟩) hP hD hS hA [1] [0] rfl rfl rfl (by decide) (fun r_7 u H locs hw_8 hP hD hS => ?_)
      have hw_8 : r_7 = 0 := hw_8
      obtain rfl := hw_8
      have hP : va_P D vwCl [(ov, .inl (ct 1, 1, .inr (.inl g_3))), (mo, .inr (11, [.ref mw, .ref ma, .ref mf, .ref m0, .ref m1, .ref mu, .ref mv, .ref u0, .ref u1, .ref iz, .int 0, .ref mb, .int 0, .int 0, .int 0, .int 0, .int 0, .int 0, .int 0]))] H := hP
      have hD : va_D A [(ov, .inl (ct 1, 1, .inr (.inl g_3))), (mo, .inr (11, [.ref mw, .ref ma, .ref mf, .ref m0, .ref m1, .ref mu, .ref mv, .ref u0, .ref u1, .ref iz, .int 0, .ref mb, .int 0, .int 0, .int 0, .int 0, .int 0, .int 0, .int 0]))] := hD
      refine lv_iload hx hb dL_law_605 (lv_at hl 1 rfl) ?_
      refine lv_icmp_eq (tgt := 612) hx hb dL_law_607 (by decide) (fun _ => ?_) (fun hc => absurd (by decide) hc)
      refine lv_iload hx hb dL_law_612 (lv_at hl 1 rfl) ?_
      refine lv_if_ne (tgt := 629) hx hb dL_law_614 (by decide) (fun hc => absurd (by decide) hc) (fun _ => ?_)
      refine lv_aload_n hx hb dL_law_617 rfl (lv_at hl 5 rfl) ?_
      refine lv_iconst (v := 0) hx hb dL_law_618 (by decide) ?_
      refine va_lald hx hb hK hP 0 1 rfl rfl (cm_vin (by decide)) dL_law_619 ?_
      refine cm_cstl (y := 0) hg ?_
      refine lv_iload hx hb dL_law_620 (lv_at hl 0 rfl) ?_
      refine lv_i2l (v := 0) hx hb dL_law_622 (by decide) ?_
      refine W.lcmp hx hb dL_law_623 ?_
      refine cm_cst (y := 0) (by decide) ?_
      refine lv_if_eq (tgt := 629) hx hb dL_law_624 (by decide) (fun _ => ?_) (fun hc => absurd (by decide) hc)
      refine lv_goto (tgt := 3623) hx hb dL_law_629 (by decide) ?_
      exact law_end C1 hS (lv_sub hl [2, 7] rfl) (Nat.le_of_ble_eq_true rfl) (Nat.le_of_ble_eq_true rfl)
    · exact (cm_no4 hq1 hq2).elim
  · rcases hw_5 with ⟨rfl, hq2, rfl⟩ | ⟨rfl, hq2⟩
    · exact (cm_no4 hq2 hq1).elim
    · refine lv_aload_n hx hb dL_law_601 rfl (lv_at hl 4 rfl) ?_
      refine cm_ki (wr := [(ov, .inl (ct 1, 1, .inr (.inl g_3)))]) (va_runV (As := []) (rest := []) ⟨hx, hb, hml, hown, hts⟩ (m_thrown l D ct mo mw ma mf m0 m1 mu mv u0 u1 iz mb 1 _) (cm_V 0 hts kc_X11_thrown ki_RX11 kl_RL_202 kv_X11_thrown kx_X11_thrown kd_X11_thrown ⟨Nat.le_of_ble_eq_true rfl, Nat.le_of_ble_eq_true rfl⟩) (cm_preV hP hK hD hS hA hX [1] rfl rfl rfl (q0 := 1) (ci := 11) rfl rfl) rfl rfl hl.1 rfl (lv_room (Nat.le_of_ble_eq_true rfl)) dL_law_602 ⟨Nat.le_of_ble_eq_true rfl, Nat.le_of_ble_eq_true rfl⟩) hP hD hS hA [1] [0] rfl rfl rfl (by decide) (fun r_9 u H locs hw_10 hP hD hS => ?_)
      have hw_10 : r_9 = 1 := hw_10
      obtain rfl := hw_10
      have hP : va_P D vwCl [(ov, .inl (ct 1, 1, .inr (.inl g_3))), (mo, .inr (11, [.ref mw, .ref ma, .ref mf, .ref m0, .ref m1, .ref mu, .ref mv, .ref u0, .ref u1, .ref iz, .int 1, .ref mb, .int 0, .int 0, .int 0, .int 0, .int 0, .int 0, .int 0]))] H := hP
      have hD : va_D A [(ov, .inl (ct 1, 1, .inr (.inl g_3))), (mo, .inr (11, [.ref mw, .ref ma, .ref mf, .ref m0, .ref m1, .ref mu, .ref mv, .ref u0, .ref u1, .ref iz, .int 1, .ref mb, .int 0, .int 0, .int 0, .int 0, .int 0, .int 0, .int 0]))] := hD
      refine lv_iload hx hb dL_law_605 (lv_at hl 1 rfl) ?_
      refine lv_icmp_eq (tgt := 612) hx hb dL_law_607 (by decide) (fun _ => ?_) (fun hc => absurd (by decide) hc)
      refine lv_iload hx hb dL_law_612 (lv_at hl 1 rfl) ?_
      refine lv_if_ne (tgt := 629) hx hb dL_law_614 (by decide) (fun _ => ?_) (fun hc => absurd hc (by decide))
      refine lv_goto (tgt := 3623) hx hb dL_law_629 (by decide) ?_
      exact law_end C1 hS (lv_sub hl [2, 7] rfl) (Nat.le_of_ble_eq_true rfl) (Nat.le_of_ble_eq_true rfl)
theorem dL_law_632 : decode cL_law 632 = .ok (.aload_n 1, 1) := by decide +kernel
theorem dL_law_633 : decode cL_law 633 = .ok (.aload_n 0, 1) := by decide +kernel
theorem dL_law_634 : decode cL_law 634 = .ok (.iload 5, 2) := by decide +kernel
theorem dL_law_636 : decode cL_law 636 = .ok (.iconst 1, 1) := by decide +kernel
theorem dL_law_637 : decode cL_law 637 = .ok (.iadd, 1) := by decide +kernel
theorem dL_law_638 : decode cL_law 638 = .ok (.iaload, 1) := by decide +kernel
theorem dL_law_639 : decode cL_law 639 = .ok (.aload_n 3, 1) := by decide +kernel
theorem dL_law_640 : decode cL_law 640 = .ok (.invokestatic 215, 3) := by decide +kernel
theorem dL_law_643 : decode cL_law 643 = .ok (.istore 6, 2) := by decide +kernel
theorem dL_law_645 : decode cL_law 645 = .ok (.aload_n 2, 1) := by decide +kernel
theorem dL_law_646 : decode cL_law 646 = .ok (.aload_n 0, 1) := by decide +kernel
theorem dL_law_647 : decode cL_law 647 = .ok (.iload 5, 2) := by decide +kernel
theorem dL_law_649 : decode cL_law 649 = .ok (.iconst 1, 1) := by decide +kernel
theorem dL_law_650 : decode cL_law 650 = .ok (.iadd, 1) := by decide +kernel
theorem dL_law_651 : decode cL_law 651 = .ok (.iaload, 1) := by decide +kernel
theorem dL_law_652 : decode cL_law 652 = .ok (.invokevirtual 217, 3) := by decide +kernel
theorem dL_law_655 : decode cL_law 655 = .ok (.istore 7, 2) := by decide +kernel
theorem dL_law_657 : decode cL_law 657 = .ok (.aload_n 2, 1) := by decide +kernel
theorem dL_law_658 : decode cL_law 658 = .ok (.invokevirtual 202, 3) := by decide +kernel
theorem dL_law_661 : decode cL_law 661 = .ok (.iload 6, 2) := by decide +kernel
theorem dL_law_663 : decode cL_law 663 = .ok (.if_icmp .eq 5, 3) := by decide +kernel
theorem dL_law_668 : decode cL_law 668 = .ok (.iload 6, 2) := by decide +kernel
theorem dL_law_670 : decode cL_law 670 = .ok (.ifCond .ne 15, 3) := by decide +kernel
theorem dL_law_673 : decode cL_law 673 = .ok (.aload_n 3, 1) := by decide +kernel
theorem dL_law_674 : decode cL_law 674 = .ok (.iconst 0, 1) := by decide +kernel
theorem dL_law_675 : decode cL_law 675 = .ok (.laload, 1) := by decide +kernel
theorem dL_law_676 : decode cL_law 676 = .ok (.iload 7, 2) := by decide +kernel
theorem dL_law_678 : decode cL_law 678 = .ok (.i2l, 1) := by decide +kernel
theorem dL_law_679 : decode cL_law 679 = .ok (.lcmp, 1) := by decide +kernel
theorem dL_law_680 : decode cL_law 680 = .ok (.ifCond .eq 5, 3) := by decide +kernel
theorem dL_law_685 : decode cL_law 685 = .ok (.goto 2938, 3) := by decide +kernel
set_option maxRecDepth 100000 in
set_option maxHeartbeats 4000000 in
theorem law_8 {p : Program} {l : Launch} {e : Env} {s : State} {m : MethodId} {below : List Frame} {meth : Method} {c : Code} {D : va_G} {ct : Nat → ClassId} {A : Nat → Prop} {b : Nat} {xs : Nat → Int32} {H : Heap} {locs : List Loc} {ls : Array Slot} (hfl : l.stackTraces = false) (C1 : cmL p s m meth c D ct A b 4 xs) (x : Nat) (w : Nat) (sp : Nat) (sv : Nat) (bu : Nat) (w_se : Nat) (w_cu : Nat) (w_pr : Nat) (w_ch : Nat) (w_re : Nat) (w_lo : Nat) (mo : Nat) (mw : Nat) (ma : Nat) (mf : Nat) (m0 : Nat) (m1 : Nat) (mu : Nat) (mv : Nat) (u0 : Nat) (u1 : Nat) (iz : Nat) (mb : Nat) (ov : Nat) (od : Nat) (hP : va_P D vwCl [(x, .inr (10, [.ref w, .ref sp, .ref sv, .ref bu, .int 0, .int 0])), (w, .inr (9, [.int 0, .ref w_se, .ref w_cu, .ref w_pr, .int 0, .ref w_ch, .ref w_re, .ref w_lo])), (w_se, .inr (7, [.int 990, .int 100000, .int 100, .int 5, .int 0, .int 5000, .int 600, .int 250, .int 0, .int 5000, .int 1000, .int 0])), (mo, .inr (11, [.ref mw, .ref ma, .ref mf, .ref m0, .ref m1, .ref mu, .ref mv, .ref u0, .ref u1, .ref iz, .int 0, .ref mb, .int 0, .int 0, .int 0, .int 0, .int 0, .int 0, .int 0])), (mw, .inl (ct 0, 958, .inl m_w0)), (ov, .inl (ct 1, 1, .inr (.inl (fun _ => 0))))] H) (hD : va_D A [(x, .inr (10, [.ref w, .ref sp, .ref sv, .ref bu, .int 0, .int 0])), (w, .inr (9, [.int 0, .ref w_se, .ref w_cu, .ref w_pr, .int 0, .ref w_ch, .ref w_re, .ref w_lo])), (w_se, .inr (7, [.int 990, .int 100000, .int 100, .int 5, .int 0, .int 5000, .int 600, .int 250, .int 0, .int 5000, .int 1000, .int 0])), (mo, .inr (11, [.ref mw, .ref ma, .ref mf, .ref m0, .ref m1, .ref mu, .ref mv, .ref u0, .ref u1, .ref iz, .int 0, .ref mb, .int 0, .int 0, .int 0, .int 0, .int 0, .int 0, .int 0])), (mw, .inl (ct 0, 958, .inl m_w0)), (ov, .inl (ct 1, 1, .inr (.inl (fun _ => 0))))]) (hS : va_S A s.heap H locs) (hl : lv_has ls 9 [(0, .ref b), (1, .ref x), (2, .ref mo), (3, .ref ov), (4, .ref od), (5, .int 0)]) : W p l e room_1 s m #[Value.ref b] below meth c H locs 157 8795 (lw_Z below #[Value.ref b] s) (F0 m 632 ls []) := by
  obtain ⟨hx, hb, hr, hml, hown, hts, hK, hX, hXs, hbl, hbA, hA, hAr, hlocks⟩ := id C1
  refine lv_aload_n hx hb dL_law_632 rfl (lv_at hl 1 rfl) ?_
  refine lv_aload_n hx hb dL_law_633 rfl (lv_at hl 0 rfl) ?_
  refine lv_iload hx hb dL_law_634 (lv_at hl 5 rfl) ?_
  refine lv_iconst (v := 1) hx hb dL_law_636 (by decide) ?_
  refine lv_iadd hx hb dL_law_637 ?_
  refine cm_cst (y := 1) (by decide) ?_
  refine va_sld hx hb hXs hbl hbA hS (cm_vin (by decide)) dL_law_638 ?_
  refine lv_aload_n hx hb dL_law_639 rfl (lv_at hl 3 rfl) ?_
  refine cm_ki (wr := [(mo, .inr (11, [.ref mw, .ref ma, .ref mf, .ref m0, .ref m1, .ref mu, .ref mv, .ref u0, .ref u1, .ref iz, .int 0, .ref mb, .int 0, .int 0, .int 0, .int 0, .int 0, .int 0, .int 0])), (mw, .inl (ct 0, 958, .inl m_w0))]) (vx_runSW (As := [.ref x, .int (xs (1 : Int32).toNatClampNeg), .ref ov]) (rest := []) ⟨hx, hb, hml, hown, hts⟩ (l_setDerate l hfl D ct x w sp sv bu w_se w_cu w_pr w_ch w_re w_lo ov (fun _ => 0) (xs (1 : Int32).toNatClampNeg) _) (cm_SW 3 hts kw_L_setDerate ki_RL kl_RL_215 ks_L_setDerate kd_L_setDerate ⟨Nat.le_of_ble_eq_true rfl, Nat.le_of_ble_eq_true rfl⟩) (cm_preS hP hK hD hS hA hX [0, 1, 2, 5] rfl rfl rfl) rfl rfl hl.1 rfl (lv_room (Nat.le_of_ble_eq_true rfl)) dL_law_640 ⟨Nat.le_of_ble_eq_true rfl, Nat.le_of_ble_eq_true rfl⟩) hP hD hS hA [0, 1, 2, 5] [3, 4] rfl rfl rfl (by decide) (fun r_1 u H locs hw_2 hP hD hS => ?_)
  obtain ⟨g_3, rfl⟩ : ∃ z, z = u := ⟨_, rfl⟩
  have hw_2 : (r_1 = 0 ∧ (0 ≤ (xs (1 : Int32).toNatClampNeg) ∧ (xs (1 : Int32).toNatClampNeg) ≤ 200) ∧ g_3 (0 : Int32).toNatClampNeg = 0) ∨ (r_1 = 1 ∧ ((xs (1 : Int32).toNatClampNeg) < 0 ∨ 200 < (xs (1 : Int32).toNatClampNeg))) := hw_2
  have hP : va_P D vwCl [(mo, .inr (11, [.ref mw, .ref ma, .ref mf, .ref m0, .ref m1, .ref mu, .ref mv, .ref u0, .ref u1, .ref iz, .int 0, .ref mb, .int 0, .int 0, .int 0, .int 0, .int 0, .int 0, .int 0])), (mw, .inl (ct 0, 958, .inl m_w0)), (ov, .inl (ct 1, 1, .inr (.inl g_3)))] H := hP
  have hD : va_D A [(mo, .inr (11, [.ref mw, .ref ma, .ref mf, .ref m0, .ref m1, .ref mu, .ref mv, .ref u0, .ref u1, .ref iz, .int 0, .ref mb, .int 0, .int 0, .int 0, .int 0, .int 0, .int 0, .int 0])), (mw, .inl (ct 0, 958, .inl m_w0)), (ov, .inl (ct 1, 1, .inr (.inl g_3)))] := hD
  refine W.widen (k := 158) (n := 8801) (Nat.le_of_ble_eq_true rfl) (Nat.le_of_ble_eq_true rfl) ?_
  refine lv_istore (lv' := [(6, .int r_1), (0, .ref b), (1, .ref x), (2, .ref mo), (3, .ref ov), (4, .ref od), (5, .int 0)]) hx hb dL_law_643 hl (by decide) rfl (fun ls hl => ?_)
  refine lv_aload_n hx hb dL_law_645 rfl (lv_at hl 3 rfl) ?_
  refine lv_aload_n hx hb dL_law_646 rfl (lv_at hl 1 rfl) ?_
  refine lv_iload hx hb dL_law_647 (lv_at hl 6 rfl) ?_
  refine lv_iconst (v := 1) hx hb dL_law_649 (by decide) ?_
  refine lv_iadd hx hb dL_law_650 ?_
  refine cm_cst (y := 1) (by decide) ?_
  refine va_sld hx hb hXs hbl hbA hS (cm_vin (by decide)) dL_law_651 ?_
  refine cm_ki (wr := [(ov, .inl (ct 1, 1, .inr (.inl g_3)))]) (va_runV (As := [.int (xs (1 : Int32).toNatClampNeg)]) (rest := []) ⟨hx, hb, hml, hown, hts⟩ (m_setDerate_0 l D ct mo mw ma mf m0 m1 mu mv u0 u1 iz mb (xs (1 : Int32).toNatClampNeg) _) (cm_V 1 hts kc_X11_setDerate ki_RX11 kl_RL_217 kv_X11_setDerate kx_X11_setDerate kd_X11_setDerate ⟨Nat.le_of_ble_eq_true rfl, Nat.le_of_ble_eq_true rfl⟩) (cm_preV hP hK hD hS hA hX [0, 1] rfl rfl rfl (q0 := 0) (ci := 11) rfl rfl) rfl rfl hl.1 rfl (lv_room (Nat.le_of_ble_eq_true rfl)) dL_law_652 ⟨Nat.le_of_ble_eq_true rfl, Nat.le_of_ble_eq_true rfl⟩) hP hD hS hA [0, 1] [2] rfl rfl rfl (by decide) (fun r_4 u H locs hw_5 hP hD hS => ?_)
  obtain ⟨th_6, rfl⟩ : ∃ z, z = u := ⟨_, rfl⟩
  have hw_5 : (th_6 = 0 ∧ (0 ≤ (xs (1 : Int32).toNatClampNeg) ∧ (xs (1 : Int32).toNatClampNeg) ≤ 200) ∧ r_4 = 0) ∨ (th_6 = 1 ∧ ((xs (1 : Int32).toNatClampNeg) < 0 ∨ 200 < (xs (1 : Int32).toNatClampNeg))) := hw_5
  have hP : va_P D vwCl [(ov, .inl (ct 1, 1, .inr (.inl g_3))), (mo, .inr (11, [.ref mw, .ref ma, .ref mf, .ref m0, .ref m1, .ref mu, .ref mv, .ref u0, .ref u1, .ref iz, .int th_6, .ref mb, .int 0, .int 0, .int 0, .int 0, .int 0, .int 0, .int 0]))] H := hP
  have hD : va_D A [(ov, .inl (ct 1, 1, .inr (.inl g_3))), (mo, .inr (11, [.ref mw, .ref ma, .ref mf, .ref m0, .ref m1, .ref mu, .ref mv, .ref u0, .ref u1, .ref iz, .int th_6, .ref mb, .int 0, .int 0, .int 0, .int 0, .int 0, .int 0, .int 0]))] := hD
  refine lv_istore (lv' := [(7, .int r_4), (6, .int r_1), (0, .ref b), (1, .ref x), (2, .ref mo), (3, .ref ov), (4, .ref od), (5, .int 0)]) hx hb dL_law_655 hl (by decide) rfl (fun ls hl => ?_)
  rcases hw_2 with ⟨rfl, hq1, hg⟩ | ⟨rfl, hq1⟩
  · rcases hw_5 with ⟨rfl, hq2, rfl⟩ | ⟨rfl, hq2⟩
    · refine lv_aload_n hx hb dL_law_657 rfl (lv_at hl 4 rfl) ?_
      refine cm_ki (wr := [(ov, .inl (ct 1, 1, .inr (.inl g_3)))]) (va_runV (As := []) (rest := []) ⟨hx, hb, hml, hown, hts⟩ (m_thrown l D ct mo mw ma mf m0 m1 mu mv u0 u1 iz mb 0 _) (cm_V 0 hts kc_X11_thrown ki_RX11 kl_RL_202 kv_X11_thrown kx_X11_thrown kd_X11_thrown ⟨Nat.le_of_ble_eq_true rfl, Nat.le_of_ble_eq_true rfl⟩) (cm_preV hP hK hD hS hA hX [1] rfl rfl rfl (q0 := 1) (ci := 11) rfl rfl) rfl rfl hl.1 rfl (lv_room (Nat.le_of_ble_eq_true rfl)) dL_law_658 ⟨Nat.le_of_ble_eq_true rfl, Nat.le_of_ble_eq_true rfl⟩) hP hD hS hA [1] [0] rfl rfl rfl (by decide) (fun r_7 u H locs hw_8 hP hD hS => ?_)
      have hw_8 : r_7 = 0 := hw_8
      obtain rfl := hw_8
      have hP : va_P D vwCl [(ov, .inl (ct 1, 1, .inr (.inl g_3))), (mo, .inr (11, [.ref mw, .ref ma, .ref mf, .ref m0, .ref m1, .ref mu, .ref mv, .ref u0, .ref u1, .ref iz, .int 0, .ref mb, .int 0, .int 0, .int 0, .int 0, .int 0, .int 0, .int 0]))] H := hP
      have hD : va_D A [(ov, .inl (ct 1, 1, .inr (.inl g_3))), (mo, .inr (11, [.ref mw, .ref ma, .ref mf, .ref m0, .ref m1, .ref mu, .ref mv, .ref u0, .ref u1, .ref iz, .int 0, .ref mb, .int 0, .int 0, .int 0, .int 0, .int 0, .int 0, .int 0]))] := hD
      refine lv_iload hx hb dL_law_661 (lv_at hl 1 rfl) ?_
      refine lv_icmp_eq (tgt := 668) hx hb dL_law_663 (by decide) (fun _ => ?_) (fun hc => absurd (by decide) hc)
      refine lv_iload hx hb dL_law_668 (lv_at hl 1 rfl) ?_
      refine lv_if_ne (tgt := 685) hx hb dL_law_670 (by decide) (fun hc => absurd (by decide) hc) (fun _ => ?_)
      refine lv_aload_n hx hb dL_law_673 rfl (lv_at hl 5 rfl) ?_
      refine lv_iconst (v := 0) hx hb dL_law_674 (by decide) ?_
      refine va_lald hx hb hK hP 0 1 rfl rfl (cm_vin (by decide)) dL_law_675 ?_
      refine cm_cstl (y := 0) hg ?_
      refine lv_iload hx hb dL_law_676 (lv_at hl 0 rfl) ?_
      refine lv_i2l (v := 0) hx hb dL_law_678 (by decide) ?_
      refine W.lcmp hx hb dL_law_679 ?_
      refine cm_cst (y := 0) (by decide) ?_
      refine lv_if_eq (tgt := 685) hx hb dL_law_680 (by decide) (fun _ => ?_) (fun hc => absurd (by decide) hc)
      refine lv_goto (tgt := 3623) hx hb dL_law_685 (by decide) ?_
      exact law_end C1 hS (lv_sub hl [2, 7] rfl) (Nat.le_of_ble_eq_true rfl) (Nat.le_of_ble_eq_true rfl)
    · exact (cm_no hq1 hq2).elim
  · rcases hw_5 with ⟨rfl, hq2, rfl⟩ | ⟨rfl, hq2⟩
    · exact (cm_no hq2 hq1).elim
    · refine lv_aload_n hx hb dL_law_657 rfl (lv_at hl 4 rfl) ?_
      refine cm_ki (wr := [(ov, .inl (ct 1, 1, .inr (.inl g_3)))]) (va_runV (As := []) (rest := []) ⟨hx, hb, hml, hown, hts⟩ (m_thrown l D ct mo mw ma mf m0 m1 mu mv u0 u1 iz mb 1 _) (cm_V 0 hts kc_X11_thrown ki_RX11 kl_RL_202 kv_X11_thrown kx_X11_thrown kd_X11_thrown ⟨Nat.le_of_ble_eq_true rfl, Nat.le_of_ble_eq_true rfl⟩) (cm_preV hP hK hD hS hA hX [1] rfl rfl rfl (q0 := 1) (ci := 11) rfl rfl) rfl rfl hl.1 rfl (lv_room (Nat.le_of_ble_eq_true rfl)) dL_law_658 ⟨Nat.le_of_ble_eq_true rfl, Nat.le_of_ble_eq_true rfl⟩) hP hD hS hA [1] [0] rfl rfl rfl (by decide) (fun r_9 u H locs hw_10 hP hD hS => ?_)
      have hw_10 : r_9 = 1 := hw_10
      obtain rfl := hw_10
      have hP : va_P D vwCl [(ov, .inl (ct 1, 1, .inr (.inl g_3))), (mo, .inr (11, [.ref mw, .ref ma, .ref mf, .ref m0, .ref m1, .ref mu, .ref mv, .ref u0, .ref u1, .ref iz, .int 1, .ref mb, .int 0, .int 0, .int 0, .int 0, .int 0, .int 0, .int 0]))] H := hP
      have hD : va_D A [(ov, .inl (ct 1, 1, .inr (.inl g_3))), (mo, .inr (11, [.ref mw, .ref ma, .ref mf, .ref m0, .ref m1, .ref mu, .ref mv, .ref u0, .ref u1, .ref iz, .int 1, .ref mb, .int 0, .int 0, .int 0, .int 0, .int 0, .int 0, .int 0]))] := hD
      refine lv_iload hx hb dL_law_661 (lv_at hl 1 rfl) ?_
      refine lv_icmp_eq (tgt := 668) hx hb dL_law_663 (by decide) (fun _ => ?_) (fun hc => absurd (by decide) hc)
      refine lv_iload hx hb dL_law_668 (lv_at hl 1 rfl) ?_
      refine lv_if_ne (tgt := 685) hx hb dL_law_670 (by decide) (fun _ => ?_) (fun hc => absurd hc (by decide))
      refine lv_goto (tgt := 3623) hx hb dL_law_685 (by decide) ?_
      exact law_end C1 hS (lv_sub hl [2, 7] rfl) (Nat.le_of_ble_eq_true rfl) (Nat.le_of_ble_eq_true rfl)
theorem dL_law_688 : decode cL_law 688 = .ok (.aload_n 1, 1) := by decide +kernel
theorem dL_law_689 : decode cL_law 689 = .ok (.aload_n 0, 1) := by decide +kernel
theorem dL_law_690 : decode cL_law 690 = .ok (.iload 5, 2) := by decide +kernel
theorem dL_law_692 : decode cL_law 692 = .ok (.iconst 1, 1) := by decide +kernel
theorem dL_law_693 : decode cL_law 693 = .ok (.iadd, 1) := by decide +kernel
theorem dL_law_694 : decode cL_law 694 = .ok (.iaload, 1) := by decide +kernel
theorem dL_law_695 : decode cL_law 695 = .ok (.aload_n 0, 1) := by decide +kernel
theorem dL_law_696 : decode cL_law 696 = .ok (.iload 5, 2) := by decide +kernel
theorem dL_law_698 : decode cL_law 698 = .ok (.iconst 2, 1) := by decide +kernel
theorem dL_law_699 : decode cL_law 699 = .ok (.iadd, 1) := by decide +kernel
theorem dL_law_700 : decode cL_law 700 = .ok (.iaload, 1) := by decide +kernel
theorem dL_law_701 : decode cL_law 701 = .ok (.aload_n 0, 1) := by decide +kernel
theorem dL_law_702 : decode cL_law 702 = .ok (.iload 5, 2) := by decide +kernel
theorem dL_law_704 : decode cL_law 704 = .ok (.iconst 3, 1) := by decide +kernel
theorem dL_law_705 : decode cL_law 705 = .ok (.iadd, 1) := by decide +kernel
theorem dL_law_706 : decode cL_law 706 = .ok (.iaload, 1) := by decide +kernel
theorem dL_law_707 : decode cL_law 707 = .ok (.aload_n 3, 1) := by decide +kernel
theorem dL_law_708 : decode cL_law 708 = .ok (.invokestatic 218, 3) := by decide +kernel
theorem dL_law_711 : decode cL_law 711 = .ok (.istore 6, 2) := by decide +kernel
theorem dL_law_713 : decode cL_law 713 = .ok (.aload_n 2, 1) := by decide +kernel
theorem dL_law_714 : decode cL_law 714 = .ok (.aload_n 0, 1) := by decide +kernel
theorem dL_law_715 : decode cL_law 715 = .ok (.iload 5, 2) := by decide +kernel
theorem dL_law_717 : decode cL_law 717 = .ok (.iconst 1, 1) := by decide +kernel
theorem dL_law_718 : decode cL_law 718 = .ok (.iadd, 1) := by decide +kernel
theorem dL_law_719 : decode cL_law 719 = .ok (.iaload, 1) := by decide +kernel
theorem dL_law_720 : decode cL_law 720 = .ok (.aload_n 0, 1) := by decide +kernel
theorem dL_law_721 : decode cL_law 721 = .ok (.iload 5, 2) := by decide +kernel
theorem dL_law_723 : decode cL_law 723 = .ok (.iconst 2, 1) := by decide +kernel
theorem dL_law_724 : decode cL_law 724 = .ok (.iadd, 1) := by decide +kernel
theorem dL_law_725 : decode cL_law 725 = .ok (.iaload, 1) := by decide +kernel
theorem dL_law_726 : decode cL_law 726 = .ok (.aload_n 0, 1) := by decide +kernel
theorem dL_law_727 : decode cL_law 727 = .ok (.iload 5, 2) := by decide +kernel
theorem dL_law_729 : decode cL_law 729 = .ok (.iconst 3, 1) := by decide +kernel
theorem dL_law_730 : decode cL_law 730 = .ok (.iadd, 1) := by decide +kernel
theorem dL_law_731 : decode cL_law 731 = .ok (.iaload, 1) := by decide +kernel
theorem dL_law_732 : decode cL_law 732 = .ok (.invokevirtual 221, 3) := by decide +kernel
theorem dL_law_735 : decode cL_law 735 = .ok (.istore 7, 2) := by decide +kernel
theorem dL_law_737 : decode cL_law 737 = .ok (.aload_n 2, 1) := by decide +kernel
theorem dL_law_738 : decode cL_law 738 = .ok (.invokevirtual 202, 3) := by decide +kernel
theorem dL_law_741 : decode cL_law 741 = .ok (.iload 6, 2) := by decide +kernel
theorem dL_law_743 : decode cL_law 743 = .ok (.if_icmp .eq 5, 3) := by decide +kernel
theorem dL_law_748 : decode cL_law 748 = .ok (.iload 6, 2) := by decide +kernel
theorem dL_law_750 : decode cL_law 750 = .ok (.ifCond .ne 15, 3) := by decide +kernel
theorem dL_law_765 : decode cL_law 765 = .ok (.goto 2858, 3) := by decide +kernel
set_option maxRecDepth 100000 in
set_option maxHeartbeats 4000000 in
theorem law_9 {p : Program} {l : Launch} {e : Env} {s : State} {m : MethodId} {below : List Frame} {meth : Method} {c : Code} {D : va_G} {ct : Nat → ClassId} {A : Nat → Prop} {b : Nat} {xs : Nat → Int32} {H : Heap} {locs : List Loc} {ls : Array Slot} (hfl : l.stackTraces = false) (C1 : cmL p s m meth c D ct A b 4 xs) (x : Nat) (w : Nat) (sp : Nat) (sv : Nat) (bu : Nat) (w_se : Nat) (w_cu : Nat) (w_pr : Nat) (w_ch : Nat) (w_re : Nat) (w_lo : Nat) (w_p1 : Nat) (w_p2 : Nat) (w_p3 : Nat) (w_p4 : Nat) (mo : Nat) (mw : Nat) (ma : Nat) (mf : Nat) (m0 : Nat) (m1 : Nat) (mu : Nat) (mv : Nat) (u0 : Nat) (u1 : Nat) (iz : Nat) (mb : Nat) (ov : Nat) (od : Nat) (hP : va_P D vwCl [(x, .inr (10, [.ref w, .ref sp, .ref sv, .ref bu, .int 0, .int 0])), (w, .inr (9, [.int 0, .ref w_se, .ref w_cu, .ref w_pr, .int 0, .ref w_ch, .ref w_re, .ref w_lo])), (w_pr, .inr (5, [.int 0, .ref w_p1, .ref w_p2, .ref w_p3, .ref w_p4])), (mo, .inr (11, [.ref mw, .ref ma, .ref mf, .ref m0, .ref m1, .ref mu, .ref mv, .ref u0, .ref u1, .ref iz, .int 0, .ref mb, .int 0, .int 0, .int 0, .int 0, .int 0, .int 0, .int 0])), (mw, .inl (ct 0, 958, .inl m_w0)), (ov, .inl (ct 1, 1, .inr (.inl (fun _ => 0))))] H) (hD : va_D A [(x, .inr (10, [.ref w, .ref sp, .ref sv, .ref bu, .int 0, .int 0])), (w, .inr (9, [.int 0, .ref w_se, .ref w_cu, .ref w_pr, .int 0, .ref w_ch, .ref w_re, .ref w_lo])), (w_pr, .inr (5, [.int 0, .ref w_p1, .ref w_p2, .ref w_p3, .ref w_p4])), (mo, .inr (11, [.ref mw, .ref ma, .ref mf, .ref m0, .ref m1, .ref mu, .ref mv, .ref u0, .ref u1, .ref iz, .int 0, .ref mb, .int 0, .int 0, .int 0, .int 0, .int 0, .int 0, .int 0])), (mw, .inl (ct 0, 958, .inl m_w0)), (ov, .inl (ct 1, 1, .inr (.inl (fun _ => 0))))]) (hS : va_S A s.heap H locs) (hl : lv_has ls 9 [(0, .ref b), (1, .ref x), (2, .ref mo), (3, .ref ov), (4, .ref od), (5, .int 0)]) : W p l e room_1 s m #[Value.ref b] below meth c H locs 157 8795 (lw_Z below #[Value.ref b] s) (F0 m 688 ls []) := by
  obtain ⟨hx, hb, hr, hml, hown, hts, hK, hX, hXs, hbl, hbA, hA, hAr, hlocks⟩ := id C1
  refine lv_aload_n hx hb dL_law_688 rfl (lv_at hl 1 rfl) ?_
  refine lv_aload_n hx hb dL_law_689 rfl (lv_at hl 0 rfl) ?_
  refine lv_iload hx hb dL_law_690 (lv_at hl 5 rfl) ?_
  refine lv_iconst (v := 1) hx hb dL_law_692 (by decide) ?_
  refine lv_iadd hx hb dL_law_693 ?_
  refine cm_cst (y := 1) (by decide) ?_
  refine va_sld hx hb hXs hbl hbA hS (cm_vin (by decide)) dL_law_694 ?_
  refine lv_aload_n hx hb dL_law_695 rfl (lv_at hl 0 rfl) ?_
  refine lv_iload hx hb dL_law_696 (lv_at hl 5 rfl) ?_
  refine lv_iconst (v := 2) hx hb dL_law_698 (by decide) ?_
  refine lv_iadd hx hb dL_law_699 ?_
  refine cm_cst (y := 2) (by decide) ?_
  refine va_sld hx hb hXs hbl hbA hS (cm_vin (by decide)) dL_law_700 ?_
  refine lv_aload_n hx hb dL_law_701 rfl (lv_at hl 0 rfl) ?_
  refine lv_iload hx hb dL_law_702 (lv_at hl 5 rfl) ?_
  refine lv_iconst (v := 3) hx hb dL_law_704 (by decide) ?_
  refine lv_iadd hx hb dL_law_705 ?_
  refine cm_cst (y := 3) (by decide) ?_
  refine va_sld hx hb hXs hbl hbA hS (cm_vin (by decide)) dL_law_706 ?_
  refine lv_aload_n hx hb dL_law_707 rfl (lv_at hl 3 rfl) ?_
  refine cm_ki (wr := [(mo, .inr (11, [.ref mw, .ref ma, .ref mf, .ref m0, .ref m1, .ref mu, .ref mv, .ref u0, .ref u1, .ref iz, .int 0, .ref mb, .int 0, .int 0, .int 0, .int 0, .int 0, .int 0, .int 0])), (mw, .inl (ct 0, 958, .inl m_w0))]) (vx_runSW (As := [.ref x, .int (xs (1 : Int32).toNatClampNeg), .int (xs (2 : Int32).toNatClampNeg), .int (xs (3 : Int32).toNatClampNeg), .ref ov]) (rest := []) ⟨hx, hb, hml, hown, hts⟩ (l_stepValue l hfl D ct x w sp sv bu w_se w_cu w_pr w_ch w_re w_lo w_p1 w_p2 w_p3 w_p4 ov (fun _ => 0) (xs (1 : Int32).toNatClampNeg) (xs (2 : Int32).toNatClampNeg) (xs (3 : Int32).toNatClampNeg) _) (cm_SW 5 hts kw_L_stepValue ki_RL kl_RL_218 ks_L_stepValue kd_L_stepValue ⟨Nat.le_of_ble_eq_true rfl, Nat.le_of_ble_eq_true rfl⟩) (cm_preS hP hK hD hS hA hX [0, 1, 2, 5] rfl rfl rfl) rfl rfl hl.1 rfl (lv_room (Nat.le_of_ble_eq_true rfl)) dL_law_708 ⟨Nat.le_of_ble_eq_true rfl, Nat.le_of_ble_eq_true rfl⟩) hP hD hS hA [0, 1, 2, 5] [3, 4] rfl rfl rfl (by decide) (fun r_1 u H locs hw_2 hP hD hS => ?_)
  have hw_2 : r_1 = 1 := hw_2
  obtain rfl := hw_2
  have hP : va_P D vwCl [(mo, .inr (11, [.ref mw, .ref ma, .ref mf, .ref m0, .ref m1, .ref mu, .ref mv, .ref u0, .ref u1, .ref iz, .int 0, .ref mb, .int 0, .int 0, .int 0, .int 0, .int 0, .int 0, .int 0])), (mw, .inl (ct 0, 958, .inl m_w0))] H := hP
  have hD : va_D A [(mo, .inr (11, [.ref mw, .ref ma, .ref mf, .ref m0, .ref m1, .ref mu, .ref mv, .ref u0, .ref u1, .ref iz, .int 0, .ref mb, .int 0, .int 0, .int 0, .int 0, .int 0, .int 0, .int 0])), (mw, .inl (ct 0, 958, .inl m_w0))] := hD
  refine W.widen (k := 158) (n := 8801) (Nat.le_of_ble_eq_true rfl) (Nat.le_of_ble_eq_true rfl) ?_
  refine lv_istore (lv' := [(6, .int 1), (0, .ref b), (1, .ref x), (2, .ref mo), (3, .ref ov), (4, .ref od), (5, .int 0)]) hx hb dL_law_711 hl (by decide) rfl (fun ls hl => ?_)
  refine lv_aload_n hx hb dL_law_713 rfl (lv_at hl 3 rfl) ?_
  refine lv_aload_n hx hb dL_law_714 rfl (lv_at hl 1 rfl) ?_
  refine lv_iload hx hb dL_law_715 (lv_at hl 6 rfl) ?_
  refine lv_iconst (v := 1) hx hb dL_law_717 (by decide) ?_
  refine lv_iadd hx hb dL_law_718 ?_
  refine cm_cst (y := 1) (by decide) ?_
  refine va_sld hx hb hXs hbl hbA hS (cm_vin (by decide)) dL_law_719 ?_
  refine lv_aload_n hx hb dL_law_720 rfl (lv_at hl 1 rfl) ?_
  refine lv_iload hx hb dL_law_721 (lv_at hl 6 rfl) ?_
  refine lv_iconst (v := 2) hx hb dL_law_723 (by decide) ?_
  refine lv_iadd hx hb dL_law_724 ?_
  refine cm_cst (y := 2) (by decide) ?_
  refine va_sld hx hb hXs hbl hbA hS (cm_vin (by decide)) dL_law_725 ?_
  refine lv_aload_n hx hb dL_law_726 rfl (lv_at hl 1 rfl) ?_
  refine lv_iload hx hb dL_law_727 (lv_at hl 6 rfl) ?_
  refine lv_iconst (v := 3) hx hb dL_law_729 (by decide) ?_
  refine lv_iadd hx hb dL_law_730 ?_
  refine cm_cst (y := 3) (by decide) ?_
  refine va_sld hx hb hXs hbl hbA hS (cm_vin (by decide)) dL_law_731 ?_
  refine cm_ki (wr := []) (va_runV (As := [.int (xs (1 : Int32).toNatClampNeg), .int (xs (2 : Int32).toNatClampNeg), .int (xs (3 : Int32).toNatClampNeg)]) (rest := []) ⟨hx, hb, hml, hown, hts⟩ (m_stepValue_0 l D ct mo mw ma mf m0 m1 mu mv u0 u1 iz mb (xs (1 : Int32).toNatClampNeg) (xs (2 : Int32).toNatClampNeg) (xs (3 : Int32).toNatClampNeg) _) (cm_V 3 hts kc_X11_stepValue ki_RX11 kl_RL_221 kv_X11_stepValue kx_X11_stepValue kd_X11_stepValue ⟨Nat.le_of_ble_eq_true rfl, Nat.le_of_ble_eq_true rfl⟩) (cm_preV hP hK hD hS hA hX [0, 1] rfl rfl rfl (q0 := 0) (ci := 11) rfl rfl) rfl rfl hl.1 rfl (lv_room (Nat.le_of_ble_eq_true rfl)) dL_law_732 ⟨Nat.le_of_ble_eq_true rfl, Nat.le_of_ble_eq_true rfl⟩) hP hD hS hA [0, 1] [] rfl rfl rfl (by decide) (fun r_3 u H locs hw_4 hP hD hS => ?_)
  have hP : va_P D vwCl [(mo, .inr (11, [.ref mw, .ref ma, .ref mf, .ref m0, .ref m1, .ref mu, .ref mv, .ref u0, .ref u1, .ref iz, .int 1, .ref mb, .int 0, .int 0, .int 0, .int 0, .int 0, .int 0, .int 0])), (mw, .inl (ct 0, 958, .inl m_w0))] H := hP
  have hD : va_D A [(mo, .inr (11, [.ref mw, .ref ma, .ref mf, .ref m0, .ref m1, .ref mu, .ref mv, .ref u0, .ref u1, .ref iz, .int 1, .ref mb, .int 0, .int 0, .int 0, .int 0, .int 0, .int 0, .int 0])), (mw, .inl (ct 0, 958, .inl m_w0))] := hD
  refine lv_istore (lv' := [(7, .int r_3), (6, .int 1), (0, .ref b), (1, .ref x), (2, .ref mo), (3, .ref ov), (4, .ref od), (5, .int 0)]) hx hb dL_law_735 hl (by decide) rfl (fun ls hl => ?_)
  refine lv_aload_n hx hb dL_law_737 rfl (lv_at hl 4 rfl) ?_
  refine cm_ki (wr := [(mw, .inl (ct 0, 958, .inl m_w0))]) (va_runV (As := []) (rest := []) ⟨hx, hb, hml, hown, hts⟩ (m_thrown l D ct mo mw ma mf m0 m1 mu mv u0 u1 iz mb 1 _) (cm_V 0 hts kc_X11_thrown ki_RX11 kl_RL_202 kv_X11_thrown kx_X11_thrown kd_X11_thrown ⟨Nat.le_of_ble_eq_true rfl, Nat.le_of_ble_eq_true rfl⟩) (cm_preV hP hK hD hS hA hX [0] rfl rfl rfl (q0 := 0) (ci := 11) rfl rfl) rfl rfl hl.1 rfl (lv_room (Nat.le_of_ble_eq_true rfl)) dL_law_738 ⟨Nat.le_of_ble_eq_true rfl, Nat.le_of_ble_eq_true rfl⟩) hP hD hS hA [0] [1] rfl rfl rfl (by decide) (fun r_5 u H locs hw_6 hP hD hS => ?_)
  have hw_6 : r_5 = 1 := hw_6
  obtain rfl := hw_6
  have hP : va_P D vwCl [(mw, .inl (ct 0, 958, .inl m_w0)), (mo, .inr (11, [.ref mw, .ref ma, .ref mf, .ref m0, .ref m1, .ref mu, .ref mv, .ref u0, .ref u1, .ref iz, .int 1, .ref mb, .int 0, .int 0, .int 0, .int 0, .int 0, .int 0, .int 0]))] H := hP
  have hD : va_D A [(mw, .inl (ct 0, 958, .inl m_w0)), (mo, .inr (11, [.ref mw, .ref ma, .ref mf, .ref m0, .ref m1, .ref mu, .ref mv, .ref u0, .ref u1, .ref iz, .int 1, .ref mb, .int 0, .int 0, .int 0, .int 0, .int 0, .int 0, .int 0]))] := hD
  refine lv_iload hx hb dL_law_741 (lv_at hl 1 rfl) ?_
  refine lv_icmp_eq (tgt := 748) hx hb dL_law_743 (by decide) (fun _ => ?_) (fun hc => absurd (by decide) hc)
  refine lv_iload hx hb dL_law_748 (lv_at hl 1 rfl) ?_
  refine lv_if_ne (tgt := 765) hx hb dL_law_750 (by decide) (fun _ => ?_) (fun hc => absurd hc (by decide))
  refine lv_goto (tgt := 3623) hx hb dL_law_765 (by decide) ?_
  exact law_end C1 hS (lv_sub hl [2, 7] rfl) (Nat.le_of_ble_eq_true rfl) (Nat.le_of_ble_eq_true rfl)
theorem dL_law_768 : decode cL_law 768 = .ok (.aload_n 1, 1) := by decide +kernel
theorem dL_law_769 : decode cL_law 769 = .ok (.invokevirtual 222, 3) := by decide +kernel
theorem dL_law_772 : decode cL_law 772 = .ok (.aload_n 2, 1) := by decide +kernel
theorem dL_law_773 : decode cL_law 773 = .ok (.invokevirtual 225, 3) := by decide +kernel
theorem dL_law_776 : decode cL_law 776 = .ok (.if_icmp .eq 2847, 3) := by decide +kernel
set_option maxRecDepth 100000 in
set_option maxHeartbeats 4000000 in
theorem law_10 {p : Program} {l : Launch} {e : Env} {s : State} {m : MethodId} {below : List Frame} {meth : Method} {c : Code} {D : va_G} {ct : Nat → ClassId} {A : Nat → Prop} {b : Nat} {xs : Nat → Int32} {H : Heap} {locs : List Loc} {ls : Array Slot} (hfl : l.stackTraces = false) (C1 : cmL p s m meth c D ct A b 4 xs) (x : Nat) (w : Nat) (sp : Nat) (sv : Nat) (bu : Nat) (w_se : Nat) (w_cu : Nat) (w_pr : Nat) (w_ch : Nat) (w_re : Nat) (w_lo : Nat) (mo : Nat) (mw : Nat) (ma : Nat) (mf : Nat) (m0 : Nat) (m1 : Nat) (mu : Nat) (mv : Nat) (u0 : Nat) (u1 : Nat) (iz : Nat) (mb : Nat) (ov : Nat) (od : Nat) (hP : va_P D vwCl [(x, .inr (10, [.ref w, .ref sp, .ref sv, .ref bu, .int 0, .int 0])), (w, .inr (9, [.int 0, .ref w_se, .ref w_cu, .ref w_pr, .int 0, .ref w_ch, .ref w_re, .ref w_lo])), (mo, .inr (11, [.ref mw, .ref ma, .ref mf, .ref m0, .ref m1, .ref mu, .ref mv, .ref u0, .ref u1, .ref iz, .int 0, .ref mb, .int 0, .int 0, .int 0, .int 0, .int 0, .int 0, .int 0])), (mw, .inl (ct 0, 958, .inl m_w0))] H) (hD : va_D A [(x, .inr (10, [.ref w, .ref sp, .ref sv, .ref bu, .int 0, .int 0])), (w, .inr (9, [.int 0, .ref w_se, .ref w_cu, .ref w_pr, .int 0, .ref w_ch, .ref w_re, .ref w_lo])), (mo, .inr (11, [.ref mw, .ref ma, .ref mf, .ref m0, .ref m1, .ref mu, .ref mv, .ref u0, .ref u1, .ref iz, .int 0, .ref mb, .int 0, .int 0, .int 0, .int 0, .int 0, .int 0, .int 0])), (mw, .inl (ct 0, 958, .inl m_w0))]) (hS : va_S A s.heap H locs) (hl : lv_has ls 9 [(0, .ref b), (1, .ref x), (2, .ref mo), (3, .ref ov), (4, .ref od), (5, .int 0)]) : W p l e room_1 s m #[Value.ref b] below meth c H locs 157 8795 (lw_Z below #[Value.ref b] s) (F0 m 768 ls []) := by
  obtain ⟨hx, hb, hr, hml, hown, hts, hK, hX, hXs, hbl, hbA, hA, hAr, hlocks⟩ := id C1
  refine lv_aload_n hx hb dL_law_768 rfl (lv_at hl 1 rfl) ?_
  refine cm_ki (wr := [(mo, .inr (11, [.ref mw, .ref ma, .ref mf, .ref m0, .ref m1, .ref mu, .ref mv, .ref u0, .ref u1, .ref iz, .int 0, .ref mb, .int 0, .int 0, .int 0, .int 0, .int 0, .int 0, .int 0])), (mw, .inl (ct 0, 958, .inl m_w0))]) (va_runV (As := []) (rest := []) ⟨hx, hb, hml, hown, hts⟩ (c_now_0 l D ct x w sp sv bu w_se w_cu w_pr w_ch w_re w_lo _) (cm_V 0 hts kc_X10_now ki_RX10 kl_RL_222 kv_X10_now kx_X10_now kd_X10_now ⟨Nat.le_of_ble_eq_true rfl, Nat.le_of_ble_eq_true rfl⟩) (cm_preV hP hK hD hS hA hX [0, 1] rfl rfl rfl (q0 := 0) (ci := 10) rfl rfl) rfl rfl hl.1 rfl (lv_room (Nat.le_of_ble_eq_true rfl)) dL_law_769 ⟨Nat.le_of_ble_eq_true rfl, Nat.le_of_ble_eq_true rfl⟩) hP hD hS hA [0, 1] [2, 3] rfl rfl rfl (by decide) (fun r_1 u H locs hw_2 hP hD hS => ?_)
  have hw_2 : r_1 = 0 := hw_2
  obtain rfl := hw_2
  have hP : va_P D vwCl [(mo, .inr (11, [.ref mw, .ref ma, .ref mf, .ref m0, .ref m1, .ref mu, .ref mv, .ref u0, .ref u1, .ref iz, .int 0, .ref mb, .int 0, .int 0, .int 0, .int 0, .int 0, .int 0, .int 0])), (mw, .inl (ct 0, 958, .inl m_w0)), (x, .inr (10, [.ref w, .ref sp, .ref sv, .ref bu, .int 0, .int 0])), (w, .inr (9, [.int 0, .ref w_se, .ref w_cu, .ref w_pr, .int 0, .ref w_ch, .ref w_re, .ref w_lo]))] H := hP
  have hD : va_D A [(mo, .inr (11, [.ref mw, .ref ma, .ref mf, .ref m0, .ref m1, .ref mu, .ref mv, .ref u0, .ref u1, .ref iz, .int 0, .ref mb, .int 0, .int 0, .int 0, .int 0, .int 0, .int 0, .int 0])), (mw, .inl (ct 0, 958, .inl m_w0)), (x, .inr (10, [.ref w, .ref sp, .ref sv, .ref bu, .int 0, .int 0])), (w, .inr (9, [.int 0, .ref w_se, .ref w_cu, .ref w_pr, .int 0, .ref w_ch, .ref w_re, .ref w_lo]))] := hD
  refine lv_aload_n hx hb dL_law_772 rfl (lv_at hl 2 rfl) ?_
  refine cm_ki (wr := [(x, .inr (10, [.ref w, .ref sp, .ref sv, .ref bu, .int 0, .int 0])), (w, .inr (9, [.int 0, .ref w_se, .ref w_cu, .ref w_pr, .int 0, .ref w_ch, .ref w_re, .ref w_lo]))]) (va_runV (As := []) (rest := [.int 0]) ⟨hx, hb, hml, hown, hts⟩ (m_now_0 l D ct mo mw ma mf m0 m1 mu mv u0 u1 iz mb _) (cm_V 0 hts kc_X11_now ki_RX11 kl_RL_225 kv_X11_now kx_X11_now kd_X11_now ⟨Nat.le_of_ble_eq_true rfl, Nat.le_of_ble_eq_true rfl⟩) (cm_preV hP hK hD hS hA hX [0, 1] rfl rfl rfl (q0 := 0) (ci := 11) rfl rfl) rfl rfl hl.1 rfl (lv_room (Nat.le_of_ble_eq_true rfl)) dL_law_773 ⟨Nat.le_of_ble_eq_true rfl, Nat.le_of_ble_eq_true rfl⟩) hP hD hS hA [0, 1] [2, 3] rfl rfl rfl (by decide) (fun r_3 u H locs hw_4 hP hD hS => ?_)
  have hw_4 : r_3 = 0 := hw_4
  obtain rfl := hw_4
  have hP : va_P D vwCl [(x, .inr (10, [.ref w, .ref sp, .ref sv, .ref bu, .int 0, .int 0])), (w, .inr (9, [.int 0, .ref w_se, .ref w_cu, .ref w_pr, .int 0, .ref w_ch, .ref w_re, .ref w_lo])), (mo, .inr (11, [.ref mw, .ref ma, .ref mf, .ref m0, .ref m1, .ref mu, .ref mv, .ref u0, .ref u1, .ref iz, .int 0, .ref mb, .int 0, .int 0, .int 0, .int 0, .int 0, .int 0, .int 0])), (mw, .inl (ct 0, 958, .inl m_w0))] H := hP
  have hD : va_D A [(x, .inr (10, [.ref w, .ref sp, .ref sv, .ref bu, .int 0, .int 0])), (w, .inr (9, [.int 0, .ref w_se, .ref w_cu, .ref w_pr, .int 0, .ref w_ch, .ref w_re, .ref w_lo])), (mo, .inr (11, [.ref mw, .ref ma, .ref mf, .ref m0, .ref m1, .ref mu, .ref mv, .ref u0, .ref u1, .ref iz, .int 0, .ref mb, .int 0, .int 0, .int 0, .int 0, .int 0, .int 0, .int 0])), (mw, .inl (ct 0, 958, .inl m_w0))] := hD
  refine lv_icmp_eq (tgt := 3623) hx hb dL_law_776 (by decide) (fun _ => ?_) (fun hc => absurd (by decide) hc)
  exact law_end C1 hS (lv_sub hl [0, 5] rfl) (Nat.le_of_ble_eq_true rfl) (Nat.le_of_ble_eq_true rfl)
theorem dL_law_781 : decode cL_law 781 = .ok (.aload_n 1, 1) := by decide +kernel
theorem dL_law_782 : decode cL_law 782 = .ok (.aload_n 0, 1) := by decide +kernel
theorem dL_law_783 : decode cL_law 783 = .ok (.iload 5, 2) := by decide +kernel
theorem dL_law_785 : decode cL_law 785 = .ok (.iconst 1, 1) := by decide +kernel
theorem dL_law_786 : decode cL_law 786 = .ok (.iadd, 1) := by decide +kernel
theorem dL_law_787 : decode cL_law 787 = .ok (.iaload, 1) := by decide +kernel
theorem dL_law_788 : decode cL_law 788 = .ok (.aload_n 3, 1) := by decide +kernel
theorem dL_law_789 : decode cL_law 789 = .ok (.invokestatic 226, 3) := by decide +kernel
theorem dL_law_792 : decode cL_law 792 = .ok (.istore 6, 2) := by decide +kernel
theorem dL_law_794 : decode cL_law 794 = .ok (.aload_n 2, 1) := by decide +kernel
theorem dL_law_795 : decode cL_law 795 = .ok (.aload_n 0, 1) := by decide +kernel
theorem dL_law_796 : decode cL_law 796 = .ok (.iload 5, 2) := by decide +kernel
theorem dL_law_798 : decode cL_law 798 = .ok (.iconst 1, 1) := by decide +kernel
theorem dL_law_799 : decode cL_law 799 = .ok (.iadd, 1) := by decide +kernel
theorem dL_law_800 : decode cL_law 800 = .ok (.iaload, 1) := by decide +kernel
theorem dL_law_801 : decode cL_law 801 = .ok (.invokevirtual 228, 3) := by decide +kernel
theorem dL_law_804 : decode cL_law 804 = .ok (.istore 7, 2) := by decide +kernel
theorem dL_law_806 : decode cL_law 806 = .ok (.aload_n 2, 1) := by decide +kernel
theorem dL_law_807 : decode cL_law 807 = .ok (.invokevirtual 202, 3) := by decide +kernel
theorem dL_law_810 : decode cL_law 810 = .ok (.iload 6, 2) := by decide +kernel
theorem dL_law_812 : decode cL_law 812 = .ok (.if_icmp .eq 5, 3) := by decide +kernel
theorem dL_law_817 : decode cL_law 817 = .ok (.iload 6, 2) := by decide +kernel
theorem dL_law_819 : decode cL_law 819 = .ok (.ifCond .ne 15, 3) := by decide +kernel
theorem dL_law_822 : decode cL_law 822 = .ok (.aload_n 3, 1) := by decide +kernel
theorem dL_law_823 : decode cL_law 823 = .ok (.iconst 0, 1) := by decide +kernel
theorem dL_law_824 : decode cL_law 824 = .ok (.laload, 1) := by decide +kernel
theorem dL_law_825 : decode cL_law 825 = .ok (.iload 7, 2) := by decide +kernel
theorem dL_law_827 : decode cL_law 827 = .ok (.i2l, 1) := by decide +kernel
theorem dL_law_828 : decode cL_law 828 = .ok (.lcmp, 1) := by decide +kernel
theorem dL_law_829 : decode cL_law 829 = .ok (.ifCond .eq 5, 3) := by decide +kernel
theorem dL_law_834 : decode cL_law 834 = .ok (.goto 2789, 3) := by decide +kernel
set_option maxRecDepth 100000 in
set_option maxHeartbeats 4000000 in
theorem law_11 {p : Program} {l : Launch} {e : Env} {s : State} {m : MethodId} {below : List Frame} {meth : Method} {c : Code} {D : va_G} {ct : Nat → ClassId} {A : Nat → Prop} {b : Nat} {xs : Nat → Int32} {H : Heap} {locs : List Loc} {ls : Array Slot} (hfl : l.stackTraces = false) (C1 : cmL p s m meth c D ct A b 4 xs) (x : Nat) (w : Nat) (sp : Nat) (sv : Nat) (bu : Nat) (w_se : Nat) (w_cu : Nat) (w_pr : Nat) (w_ch : Nat) (w_re : Nat) (w_lo : Nat) (mo : Nat) (mw : Nat) (ma : Nat) (mf : Nat) (m0 : Nat) (m1 : Nat) (mu : Nat) (mv : Nat) (u0 : Nat) (u1 : Nat) (iz : Nat) (mb : Nat) (ov : Nat) (od : Nat) (hP : va_P D vwCl [(x, .inr (10, [.ref w, .ref sp, .ref sv, .ref bu, .int 0, .int 0])), (w, .inr (9, [.int 0, .ref w_se, .ref w_cu, .ref w_pr, .int 0, .ref w_ch, .ref w_re, .ref w_lo])), (mo, .inr (11, [.ref mw, .ref ma, .ref mf, .ref m0, .ref m1, .ref mu, .ref mv, .ref u0, .ref u1, .ref iz, .int 0, .ref mb, .int 0, .int 0, .int 0, .int 0, .int 0, .int 0, .int 0])), (mw, .inl (ct 0, 958, .inl m_w0)), (ov, .inl (ct 1, 1, .inr (.inl (fun _ => 0))))] H) (hD : va_D A [(x, .inr (10, [.ref w, .ref sp, .ref sv, .ref bu, .int 0, .int 0])), (w, .inr (9, [.int 0, .ref w_se, .ref w_cu, .ref w_pr, .int 0, .ref w_ch, .ref w_re, .ref w_lo])), (mo, .inr (11, [.ref mw, .ref ma, .ref mf, .ref m0, .ref m1, .ref mu, .ref mv, .ref u0, .ref u1, .ref iz, .int 0, .ref mb, .int 0, .int 0, .int 0, .int 0, .int 0, .int 0, .int 0])), (mw, .inl (ct 0, 958, .inl m_w0)), (ov, .inl (ct 1, 1, .inr (.inl (fun _ => 0))))]) (hS : va_S A s.heap H locs) (hl : lv_has ls 9 [(0, .ref b), (1, .ref x), (2, .ref mo), (3, .ref ov), (4, .ref od), (5, .int 0)]) : W p l e room_1 s m #[Value.ref b] below meth c H locs 157 8795 (lw_Z below #[Value.ref b] s) (F0 m 781 ls []) := by
  obtain ⟨hx, hb, hr, hml, hown, hts, hK, hX, hXs, hbl, hbA, hA, hAr, hlocks⟩ := id C1
  refine lv_aload_n hx hb dL_law_781 rfl (lv_at hl 1 rfl) ?_
  refine lv_aload_n hx hb dL_law_782 rfl (lv_at hl 0 rfl) ?_
  refine lv_iload hx hb dL_law_783 (lv_at hl 5 rfl) ?_
  refine lv_iconst (v := 1) hx hb dL_law_785 (by decide) ?_
  refine lv_iadd hx hb dL_law_786 ?_
  refine cm_cst (y := 1) (by decide) ?_
  refine va_sld hx hb hXs hbl hbA hS (cm_vin (by decide)) dL_law_787 ?_
  refine lv_aload_n hx hb dL_law_788 rfl (lv_at hl 3 rfl) ?_
  refine cm_ki (wr := [(mo, .inr (11, [.ref mw, .ref ma, .ref mf, .ref m0, .ref m1, .ref mu, .ref mv, .ref u0, .ref u1, .ref iz, .int 0, .ref mb, .int 0, .int 0, .int 0, .int 0, .int 0, .int 0, .int 0])), (mw, .inl (ct 0, 958, .inl m_w0))]) (vx_runSW (As := [.ref x, .int (xs (1 : Int32).toNatClampNeg), .ref ov]) (rest := []) ⟨hx, hb, hml, hown, hts⟩ (l_advance l hfl D ct x w sp sv bu w_se w_cu w_pr w_ch w_re w_lo ov (fun _ => 0) (xs (1 : Int32).toNatClampNeg) _) (cm_SW 3 hts kw_L_advance ki_RL kl_RL_226 ks_L_advance kd_L_advance ⟨Nat.le_of_ble_eq_true rfl, Nat.le_of_ble_eq_true rfl⟩) (cm_preS hP hK hD hS hA hX [0, 1, 4] rfl rfl rfl) rfl rfl hl.1 rfl (lv_room (Nat.le_of_ble_eq_true rfl)) dL_law_789 ⟨Nat.le_of_ble_eq_true rfl, Nat.le_of_ble_eq_true rfl⟩) hP hD hS hA [0, 1, 4] [2, 3] rfl rfl rfl (by decide) (fun r_1 u H locs hw_2 hP hD hS => ?_)
  obtain ⟨g_3, rfl⟩ : ∃ z, z = u := ⟨_, rfl⟩
  have hw_2 : (r_1 = 0 ∧ (1 ≤ (xs (1 : Int32).toNatClampNeg) ∧ (xs (1 : Int32).toNatClampNeg) ≤ 5000) ∧ g_3 (0 : Int32).toNatClampNeg = 0) ∨ (r_1 = 1 ∧ ((xs (1 : Int32).toNatClampNeg) < 1 ∨ 5000 < (xs (1 : Int32).toNatClampNeg))) := hw_2
  have hP : va_P D vwCl [(mo, .inr (11, [.ref mw, .ref ma, .ref mf, .ref m0, .ref m1, .ref mu, .ref mv, .ref u0, .ref u1, .ref iz, .int 0, .ref mb, .int 0, .int 0, .int 0, .int 0, .int 0, .int 0, .int 0])), (mw, .inl (ct 0, 958, .inl m_w0)), (ov, .inl (ct 1, 1, .inr (.inl g_3)))] H := hP
  have hD : va_D A [(mo, .inr (11, [.ref mw, .ref ma, .ref mf, .ref m0, .ref m1, .ref mu, .ref mv, .ref u0, .ref u1, .ref iz, .int 0, .ref mb, .int 0, .int 0, .int 0, .int 0, .int 0, .int 0, .int 0])), (mw, .inl (ct 0, 958, .inl m_w0)), (ov, .inl (ct 1, 1, .inr (.inl g_3)))] := hD
  refine W.widen (k := 158) (n := 8801) (Nat.le_of_ble_eq_true rfl) (Nat.le_of_ble_eq_true rfl) ?_
  refine lv_istore (lv' := [(6, .int r_1), (0, .ref b), (1, .ref x), (2, .ref mo), (3, .ref ov), (4, .ref od), (5, .int 0)]) hx hb dL_law_792 hl (by decide) rfl (fun ls hl => ?_)
  refine lv_aload_n hx hb dL_law_794 rfl (lv_at hl 3 rfl) ?_
  refine lv_aload_n hx hb dL_law_795 rfl (lv_at hl 1 rfl) ?_
  refine lv_iload hx hb dL_law_796 (lv_at hl 6 rfl) ?_
  refine lv_iconst (v := 1) hx hb dL_law_798 (by decide) ?_
  refine lv_iadd hx hb dL_law_799 ?_
  refine cm_cst (y := 1) (by decide) ?_
  refine va_sld hx hb hXs hbl hbA hS (cm_vin (by decide)) dL_law_800 ?_
  refine cm_ki (wr := [(ov, .inl (ct 1, 1, .inr (.inl g_3)))]) (va_runV (As := [.int (xs (1 : Int32).toNatClampNeg)]) (rest := []) ⟨hx, hb, hml, hown, hts⟩ (m_advance_0 l D ct mo mw ma mf m0 m1 mu mv u0 u1 iz mb (xs (1 : Int32).toNatClampNeg) _) (cm_V 1 hts kc_X11_advance ki_RX11 kl_RL_228 kv_X11_advance kx_X11_advance kd_X11_advance ⟨Nat.le_of_ble_eq_true rfl, Nat.le_of_ble_eq_true rfl⟩) (cm_preV hP hK hD hS hA hX [0, 1] rfl rfl rfl (q0 := 0) (ci := 11) rfl rfl) rfl rfl hl.1 rfl (lv_room (Nat.le_of_ble_eq_true rfl)) dL_law_801 ⟨Nat.le_of_ble_eq_true rfl, Nat.le_of_ble_eq_true rfl⟩) hP hD hS hA [0, 1] [2] rfl rfl rfl (by decide) (fun r_4 u H locs hw_5 hP hD hS => ?_)
  obtain ⟨th_6, rfl⟩ : ∃ z, z = u := ⟨_, rfl⟩
  have hw_5 : (th_6 = 0 ∧ (1 ≤ (xs (1 : Int32).toNatClampNeg) ∧ (xs (1 : Int32).toNatClampNeg) ≤ 5000) ∧ r_4 = 0) ∨ (th_6 = 1 ∧ ((xs (1 : Int32).toNatClampNeg) < 1 ∨ 5000 < (xs (1 : Int32).toNatClampNeg))) := hw_5
  have hP : va_P D vwCl [(ov, .inl (ct 1, 1, .inr (.inl g_3))), (mo, .inr (11, [.ref mw, .ref ma, .ref mf, .ref m0, .ref m1, .ref mu, .ref mv, .ref u0, .ref u1, .ref iz, .int th_6, .ref mb, .int 0, .int 0, .int 0, .int 0, .int 0, .int 0, .int 0]))] H := hP
  have hD : va_D A [(ov, .inl (ct 1, 1, .inr (.inl g_3))), (mo, .inr (11, [.ref mw, .ref ma, .ref mf, .ref m0, .ref m1, .ref mu, .ref mv, .ref u0, .ref u1, .ref iz, .int th_6, .ref mb, .int 0, .int 0, .int 0, .int 0, .int 0, .int 0, .int 0]))] := hD
  refine lv_istore (lv' := [(7, .int r_4), (6, .int r_1), (0, .ref b), (1, .ref x), (2, .ref mo), (3, .ref ov), (4, .ref od), (5, .int 0)]) hx hb dL_law_804 hl (by decide) rfl (fun ls hl => ?_)
  rcases hw_2 with ⟨rfl, hq1, hg⟩ | ⟨rfl, hq1⟩
  · rcases hw_5 with ⟨rfl, hq2, rfl⟩ | ⟨rfl, hq2⟩
    · refine lv_aload_n hx hb dL_law_806 rfl (lv_at hl 4 rfl) ?_
      refine cm_ki (wr := [(ov, .inl (ct 1, 1, .inr (.inl g_3)))]) (va_runV (As := []) (rest := []) ⟨hx, hb, hml, hown, hts⟩ (m_thrown l D ct mo mw ma mf m0 m1 mu mv u0 u1 iz mb 0 _) (cm_V 0 hts kc_X11_thrown ki_RX11 kl_RL_202 kv_X11_thrown kx_X11_thrown kd_X11_thrown ⟨Nat.le_of_ble_eq_true rfl, Nat.le_of_ble_eq_true rfl⟩) (cm_preV hP hK hD hS hA hX [1] rfl rfl rfl (q0 := 1) (ci := 11) rfl rfl) rfl rfl hl.1 rfl (lv_room (Nat.le_of_ble_eq_true rfl)) dL_law_807 ⟨Nat.le_of_ble_eq_true rfl, Nat.le_of_ble_eq_true rfl⟩) hP hD hS hA [1] [0] rfl rfl rfl (by decide) (fun r_7 u H locs hw_8 hP hD hS => ?_)
      have hw_8 : r_7 = 0 := hw_8
      obtain rfl := hw_8
      have hP : va_P D vwCl [(ov, .inl (ct 1, 1, .inr (.inl g_3))), (mo, .inr (11, [.ref mw, .ref ma, .ref mf, .ref m0, .ref m1, .ref mu, .ref mv, .ref u0, .ref u1, .ref iz, .int 0, .ref mb, .int 0, .int 0, .int 0, .int 0, .int 0, .int 0, .int 0]))] H := hP
      have hD : va_D A [(ov, .inl (ct 1, 1, .inr (.inl g_3))), (mo, .inr (11, [.ref mw, .ref ma, .ref mf, .ref m0, .ref m1, .ref mu, .ref mv, .ref u0, .ref u1, .ref iz, .int 0, .ref mb, .int 0, .int 0, .int 0, .int 0, .int 0, .int 0, .int 0]))] := hD
      refine lv_iload hx hb dL_law_810 (lv_at hl 1 rfl) ?_
      refine lv_icmp_eq (tgt := 817) hx hb dL_law_812 (by decide) (fun _ => ?_) (fun hc => absurd (by decide) hc)
      refine lv_iload hx hb dL_law_817 (lv_at hl 1 rfl) ?_
      refine lv_if_ne (tgt := 834) hx hb dL_law_819 (by decide) (fun hc => absurd (by decide) hc) (fun _ => ?_)
      refine lv_aload_n hx hb dL_law_822 rfl (lv_at hl 5 rfl) ?_
      refine lv_iconst (v := 0) hx hb dL_law_823 (by decide) ?_
      refine va_lald hx hb hK hP 0 1 rfl rfl (cm_vin (by decide)) dL_law_824 ?_
      refine cm_cstl (y := 0) hg ?_
      refine lv_iload hx hb dL_law_825 (lv_at hl 0 rfl) ?_
      refine lv_i2l (v := 0) hx hb dL_law_827 (by decide) ?_
      refine W.lcmp hx hb dL_law_828 ?_
      refine cm_cst (y := 0) (by decide) ?_
      refine lv_if_eq (tgt := 834) hx hb dL_law_829 (by decide) (fun _ => ?_) (fun hc => absurd (by decide) hc)
      refine lv_goto (tgt := 3623) hx hb dL_law_834 (by decide) ?_
      exact law_end C1 hS (lv_sub hl [2, 7] rfl) (Nat.le_of_ble_eq_true rfl) (Nat.le_of_ble_eq_true rfl)
    · exact (cm_no hq1 hq2).elim
  · rcases hw_5 with ⟨rfl, hq2, rfl⟩ | ⟨rfl, hq2⟩
    · exact (cm_no hq2 hq1).elim
    · refine lv_aload_n hx hb dL_law_806 rfl (lv_at hl 4 rfl) ?_
      refine cm_ki (wr := [(ov, .inl (ct 1, 1, .inr (.inl g_3)))]) (va_runV (As := []) (rest := []) ⟨hx, hb, hml, hown, hts⟩ (m_thrown l D ct mo mw ma mf m0 m1 mu mv u0 u1 iz mb 1 _) (cm_V 0 hts kc_X11_thrown ki_RX11 kl_RL_202 kv_X11_thrown kx_X11_thrown kd_X11_thrown ⟨Nat.le_of_ble_eq_true rfl, Nat.le_of_ble_eq_true rfl⟩) (cm_preV hP hK hD hS hA hX [1] rfl rfl rfl (q0 := 1) (ci := 11) rfl rfl) rfl rfl hl.1 rfl (lv_room (Nat.le_of_ble_eq_true rfl)) dL_law_807 ⟨Nat.le_of_ble_eq_true rfl, Nat.le_of_ble_eq_true rfl⟩) hP hD hS hA [1] [0] rfl rfl rfl (by decide) (fun r_9 u H locs hw_10 hP hD hS => ?_)
      have hw_10 : r_9 = 1 := hw_10
      obtain rfl := hw_10
      have hP : va_P D vwCl [(ov, .inl (ct 1, 1, .inr (.inl g_3))), (mo, .inr (11, [.ref mw, .ref ma, .ref mf, .ref m0, .ref m1, .ref mu, .ref mv, .ref u0, .ref u1, .ref iz, .int 1, .ref mb, .int 0, .int 0, .int 0, .int 0, .int 0, .int 0, .int 0]))] H := hP
      have hD : va_D A [(ov, .inl (ct 1, 1, .inr (.inl g_3))), (mo, .inr (11, [.ref mw, .ref ma, .ref mf, .ref m0, .ref m1, .ref mu, .ref mv, .ref u0, .ref u1, .ref iz, .int 1, .ref mb, .int 0, .int 0, .int 0, .int 0, .int 0, .int 0, .int 0]))] := hD
      refine lv_iload hx hb dL_law_810 (lv_at hl 1 rfl) ?_
      refine lv_icmp_eq (tgt := 817) hx hb dL_law_812 (by decide) (fun _ => ?_) (fun hc => absurd (by decide) hc)
      refine lv_iload hx hb dL_law_817 (lv_at hl 1 rfl) ?_
      refine lv_if_ne (tgt := 834) hx hb dL_law_819 (by decide) (fun _ => ?_) (fun hc => absurd hc (by decide))
      refine lv_goto (tgt := 3623) hx hb dL_law_834 (by decide) ?_
      exact law_end C1 hS (lv_sub hl [2, 7] rfl) (Nat.le_of_ble_eq_true rfl) (Nat.le_of_ble_eq_true rfl)
theorem dL_law_837 : decode cL_law 837 = .ok (.aload_n 1, 1) := by decide +kernel
theorem dL_law_838 : decode cL_law 838 = .ok (.aload_n 0, 1) := by decide +kernel
theorem dL_law_839 : decode cL_law 839 = .ok (.iload 5, 2) := by decide +kernel
theorem dL_law_841 : decode cL_law 841 = .ok (.iconst 1, 1) := by decide +kernel
theorem dL_law_842 : decode cL_law 842 = .ok (.iadd, 1) := by decide +kernel
theorem dL_law_843 : decode cL_law 843 = .ok (.iaload, 1) := by decide +kernel
theorem dL_law_844 : decode cL_law 844 = .ok (.aload_n 0, 1) := by decide +kernel
theorem dL_law_845 : decode cL_law 845 = .ok (.iload 5, 2) := by decide +kernel
theorem dL_law_847 : decode cL_law 847 = .ok (.iconst 2, 1) := by decide +kernel
theorem dL_law_848 : decode cL_law 848 = .ok (.iadd, 1) := by decide +kernel
theorem dL_law_849 : decode cL_law 849 = .ok (.iaload, 1) := by decide +kernel
theorem dL_law_850 : decode cL_law 850 = .ok (.aload_n 3, 1) := by decide +kernel
theorem dL_law_851 : decode cL_law 851 = .ok (.invokestatic 229, 3) := by decide +kernel
theorem dL_law_854 : decode cL_law 854 = .ok (.istore 6, 2) := by decide +kernel
theorem dL_law_856 : decode cL_law 856 = .ok (.aload_n 2, 1) := by decide +kernel
theorem dL_law_857 : decode cL_law 857 = .ok (.aload_n 0, 1) := by decide +kernel
theorem dL_law_858 : decode cL_law 858 = .ok (.iload 5, 2) := by decide +kernel
theorem dL_law_860 : decode cL_law 860 = .ok (.iconst 1, 1) := by decide +kernel
theorem dL_law_861 : decode cL_law 861 = .ok (.iadd, 1) := by decide +kernel
theorem dL_law_862 : decode cL_law 862 = .ok (.iaload, 1) := by decide +kernel
theorem dL_law_863 : decode cL_law 863 = .ok (.aload_n 0, 1) := by decide +kernel
theorem dL_law_864 : decode cL_law 864 = .ok (.iload 5, 2) := by decide +kernel
theorem dL_law_866 : decode cL_law 866 = .ok (.iconst 2, 1) := by decide +kernel
theorem dL_law_867 : decode cL_law 867 = .ok (.iadd, 1) := by decide +kernel
theorem dL_law_868 : decode cL_law 868 = .ok (.iaload, 1) := by decide +kernel
theorem dL_law_869 : decode cL_law 869 = .ok (.invokevirtual 231, 3) := by decide +kernel
theorem dL_law_872 : decode cL_law 872 = .ok (.istore 7, 2) := by decide +kernel
theorem dL_law_874 : decode cL_law 874 = .ok (.aload_n 2, 1) := by decide +kernel
theorem dL_law_875 : decode cL_law 875 = .ok (.invokevirtual 202, 3) := by decide +kernel
theorem dL_law_878 : decode cL_law 878 = .ok (.iload 6, 2) := by decide +kernel
theorem dL_law_880 : decode cL_law 880 = .ok (.if_icmp .eq 5, 3) := by decide +kernel
theorem dL_law_885 : decode cL_law 885 = .ok (.iload 6, 2) := by decide +kernel
theorem dL_law_887 : decode cL_law 887 = .ok (.ifCond .ne 15, 3) := by decide +kernel
theorem dL_law_902 : decode cL_law 902 = .ok (.goto 2721, 3) := by decide +kernel
set_option maxRecDepth 100000 in
set_option maxHeartbeats 4000000 in
theorem law_12 {p : Program} {l : Launch} {e : Env} {s : State} {m : MethodId} {below : List Frame} {meth : Method} {c : Code} {D : va_G} {ct : Nat → ClassId} {A : Nat → Prop} {b : Nat} {xs : Nat → Int32} {H : Heap} {locs : List Loc} {ls : Array Slot} (hfl : l.stackTraces = false) (C1 : cmL p s m meth c D ct A b 4 xs) (x : Nat) (w : Nat) (sp : Nat) (sv : Nat) (bu : Nat) (w_se : Nat) (w_cu : Nat) (w_pr : Nat) (w_ch : Nat) (w_re : Nat) (w_lo : Nat) (mo : Nat) (mw : Nat) (ma : Nat) (mf : Nat) (m0 : Nat) (m1 : Nat) (mu : Nat) (mv : Nat) (u0 : Nat) (u1 : Nat) (iz : Nat) (mb : Nat) (ov : Nat) (od : Nat) (hP : va_P D vwCl [(x, .inr (10, [.ref w, .ref sp, .ref sv, .ref bu, .int 0, .int 0])), (w, .inr (9, [.int 0, .ref w_se, .ref w_cu, .ref w_pr, .int 0, .ref w_ch, .ref w_re, .ref w_lo])), (mo, .inr (11, [.ref mw, .ref ma, .ref mf, .ref m0, .ref m1, .ref mu, .ref mv, .ref u0, .ref u1, .ref iz, .int 0, .ref mb, .int 0, .int 0, .int 0, .int 0, .int 0, .int 0, .int 0])), (mw, .inl (ct 0, 958, .inl m_w0)), (ov, .inl (ct 1, 1, .inr (.inl (fun _ => 0))))] H) (hD : va_D A [(x, .inr (10, [.ref w, .ref sp, .ref sv, .ref bu, .int 0, .int 0])), (w, .inr (9, [.int 0, .ref w_se, .ref w_cu, .ref w_pr, .int 0, .ref w_ch, .ref w_re, .ref w_lo])), (mo, .inr (11, [.ref mw, .ref ma, .ref mf, .ref m0, .ref m1, .ref mu, .ref mv, .ref u0, .ref u1, .ref iz, .int 0, .ref mb, .int 0, .int 0, .int 0, .int 0, .int 0, .int 0, .int 0])), (mw, .inl (ct 0, 958, .inl m_w0)), (ov, .inl (ct 1, 1, .inr (.inl (fun _ => 0))))]) (hS : va_S A s.heap H locs) (hl : lv_has ls 9 [(0, .ref b), (1, .ref x), (2, .ref mo), (3, .ref ov), (4, .ref od), (5, .int 0)]) : W p l e room_1 s m #[Value.ref b] below meth c H locs 157 8795 (lw_Z below #[Value.ref b] s) (F0 m 837 ls []) := by
  obtain ⟨hx, hb, hr, hml, hown, hts, hK, hX, hXs, hbl, hbA, hA, hAr, hlocks⟩ := id C1
  refine lv_aload_n hx hb dL_law_837 rfl (lv_at hl 1 rfl) ?_
  refine lv_aload_n hx hb dL_law_838 rfl (lv_at hl 0 rfl) ?_
  refine lv_iload hx hb dL_law_839 (lv_at hl 5 rfl) ?_
  refine lv_iconst (v := 1) hx hb dL_law_841 (by decide) ?_
  refine lv_iadd hx hb dL_law_842 ?_
  refine cm_cst (y := 1) (by decide) ?_
  refine va_sld hx hb hXs hbl hbA hS (cm_vin (by decide)) dL_law_843 ?_
  refine lv_aload_n hx hb dL_law_844 rfl (lv_at hl 0 rfl) ?_
  refine lv_iload hx hb dL_law_845 (lv_at hl 5 rfl) ?_
  refine lv_iconst (v := 2) hx hb dL_law_847 (by decide) ?_
  refine lv_iadd hx hb dL_law_848 ?_
  refine cm_cst (y := 2) (by decide) ?_
  refine va_sld hx hb hXs hbl hbA hS (cm_vin (by decide)) dL_law_849 ?_
  refine lv_aload_n hx hb dL_law_850 rfl (lv_at hl 3 rfl) ?_
  refine cm_ki (wr := [(mo, .inr (11, [.ref mw, .ref ma, .ref mf, .ref m0, .ref m1, .ref mu, .ref mv, .ref u0, .ref u1, .ref iz, .int 0, .ref mb, .int 0, .int 0, .int 0, .int 0, .int 0, .int 0, .int 0])), (mw, .inl (ct 0, 958, .inl m_w0))]) (vx_runSW (As := [.ref x, .int (xs (1 : Int32).toNatClampNeg), .int (xs (2 : Int32).toNatClampNeg), .ref ov]) (rest := []) ⟨hx, hb, hml, hown, hts⟩ (l_start l hfl D ct x w sp sv bu w_se w_cu w_pr w_ch w_re w_lo ov (fun _ => 0) (xs (1 : Int32).toNatClampNeg) (xs (2 : Int32).toNatClampNeg) _) (cm_SW 4 hts kw_L_start ki_RL kl_RL_229 ks_L_start kd_L_start ⟨Nat.le_of_ble_eq_true rfl, Nat.le_of_ble_eq_true rfl⟩) (cm_preS hP hK hD hS hA hX [0, 1, 4] rfl rfl rfl) rfl rfl hl.1 rfl (lv_room (Nat.le_of_ble_eq_true rfl)) dL_law_851 ⟨Nat.le_of_ble_eq_true rfl, Nat.le_of_ble_eq_true rfl⟩) hP hD hS hA [0, 1, 4] [2, 3] rfl rfl rfl (by decide) (fun r_1 u H locs hw_2 hP hD hS => ?_)
  have hw_2 : r_1 = 1 := hw_2
  obtain rfl := hw_2
  have hP : va_P D vwCl [(mo, .inr (11, [.ref mw, .ref ma, .ref mf, .ref m0, .ref m1, .ref mu, .ref mv, .ref u0, .ref u1, .ref iz, .int 0, .ref mb, .int 0, .int 0, .int 0, .int 0, .int 0, .int 0, .int 0])), (mw, .inl (ct 0, 958, .inl m_w0))] H := hP
  have hD : va_D A [(mo, .inr (11, [.ref mw, .ref ma, .ref mf, .ref m0, .ref m1, .ref mu, .ref mv, .ref u0, .ref u1, .ref iz, .int 0, .ref mb, .int 0, .int 0, .int 0, .int 0, .int 0, .int 0, .int 0])), (mw, .inl (ct 0, 958, .inl m_w0))] := hD
  refine W.widen (k := 158) (n := 8801) (Nat.le_of_ble_eq_true rfl) (Nat.le_of_ble_eq_true rfl) ?_
  refine lv_istore (lv' := [(6, .int 1), (0, .ref b), (1, .ref x), (2, .ref mo), (3, .ref ov), (4, .ref od), (5, .int 0)]) hx hb dL_law_854 hl (by decide) rfl (fun ls hl => ?_)
  refine lv_aload_n hx hb dL_law_856 rfl (lv_at hl 3 rfl) ?_
  refine lv_aload_n hx hb dL_law_857 rfl (lv_at hl 1 rfl) ?_
  refine lv_iload hx hb dL_law_858 (lv_at hl 6 rfl) ?_
  refine lv_iconst (v := 1) hx hb dL_law_860 (by decide) ?_
  refine lv_iadd hx hb dL_law_861 ?_
  refine cm_cst (y := 1) (by decide) ?_
  refine va_sld hx hb hXs hbl hbA hS (cm_vin (by decide)) dL_law_862 ?_
  refine lv_aload_n hx hb dL_law_863 rfl (lv_at hl 1 rfl) ?_
  refine lv_iload hx hb dL_law_864 (lv_at hl 6 rfl) ?_
  refine lv_iconst (v := 2) hx hb dL_law_866 (by decide) ?_
  refine lv_iadd hx hb dL_law_867 ?_
  refine cm_cst (y := 2) (by decide) ?_
  refine va_sld hx hb hXs hbl hbA hS (cm_vin (by decide)) dL_law_868 ?_
  refine cm_ki (wr := []) (va_runV (As := [.int (xs (1 : Int32).toNatClampNeg), .int (xs (2 : Int32).toNatClampNeg)]) (rest := []) ⟨hx, hb, hml, hown, hts⟩ (m_start_0 l D ct mo mw ma mf m0 m1 mu mv u0 u1 iz mb (xs (1 : Int32).toNatClampNeg) (xs (2 : Int32).toNatClampNeg) _) (cm_V 2 hts kc_X11_start ki_RX11 kl_RL_231 kv_X11_start kx_X11_start kd_X11_start ⟨Nat.le_of_ble_eq_true rfl, Nat.le_of_ble_eq_true rfl⟩) (cm_preV hP hK hD hS hA hX [0, 1] rfl rfl rfl (q0 := 0) (ci := 11) rfl rfl) rfl rfl hl.1 rfl (lv_room (Nat.le_of_ble_eq_true rfl)) dL_law_869 ⟨Nat.le_of_ble_eq_true rfl, Nat.le_of_ble_eq_true rfl⟩) hP hD hS hA [0, 1] [] rfl rfl rfl (by decide) (fun r_3 u H locs hw_4 hP hD hS => ?_)
  have hP : va_P D vwCl [(mo, .inr (11, [.ref mw, .ref ma, .ref mf, .ref m0, .ref m1, .ref mu, .ref mv, .ref u0, .ref u1, .ref iz, .int 1, .ref mb, .int 0, .int 0, .int 0, .int 0, .int 0, .int 0, .int 0])), (mw, .inl (ct 0, 958, .inl m_w0))] H := hP
  have hD : va_D A [(mo, .inr (11, [.ref mw, .ref ma, .ref mf, .ref m0, .ref m1, .ref mu, .ref mv, .ref u0, .ref u1, .ref iz, .int 1, .ref mb, .int 0, .int 0, .int 0, .int 0, .int 0, .int 0, .int 0])), (mw, .inl (ct 0, 958, .inl m_w0))] := hD
  refine lv_istore (lv' := [(7, .int r_3), (6, .int 1), (0, .ref b), (1, .ref x), (2, .ref mo), (3, .ref ov), (4, .ref od), (5, .int 0)]) hx hb dL_law_872 hl (by decide) rfl (fun ls hl => ?_)
  refine lv_aload_n hx hb dL_law_874 rfl (lv_at hl 4 rfl) ?_
  refine cm_ki (wr := [(mw, .inl (ct 0, 958, .inl m_w0))]) (va_runV (As := []) (rest := []) ⟨hx, hb, hml, hown, hts⟩ (m_thrown l D ct mo mw ma mf m0 m1 mu mv u0 u1 iz mb 1 _) (cm_V 0 hts kc_X11_thrown ki_RX11 kl_RL_202 kv_X11_thrown kx_X11_thrown kd_X11_thrown ⟨Nat.le_of_ble_eq_true rfl, Nat.le_of_ble_eq_true rfl⟩) (cm_preV hP hK hD hS hA hX [0] rfl rfl rfl (q0 := 0) (ci := 11) rfl rfl) rfl rfl hl.1 rfl (lv_room (Nat.le_of_ble_eq_true rfl)) dL_law_875 ⟨Nat.le_of_ble_eq_true rfl, Nat.le_of_ble_eq_true rfl⟩) hP hD hS hA [0] [1] rfl rfl rfl (by decide) (fun r_5 u H locs hw_6 hP hD hS => ?_)
  have hw_6 : r_5 = 1 := hw_6
  obtain rfl := hw_6
  have hP : va_P D vwCl [(mw, .inl (ct 0, 958, .inl m_w0)), (mo, .inr (11, [.ref mw, .ref ma, .ref mf, .ref m0, .ref m1, .ref mu, .ref mv, .ref u0, .ref u1, .ref iz, .int 1, .ref mb, .int 0, .int 0, .int 0, .int 0, .int 0, .int 0, .int 0]))] H := hP
  have hD : va_D A [(mw, .inl (ct 0, 958, .inl m_w0)), (mo, .inr (11, [.ref mw, .ref ma, .ref mf, .ref m0, .ref m1, .ref mu, .ref mv, .ref u0, .ref u1, .ref iz, .int 1, .ref mb, .int 0, .int 0, .int 0, .int 0, .int 0, .int 0, .int 0]))] := hD
  refine lv_iload hx hb dL_law_878 (lv_at hl 1 rfl) ?_
  refine lv_icmp_eq (tgt := 885) hx hb dL_law_880 (by decide) (fun _ => ?_) (fun hc => absurd (by decide) hc)
  refine lv_iload hx hb dL_law_885 (lv_at hl 1 rfl) ?_
  refine lv_if_ne (tgt := 902) hx hb dL_law_887 (by decide) (fun _ => ?_) (fun hc => absurd hc (by decide))
  refine lv_goto (tgt := 3623) hx hb dL_law_902 (by decide) ?_
  exact law_end C1 hS (lv_sub hl [2, 7] rfl) (Nat.le_of_ble_eq_true rfl) (Nat.le_of_ble_eq_true rfl)
theorem dL_law_905 : decode cL_law 905 = .ok (.aload_n 1, 1) := by decide +kernel
theorem dL_law_906 : decode cL_law 906 = .ok (.aload_n 0, 1) := by decide +kernel
theorem dL_law_907 : decode cL_law 907 = .ok (.iload 5, 2) := by decide +kernel
theorem dL_law_909 : decode cL_law 909 = .ok (.iconst 1, 1) := by decide +kernel
theorem dL_law_910 : decode cL_law 910 = .ok (.iadd, 1) := by decide +kernel
theorem dL_law_911 : decode cL_law 911 = .ok (.iaload, 1) := by decide +kernel
theorem dL_law_912 : decode cL_law 912 = .ok (.aload_n 3, 1) := by decide +kernel
theorem dL_law_913 : decode cL_law 913 = .ok (.invokestatic 232, 3) := by decide +kernel
theorem dL_law_916 : decode cL_law 916 = .ok (.istore 6, 2) := by decide +kernel
theorem dL_law_918 : decode cL_law 918 = .ok (.aload_n 2, 1) := by decide +kernel
theorem dL_law_919 : decode cL_law 919 = .ok (.aload_n 0, 1) := by decide +kernel
theorem dL_law_920 : decode cL_law 920 = .ok (.iload 5, 2) := by decide +kernel
theorem dL_law_922 : decode cL_law 922 = .ok (.iconst 1, 1) := by decide +kernel
theorem dL_law_923 : decode cL_law 923 = .ok (.iadd, 1) := by decide +kernel
theorem dL_law_924 : decode cL_law 924 = .ok (.iaload, 1) := by decide +kernel
theorem dL_law_925 : decode cL_law 925 = .ok (.invokevirtual 234, 3) := by decide +kernel
theorem dL_law_928 : decode cL_law 928 = .ok (.istore 7, 2) := by decide +kernel
theorem dL_law_930 : decode cL_law 930 = .ok (.aload_n 2, 1) := by decide +kernel
theorem dL_law_931 : decode cL_law 931 = .ok (.invokevirtual 202, 3) := by decide +kernel
theorem dL_law_934 : decode cL_law 934 = .ok (.iload 6, 2) := by decide +kernel
theorem dL_law_936 : decode cL_law 936 = .ok (.if_icmp .eq 5, 3) := by decide +kernel
theorem dL_law_941 : decode cL_law 941 = .ok (.iload 6, 2) := by decide +kernel
theorem dL_law_943 : decode cL_law 943 = .ok (.ifCond .ne 15, 3) := by decide +kernel
theorem dL_law_958 : decode cL_law 958 = .ok (.goto 2665, 3) := by decide +kernel
set_option maxRecDepth 100000 in
set_option maxHeartbeats 4000000 in
theorem law_13 {p : Program} {l : Launch} {e : Env} {s : State} {m : MethodId} {below : List Frame} {meth : Method} {c : Code} {D : va_G} {ct : Nat → ClassId} {A : Nat → Prop} {b : Nat} {xs : Nat → Int32} {H : Heap} {locs : List Loc} {ls : Array Slot} (hfl : l.stackTraces = false) (C1 : cmL p s m meth c D ct A b 4 xs) (x : Nat) (w : Nat) (sp : Nat) (sv : Nat) (bu : Nat) (w_se : Nat) (w_cu : Nat) (w_pr : Nat) (w_ch : Nat) (w_re : Nat) (w_lo : Nat) (mo : Nat) (mw : Nat) (ma : Nat) (mf : Nat) (m0 : Nat) (m1 : Nat) (mu : Nat) (mv : Nat) (u0 : Nat) (u1 : Nat) (iz : Nat) (mb : Nat) (ov : Nat) (od : Nat) (hP : va_P D vwCl [(x, .inr (10, [.ref w, .ref sp, .ref sv, .ref bu, .int 0, .int 0])), (w, .inr (9, [.int 0, .ref w_se, .ref w_cu, .ref w_pr, .int 0, .ref w_ch, .ref w_re, .ref w_lo])), (mo, .inr (11, [.ref mw, .ref ma, .ref mf, .ref m0, .ref m1, .ref mu, .ref mv, .ref u0, .ref u1, .ref iz, .int 0, .ref mb, .int 0, .int 0, .int 0, .int 0, .int 0, .int 0, .int 0])), (mw, .inl (ct 0, 958, .inl m_w0)), (ov, .inl (ct 1, 1, .inr (.inl (fun _ => 0))))] H) (hD : va_D A [(x, .inr (10, [.ref w, .ref sp, .ref sv, .ref bu, .int 0, .int 0])), (w, .inr (9, [.int 0, .ref w_se, .ref w_cu, .ref w_pr, .int 0, .ref w_ch, .ref w_re, .ref w_lo])), (mo, .inr (11, [.ref mw, .ref ma, .ref mf, .ref m0, .ref m1, .ref mu, .ref mv, .ref u0, .ref u1, .ref iz, .int 0, .ref mb, .int 0, .int 0, .int 0, .int 0, .int 0, .int 0, .int 0])), (mw, .inl (ct 0, 958, .inl m_w0)), (ov, .inl (ct 1, 1, .inr (.inl (fun _ => 0))))]) (hS : va_S A s.heap H locs) (hl : lv_has ls 9 [(0, .ref b), (1, .ref x), (2, .ref mo), (3, .ref ov), (4, .ref od), (5, .int 0)]) : W p l e room_1 s m #[Value.ref b] below meth c H locs 157 8795 (lw_Z below #[Value.ref b] s) (F0 m 905 ls []) := by
  obtain ⟨hx, hb, hr, hml, hown, hts, hK, hX, hXs, hbl, hbA, hA, hAr, hlocks⟩ := id C1
  refine lv_aload_n hx hb dL_law_905 rfl (lv_at hl 1 rfl) ?_
  refine lv_aload_n hx hb dL_law_906 rfl (lv_at hl 0 rfl) ?_
  refine lv_iload hx hb dL_law_907 (lv_at hl 5 rfl) ?_
  refine lv_iconst (v := 1) hx hb dL_law_909 (by decide) ?_
  refine lv_iadd hx hb dL_law_910 ?_
  refine cm_cst (y := 1) (by decide) ?_
  refine va_sld hx hb hXs hbl hbA hS (cm_vin (by decide)) dL_law_911 ?_
  refine lv_aload_n hx hb dL_law_912 rfl (lv_at hl 3 rfl) ?_
  refine cm_ki (wr := [(mo, .inr (11, [.ref mw, .ref ma, .ref mf, .ref m0, .ref m1, .ref mu, .ref mv, .ref u0, .ref u1, .ref iz, .int 0, .ref mb, .int 0, .int 0, .int 0, .int 0, .int 0, .int 0, .int 0])), (mw, .inl (ct 0, 958, .inl m_w0))]) (vx_runSW (As := [.ref x, .int (xs (1 : Int32).toNatClampNeg), .ref ov]) (rest := []) ⟨hx, hb, hml, hown, hts⟩ (l_pause l hfl D ct x w sp sv bu w_se w_cu w_pr w_ch w_re w_lo ov (fun _ => 0) (xs (1 : Int32).toNatClampNeg) _) (cm_SW 3 hts kw_L_pause ki_RL kl_RL_232 ks_L_pause kd_L_pause ⟨Nat.le_of_ble_eq_true rfl, Nat.le_of_ble_eq_true rfl⟩) (cm_preS hP hK hD hS hA hX [0, 1, 4] rfl rfl rfl) rfl rfl hl.1 rfl (lv_room (Nat.le_of_ble_eq_true rfl)) dL_law_913 ⟨Nat.le_of_ble_eq_true rfl, Nat.le_of_ble_eq_true rfl⟩) hP hD hS hA [0, 1, 4] [2, 3] rfl rfl rfl (by decide) (fun r_1 u H locs hw_2 hP hD hS => ?_)
  have hw_2 : r_1 = 1 := hw_2
  obtain rfl := hw_2
  have hP : va_P D vwCl [(mo, .inr (11, [.ref mw, .ref ma, .ref mf, .ref m0, .ref m1, .ref mu, .ref mv, .ref u0, .ref u1, .ref iz, .int 0, .ref mb, .int 0, .int 0, .int 0, .int 0, .int 0, .int 0, .int 0])), (mw, .inl (ct 0, 958, .inl m_w0))] H := hP
  have hD : va_D A [(mo, .inr (11, [.ref mw, .ref ma, .ref mf, .ref m0, .ref m1, .ref mu, .ref mv, .ref u0, .ref u1, .ref iz, .int 0, .ref mb, .int 0, .int 0, .int 0, .int 0, .int 0, .int 0, .int 0])), (mw, .inl (ct 0, 958, .inl m_w0))] := hD
  refine W.widen (k := 158) (n := 8801) (Nat.le_of_ble_eq_true rfl) (Nat.le_of_ble_eq_true rfl) ?_
  refine lv_istore (lv' := [(6, .int 1), (0, .ref b), (1, .ref x), (2, .ref mo), (3, .ref ov), (4, .ref od), (5, .int 0)]) hx hb dL_law_916 hl (by decide) rfl (fun ls hl => ?_)
  refine lv_aload_n hx hb dL_law_918 rfl (lv_at hl 3 rfl) ?_
  refine lv_aload_n hx hb dL_law_919 rfl (lv_at hl 1 rfl) ?_
  refine lv_iload hx hb dL_law_920 (lv_at hl 6 rfl) ?_
  refine lv_iconst (v := 1) hx hb dL_law_922 (by decide) ?_
  refine lv_iadd hx hb dL_law_923 ?_
  refine cm_cst (y := 1) (by decide) ?_
  refine va_sld hx hb hXs hbl hbA hS (cm_vin (by decide)) dL_law_924 ?_
  refine cm_ki (wr := []) (va_runV (As := [.int (xs (1 : Int32).toNatClampNeg)]) (rest := []) ⟨hx, hb, hml, hown, hts⟩ (m_pause_0 l D ct mo mw ma mf m0 m1 mu mv u0 u1 iz mb (xs (1 : Int32).toNatClampNeg) _) (cm_V 1 hts kc_X11_pause ki_RX11 kl_RL_234 kv_X11_pause kx_X11_pause kd_X11_pause ⟨Nat.le_of_ble_eq_true rfl, Nat.le_of_ble_eq_true rfl⟩) (cm_preV hP hK hD hS hA hX [0, 1] rfl rfl rfl (q0 := 0) (ci := 11) rfl rfl) rfl rfl hl.1 rfl (lv_room (Nat.le_of_ble_eq_true rfl)) dL_law_925 ⟨Nat.le_of_ble_eq_true rfl, Nat.le_of_ble_eq_true rfl⟩) hP hD hS hA [0, 1] [] rfl rfl rfl (by decide) (fun r_3 u H locs hw_4 hP hD hS => ?_)
  have hP : va_P D vwCl [(mo, .inr (11, [.ref mw, .ref ma, .ref mf, .ref m0, .ref m1, .ref mu, .ref mv, .ref u0, .ref u1, .ref iz, .int 1, .ref mb, .int 0, .int 0, .int 0, .int 0, .int 0, .int 0, .int 0])), (mw, .inl (ct 0, 958, .inl m_w0))] H := hP
  have hD : va_D A [(mo, .inr (11, [.ref mw, .ref ma, .ref mf, .ref m0, .ref m1, .ref mu, .ref mv, .ref u0, .ref u1, .ref iz, .int 1, .ref mb, .int 0, .int 0, .int 0, .int 0, .int 0, .int 0, .int 0])), (mw, .inl (ct 0, 958, .inl m_w0))] := hD
  refine lv_istore (lv' := [(7, .int r_3), (6, .int 1), (0, .ref b), (1, .ref x), (2, .ref mo), (3, .ref ov), (4, .ref od), (5, .int 0)]) hx hb dL_law_928 hl (by decide) rfl (fun ls hl => ?_)
  refine lv_aload_n hx hb dL_law_930 rfl (lv_at hl 4 rfl) ?_
  refine cm_ki (wr := [(mw, .inl (ct 0, 958, .inl m_w0))]) (va_runV (As := []) (rest := []) ⟨hx, hb, hml, hown, hts⟩ (m_thrown l D ct mo mw ma mf m0 m1 mu mv u0 u1 iz mb 1 _) (cm_V 0 hts kc_X11_thrown ki_RX11 kl_RL_202 kv_X11_thrown kx_X11_thrown kd_X11_thrown ⟨Nat.le_of_ble_eq_true rfl, Nat.le_of_ble_eq_true rfl⟩) (cm_preV hP hK hD hS hA hX [0] rfl rfl rfl (q0 := 0) (ci := 11) rfl rfl) rfl rfl hl.1 rfl (lv_room (Nat.le_of_ble_eq_true rfl)) dL_law_931 ⟨Nat.le_of_ble_eq_true rfl, Nat.le_of_ble_eq_true rfl⟩) hP hD hS hA [0] [1] rfl rfl rfl (by decide) (fun r_5 u H locs hw_6 hP hD hS => ?_)
  have hw_6 : r_5 = 1 := hw_6
  obtain rfl := hw_6
  have hP : va_P D vwCl [(mw, .inl (ct 0, 958, .inl m_w0)), (mo, .inr (11, [.ref mw, .ref ma, .ref mf, .ref m0, .ref m1, .ref mu, .ref mv, .ref u0, .ref u1, .ref iz, .int 1, .ref mb, .int 0, .int 0, .int 0, .int 0, .int 0, .int 0, .int 0]))] H := hP
  have hD : va_D A [(mw, .inl (ct 0, 958, .inl m_w0)), (mo, .inr (11, [.ref mw, .ref ma, .ref mf, .ref m0, .ref m1, .ref mu, .ref mv, .ref u0, .ref u1, .ref iz, .int 1, .ref mb, .int 0, .int 0, .int 0, .int 0, .int 0, .int 0, .int 0]))] := hD
  refine lv_iload hx hb dL_law_934 (lv_at hl 1 rfl) ?_
  refine lv_icmp_eq (tgt := 941) hx hb dL_law_936 (by decide) (fun _ => ?_) (fun hc => absurd (by decide) hc)
  refine lv_iload hx hb dL_law_941 (lv_at hl 1 rfl) ?_
  refine lv_if_ne (tgt := 958) hx hb dL_law_943 (by decide) (fun _ => ?_) (fun hc => absurd hc (by decide))
  refine lv_goto (tgt := 3623) hx hb dL_law_958 (by decide) ?_
  exact law_end C1 hS (lv_sub hl [2, 7] rfl) (Nat.le_of_ble_eq_true rfl) (Nat.le_of_ble_eq_true rfl)
theorem dL_law_961 : decode cL_law 961 = .ok (.aload_n 1, 1) := by decide +kernel
theorem dL_law_962 : decode cL_law 962 = .ok (.aload_n 0, 1) := by decide +kernel
theorem dL_law_963 : decode cL_law 963 = .ok (.iload 5, 2) := by decide +kernel
theorem dL_law_965 : decode cL_law 965 = .ok (.iconst 1, 1) := by decide +kernel
theorem dL_law_966 : decode cL_law 966 = .ok (.iadd, 1) := by decide +kernel
theorem dL_law_967 : decode cL_law 967 = .ok (.iaload, 1) := by decide +kernel
theorem dL_law_968 : decode cL_law 968 = .ok (.aload_n 3, 1) := by decide +kernel
theorem dL_law_969 : decode cL_law 969 = .ok (.invokestatic 235, 3) := by decide +kernel
theorem dL_law_972 : decode cL_law 972 = .ok (.istore 6, 2) := by decide +kernel
theorem dL_law_974 : decode cL_law 974 = .ok (.aload_n 2, 1) := by decide +kernel
theorem dL_law_975 : decode cL_law 975 = .ok (.aload_n 0, 1) := by decide +kernel
theorem dL_law_976 : decode cL_law 976 = .ok (.iload 5, 2) := by decide +kernel
theorem dL_law_978 : decode cL_law 978 = .ok (.iconst 1, 1) := by decide +kernel
theorem dL_law_979 : decode cL_law 979 = .ok (.iadd, 1) := by decide +kernel
theorem dL_law_980 : decode cL_law 980 = .ok (.iaload, 1) := by decide +kernel
theorem dL_law_981 : decode cL_law 981 = .ok (.invokevirtual 237, 3) := by decide +kernel
theorem dL_law_984 : decode cL_law 984 = .ok (.istore 7, 2) := by decide +kernel
theorem dL_law_986 : decode cL_law 986 = .ok (.aload_n 2, 1) := by decide +kernel
theorem dL_law_987 : decode cL_law 987 = .ok (.invokevirtual 202, 3) := by decide +kernel
theorem dL_law_990 : decode cL_law 990 = .ok (.iload 6, 2) := by decide +kernel
theorem dL_law_992 : decode cL_law 992 = .ok (.if_icmp .eq 5, 3) := by decide +kernel
theorem dL_law_997 : decode cL_law 997 = .ok (.iload 6, 2) := by decide +kernel
theorem dL_law_999 : decode cL_law 999 = .ok (.ifCond .ne 15, 3) := by decide +kernel
theorem dL_law_1014 : decode cL_law 1014 = .ok (.goto 2609, 3) := by decide +kernel
set_option maxRecDepth 100000 in
set_option maxHeartbeats 4000000 in
theorem law_14 {p : Program} {l : Launch} {e : Env} {s : State} {m : MethodId} {below : List Frame} {meth : Method} {c : Code} {D : va_G} {ct : Nat → ClassId} {A : Nat → Prop} {b : Nat} {xs : Nat → Int32} {H : Heap} {locs : List Loc} {ls : Array Slot} (hfl : l.stackTraces = false) (C1 : cmL p s m meth c D ct A b 4 xs) (x : Nat) (w : Nat) (sp : Nat) (sv : Nat) (bu : Nat) (w_se : Nat) (w_cu : Nat) (w_pr : Nat) (w_ch : Nat) (w_re : Nat) (w_lo : Nat) (mo : Nat) (mw : Nat) (ma : Nat) (mf : Nat) (m0 : Nat) (m1 : Nat) (mu : Nat) (mv : Nat) (u0 : Nat) (u1 : Nat) (iz : Nat) (mb : Nat) (ov : Nat) (od : Nat) (hP : va_P D vwCl [(x, .inr (10, [.ref w, .ref sp, .ref sv, .ref bu, .int 0, .int 0])), (w, .inr (9, [.int 0, .ref w_se, .ref w_cu, .ref w_pr, .int 0, .ref w_ch, .ref w_re, .ref w_lo])), (mo, .inr (11, [.ref mw, .ref ma, .ref mf, .ref m0, .ref m1, .ref mu, .ref mv, .ref u0, .ref u1, .ref iz, .int 0, .ref mb, .int 0, .int 0, .int 0, .int 0, .int 0, .int 0, .int 0])), (mw, .inl (ct 0, 958, .inl m_w0)), (ov, .inl (ct 1, 1, .inr (.inl (fun _ => 0))))] H) (hD : va_D A [(x, .inr (10, [.ref w, .ref sp, .ref sv, .ref bu, .int 0, .int 0])), (w, .inr (9, [.int 0, .ref w_se, .ref w_cu, .ref w_pr, .int 0, .ref w_ch, .ref w_re, .ref w_lo])), (mo, .inr (11, [.ref mw, .ref ma, .ref mf, .ref m0, .ref m1, .ref mu, .ref mv, .ref u0, .ref u1, .ref iz, .int 0, .ref mb, .int 0, .int 0, .int 0, .int 0, .int 0, .int 0, .int 0])), (mw, .inl (ct 0, 958, .inl m_w0)), (ov, .inl (ct 1, 1, .inr (.inl (fun _ => 0))))]) (hS : va_S A s.heap H locs) (hl : lv_has ls 9 [(0, .ref b), (1, .ref x), (2, .ref mo), (3, .ref ov), (4, .ref od), (5, .int 0)]) : W p l e room_1 s m #[Value.ref b] below meth c H locs 157 8795 (lw_Z below #[Value.ref b] s) (F0 m 961 ls []) := by
  obtain ⟨hx, hb, hr, hml, hown, hts, hK, hX, hXs, hbl, hbA, hA, hAr, hlocks⟩ := id C1
  refine lv_aload_n hx hb dL_law_961 rfl (lv_at hl 1 rfl) ?_
  refine lv_aload_n hx hb dL_law_962 rfl (lv_at hl 0 rfl) ?_
  refine lv_iload hx hb dL_law_963 (lv_at hl 5 rfl) ?_
  refine lv_iconst (v := 1) hx hb dL_law_965 (by decide) ?_
  refine lv_iadd hx hb dL_law_966 ?_
  refine cm_cst (y := 1) (by decide) ?_
  refine va_sld hx hb hXs hbl hbA hS (cm_vin (by decide)) dL_law_967 ?_
  refine lv_aload_n hx hb dL_law_968 rfl (lv_at hl 3 rfl) ?_
  refine cm_ki (wr := [(mo, .inr (11, [.ref mw, .ref ma, .ref mf, .ref m0, .ref m1, .ref mu, .ref mv, .ref u0, .ref u1, .ref iz, .int 0, .ref mb, .int 0, .int 0, .int 0, .int 0, .int 0, .int 0, .int 0])), (mw, .inl (ct 0, 958, .inl m_w0))]) (vx_runSW (As := [.ref x, .int (xs (1 : Int32).toNatClampNeg), .ref ov]) (rest := []) ⟨hx, hb, hml, hown, hts⟩ (l_resume l hfl D ct x w sp sv bu w_se w_cu w_pr w_ch w_re w_lo ov (fun _ => 0) (xs (1 : Int32).toNatClampNeg) _) (cm_SW 3 hts kw_L_resume ki_RL kl_RL_235 ks_L_resume kd_L_resume ⟨Nat.le_of_ble_eq_true rfl, Nat.le_of_ble_eq_true rfl⟩) (cm_preS hP hK hD hS hA hX [0, 1, 4] rfl rfl rfl) rfl rfl hl.1 rfl (lv_room (Nat.le_of_ble_eq_true rfl)) dL_law_969 ⟨Nat.le_of_ble_eq_true rfl, Nat.le_of_ble_eq_true rfl⟩) hP hD hS hA [0, 1, 4] [2, 3] rfl rfl rfl (by decide) (fun r_1 u H locs hw_2 hP hD hS => ?_)
  have hw_2 : r_1 = 1 := hw_2
  obtain rfl := hw_2
  have hP : va_P D vwCl [(mo, .inr (11, [.ref mw, .ref ma, .ref mf, .ref m0, .ref m1, .ref mu, .ref mv, .ref u0, .ref u1, .ref iz, .int 0, .ref mb, .int 0, .int 0, .int 0, .int 0, .int 0, .int 0, .int 0])), (mw, .inl (ct 0, 958, .inl m_w0))] H := hP
  have hD : va_D A [(mo, .inr (11, [.ref mw, .ref ma, .ref mf, .ref m0, .ref m1, .ref mu, .ref mv, .ref u0, .ref u1, .ref iz, .int 0, .ref mb, .int 0, .int 0, .int 0, .int 0, .int 0, .int 0, .int 0])), (mw, .inl (ct 0, 958, .inl m_w0))] := hD
  refine W.widen (k := 158) (n := 8801) (Nat.le_of_ble_eq_true rfl) (Nat.le_of_ble_eq_true rfl) ?_
  refine lv_istore (lv' := [(6, .int 1), (0, .ref b), (1, .ref x), (2, .ref mo), (3, .ref ov), (4, .ref od), (5, .int 0)]) hx hb dL_law_972 hl (by decide) rfl (fun ls hl => ?_)
  refine lv_aload_n hx hb dL_law_974 rfl (lv_at hl 3 rfl) ?_
  refine lv_aload_n hx hb dL_law_975 rfl (lv_at hl 1 rfl) ?_
  refine lv_iload hx hb dL_law_976 (lv_at hl 6 rfl) ?_
  refine lv_iconst (v := 1) hx hb dL_law_978 (by decide) ?_
  refine lv_iadd hx hb dL_law_979 ?_
  refine cm_cst (y := 1) (by decide) ?_
  refine va_sld hx hb hXs hbl hbA hS (cm_vin (by decide)) dL_law_980 ?_
  refine cm_ki (wr := []) (va_runV (As := [.int (xs (1 : Int32).toNatClampNeg)]) (rest := []) ⟨hx, hb, hml, hown, hts⟩ (m_resume_0 l D ct mo mw ma mf m0 m1 mu mv u0 u1 iz mb (xs (1 : Int32).toNatClampNeg) _) (cm_V 1 hts kc_X11_resume ki_RX11 kl_RL_237 kv_X11_resume kx_X11_resume kd_X11_resume ⟨Nat.le_of_ble_eq_true rfl, Nat.le_of_ble_eq_true rfl⟩) (cm_preV hP hK hD hS hA hX [0, 1] rfl rfl rfl (q0 := 0) (ci := 11) rfl rfl) rfl rfl hl.1 rfl (lv_room (Nat.le_of_ble_eq_true rfl)) dL_law_981 ⟨Nat.le_of_ble_eq_true rfl, Nat.le_of_ble_eq_true rfl⟩) hP hD hS hA [0, 1] [] rfl rfl rfl (by decide) (fun r_3 u H locs hw_4 hP hD hS => ?_)
  have hP : va_P D vwCl [(mo, .inr (11, [.ref mw, .ref ma, .ref mf, .ref m0, .ref m1, .ref mu, .ref mv, .ref u0, .ref u1, .ref iz, .int 1, .ref mb, .int 0, .int 0, .int 0, .int 0, .int 0, .int 0, .int 0])), (mw, .inl (ct 0, 958, .inl m_w0))] H := hP
  have hD : va_D A [(mo, .inr (11, [.ref mw, .ref ma, .ref mf, .ref m0, .ref m1, .ref mu, .ref mv, .ref u0, .ref u1, .ref iz, .int 1, .ref mb, .int 0, .int 0, .int 0, .int 0, .int 0, .int 0, .int 0])), (mw, .inl (ct 0, 958, .inl m_w0))] := hD
  refine lv_istore (lv' := [(7, .int r_3), (6, .int 1), (0, .ref b), (1, .ref x), (2, .ref mo), (3, .ref ov), (4, .ref od), (5, .int 0)]) hx hb dL_law_984 hl (by decide) rfl (fun ls hl => ?_)
  refine lv_aload_n hx hb dL_law_986 rfl (lv_at hl 4 rfl) ?_
  refine cm_ki (wr := [(mw, .inl (ct 0, 958, .inl m_w0))]) (va_runV (As := []) (rest := []) ⟨hx, hb, hml, hown, hts⟩ (m_thrown l D ct mo mw ma mf m0 m1 mu mv u0 u1 iz mb 1 _) (cm_V 0 hts kc_X11_thrown ki_RX11 kl_RL_202 kv_X11_thrown kx_X11_thrown kd_X11_thrown ⟨Nat.le_of_ble_eq_true rfl, Nat.le_of_ble_eq_true rfl⟩) (cm_preV hP hK hD hS hA hX [0] rfl rfl rfl (q0 := 0) (ci := 11) rfl rfl) rfl rfl hl.1 rfl (lv_room (Nat.le_of_ble_eq_true rfl)) dL_law_987 ⟨Nat.le_of_ble_eq_true rfl, Nat.le_of_ble_eq_true rfl⟩) hP hD hS hA [0] [1] rfl rfl rfl (by decide) (fun r_5 u H locs hw_6 hP hD hS => ?_)
  have hw_6 : r_5 = 1 := hw_6
  obtain rfl := hw_6
  have hP : va_P D vwCl [(mw, .inl (ct 0, 958, .inl m_w0)), (mo, .inr (11, [.ref mw, .ref ma, .ref mf, .ref m0, .ref m1, .ref mu, .ref mv, .ref u0, .ref u1, .ref iz, .int 1, .ref mb, .int 0, .int 0, .int 0, .int 0, .int 0, .int 0, .int 0]))] H := hP
  have hD : va_D A [(mw, .inl (ct 0, 958, .inl m_w0)), (mo, .inr (11, [.ref mw, .ref ma, .ref mf, .ref m0, .ref m1, .ref mu, .ref mv, .ref u0, .ref u1, .ref iz, .int 1, .ref mb, .int 0, .int 0, .int 0, .int 0, .int 0, .int 0, .int 0]))] := hD
  refine lv_iload hx hb dL_law_990 (lv_at hl 1 rfl) ?_
  refine lv_icmp_eq (tgt := 997) hx hb dL_law_992 (by decide) (fun _ => ?_) (fun hc => absurd (by decide) hc)
  refine lv_iload hx hb dL_law_997 (lv_at hl 1 rfl) ?_
  refine lv_if_ne (tgt := 1014) hx hb dL_law_999 (by decide) (fun _ => ?_) (fun hc => absurd hc (by decide))
  refine lv_goto (tgt := 3623) hx hb dL_law_1014 (by decide) ?_
  exact law_end C1 hS (lv_sub hl [2, 7] rfl) (Nat.le_of_ble_eq_true rfl) (Nat.le_of_ble_eq_true rfl)
theorem dL_law_1017 : decode cL_law 1017 = .ok (.aload_n 1, 1) := by decide +kernel
theorem dL_law_1018 : decode cL_law 1018 = .ok (.aload_n 0, 1) := by decide +kernel
theorem dL_law_1019 : decode cL_law 1019 = .ok (.iload 5, 2) := by decide +kernel
theorem dL_law_1021 : decode cL_law 1021 = .ok (.iconst 1, 1) := by decide +kernel
theorem dL_law_1022 : decode cL_law 1022 = .ok (.iadd, 1) := by decide +kernel
theorem dL_law_1023 : decode cL_law 1023 = .ok (.iaload, 1) := by decide +kernel
theorem dL_law_1024 : decode cL_law 1024 = .ok (.aload_n 3, 1) := by decide +kernel
theorem dL_law_1025 : decode cL_law 1025 = .ok (.invokestatic 238, 3) := by decide +kernel
theorem dL_law_1028 : decode cL_law 1028 = .ok (.istore 6, 2) := by decide +kernel
theorem dL_law_1030 : decode cL_law 1030 = .ok (.aload_n 2, 1) := by decide +kernel
theorem dL_law_1031 : decode cL_law 1031 = .ok (.aload_n 0, 1) := by decide +kernel
theorem dL_law_1032 : decode cL_law 1032 = .ok (.iload 5, 2) := by decide +kernel
theorem dL_law_1034 : decode cL_law 1034 = .ok (.iconst 1, 1) := by decide +kernel
theorem dL_law_1035 : decode cL_law 1035 = .ok (.iadd, 1) := by decide +kernel
theorem dL_law_1036 : decode cL_law 1036 = .ok (.iaload, 1) := by decide +kernel
theorem dL_law_1037 : decode cL_law 1037 = .ok (.invokevirtual 240, 3) := by decide +kernel
theorem dL_law_1040 : decode cL_law 1040 = .ok (.istore 7, 2) := by decide +kernel
theorem dL_law_1042 : decode cL_law 1042 = .ok (.aload_n 2, 1) := by decide +kernel
theorem dL_law_1043 : decode cL_law 1043 = .ok (.invokevirtual 202, 3) := by decide +kernel
theorem dL_law_1046 : decode cL_law 1046 = .ok (.iload 6, 2) := by decide +kernel
theorem dL_law_1048 : decode cL_law 1048 = .ok (.if_icmp .eq 5, 3) := by decide +kernel
theorem dL_law_1053 : decode cL_law 1053 = .ok (.iload 6, 2) := by decide +kernel
theorem dL_law_1055 : decode cL_law 1055 = .ok (.ifCond .ne 15, 3) := by decide +kernel
theorem dL_law_1070 : decode cL_law 1070 = .ok (.goto 2553, 3) := by decide +kernel
set_option maxRecDepth 100000 in
set_option maxHeartbeats 4000000 in
theorem law_15 {p : Program} {l : Launch} {e : Env} {s : State} {m : MethodId} {below : List Frame} {meth : Method} {c : Code} {D : va_G} {ct : Nat → ClassId} {A : Nat → Prop} {b : Nat} {xs : Nat → Int32} {H : Heap} {locs : List Loc} {ls : Array Slot} (hfl : l.stackTraces = false) (C1 : cmL p s m meth c D ct A b 4 xs) (x : Nat) (w : Nat) (sp : Nat) (sv : Nat) (bu : Nat) (w_se : Nat) (w_cu : Nat) (w_pr : Nat) (w_ch : Nat) (w_re : Nat) (w_lo : Nat) (mo : Nat) (mw : Nat) (ma : Nat) (mf : Nat) (m0 : Nat) (m1 : Nat) (mu : Nat) (mv : Nat) (u0 : Nat) (u1 : Nat) (iz : Nat) (mb : Nat) (ov : Nat) (od : Nat) (hP : va_P D vwCl [(x, .inr (10, [.ref w, .ref sp, .ref sv, .ref bu, .int 0, .int 0])), (w, .inr (9, [.int 0, .ref w_se, .ref w_cu, .ref w_pr, .int 0, .ref w_ch, .ref w_re, .ref w_lo])), (mo, .inr (11, [.ref mw, .ref ma, .ref mf, .ref m0, .ref m1, .ref mu, .ref mv, .ref u0, .ref u1, .ref iz, .int 0, .ref mb, .int 0, .int 0, .int 0, .int 0, .int 0, .int 0, .int 0])), (mw, .inl (ct 0, 958, .inl m_w0)), (ov, .inl (ct 1, 1, .inr (.inl (fun _ => 0))))] H) (hD : va_D A [(x, .inr (10, [.ref w, .ref sp, .ref sv, .ref bu, .int 0, .int 0])), (w, .inr (9, [.int 0, .ref w_se, .ref w_cu, .ref w_pr, .int 0, .ref w_ch, .ref w_re, .ref w_lo])), (mo, .inr (11, [.ref mw, .ref ma, .ref mf, .ref m0, .ref m1, .ref mu, .ref mv, .ref u0, .ref u1, .ref iz, .int 0, .ref mb, .int 0, .int 0, .int 0, .int 0, .int 0, .int 0, .int 0])), (mw, .inl (ct 0, 958, .inl m_w0)), (ov, .inl (ct 1, 1, .inr (.inl (fun _ => 0))))]) (hS : va_S A s.heap H locs) (hl : lv_has ls 9 [(0, .ref b), (1, .ref x), (2, .ref mo), (3, .ref ov), (4, .ref od), (5, .int 0)]) : W p l e room_1 s m #[Value.ref b] below meth c H locs 157 8795 (lw_Z below #[Value.ref b] s) (F0 m 1017 ls []) := by
  obtain ⟨hx, hb, hr, hml, hown, hts, hK, hX, hXs, hbl, hbA, hA, hAr, hlocks⟩ := id C1
  refine lv_aload_n hx hb dL_law_1017 rfl (lv_at hl 1 rfl) ?_
  refine lv_aload_n hx hb dL_law_1018 rfl (lv_at hl 0 rfl) ?_
  refine lv_iload hx hb dL_law_1019 (lv_at hl 5 rfl) ?_
  refine lv_iconst (v := 1) hx hb dL_law_1021 (by decide) ?_
  refine lv_iadd hx hb dL_law_1022 ?_
  refine cm_cst (y := 1) (by decide) ?_
  refine va_sld hx hb hXs hbl hbA hS (cm_vin (by decide)) dL_law_1023 ?_
  refine lv_aload_n hx hb dL_law_1024 rfl (lv_at hl 3 rfl) ?_
  refine cm_ki (wr := [(mo, .inr (11, [.ref mw, .ref ma, .ref mf, .ref m0, .ref m1, .ref mu, .ref mv, .ref u0, .ref u1, .ref iz, .int 0, .ref mb, .int 0, .int 0, .int 0, .int 0, .int 0, .int 0, .int 0])), (mw, .inl (ct 0, 958, .inl m_w0))]) (vx_runSW (As := [.ref x, .int (xs (1 : Int32).toNatClampNeg), .ref ov]) (rest := []) ⟨hx, hb, hml, hown, hts⟩ (l_stop l hfl D ct x w sp sv bu w_se w_cu w_pr w_ch w_re w_lo ov (fun _ => 0) (xs (1 : Int32).toNatClampNeg) _) (cm_SW 3 hts kw_L_stop ki_RL kl_RL_238 ks_L_stop kd_L_stop ⟨Nat.le_of_ble_eq_true rfl, Nat.le_of_ble_eq_true rfl⟩) (cm_preS hP hK hD hS hA hX [0, 1, 4] rfl rfl rfl) rfl rfl hl.1 rfl (lv_room (Nat.le_of_ble_eq_true rfl)) dL_law_1025 ⟨Nat.le_of_ble_eq_true rfl, Nat.le_of_ble_eq_true rfl⟩) hP hD hS hA [0, 1, 4] [2, 3] rfl rfl rfl (by decide) (fun r_1 u H locs hw_2 hP hD hS => ?_)
  have hw_2 : r_1 = 1 := hw_2
  obtain rfl := hw_2
  have hP : va_P D vwCl [(mo, .inr (11, [.ref mw, .ref ma, .ref mf, .ref m0, .ref m1, .ref mu, .ref mv, .ref u0, .ref u1, .ref iz, .int 0, .ref mb, .int 0, .int 0, .int 0, .int 0, .int 0, .int 0, .int 0])), (mw, .inl (ct 0, 958, .inl m_w0))] H := hP
  have hD : va_D A [(mo, .inr (11, [.ref mw, .ref ma, .ref mf, .ref m0, .ref m1, .ref mu, .ref mv, .ref u0, .ref u1, .ref iz, .int 0, .ref mb, .int 0, .int 0, .int 0, .int 0, .int 0, .int 0, .int 0])), (mw, .inl (ct 0, 958, .inl m_w0))] := hD
  refine W.widen (k := 158) (n := 8801) (Nat.le_of_ble_eq_true rfl) (Nat.le_of_ble_eq_true rfl) ?_
  refine lv_istore (lv' := [(6, .int 1), (0, .ref b), (1, .ref x), (2, .ref mo), (3, .ref ov), (4, .ref od), (5, .int 0)]) hx hb dL_law_1028 hl (by decide) rfl (fun ls hl => ?_)
  refine lv_aload_n hx hb dL_law_1030 rfl (lv_at hl 3 rfl) ?_
  refine lv_aload_n hx hb dL_law_1031 rfl (lv_at hl 1 rfl) ?_
  refine lv_iload hx hb dL_law_1032 (lv_at hl 6 rfl) ?_
  refine lv_iconst (v := 1) hx hb dL_law_1034 (by decide) ?_
  refine lv_iadd hx hb dL_law_1035 ?_
  refine cm_cst (y := 1) (by decide) ?_
  refine va_sld hx hb hXs hbl hbA hS (cm_vin (by decide)) dL_law_1036 ?_
  refine cm_ki (wr := []) (va_runV (As := [.int (xs (1 : Int32).toNatClampNeg)]) (rest := []) ⟨hx, hb, hml, hown, hts⟩ (m_stop_0 l D ct mo mw ma mf m0 m1 mu mv u0 u1 iz mb (xs (1 : Int32).toNatClampNeg) _) (cm_V 1 hts kc_X11_stop ki_RX11 kl_RL_240 kv_X11_stop kx_X11_stop kd_X11_stop ⟨Nat.le_of_ble_eq_true rfl, Nat.le_of_ble_eq_true rfl⟩) (cm_preV hP hK hD hS hA hX [0, 1] rfl rfl rfl (q0 := 0) (ci := 11) rfl rfl) rfl rfl hl.1 rfl (lv_room (Nat.le_of_ble_eq_true rfl)) dL_law_1037 ⟨Nat.le_of_ble_eq_true rfl, Nat.le_of_ble_eq_true rfl⟩) hP hD hS hA [0, 1] [] rfl rfl rfl (by decide) (fun r_3 u H locs hw_4 hP hD hS => ?_)
  have hP : va_P D vwCl [(mo, .inr (11, [.ref mw, .ref ma, .ref mf, .ref m0, .ref m1, .ref mu, .ref mv, .ref u0, .ref u1, .ref iz, .int 1, .ref mb, .int 0, .int 0, .int 0, .int 0, .int 0, .int 0, .int 0])), (mw, .inl (ct 0, 958, .inl m_w0))] H := hP
  have hD : va_D A [(mo, .inr (11, [.ref mw, .ref ma, .ref mf, .ref m0, .ref m1, .ref mu, .ref mv, .ref u0, .ref u1, .ref iz, .int 1, .ref mb, .int 0, .int 0, .int 0, .int 0, .int 0, .int 0, .int 0])), (mw, .inl (ct 0, 958, .inl m_w0))] := hD
  refine lv_istore (lv' := [(7, .int r_3), (6, .int 1), (0, .ref b), (1, .ref x), (2, .ref mo), (3, .ref ov), (4, .ref od), (5, .int 0)]) hx hb dL_law_1040 hl (by decide) rfl (fun ls hl => ?_)
  refine lv_aload_n hx hb dL_law_1042 rfl (lv_at hl 4 rfl) ?_
  refine cm_ki (wr := [(mw, .inl (ct 0, 958, .inl m_w0))]) (va_runV (As := []) (rest := []) ⟨hx, hb, hml, hown, hts⟩ (m_thrown l D ct mo mw ma mf m0 m1 mu mv u0 u1 iz mb 1 _) (cm_V 0 hts kc_X11_thrown ki_RX11 kl_RL_202 kv_X11_thrown kx_X11_thrown kd_X11_thrown ⟨Nat.le_of_ble_eq_true rfl, Nat.le_of_ble_eq_true rfl⟩) (cm_preV hP hK hD hS hA hX [0] rfl rfl rfl (q0 := 0) (ci := 11) rfl rfl) rfl rfl hl.1 rfl (lv_room (Nat.le_of_ble_eq_true rfl)) dL_law_1043 ⟨Nat.le_of_ble_eq_true rfl, Nat.le_of_ble_eq_true rfl⟩) hP hD hS hA [0] [1] rfl rfl rfl (by decide) (fun r_5 u H locs hw_6 hP hD hS => ?_)
  have hw_6 : r_5 = 1 := hw_6
  obtain rfl := hw_6
  have hP : va_P D vwCl [(mw, .inl (ct 0, 958, .inl m_w0)), (mo, .inr (11, [.ref mw, .ref ma, .ref mf, .ref m0, .ref m1, .ref mu, .ref mv, .ref u0, .ref u1, .ref iz, .int 1, .ref mb, .int 0, .int 0, .int 0, .int 0, .int 0, .int 0, .int 0]))] H := hP
  have hD : va_D A [(mw, .inl (ct 0, 958, .inl m_w0)), (mo, .inr (11, [.ref mw, .ref ma, .ref mf, .ref m0, .ref m1, .ref mu, .ref mv, .ref u0, .ref u1, .ref iz, .int 1, .ref mb, .int 0, .int 0, .int 0, .int 0, .int 0, .int 0, .int 0]))] := hD
  refine lv_iload hx hb dL_law_1046 (lv_at hl 1 rfl) ?_
  refine lv_icmp_eq (tgt := 1053) hx hb dL_law_1048 (by decide) (fun _ => ?_) (fun hc => absurd (by decide) hc)
  refine lv_iload hx hb dL_law_1053 (lv_at hl 1 rfl) ?_
  refine lv_if_ne (tgt := 1070) hx hb dL_law_1055 (by decide) (fun _ => ?_) (fun hc => absurd hc (by decide))
  refine lv_goto (tgt := 3623) hx hb dL_law_1070 (by decide) ?_
  exact law_end C1 hS (lv_sub hl [2, 7] rfl) (Nat.le_of_ble_eq_true rfl) (Nat.le_of_ble_eq_true rfl)
theorem dL_law_1073 : decode cL_law 1073 = .ok (.aload_n 1, 1) := by decide +kernel
theorem dL_law_1074 : decode cL_law 1074 = .ok (.aload_n 0, 1) := by decide +kernel
theorem dL_law_1075 : decode cL_law 1075 = .ok (.iload 5, 2) := by decide +kernel
theorem dL_law_1077 : decode cL_law 1077 = .ok (.iconst 1, 1) := by decide +kernel
theorem dL_law_1078 : decode cL_law 1078 = .ok (.iadd, 1) := by decide +kernel
theorem dL_law_1079 : decode cL_law 1079 = .ok (.iaload, 1) := by decide +kernel
theorem dL_law_1080 : decode cL_law 1080 = .ok (.aload_n 3, 1) := by decide +kernel
theorem dL_law_1081 : decode cL_law 1081 = .ok (.invokestatic 241, 3) := by decide +kernel
theorem dL_law_1084 : decode cL_law 1084 = .ok (.istore 6, 2) := by decide +kernel
theorem dL_law_1086 : decode cL_law 1086 = .ok (.aload_n 2, 1) := by decide +kernel
theorem dL_law_1087 : decode cL_law 1087 = .ok (.aload_n 0, 1) := by decide +kernel
theorem dL_law_1088 : decode cL_law 1088 = .ok (.iload 5, 2) := by decide +kernel
theorem dL_law_1090 : decode cL_law 1090 = .ok (.iconst 1, 1) := by decide +kernel
theorem dL_law_1091 : decode cL_law 1091 = .ok (.iadd, 1) := by decide +kernel
theorem dL_law_1092 : decode cL_law 1092 = .ok (.iaload, 1) := by decide +kernel
theorem dL_law_1093 : decode cL_law 1093 = .ok (.invokevirtual 243, 3) := by decide +kernel
theorem dL_law_1096 : decode cL_law 1096 = .ok (.istore 7, 2) := by decide +kernel
theorem dL_law_1098 : decode cL_law 1098 = .ok (.aload_n 2, 1) := by decide +kernel
theorem dL_law_1099 : decode cL_law 1099 = .ok (.invokevirtual 202, 3) := by decide +kernel
theorem dL_law_1102 : decode cL_law 1102 = .ok (.iload 6, 2) := by decide +kernel
theorem dL_law_1104 : decode cL_law 1104 = .ok (.if_icmp .eq 5, 3) := by decide +kernel
theorem dL_law_1109 : decode cL_law 1109 = .ok (.iload 6, 2) := by decide +kernel
theorem dL_law_1111 : decode cL_law 1111 = .ok (.ifCond .ne 15, 3) := by decide +kernel
theorem dL_law_1126 : decode cL_law 1126 = .ok (.goto 2497, 3) := by decide +kernel
set_option maxRecDepth 100000 in
set_option maxHeartbeats 4000000 in
theorem law_16 {p : Program} {l : Launch} {e : Env} {s : State} {m : MethodId} {below : List Frame} {meth : Method} {c : Code} {D : va_G} {ct : Nat → ClassId} {A : Nat → Prop} {b : Nat} {xs : Nat → Int32} {H : Heap} {locs : List Loc} {ls : Array Slot} (hfl : l.stackTraces = false) (C1 : cmL p s m meth c D ct A b 4 xs) (x : Nat) (w : Nat) (sp : Nat) (sv : Nat) (bu : Nat) (w_se : Nat) (w_cu : Nat) (w_pr : Nat) (w_ch : Nat) (w_re : Nat) (w_lo : Nat) (mo : Nat) (mw : Nat) (ma : Nat) (mf : Nat) (m0 : Nat) (m1 : Nat) (mu : Nat) (mv : Nat) (u0 : Nat) (u1 : Nat) (iz : Nat) (mb : Nat) (ov : Nat) (od : Nat) (hP : va_P D vwCl [(x, .inr (10, [.ref w, .ref sp, .ref sv, .ref bu, .int 0, .int 0])), (w, .inr (9, [.int 0, .ref w_se, .ref w_cu, .ref w_pr, .int 0, .ref w_ch, .ref w_re, .ref w_lo])), (mo, .inr (11, [.ref mw, .ref ma, .ref mf, .ref m0, .ref m1, .ref mu, .ref mv, .ref u0, .ref u1, .ref iz, .int 0, .ref mb, .int 0, .int 0, .int 0, .int 0, .int 0, .int 0, .int 0])), (mw, .inl (ct 0, 958, .inl m_w0)), (ov, .inl (ct 1, 1, .inr (.inl (fun _ => 0))))] H) (hD : va_D A [(x, .inr (10, [.ref w, .ref sp, .ref sv, .ref bu, .int 0, .int 0])), (w, .inr (9, [.int 0, .ref w_se, .ref w_cu, .ref w_pr, .int 0, .ref w_ch, .ref w_re, .ref w_lo])), (mo, .inr (11, [.ref mw, .ref ma, .ref mf, .ref m0, .ref m1, .ref mu, .ref mv, .ref u0, .ref u1, .ref iz, .int 0, .ref mb, .int 0, .int 0, .int 0, .int 0, .int 0, .int 0, .int 0])), (mw, .inl (ct 0, 958, .inl m_w0)), (ov, .inl (ct 1, 1, .inr (.inl (fun _ => 0))))]) (hS : va_S A s.heap H locs) (hl : lv_has ls 9 [(0, .ref b), (1, .ref x), (2, .ref mo), (3, .ref ov), (4, .ref od), (5, .int 0)]) : W p l e room_1 s m #[Value.ref b] below meth c H locs 157 8795 (lw_Z below #[Value.ref b] s) (F0 m 1073 ls []) := by
  obtain ⟨hx, hb, hr, hml, hown, hts, hK, hX, hXs, hbl, hbA, hA, hAr, hlocks⟩ := id C1
  refine lv_aload_n hx hb dL_law_1073 rfl (lv_at hl 1 rfl) ?_
  refine lv_aload_n hx hb dL_law_1074 rfl (lv_at hl 0 rfl) ?_
  refine lv_iload hx hb dL_law_1075 (lv_at hl 5 rfl) ?_
  refine lv_iconst (v := 1) hx hb dL_law_1077 (by decide) ?_
  refine lv_iadd hx hb dL_law_1078 ?_
  refine cm_cst (y := 1) (by decide) ?_
  refine va_sld hx hb hXs hbl hbA hS (cm_vin (by decide)) dL_law_1079 ?_
  refine lv_aload_n hx hb dL_law_1080 rfl (lv_at hl 3 rfl) ?_
  refine cm_ki (wr := [(mo, .inr (11, [.ref mw, .ref ma, .ref mf, .ref m0, .ref m1, .ref mu, .ref mv, .ref u0, .ref u1, .ref iz, .int 0, .ref mb, .int 0, .int 0, .int 0, .int 0, .int 0, .int 0, .int 0])), (mw, .inl (ct 0, 958, .inl m_w0))]) (vx_runSW (As := [.ref x, .int (xs (1 : Int32).toNatClampNeg), .ref ov]) (rest := []) ⟨hx, hb, hml, hown, hts⟩ (l_skip l hfl D ct x w sp sv bu w_se w_cu w_pr w_ch w_re w_lo ov (fun _ => 0) (xs (1 : Int32).toNatClampNeg) _) (cm_SW 3 hts kw_L_skip ki_RL kl_RL_241 ks_L_skip kd_L_skip ⟨Nat.le_of_ble_eq_true rfl, Nat.le_of_ble_eq_true rfl⟩) (cm_preS hP hK hD hS hA hX [0, 1, 4] rfl rfl rfl) rfl rfl hl.1 rfl (lv_room (Nat.le_of_ble_eq_true rfl)) dL_law_1081 ⟨Nat.le_of_ble_eq_true rfl, Nat.le_of_ble_eq_true rfl⟩) hP hD hS hA [0, 1, 4] [2, 3] rfl rfl rfl (by decide) (fun r_1 u H locs hw_2 hP hD hS => ?_)
  have hw_2 : r_1 = 1 := hw_2
  obtain rfl := hw_2
  have hP : va_P D vwCl [(mo, .inr (11, [.ref mw, .ref ma, .ref mf, .ref m0, .ref m1, .ref mu, .ref mv, .ref u0, .ref u1, .ref iz, .int 0, .ref mb, .int 0, .int 0, .int 0, .int 0, .int 0, .int 0, .int 0])), (mw, .inl (ct 0, 958, .inl m_w0))] H := hP
  have hD : va_D A [(mo, .inr (11, [.ref mw, .ref ma, .ref mf, .ref m0, .ref m1, .ref mu, .ref mv, .ref u0, .ref u1, .ref iz, .int 0, .ref mb, .int 0, .int 0, .int 0, .int 0, .int 0, .int 0, .int 0])), (mw, .inl (ct 0, 958, .inl m_w0))] := hD
  refine W.widen (k := 158) (n := 8801) (Nat.le_of_ble_eq_true rfl) (Nat.le_of_ble_eq_true rfl) ?_
  refine lv_istore (lv' := [(6, .int 1), (0, .ref b), (1, .ref x), (2, .ref mo), (3, .ref ov), (4, .ref od), (5, .int 0)]) hx hb dL_law_1084 hl (by decide) rfl (fun ls hl => ?_)
  refine lv_aload_n hx hb dL_law_1086 rfl (lv_at hl 3 rfl) ?_
  refine lv_aload_n hx hb dL_law_1087 rfl (lv_at hl 1 rfl) ?_
  refine lv_iload hx hb dL_law_1088 (lv_at hl 6 rfl) ?_
  refine lv_iconst (v := 1) hx hb dL_law_1090 (by decide) ?_
  refine lv_iadd hx hb dL_law_1091 ?_
  refine cm_cst (y := 1) (by decide) ?_
  refine va_sld hx hb hXs hbl hbA hS (cm_vin (by decide)) dL_law_1092 ?_
  refine cm_ki (wr := []) (va_runV (As := [.int (xs (1 : Int32).toNatClampNeg)]) (rest := []) ⟨hx, hb, hml, hown, hts⟩ (m_skip_0 l D ct mo mw ma mf m0 m1 mu mv u0 u1 iz mb (xs (1 : Int32).toNatClampNeg) _) (cm_V 1 hts kc_X11_skip ki_RX11 kl_RL_243 kv_X11_skip kx_X11_skip kd_X11_skip ⟨Nat.le_of_ble_eq_true rfl, Nat.le_of_ble_eq_true rfl⟩) (cm_preV hP hK hD hS hA hX [0, 1] rfl rfl rfl (q0 := 0) (ci := 11) rfl rfl) rfl rfl hl.1 rfl (lv_room (Nat.le_of_ble_eq_true rfl)) dL_law_1093 ⟨Nat.le_of_ble_eq_true rfl, Nat.le_of_ble_eq_true rfl⟩) hP hD hS hA [0, 1] [] rfl rfl rfl (by decide) (fun r_3 u H locs hw_4 hP hD hS => ?_)
  have hP : va_P D vwCl [(mo, .inr (11, [.ref mw, .ref ma, .ref mf, .ref m0, .ref m1, .ref mu, .ref mv, .ref u0, .ref u1, .ref iz, .int 1, .ref mb, .int 0, .int 0, .int 0, .int 0, .int 0, .int 0, .int 0])), (mw, .inl (ct 0, 958, .inl m_w0))] H := hP
  have hD : va_D A [(mo, .inr (11, [.ref mw, .ref ma, .ref mf, .ref m0, .ref m1, .ref mu, .ref mv, .ref u0, .ref u1, .ref iz, .int 1, .ref mb, .int 0, .int 0, .int 0, .int 0, .int 0, .int 0, .int 0])), (mw, .inl (ct 0, 958, .inl m_w0))] := hD
  refine lv_istore (lv' := [(7, .int r_3), (6, .int 1), (0, .ref b), (1, .ref x), (2, .ref mo), (3, .ref ov), (4, .ref od), (5, .int 0)]) hx hb dL_law_1096 hl (by decide) rfl (fun ls hl => ?_)
  refine lv_aload_n hx hb dL_law_1098 rfl (lv_at hl 4 rfl) ?_
  refine cm_ki (wr := [(mw, .inl (ct 0, 958, .inl m_w0))]) (va_runV (As := []) (rest := []) ⟨hx, hb, hml, hown, hts⟩ (m_thrown l D ct mo mw ma mf m0 m1 mu mv u0 u1 iz mb 1 _) (cm_V 0 hts kc_X11_thrown ki_RX11 kl_RL_202 kv_X11_thrown kx_X11_thrown kd_X11_thrown ⟨Nat.le_of_ble_eq_true rfl, Nat.le_of_ble_eq_true rfl⟩) (cm_preV hP hK hD hS hA hX [0] rfl rfl rfl (q0 := 0) (ci := 11) rfl rfl) rfl rfl hl.1 rfl (lv_room (Nat.le_of_ble_eq_true rfl)) dL_law_1099 ⟨Nat.le_of_ble_eq_true rfl, Nat.le_of_ble_eq_true rfl⟩) hP hD hS hA [0] [1] rfl rfl rfl (by decide) (fun r_5 u H locs hw_6 hP hD hS => ?_)
  have hw_6 : r_5 = 1 := hw_6
  obtain rfl := hw_6
  have hP : va_P D vwCl [(mw, .inl (ct 0, 958, .inl m_w0)), (mo, .inr (11, [.ref mw, .ref ma, .ref mf, .ref m0, .ref m1, .ref mu, .ref mv, .ref u0, .ref u1, .ref iz, .int 1, .ref mb, .int 0, .int 0, .int 0, .int 0, .int 0, .int 0, .int 0]))] H := hP
  have hD : va_D A [(mw, .inl (ct 0, 958, .inl m_w0)), (mo, .inr (11, [.ref mw, .ref ma, .ref mf, .ref m0, .ref m1, .ref mu, .ref mv, .ref u0, .ref u1, .ref iz, .int 1, .ref mb, .int 0, .int 0, .int 0, .int 0, .int 0, .int 0, .int 0]))] := hD
  refine lv_iload hx hb dL_law_1102 (lv_at hl 1 rfl) ?_
  refine lv_icmp_eq (tgt := 1109) hx hb dL_law_1104 (by decide) (fun _ => ?_) (fun hc => absurd (by decide) hc)
  refine lv_iload hx hb dL_law_1109 (lv_at hl 1 rfl) ?_
  refine lv_if_ne (tgt := 1126) hx hb dL_law_1111 (by decide) (fun _ => ?_) (fun hc => absurd hc (by decide))
  refine lv_goto (tgt := 3623) hx hb dL_law_1126 (by decide) ?_
  exact law_end C1 hS (lv_sub hl [2, 7] rfl) (Nat.le_of_ble_eq_true rfl) (Nat.le_of_ble_eq_true rfl)
theorem dL_law_1129 : decode cL_law 1129 = .ok (.aload_n 1, 1) := by decide +kernel
theorem dL_law_1130 : decode cL_law 1130 = .ok (.aload_n 0, 1) := by decide +kernel
theorem dL_law_1131 : decode cL_law 1131 = .ok (.iload 5, 2) := by decide +kernel
theorem dL_law_1133 : decode cL_law 1133 = .ok (.iconst 1, 1) := by decide +kernel
theorem dL_law_1134 : decode cL_law 1134 = .ok (.iadd, 1) := by decide +kernel
theorem dL_law_1135 : decode cL_law 1135 = .ok (.iaload, 1) := by decide +kernel
theorem dL_law_1136 : decode cL_law 1136 = .ok (.aload_n 0, 1) := by decide +kernel
theorem dL_law_1137 : decode cL_law 1137 = .ok (.iload 5, 2) := by decide +kernel
theorem dL_law_1139 : decode cL_law 1139 = .ok (.iconst 2, 1) := by decide +kernel
theorem dL_law_1140 : decode cL_law 1140 = .ok (.iadd, 1) := by decide +kernel
theorem dL_law_1141 : decode cL_law 1141 = .ok (.iaload, 1) := by decide +kernel
theorem dL_law_1142 : decode cL_law 1142 = .ok (.aload_n 3, 1) := by decide +kernel
theorem dL_law_1143 : decode cL_law 1143 = .ok (.invokestatic 244, 3) := by decide +kernel
theorem dL_law_1146 : decode cL_law 1146 = .ok (.istore 6, 2) := by decide +kernel
theorem dL_law_1148 : decode cL_law 1148 = .ok (.aload_n 2, 1) := by decide +kernel
theorem dL_law_1149 : decode cL_law 1149 = .ok (.aload_n 0, 1) := by decide +kernel
theorem dL_law_1150 : decode cL_law 1150 = .ok (.iload 5, 2) := by decide +kernel
theorem dL_law_1152 : decode cL_law 1152 = .ok (.iconst 1, 1) := by decide +kernel
theorem dL_law_1153 : decode cL_law 1153 = .ok (.iadd, 1) := by decide +kernel
theorem dL_law_1154 : decode cL_law 1154 = .ok (.iaload, 1) := by decide +kernel
theorem dL_law_1155 : decode cL_law 1155 = .ok (.aload_n 0, 1) := by decide +kernel
theorem dL_law_1156 : decode cL_law 1156 = .ok (.iload 5, 2) := by decide +kernel
theorem dL_law_1158 : decode cL_law 1158 = .ok (.iconst 2, 1) := by decide +kernel
theorem dL_law_1159 : decode cL_law 1159 = .ok (.iadd, 1) := by decide +kernel
theorem dL_law_1160 : decode cL_law 1160 = .ok (.iaload, 1) := by decide +kernel
theorem dL_law_1161 : decode cL_law 1161 = .ok (.invokevirtual 246, 3) := by decide +kernel
theorem dL_law_1164 : decode cL_law 1164 = .ok (.istore 7, 2) := by decide +kernel
theorem dL_law_1166 : decode cL_law 1166 = .ok (.aload_n 2, 1) := by decide +kernel
theorem dL_law_1167 : decode cL_law 1167 = .ok (.invokevirtual 202, 3) := by decide +kernel
theorem dL_law_1170 : decode cL_law 1170 = .ok (.iload 6, 2) := by decide +kernel
theorem dL_law_1172 : decode cL_law 1172 = .ok (.if_icmp .eq 5, 3) := by decide +kernel
theorem dL_law_1177 : decode cL_law 1177 = .ok (.iload 6, 2) := by decide +kernel
theorem dL_law_1179 : decode cL_law 1179 = .ok (.ifCond .ne 15, 3) := by decide +kernel
theorem dL_law_1194 : decode cL_law 1194 = .ok (.goto 2429, 3) := by decide +kernel
set_option maxRecDepth 100000 in
set_option maxHeartbeats 4000000 in
theorem law_17 {p : Program} {l : Launch} {e : Env} {s : State} {m : MethodId} {below : List Frame} {meth : Method} {c : Code} {D : va_G} {ct : Nat → ClassId} {A : Nat → Prop} {b : Nat} {xs : Nat → Int32} {H : Heap} {locs : List Loc} {ls : Array Slot} (hfl : l.stackTraces = false) (C1 : cmL p s m meth c D ct A b 4 xs) (x : Nat) (w : Nat) (sp : Nat) (sv : Nat) (bu : Nat) (w_se : Nat) (w_cu : Nat) (w_pr : Nat) (w_ch : Nat) (w_re : Nat) (w_lo : Nat) (mo : Nat) (mw : Nat) (ma : Nat) (mf : Nat) (m0 : Nat) (m1 : Nat) (mu : Nat) (mv : Nat) (u0 : Nat) (u1 : Nat) (iz : Nat) (mb : Nat) (ov : Nat) (od : Nat) (hP : va_P D vwCl [(x, .inr (10, [.ref w, .ref sp, .ref sv, .ref bu, .int 0, .int 0])), (w, .inr (9, [.int 0, .ref w_se, .ref w_cu, .ref w_pr, .int 0, .ref w_ch, .ref w_re, .ref w_lo])), (mo, .inr (11, [.ref mw, .ref ma, .ref mf, .ref m0, .ref m1, .ref mu, .ref mv, .ref u0, .ref u1, .ref iz, .int 0, .ref mb, .int 0, .int 0, .int 0, .int 0, .int 0, .int 0, .int 0])), (mw, .inl (ct 0, 958, .inl m_w0)), (ov, .inl (ct 1, 1, .inr (.inl (fun _ => 0))))] H) (hD : va_D A [(x, .inr (10, [.ref w, .ref sp, .ref sv, .ref bu, .int 0, .int 0])), (w, .inr (9, [.int 0, .ref w_se, .ref w_cu, .ref w_pr, .int 0, .ref w_ch, .ref w_re, .ref w_lo])), (mo, .inr (11, [.ref mw, .ref ma, .ref mf, .ref m0, .ref m1, .ref mu, .ref mv, .ref u0, .ref u1, .ref iz, .int 0, .ref mb, .int 0, .int 0, .int 0, .int 0, .int 0, .int 0, .int 0])), (mw, .inl (ct 0, 958, .inl m_w0)), (ov, .inl (ct 1, 1, .inr (.inl (fun _ => 0))))]) (hS : va_S A s.heap H locs) (hl : lv_has ls 9 [(0, .ref b), (1, .ref x), (2, .ref mo), (3, .ref ov), (4, .ref od), (5, .int 0)]) : W p l e room_1 s m #[Value.ref b] below meth c H locs 157 8795 (lw_Z below #[Value.ref b] s) (F0 m 1129 ls []) := by
  obtain ⟨hx, hb, hr, hml, hown, hts, hK, hX, hXs, hbl, hbA, hA, hAr, hlocks⟩ := id C1
  refine lv_aload_n hx hb dL_law_1129 rfl (lv_at hl 1 rfl) ?_
  refine lv_aload_n hx hb dL_law_1130 rfl (lv_at hl 0 rfl) ?_
  refine lv_iload hx hb dL_law_1131 (lv_at hl 5 rfl) ?_
  refine lv_iconst (v := 1) hx hb dL_law_1133 (by decide) ?_
  refine lv_iadd hx hb dL_law_1134 ?_
  refine cm_cst (y := 1) (by decide) ?_
  refine va_sld hx hb hXs hbl hbA hS (cm_vin (by decide)) dL_law_1135 ?_
  refine lv_aload_n hx hb dL_law_1136 rfl (lv_at hl 0 rfl) ?_
  refine lv_iload hx hb dL_law_1137 (lv_at hl 5 rfl) ?_
  refine lv_iconst (v := 2) hx hb dL_law_1139 (by decide) ?_
  refine lv_iadd hx hb dL_law_1140 ?_
  refine cm_cst (y := 2) (by decide) ?_
  refine va_sld hx hb hXs hbl hbA hS (cm_vin (by decide)) dL_law_1141 ?_
  refine lv_aload_n hx hb dL_law_1142 rfl (lv_at hl 3 rfl) ?_
  refine cm_ki (wr := [(mo, .inr (11, [.ref mw, .ref ma, .ref mf, .ref m0, .ref m1, .ref mu, .ref mv, .ref u0, .ref u1, .ref iz, .int 0, .ref mb, .int 0, .int 0, .int 0, .int 0, .int 0, .int 0, .int 0])), (mw, .inl (ct 0, 958, .inl m_w0))]) (vx_runSW (As := [.ref x, .int (xs (1 : Int32).toNatClampNeg), .int (xs (2 : Int32).toNatClampNeg), .ref ov]) (rest := []) ⟨hx, hb, hml, hown, hts⟩ (l_replace l hfl D ct x w sp sv bu w_se w_cu w_pr w_ch w_re w_lo ov (fun _ => 0) (xs (1 : Int32).toNatClampNeg) (xs (2 : Int32).toNatClampNeg) _) (cm_SW 4 hts kw_L_replace ki_RL kl_RL_244 ks_L_replace kd_L_replace ⟨Nat.le_of_ble_eq_true rfl, Nat.le_of_ble_eq_true rfl⟩) (cm_preS hP hK hD hS hA hX [0, 1, 4] rfl rfl rfl) rfl rfl hl.1 rfl (lv_room (Nat.le_of_ble_eq_true rfl)) dL_law_1143 ⟨Nat.le_of_ble_eq_true rfl, Nat.le_of_ble_eq_true rfl⟩) hP hD hS hA [0, 1, 4] [2, 3] rfl rfl rfl (by decide) (fun r_1 u H locs hw_2 hP hD hS => ?_)
  have hw_2 : r_1 = 1 := hw_2
  obtain rfl := hw_2
  have hP : va_P D vwCl [(mo, .inr (11, [.ref mw, .ref ma, .ref mf, .ref m0, .ref m1, .ref mu, .ref mv, .ref u0, .ref u1, .ref iz, .int 0, .ref mb, .int 0, .int 0, .int 0, .int 0, .int 0, .int 0, .int 0])), (mw, .inl (ct 0, 958, .inl m_w0))] H := hP
  have hD : va_D A [(mo, .inr (11, [.ref mw, .ref ma, .ref mf, .ref m0, .ref m1, .ref mu, .ref mv, .ref u0, .ref u1, .ref iz, .int 0, .ref mb, .int 0, .int 0, .int 0, .int 0, .int 0, .int 0, .int 0])), (mw, .inl (ct 0, 958, .inl m_w0))] := hD
  refine W.widen (k := 158) (n := 8801) (Nat.le_of_ble_eq_true rfl) (Nat.le_of_ble_eq_true rfl) ?_
  refine lv_istore (lv' := [(6, .int 1), (0, .ref b), (1, .ref x), (2, .ref mo), (3, .ref ov), (4, .ref od), (5, .int 0)]) hx hb dL_law_1146 hl (by decide) rfl (fun ls hl => ?_)
  refine lv_aload_n hx hb dL_law_1148 rfl (lv_at hl 3 rfl) ?_
  refine lv_aload_n hx hb dL_law_1149 rfl (lv_at hl 1 rfl) ?_
  refine lv_iload hx hb dL_law_1150 (lv_at hl 6 rfl) ?_
  refine lv_iconst (v := 1) hx hb dL_law_1152 (by decide) ?_
  refine lv_iadd hx hb dL_law_1153 ?_
  refine cm_cst (y := 1) (by decide) ?_
  refine va_sld hx hb hXs hbl hbA hS (cm_vin (by decide)) dL_law_1154 ?_
  refine lv_aload_n hx hb dL_law_1155 rfl (lv_at hl 1 rfl) ?_
  refine lv_iload hx hb dL_law_1156 (lv_at hl 6 rfl) ?_
  refine lv_iconst (v := 2) hx hb dL_law_1158 (by decide) ?_
  refine lv_iadd hx hb dL_law_1159 ?_
  refine cm_cst (y := 2) (by decide) ?_
  refine va_sld hx hb hXs hbl hbA hS (cm_vin (by decide)) dL_law_1160 ?_
  refine cm_ki (wr := []) (va_runV (As := [.int (xs (1 : Int32).toNatClampNeg), .int (xs (2 : Int32).toNatClampNeg)]) (rest := []) ⟨hx, hb, hml, hown, hts⟩ (m_replace_0 l D ct mo mw ma mf m0 m1 mu mv u0 u1 iz mb (xs (1 : Int32).toNatClampNeg) (xs (2 : Int32).toNatClampNeg) _) (cm_V 2 hts kc_X11_replace ki_RX11 kl_RL_246 kv_X11_replace kx_X11_replace kd_X11_replace ⟨Nat.le_of_ble_eq_true rfl, Nat.le_of_ble_eq_true rfl⟩) (cm_preV hP hK hD hS hA hX [0, 1] rfl rfl rfl (q0 := 0) (ci := 11) rfl rfl) rfl rfl hl.1 rfl (lv_room (Nat.le_of_ble_eq_true rfl)) dL_law_1161 ⟨Nat.le_of_ble_eq_true rfl, Nat.le_of_ble_eq_true rfl⟩) hP hD hS hA [0, 1] [] rfl rfl rfl (by decide) (fun r_3 u H locs hw_4 hP hD hS => ?_)
  have hP : va_P D vwCl [(mo, .inr (11, [.ref mw, .ref ma, .ref mf, .ref m0, .ref m1, .ref mu, .ref mv, .ref u0, .ref u1, .ref iz, .int 1, .ref mb, .int 0, .int 0, .int 0, .int 0, .int 0, .int 0, .int 0])), (mw, .inl (ct 0, 958, .inl m_w0))] H := hP
  have hD : va_D A [(mo, .inr (11, [.ref mw, .ref ma, .ref mf, .ref m0, .ref m1, .ref mu, .ref mv, .ref u0, .ref u1, .ref iz, .int 1, .ref mb, .int 0, .int 0, .int 0, .int 0, .int 0, .int 0, .int 0])), (mw, .inl (ct 0, 958, .inl m_w0))] := hD
  refine lv_istore (lv' := [(7, .int r_3), (6, .int 1), (0, .ref b), (1, .ref x), (2, .ref mo), (3, .ref ov), (4, .ref od), (5, .int 0)]) hx hb dL_law_1164 hl (by decide) rfl (fun ls hl => ?_)
  refine lv_aload_n hx hb dL_law_1166 rfl (lv_at hl 4 rfl) ?_
  refine cm_ki (wr := [(mw, .inl (ct 0, 958, .inl m_w0))]) (va_runV (As := []) (rest := []) ⟨hx, hb, hml, hown, hts⟩ (m_thrown l D ct mo mw ma mf m0 m1 mu mv u0 u1 iz mb 1 _) (cm_V 0 hts kc_X11_thrown ki_RX11 kl_RL_202 kv_X11_thrown kx_X11_thrown kd_X11_thrown ⟨Nat.le_of_ble_eq_true rfl, Nat.le_of_ble_eq_true rfl⟩) (cm_preV hP hK hD hS hA hX [0] rfl rfl rfl (q0 := 0) (ci := 11) rfl rfl) rfl rfl hl.1 rfl (lv_room (Nat.le_of_ble_eq_true rfl)) dL_law_1167 ⟨Nat.le_of_ble_eq_true rfl, Nat.le_of_ble_eq_true rfl⟩) hP hD hS hA [0] [1] rfl rfl rfl (by decide) (fun r_5 u H locs hw_6 hP hD hS => ?_)
  have hw_6 : r_5 = 1 := hw_6
  obtain rfl := hw_6
  have hP : va_P D vwCl [(mw, .inl (ct 0, 958, .inl m_w0)), (mo, .inr (11, [.ref mw, .ref ma, .ref mf, .ref m0, .ref m1, .ref mu, .ref mv, .ref u0, .ref u1, .ref iz, .int 1, .ref mb, .int 0, .int 0, .int 0, .int 0, .int 0, .int 0, .int 0]))] H := hP
  have hD : va_D A [(mw, .inl (ct 0, 958, .inl m_w0)), (mo, .inr (11, [.ref mw, .ref ma, .ref mf, .ref m0, .ref m1, .ref mu, .ref mv, .ref u0, .ref u1, .ref iz, .int 1, .ref mb, .int 0, .int 0, .int 0, .int 0, .int 0, .int 0, .int 0]))] := hD
  refine lv_iload hx hb dL_law_1170 (lv_at hl 1 rfl) ?_
  refine lv_icmp_eq (tgt := 1177) hx hb dL_law_1172 (by decide) (fun _ => ?_) (fun hc => absurd (by decide) hc)
  refine lv_iload hx hb dL_law_1177 (lv_at hl 1 rfl) ?_
  refine lv_if_ne (tgt := 1194) hx hb dL_law_1179 (by decide) (fun _ => ?_) (fun hc => absurd hc (by decide))
  refine lv_goto (tgt := 3623) hx hb dL_law_1194 (by decide) ?_
  exact law_end C1 hS (lv_sub hl [2, 7] rfl) (Nat.le_of_ble_eq_true rfl) (Nat.le_of_ble_eq_true rfl)
theorem dL_law_1197 : decode cL_law 1197 = .ok (.aload_n 1, 1) := by decide +kernel
theorem dL_law_1198 : decode cL_law 1198 = .ok (.aload_n 0, 1) := by decide +kernel
theorem dL_law_1199 : decode cL_law 1199 = .ok (.iload 5, 2) := by decide +kernel
theorem dL_law_1201 : decode cL_law 1201 = .ok (.iconst 1, 1) := by decide +kernel
theorem dL_law_1202 : decode cL_law 1202 = .ok (.iadd, 1) := by decide +kernel
theorem dL_law_1203 : decode cL_law 1203 = .ok (.iaload, 1) := by decide +kernel
theorem dL_law_1204 : decode cL_law 1204 = .ok (.aload_n 0, 1) := by decide +kernel
theorem dL_law_1205 : decode cL_law 1205 = .ok (.iload 5, 2) := by decide +kernel
theorem dL_law_1207 : decode cL_law 1207 = .ok (.iconst 2, 1) := by decide +kernel
theorem dL_law_1208 : decode cL_law 1208 = .ok (.iadd, 1) := by decide +kernel
theorem dL_law_1209 : decode cL_law 1209 = .ok (.iaload, 1) := by decide +kernel
theorem dL_law_1210 : decode cL_law 1210 = .ok (.aload_n 3, 1) := by decide +kernel
theorem dL_law_1211 : decode cL_law 1211 = .ok (.invokestatic 247, 3) := by decide +kernel
theorem dL_law_1214 : decode cL_law 1214 = .ok (.istore 6, 2) := by decide +kernel
theorem dL_law_1216 : decode cL_law 1216 = .ok (.aload_n 2, 1) := by decide +kernel
theorem dL_law_1217 : decode cL_law 1217 = .ok (.aload_n 0, 1) := by decide +kernel
theorem dL_law_1218 : decode cL_law 1218 = .ok (.iload 5, 2) := by decide +kernel
theorem dL_law_1220 : decode cL_law 1220 = .ok (.iconst 1, 1) := by decide +kernel
theorem dL_law_1221 : decode cL_law 1221 = .ok (.iadd, 1) := by decide +kernel
theorem dL_law_1222 : decode cL_law 1222 = .ok (.iaload, 1) := by decide +kernel
theorem dL_law_1223 : decode cL_law 1223 = .ok (.aload_n 0, 1) := by decide +kernel
theorem dL_law_1224 : decode cL_law 1224 = .ok (.iload 5, 2) := by decide +kernel
theorem dL_law_1226 : decode cL_law 1226 = .ok (.iconst 2, 1) := by decide +kernel
theorem dL_law_1227 : decode cL_law 1227 = .ok (.iadd, 1) := by decide +kernel
theorem dL_law_1228 : decode cL_law 1228 = .ok (.iaload, 1) := by decide +kernel
theorem dL_law_1229 : decode cL_law 1229 = .ok (.invokevirtual 249, 3) := by decide +kernel
theorem dL_law_1232 : decode cL_law 1232 = .ok (.istore 7, 2) := by decide +kernel
theorem dL_law_1234 : decode cL_law 1234 = .ok (.aload_n 2, 1) := by decide +kernel
theorem dL_law_1235 : decode cL_law 1235 = .ok (.invokevirtual 202, 3) := by decide +kernel
theorem dL_law_1238 : decode cL_law 1238 = .ok (.iload 6, 2) := by decide +kernel
theorem dL_law_1240 : decode cL_law 1240 = .ok (.if_icmp .eq 5, 3) := by decide +kernel
theorem dL_law_1245 : decode cL_law 1245 = .ok (.iload 6, 2) := by decide +kernel
theorem dL_law_1247 : decode cL_law 1247 = .ok (.ifCond .ne 15, 3) := by decide +kernel
theorem dL_law_1262 : decode cL_law 1262 = .ok (.goto 2361, 3) := by decide +kernel
set_option maxRecDepth 100000 in
set_option maxHeartbeats 4000000 in
theorem law_18 {p : Program} {l : Launch} {e : Env} {s : State} {m : MethodId} {below : List Frame} {meth : Method} {c : Code} {D : va_G} {ct : Nat → ClassId} {A : Nat → Prop} {b : Nat} {xs : Nat → Int32} {H : Heap} {locs : List Loc} {ls : Array Slot} (hfl : l.stackTraces = false) (C1 : cmL p s m meth c D ct A b 4 xs) (x : Nat) (w : Nat) (sp : Nat) (sv : Nat) (bu : Nat) (w_se : Nat) (w_cu : Nat) (w_pr : Nat) (w_ch : Nat) (w_re : Nat) (w_lo : Nat) (mo : Nat) (mw : Nat) (ma : Nat) (mf : Nat) (m0 : Nat) (m1 : Nat) (mu : Nat) (mv : Nat) (u0 : Nat) (u1 : Nat) (iz : Nat) (mb : Nat) (ov : Nat) (od : Nat) (hP : va_P D vwCl [(x, .inr (10, [.ref w, .ref sp, .ref sv, .ref bu, .int 0, .int 0])), (w, .inr (9, [.int 0, .ref w_se, .ref w_cu, .ref w_pr, .int 0, .ref w_ch, .ref w_re, .ref w_lo])), (mo, .inr (11, [.ref mw, .ref ma, .ref mf, .ref m0, .ref m1, .ref mu, .ref mv, .ref u0, .ref u1, .ref iz, .int 0, .ref mb, .int 0, .int 0, .int 0, .int 0, .int 0, .int 0, .int 0])), (mw, .inl (ct 0, 958, .inl m_w0)), (ov, .inl (ct 1, 1, .inr (.inl (fun _ => 0))))] H) (hD : va_D A [(x, .inr (10, [.ref w, .ref sp, .ref sv, .ref bu, .int 0, .int 0])), (w, .inr (9, [.int 0, .ref w_se, .ref w_cu, .ref w_pr, .int 0, .ref w_ch, .ref w_re, .ref w_lo])), (mo, .inr (11, [.ref mw, .ref ma, .ref mf, .ref m0, .ref m1, .ref mu, .ref mv, .ref u0, .ref u1, .ref iz, .int 0, .ref mb, .int 0, .int 0, .int 0, .int 0, .int 0, .int 0, .int 0])), (mw, .inl (ct 0, 958, .inl m_w0)), (ov, .inl (ct 1, 1, .inr (.inl (fun _ => 0))))]) (hS : va_S A s.heap H locs) (hl : lv_has ls 9 [(0, .ref b), (1, .ref x), (2, .ref mo), (3, .ref ov), (4, .ref od), (5, .int 0)]) : W p l e room_1 s m #[Value.ref b] below meth c H locs 157 8795 (lw_Z below #[Value.ref b] s) (F0 m 1197 ls []) := by
  obtain ⟨hx, hb, hr, hml, hown, hts, hK, hX, hXs, hbl, hbA, hA, hAr, hlocks⟩ := id C1
  refine lv_aload_n hx hb dL_law_1197 rfl (lv_at hl 1 rfl) ?_
  refine lv_aload_n hx hb dL_law_1198 rfl (lv_at hl 0 rfl) ?_
  refine lv_iload hx hb dL_law_1199 (lv_at hl 5 rfl) ?_
  refine lv_iconst (v := 1) hx hb dL_law_1201 (by decide) ?_
  refine lv_iadd hx hb dL_law_1202 ?_
  refine cm_cst (y := 1) (by decide) ?_
  refine va_sld hx hb hXs hbl hbA hS (cm_vin (by decide)) dL_law_1203 ?_
  refine lv_aload_n hx hb dL_law_1204 rfl (lv_at hl 0 rfl) ?_
  refine lv_iload hx hb dL_law_1205 (lv_at hl 5 rfl) ?_
  refine lv_iconst (v := 2) hx hb dL_law_1207 (by decide) ?_
  refine lv_iadd hx hb dL_law_1208 ?_
  refine cm_cst (y := 2) (by decide) ?_
  refine va_sld hx hb hXs hbl hbA hS (cm_vin (by decide)) dL_law_1209 ?_
  refine lv_aload_n hx hb dL_law_1210 rfl (lv_at hl 3 rfl) ?_
  refine cm_ki (wr := [(mo, .inr (11, [.ref mw, .ref ma, .ref mf, .ref m0, .ref m1, .ref mu, .ref mv, .ref u0, .ref u1, .ref iz, .int 0, .ref mb, .int 0, .int 0, .int 0, .int 0, .int 0, .int 0, .int 0])), (mw, .inl (ct 0, 958, .inl m_w0))]) (vx_runSW (As := [.ref x, .int (xs (1 : Int32).toNatClampNeg), .int (xs (2 : Int32).toNatClampNeg), .ref ov]) (rest := []) ⟨hx, hb, hml, hown, hts⟩ (l_enqueue l hfl D ct x w sp sv bu w_se w_cu w_pr w_ch w_re w_lo ov (fun _ => 0) (xs (1 : Int32).toNatClampNeg) (xs (2 : Int32).toNatClampNeg) _) (cm_SW 4 hts kw_L_enqueue ki_RL kl_RL_247 ks_L_enqueue kd_L_enqueue ⟨Nat.le_of_ble_eq_true rfl, Nat.le_of_ble_eq_true rfl⟩) (cm_preS hP hK hD hS hA hX [0, 1, 4] rfl rfl rfl) rfl rfl hl.1 rfl (lv_room (Nat.le_of_ble_eq_true rfl)) dL_law_1211 ⟨Nat.le_of_ble_eq_true rfl, Nat.le_of_ble_eq_true rfl⟩) hP hD hS hA [0, 1, 4] [2, 3] rfl rfl rfl (by decide) (fun r_1 u H locs hw_2 hP hD hS => ?_)
  have hw_2 : r_1 = 1 := hw_2
  obtain rfl := hw_2
  have hP : va_P D vwCl [(mo, .inr (11, [.ref mw, .ref ma, .ref mf, .ref m0, .ref m1, .ref mu, .ref mv, .ref u0, .ref u1, .ref iz, .int 0, .ref mb, .int 0, .int 0, .int 0, .int 0, .int 0, .int 0, .int 0])), (mw, .inl (ct 0, 958, .inl m_w0))] H := hP
  have hD : va_D A [(mo, .inr (11, [.ref mw, .ref ma, .ref mf, .ref m0, .ref m1, .ref mu, .ref mv, .ref u0, .ref u1, .ref iz, .int 0, .ref mb, .int 0, .int 0, .int 0, .int 0, .int 0, .int 0, .int 0])), (mw, .inl (ct 0, 958, .inl m_w0))] := hD
  refine W.widen (k := 158) (n := 8801) (Nat.le_of_ble_eq_true rfl) (Nat.le_of_ble_eq_true rfl) ?_
  refine lv_istore (lv' := [(6, .int 1), (0, .ref b), (1, .ref x), (2, .ref mo), (3, .ref ov), (4, .ref od), (5, .int 0)]) hx hb dL_law_1214 hl (by decide) rfl (fun ls hl => ?_)
  refine lv_aload_n hx hb dL_law_1216 rfl (lv_at hl 3 rfl) ?_
  refine lv_aload_n hx hb dL_law_1217 rfl (lv_at hl 1 rfl) ?_
  refine lv_iload hx hb dL_law_1218 (lv_at hl 6 rfl) ?_
  refine lv_iconst (v := 1) hx hb dL_law_1220 (by decide) ?_
  refine lv_iadd hx hb dL_law_1221 ?_
  refine cm_cst (y := 1) (by decide) ?_
  refine va_sld hx hb hXs hbl hbA hS (cm_vin (by decide)) dL_law_1222 ?_
  refine lv_aload_n hx hb dL_law_1223 rfl (lv_at hl 1 rfl) ?_
  refine lv_iload hx hb dL_law_1224 (lv_at hl 6 rfl) ?_
  refine lv_iconst (v := 2) hx hb dL_law_1226 (by decide) ?_
  refine lv_iadd hx hb dL_law_1227 ?_
  refine cm_cst (y := 2) (by decide) ?_
  refine va_sld hx hb hXs hbl hbA hS (cm_vin (by decide)) dL_law_1228 ?_
  refine cm_ki (wr := []) (va_runV (As := [.int (xs (1 : Int32).toNatClampNeg), .int (xs (2 : Int32).toNatClampNeg)]) (rest := []) ⟨hx, hb, hml, hown, hts⟩ (m_enqueue_0 l D ct mo mw ma mf m0 m1 mu mv u0 u1 iz mb (xs (1 : Int32).toNatClampNeg) (xs (2 : Int32).toNatClampNeg) _) (cm_V 2 hts kc_X11_enqueue ki_RX11 kl_RL_249 kv_X11_enqueue kx_X11_enqueue kd_X11_enqueue ⟨Nat.le_of_ble_eq_true rfl, Nat.le_of_ble_eq_true rfl⟩) (cm_preV hP hK hD hS hA hX [0, 1] rfl rfl rfl (q0 := 0) (ci := 11) rfl rfl) rfl rfl hl.1 rfl (lv_room (Nat.le_of_ble_eq_true rfl)) dL_law_1229 ⟨Nat.le_of_ble_eq_true rfl, Nat.le_of_ble_eq_true rfl⟩) hP hD hS hA [0, 1] [] rfl rfl rfl (by decide) (fun r_3 u H locs hw_4 hP hD hS => ?_)
  have hP : va_P D vwCl [(mo, .inr (11, [.ref mw, .ref ma, .ref mf, .ref m0, .ref m1, .ref mu, .ref mv, .ref u0, .ref u1, .ref iz, .int 1, .ref mb, .int 0, .int 0, .int 0, .int 0, .int 0, .int 0, .int 0])), (mw, .inl (ct 0, 958, .inl m_w0))] H := hP
  have hD : va_D A [(mo, .inr (11, [.ref mw, .ref ma, .ref mf, .ref m0, .ref m1, .ref mu, .ref mv, .ref u0, .ref u1, .ref iz, .int 1, .ref mb, .int 0, .int 0, .int 0, .int 0, .int 0, .int 0, .int 0])), (mw, .inl (ct 0, 958, .inl m_w0))] := hD
  refine lv_istore (lv' := [(7, .int r_3), (6, .int 1), (0, .ref b), (1, .ref x), (2, .ref mo), (3, .ref ov), (4, .ref od), (5, .int 0)]) hx hb dL_law_1232 hl (by decide) rfl (fun ls hl => ?_)
  refine lv_aload_n hx hb dL_law_1234 rfl (lv_at hl 4 rfl) ?_
  refine cm_ki (wr := [(mw, .inl (ct 0, 958, .inl m_w0))]) (va_runV (As := []) (rest := []) ⟨hx, hb, hml, hown, hts⟩ (m_thrown l D ct mo mw ma mf m0 m1 mu mv u0 u1 iz mb 1 _) (cm_V 0 hts kc_X11_thrown ki_RX11 kl_RL_202 kv_X11_thrown kx_X11_thrown kd_X11_thrown ⟨Nat.le_of_ble_eq_true rfl, Nat.le_of_ble_eq_true rfl⟩) (cm_preV hP hK hD hS hA hX [0] rfl rfl rfl (q0 := 0) (ci := 11) rfl rfl) rfl rfl hl.1 rfl (lv_room (Nat.le_of_ble_eq_true rfl)) dL_law_1235 ⟨Nat.le_of_ble_eq_true rfl, Nat.le_of_ble_eq_true rfl⟩) hP hD hS hA [0] [1] rfl rfl rfl (by decide) (fun r_5 u H locs hw_6 hP hD hS => ?_)
  have hw_6 : r_5 = 1 := hw_6
  obtain rfl := hw_6
  have hP : va_P D vwCl [(mw, .inl (ct 0, 958, .inl m_w0)), (mo, .inr (11, [.ref mw, .ref ma, .ref mf, .ref m0, .ref m1, .ref mu, .ref mv, .ref u0, .ref u1, .ref iz, .int 1, .ref mb, .int 0, .int 0, .int 0, .int 0, .int 0, .int 0, .int 0]))] H := hP
  have hD : va_D A [(mw, .inl (ct 0, 958, .inl m_w0)), (mo, .inr (11, [.ref mw, .ref ma, .ref mf, .ref m0, .ref m1, .ref mu, .ref mv, .ref u0, .ref u1, .ref iz, .int 1, .ref mb, .int 0, .int 0, .int 0, .int 0, .int 0, .int 0, .int 0]))] := hD
  refine lv_iload hx hb dL_law_1238 (lv_at hl 1 rfl) ?_
  refine lv_icmp_eq (tgt := 1245) hx hb dL_law_1240 (by decide) (fun _ => ?_) (fun hc => absurd (by decide) hc)
  refine lv_iload hx hb dL_law_1245 (lv_at hl 1 rfl) ?_
  refine lv_if_ne (tgt := 1262) hx hb dL_law_1247 (by decide) (fun _ => ?_) (fun hc => absurd hc (by decide))
  refine lv_goto (tgt := 3623) hx hb dL_law_1262 (by decide) ?_
  exact law_end C1 hS (lv_sub hl [2, 7] rfl) (Nat.le_of_ble_eq_true rfl) (Nat.le_of_ble_eq_true rfl)
theorem dL_law_1265 : decode cL_law 1265 = .ok (.aload_n 1, 1) := by decide +kernel
theorem dL_law_1266 : decode cL_law 1266 = .ok (.aload_n 0, 1) := by decide +kernel
theorem dL_law_1267 : decode cL_law 1267 = .ok (.iload 5, 2) := by decide +kernel
theorem dL_law_1269 : decode cL_law 1269 = .ok (.iconst 1, 1) := by decide +kernel
theorem dL_law_1270 : decode cL_law 1270 = .ok (.iadd, 1) := by decide +kernel
theorem dL_law_1271 : decode cL_law 1271 = .ok (.iaload, 1) := by decide +kernel
theorem dL_law_1272 : decode cL_law 1272 = .ok (.aload_n 3, 1) := by decide +kernel
theorem dL_law_1273 : decode cL_law 1273 = .ok (.invokestatic 250, 3) := by decide +kernel
theorem dL_law_1276 : decode cL_law 1276 = .ok (.istore 6, 2) := by decide +kernel
theorem dL_law_1278 : decode cL_law 1278 = .ok (.aload_n 2, 1) := by decide +kernel
theorem dL_law_1279 : decode cL_law 1279 = .ok (.aload_n 0, 1) := by decide +kernel
theorem dL_law_1280 : decode cL_law 1280 = .ok (.iload 5, 2) := by decide +kernel
theorem dL_law_1282 : decode cL_law 1282 = .ok (.iconst 1, 1) := by decide +kernel
theorem dL_law_1283 : decode cL_law 1283 = .ok (.iadd, 1) := by decide +kernel
theorem dL_law_1284 : decode cL_law 1284 = .ok (.iaload, 1) := by decide +kernel
theorem dL_law_1285 : decode cL_law 1285 = .ok (.invokevirtual 252, 3) := by decide +kernel
theorem dL_law_1288 : decode cL_law 1288 = .ok (.istore 7, 2) := by decide +kernel
theorem dL_law_1290 : decode cL_law 1290 = .ok (.aload_n 2, 1) := by decide +kernel
theorem dL_law_1291 : decode cL_law 1291 = .ok (.invokevirtual 202, 3) := by decide +kernel
theorem dL_law_1294 : decode cL_law 1294 = .ok (.iload 6, 2) := by decide +kernel
theorem dL_law_1296 : decode cL_law 1296 = .ok (.if_icmp .eq 5, 3) := by decide +kernel
theorem dL_law_1301 : decode cL_law 1301 = .ok (.iload 6, 2) := by decide +kernel
theorem dL_law_1303 : decode cL_law 1303 = .ok (.ifCond .ne 15, 3) := by decide +kernel
theorem dL_law_1318 : decode cL_law 1318 = .ok (.goto 2305, 3) := by decide +kernel
set_option maxRecDepth 100000 in
set_option maxHeartbeats 4000000 in
theorem law_19 {p : Program} {l : Launch} {e : Env} {s : State} {m : MethodId} {below : List Frame} {meth : Method} {c : Code} {D : va_G} {ct : Nat → ClassId} {A : Nat → Prop} {b : Nat} {xs : Nat → Int32} {H : Heap} {locs : List Loc} {ls : Array Slot} (hfl : l.stackTraces = false) (C1 : cmL p s m meth c D ct A b 4 xs) (x : Nat) (w : Nat) (sp : Nat) (sv : Nat) (bu : Nat) (w_se : Nat) (w_cu : Nat) (w_pr : Nat) (w_ch : Nat) (w_re : Nat) (w_lo : Nat) (mo : Nat) (mw : Nat) (ma : Nat) (mf : Nat) (m0 : Nat) (m1 : Nat) (mu : Nat) (mv : Nat) (u0 : Nat) (u1 : Nat) (iz : Nat) (mb : Nat) (ov : Nat) (od : Nat) (hP : va_P D vwCl [(x, .inr (10, [.ref w, .ref sp, .ref sv, .ref bu, .int 0, .int 0])), (w, .inr (9, [.int 0, .ref w_se, .ref w_cu, .ref w_pr, .int 0, .ref w_ch, .ref w_re, .ref w_lo])), (mo, .inr (11, [.ref mw, .ref ma, .ref mf, .ref m0, .ref m1, .ref mu, .ref mv, .ref u0, .ref u1, .ref iz, .int 0, .ref mb, .int 0, .int 0, .int 0, .int 0, .int 0, .int 0, .int 0])), (mw, .inl (ct 0, 958, .inl m_w0)), (ov, .inl (ct 1, 1, .inr (.inl (fun _ => 0))))] H) (hD : va_D A [(x, .inr (10, [.ref w, .ref sp, .ref sv, .ref bu, .int 0, .int 0])), (w, .inr (9, [.int 0, .ref w_se, .ref w_cu, .ref w_pr, .int 0, .ref w_ch, .ref w_re, .ref w_lo])), (mo, .inr (11, [.ref mw, .ref ma, .ref mf, .ref m0, .ref m1, .ref mu, .ref mv, .ref u0, .ref u1, .ref iz, .int 0, .ref mb, .int 0, .int 0, .int 0, .int 0, .int 0, .int 0, .int 0])), (mw, .inl (ct 0, 958, .inl m_w0)), (ov, .inl (ct 1, 1, .inr (.inl (fun _ => 0))))]) (hS : va_S A s.heap H locs) (hl : lv_has ls 9 [(0, .ref b), (1, .ref x), (2, .ref mo), (3, .ref ov), (4, .ref od), (5, .int 0)]) : W p l e room_1 s m #[Value.ref b] below meth c H locs 157 8795 (lw_Z below #[Value.ref b] s) (F0 m 1265 ls []) := by
  obtain ⟨hx, hb, hr, hml, hown, hts, hK, hX, hXs, hbl, hbA, hA, hAr, hlocks⟩ := id C1
  refine lv_aload_n hx hb dL_law_1265 rfl (lv_at hl 1 rfl) ?_
  refine lv_aload_n hx hb dL_law_1266 rfl (lv_at hl 0 rfl) ?_
  refine lv_iload hx hb dL_law_1267 (lv_at hl 5 rfl) ?_
  refine lv_iconst (v := 1) hx hb dL_law_1269 (by decide) ?_
  refine lv_iadd hx hb dL_law_1270 ?_
  refine cm_cst (y := 1) (by decide) ?_
  refine va_sld hx hb hXs hbl hbA hS (cm_vin (by decide)) dL_law_1271 ?_
  refine lv_aload_n hx hb dL_law_1272 rfl (lv_at hl 3 rfl) ?_
  refine cm_ki (wr := [(mo, .inr (11, [.ref mw, .ref ma, .ref mf, .ref m0, .ref m1, .ref mu, .ref mv, .ref u0, .ref u1, .ref iz, .int 0, .ref mb, .int 0, .int 0, .int 0, .int 0, .int 0, .int 0, .int 0])), (mw, .inl (ct 0, 958, .inl m_w0))]) (vx_runSW (As := [.ref x, .int (xs (1 : Int32).toNatClampNeg), .ref ov]) (rest := []) ⟨hx, hb, hml, hown, hts⟩ (l_dequeue l hfl D ct x w sp sv bu w_se w_cu w_pr w_ch w_re w_lo ov (fun _ => 0) (xs (1 : Int32).toNatClampNeg) _) (cm_SW 3 hts kw_L_dequeue ki_RL kl_RL_250 ks_L_dequeue kd_L_dequeue ⟨Nat.le_of_ble_eq_true rfl, Nat.le_of_ble_eq_true rfl⟩) (cm_preS hP hK hD hS hA hX [0, 1, 4] rfl rfl rfl) rfl rfl hl.1 rfl (lv_room (Nat.le_of_ble_eq_true rfl)) dL_law_1273 ⟨Nat.le_of_ble_eq_true rfl, Nat.le_of_ble_eq_true rfl⟩) hP hD hS hA [0, 1, 4] [2, 3] rfl rfl rfl (by decide) (fun r_1 u H locs hw_2 hP hD hS => ?_)
  have hw_2 : r_1 = 1 := hw_2
  obtain rfl := hw_2
  have hP : va_P D vwCl [(mo, .inr (11, [.ref mw, .ref ma, .ref mf, .ref m0, .ref m1, .ref mu, .ref mv, .ref u0, .ref u1, .ref iz, .int 0, .ref mb, .int 0, .int 0, .int 0, .int 0, .int 0, .int 0, .int 0])), (mw, .inl (ct 0, 958, .inl m_w0))] H := hP
  have hD : va_D A [(mo, .inr (11, [.ref mw, .ref ma, .ref mf, .ref m0, .ref m1, .ref mu, .ref mv, .ref u0, .ref u1, .ref iz, .int 0, .ref mb, .int 0, .int 0, .int 0, .int 0, .int 0, .int 0, .int 0])), (mw, .inl (ct 0, 958, .inl m_w0))] := hD
  refine W.widen (k := 158) (n := 8801) (Nat.le_of_ble_eq_true rfl) (Nat.le_of_ble_eq_true rfl) ?_
  refine lv_istore (lv' := [(6, .int 1), (0, .ref b), (1, .ref x), (2, .ref mo), (3, .ref ov), (4, .ref od), (5, .int 0)]) hx hb dL_law_1276 hl (by decide) rfl (fun ls hl => ?_)
  refine lv_aload_n hx hb dL_law_1278 rfl (lv_at hl 3 rfl) ?_
  refine lv_aload_n hx hb dL_law_1279 rfl (lv_at hl 1 rfl) ?_
  refine lv_iload hx hb dL_law_1280 (lv_at hl 6 rfl) ?_
  refine lv_iconst (v := 1) hx hb dL_law_1282 (by decide) ?_
  refine lv_iadd hx hb dL_law_1283 ?_
  refine cm_cst (y := 1) (by decide) ?_
  refine va_sld hx hb hXs hbl hbA hS (cm_vin (by decide)) dL_law_1284 ?_
  refine cm_ki (wr := []) (va_runV (As := [.int (xs (1 : Int32).toNatClampNeg)]) (rest := []) ⟨hx, hb, hml, hown, hts⟩ (m_dequeue_0 l D ct mo mw ma mf m0 m1 mu mv u0 u1 iz mb (xs (1 : Int32).toNatClampNeg) _) (cm_V 1 hts kc_X11_dequeue ki_RX11 kl_RL_252 kv_X11_dequeue kx_X11_dequeue kd_X11_dequeue ⟨Nat.le_of_ble_eq_true rfl, Nat.le_of_ble_eq_true rfl⟩) (cm_preV hP hK hD hS hA hX [0, 1] rfl rfl rfl (q0 := 0) (ci := 11) rfl rfl) rfl rfl hl.1 rfl (lv_room (Nat.le_of_ble_eq_true rfl)) dL_law_1285 ⟨Nat.le_of_ble_eq_true rfl, Nat.le_of_ble_eq_true rfl⟩) hP hD hS hA [0, 1] [] rfl rfl rfl (by decide) (fun r_3 u H locs hw_4 hP hD hS => ?_)
  have hP : va_P D vwCl [(mo, .inr (11, [.ref mw, .ref ma, .ref mf, .ref m0, .ref m1, .ref mu, .ref mv, .ref u0, .ref u1, .ref iz, .int 1, .ref mb, .int 0, .int 0, .int 0, .int 0, .int 0, .int 0, .int 0])), (mw, .inl (ct 0, 958, .inl m_w0))] H := hP
  have hD : va_D A [(mo, .inr (11, [.ref mw, .ref ma, .ref mf, .ref m0, .ref m1, .ref mu, .ref mv, .ref u0, .ref u1, .ref iz, .int 1, .ref mb, .int 0, .int 0, .int 0, .int 0, .int 0, .int 0, .int 0])), (mw, .inl (ct 0, 958, .inl m_w0))] := hD
  refine lv_istore (lv' := [(7, .int r_3), (6, .int 1), (0, .ref b), (1, .ref x), (2, .ref mo), (3, .ref ov), (4, .ref od), (5, .int 0)]) hx hb dL_law_1288 hl (by decide) rfl (fun ls hl => ?_)
  refine lv_aload_n hx hb dL_law_1290 rfl (lv_at hl 4 rfl) ?_
  refine cm_ki (wr := [(mw, .inl (ct 0, 958, .inl m_w0))]) (va_runV (As := []) (rest := []) ⟨hx, hb, hml, hown, hts⟩ (m_thrown l D ct mo mw ma mf m0 m1 mu mv u0 u1 iz mb 1 _) (cm_V 0 hts kc_X11_thrown ki_RX11 kl_RL_202 kv_X11_thrown kx_X11_thrown kd_X11_thrown ⟨Nat.le_of_ble_eq_true rfl, Nat.le_of_ble_eq_true rfl⟩) (cm_preV hP hK hD hS hA hX [0] rfl rfl rfl (q0 := 0) (ci := 11) rfl rfl) rfl rfl hl.1 rfl (lv_room (Nat.le_of_ble_eq_true rfl)) dL_law_1291 ⟨Nat.le_of_ble_eq_true rfl, Nat.le_of_ble_eq_true rfl⟩) hP hD hS hA [0] [1] rfl rfl rfl (by decide) (fun r_5 u H locs hw_6 hP hD hS => ?_)
  have hw_6 : r_5 = 1 := hw_6
  obtain rfl := hw_6
  have hP : va_P D vwCl [(mw, .inl (ct 0, 958, .inl m_w0)), (mo, .inr (11, [.ref mw, .ref ma, .ref mf, .ref m0, .ref m1, .ref mu, .ref mv, .ref u0, .ref u1, .ref iz, .int 1, .ref mb, .int 0, .int 0, .int 0, .int 0, .int 0, .int 0, .int 0]))] H := hP
  have hD : va_D A [(mw, .inl (ct 0, 958, .inl m_w0)), (mo, .inr (11, [.ref mw, .ref ma, .ref mf, .ref m0, .ref m1, .ref mu, .ref mv, .ref u0, .ref u1, .ref iz, .int 1, .ref mb, .int 0, .int 0, .int 0, .int 0, .int 0, .int 0, .int 0]))] := hD
  refine lv_iload hx hb dL_law_1294 (lv_at hl 1 rfl) ?_
  refine lv_icmp_eq (tgt := 1301) hx hb dL_law_1296 (by decide) (fun _ => ?_) (fun hc => absurd (by decide) hc)
  refine lv_iload hx hb dL_law_1301 (lv_at hl 1 rfl) ?_
  refine lv_if_ne (tgt := 1318) hx hb dL_law_1303 (by decide) (fun _ => ?_) (fun hc => absurd hc (by decide))
  refine lv_goto (tgt := 3623) hx hb dL_law_1318 (by decide) ?_
  exact law_end C1 hS (lv_sub hl [2, 7] rfl) (Nat.le_of_ble_eq_true rfl) (Nat.le_of_ble_eq_true rfl)
