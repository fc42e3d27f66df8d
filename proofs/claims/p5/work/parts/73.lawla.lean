theorem cm_upto59 {x : Int32} (h : 0 ≤ x ∧ x ≤ 59) : x = 0 ∨ x = 1 ∨ x = 2 ∨ x = 3 ∨ x = 4 ∨ x = 5 ∨ x = 6 ∨ x = 7 ∨ x = 8 ∨ x = 9 ∨ x = 10 ∨ x = 11 ∨ x = 12 ∨ x = 13 ∨ x = 14 ∨ x = 15 ∨ x = 16 ∨ x = 17 ∨ x = 18 ∨ x = 19 ∨ x = 20 ∨ x = 21 ∨ x = 22 ∨ x = 23 ∨ x = 24 ∨ x = 25 ∨ x = 26 ∨ x = 27 ∨ x = 28 ∨ x = 29 ∨ x = 30 ∨ x = 31 ∨ x = 32 ∨ x = 33 ∨ x = 34 ∨ x = 35 ∨ x = 36 ∨ x = 37 ∨ x = 38 ∨ x = 39 ∨ x = 40 ∨ x = 41 ∨ x = 42 ∨ x = 43 ∨ x = 44 ∨ x = 45 ∨ x = 46 ∨ x = 47 ∨ x = 48 ∨ x = 49 ∨ x = 50 ∨ x = 51 ∨ x = 52 ∨ x = 53 ∨ x = 54 ∨ x = 55 ∨ x = 56 ∨ x = 57 ∨ x = 58 ∨ x = 59 := by
  obtain ⟨h0, h1⟩ := h
  rw [Int32.le_iff_toInt_le] at h0 h1
  have z : (0 : Int32).toInt = 0 := by decide
  have y : (59 : Int32).toInt = 59 := by decide
  have k : x.toInt = 0 ∨ x.toInt = 1 ∨ x.toInt = 2 ∨ x.toInt = 3 ∨ x.toInt = 4 ∨ x.toInt = 5 ∨ x.toInt = 6 ∨ x.toInt = 7 ∨ x.toInt = 8 ∨ x.toInt = 9 ∨ x.toInt = 10 ∨ x.toInt = 11 ∨ x.toInt = 12 ∨ x.toInt = 13 ∨ x.toInt = 14 ∨ x.toInt = 15 ∨ x.toInt = 16 ∨ x.toInt = 17 ∨ x.toInt = 18 ∨ x.toInt = 19 ∨ x.toInt = 20 ∨ x.toInt = 21 ∨ x.toInt = 22 ∨ x.toInt = 23 ∨ x.toInt = 24 ∨ x.toInt = 25 ∨ x.toInt = 26 ∨ x.toInt = 27 ∨ x.toInt = 28 ∨ x.toInt = 29 ∨ x.toInt = 30 ∨ x.toInt = 31 ∨ x.toInt = 32 ∨ x.toInt = 33 ∨ x.toInt = 34 ∨ x.toInt = 35 ∨ x.toInt = 36 ∨ x.toInt = 37 ∨ x.toInt = 38 ∨ x.toInt = 39 ∨ x.toInt = 40 ∨ x.toInt = 41 ∨ x.toInt = 42 ∨ x.toInt = 43 ∨ x.toInt = 44 ∨ x.toInt = 45 ∨ x.toInt = 46 ∨ x.toInt = 47 ∨ x.toInt = 48 ∨ x.toInt = 49 ∨ x.toInt = 50 ∨ x.toInt = 51 ∨ x.toInt = 52 ∨ x.toInt = 53 ∨ x.toInt = 54 ∨ x.toInt = 55 ∨ x.toInt = 56 ∨ x.toInt = 57 ∨ x.toInt = 58 ∨ x.toInt = 59 := by omega
  rcases k with k | k | k | k | k | k | k | k | k | k | k | k | k | k | k | k | k | k | k | k | k | k | k | k | k | k | k | k | k | k | k | k | k | k | k | k | k | k | k | k | k | k | k | k | k | k | k | k | k | k | k | k | k | k | k | k | k | k | k | k
  · exact Or.inl (Int32.toInt_inj.mp (k.trans (by decide)))
  · exact Or.inr (Or.inl (Int32.toInt_inj.mp (k.trans (by decide))))
  · exact Or.inr (Or.inr (Or.inl (Int32.toInt_inj.mp (k.trans (by decide)))))
  · exact Or.inr (Or.inr (Or.inr (Or.inl (Int32.toInt_inj.mp (k.trans (by decide))))))
  · exact Or.inr (Or.inr (Or.inr (Or.inr (Or.inl (Int32.toInt_inj.mp (k.trans (by decide)))))))
  · exact Or.inr (Or.inr (Or.inr (Or.inr (Or.inr (Or.inl (Int32.toInt_inj.mp (k.trans (by decide))))))))
  · exact Or.inr (Or.inr (Or.inr (Or.inr (Or.inr (Or.inr (Or.inl (Int32.toInt_inj.mp (k.trans (by decide)))))))))
  · exact Or.inr (Or.inr (Or.inr (Or.inr (Or.inr (Or.inr (Or.inr (Or.inl (Int32.toInt_inj.mp (k.trans (by decide))))))))))
  · exact Or.inr (Or.inr (Or.inr (Or.inr (Or.inr (Or.inr (Or.inr (Or.inr (Or.inl (Int32.toInt_inj.mp (k.trans (by decide)))))))))))
  · exact Or.inr (Or.inr (Or.inr (Or.inr (Or.inr (Or.inr (Or.inr (Or.inr (Or.inr (Or.inl (Int32.toInt_inj.mp (k.trans (by decide))))))))))))
  · exact Or.inr (Or.inr (Or.inr (Or.inr (Or.inr (Or.inr (Or.inr (Or.inr (Or.inr (Or.inr (Or.inl (Int32.toInt_inj.mp (k.trans (by decide)))))))))))))
  · exact Or.inr (Or.inr (Or.inr (Or.inr (Or.inr (Or.inr (Or.inr (Or.inr (Or.inr (Or.inr (Or.inr (Or.inl (Int32.toInt_inj.mp (k.trans (by decide))))))))))))))
  · exact Or.inr (Or.inr (Or.inr (Or.inr (Or.inr (Or.inr (Or.inr (Or.inr (Or.inr (Or.inr (Or.inr (Or.inr (Or.inl (Int32.toInt_inj.mp (k.trans (by decide)))))))))))))))
  · exact Or.inr (Or.inr (Or.inr (Or.inr (Or.inr (Or.inr (Or.inr (Or.inr (Or.inr (Or.inr (Or.inr (Or.inr (Or.inr (Or.inl (Int32.toInt_inj.mp (k.trans (by decide))))))))))))))))
  · exact Or.inr (Or.inr (Or.inr (Or.inr (Or.inr (Or.inr (Or.inr (Or.inr (Or.inr (Or.inr (Or.inr (Or.inr (Or.inr (Or.inr (Or.inl (Int32.toInt_inj.mp (k.trans (by decide)))))))))))))))))
  · exact Or.inr (Or.inr (Or.inr (Or.inr (Or.inr (Or.inr (Or.inr (Or.inr (Or.inr (Or.inr (Or.inr (Or.inr (Or.inr (Or.inr (Or.inr (Or.inl (Int32.toInt_inj.mp (k.trans (by decide))))))))))))))))))
  · exact Or.inr (Or.inr (Or.inr (Or.inr (Or.inr (Or.inr (Or.inr (Or.inr (Or.inr (Or.inr (Or.inr (Or.inr (Or.inr (Or.inr (Or.inr (Or.inr (Or.inl (Int32.toInt_inj.mp (k.trans (by decide)))))))))))))))))))
  · exact Or.inr (Or.inr (Or.inr (Or.inr (Or.inr (Or.inr (Or.inr (Or.inr (Or.inr (Or.inr (Or.inr (Or.inr (Or.inr (Or.inr (Or.inr (Or.inr (Or.inr (Or.inl (Int32.toInt_inj.mp (k.trans (by decide))))))))))))))))))))
  · exact Or.inr (Or.inr (Or.inr (Or.inr (Or.inr (Or.inr (Or.inr (Or.inr (Or.inr (Or.inr (Or.inr (Or.inr (Or.inr (Or.inr (Or.inr (Or.inr (Or.inr (Or.inr (Or.inl (Int32.toInt_inj.mp (k.trans (by decide)))))))))))))))))))))
  · exact Or.inr (Or.inr (Or.inr (Or.inr (Or.inr (Or.inr (Or.inr (Or.inr (Or.inr (Or.inr (Or.inr (Or.inr (Or.inr (Or.inr (Or.inr (Or.inr (Or.inr (Or.inr (Or.inr (Or.inl (Int32.toInt_inj.mp (k.trans (by decide))))))))))))))))))))))
  · exact Or.inr (Or.inr (Or.inr (Or.inr (Or.inr (Or.inr (Or.inr (Or.inr (Or.inr (Or.inr (Or.inr (Or.inr (Or.inr (Or.inr (Or.inr (Or.inr (Or.inr (Or.inr (Or.inr (Or.inr (Or.inl (Int32.toInt_inj.mp (k.trans (by decide)))))))))))))))))))))))
  · exact Or.inr (Or.inr (Or.inr (Or.inr (Or.inr (Or.inr (Or.inr (Or.inr (Or.inr (Or.inr (Or.inr (Or.inr (Or.inr (Or.inr (Or.inr (Or.inr (Or.inr (Or.inr (Or.inr (Or.inr (Or.inr (Or.inl (Int32.toInt_inj.mp (k.trans (by decide))))))))))))))))))))))))
  · exact Or.inr (Or.inr (Or.inr (Or.inr (Or.inr (Or.inr (Or.inr (Or.inr (Or.inr (Or.inr (Or.inr (Or.inr (Or.inr (Or.inr (Or.inr (Or.inr (Or.inr (Or.inr (Or.inr (Or.inr (Or.inr (Or.inr (Or.inl (Int32.toInt_inj.mp (k.trans (by decide)))))))))))))))))))))))))
  · exact Or.inr (Or.inr (Or.inr (Or.inr (Or.inr (Or.inr (Or.inr (Or.inr (Or.inr (Or.inr (Or.inr (Or.inr (Or.inr (Or.inr (Or.inr (Or.inr (Or.inr (Or.inr (Or.inr (Or.inr (Or.inr (Or.inr (Or.inr (Or.inl (Int32.toInt_inj.mp (k.trans (by decide))))))))))))))))))))))))))
  · exact Or.inr (Or.inr (Or.inr (Or.inr (Or.inr (Or.inr (Or.inr (Or.inr (Or.inr (Or.inr (Or.inr (Or.inr (Or.inr (Or.inr (Or.inr (Or.inr (Or.inr (Or.inr (Or.inr (Or.inr (Or.inr (Or.inr (Or.inr (Or.inr (Or.inl (Int32.toInt_inj.mp (k.trans (by decide)))))))))))))))))))))))))))
  · exact Or.inr (Or.inr (Or.inr (Or.inr (Or.inr (Or.inr (Or.inr (Or.inr (Or.inr (Or.inr (Or.inr (Or.inr (Or.inr (Or.inr (Or.inr (Or.inr (Or.inr (Or.inr (Or.inr (Or.inr (Or.inr (Or.inr (Or.inr (Or.inr (Or.inr (Or.inl (Int32.toInt_inj.mp (k.trans (by decide))))))))))))))))))))))))))))
  · exact Or.inr (Or.inr (Or.inr (Or.inr (Or.inr (Or.inr (Or.inr (Or.inr (Or.inr (Or.inr (Or.inr (Or.inr (Or.inr (Or.inr (Or.inr (Or.inr (Or.inr (Or.inr (Or.inr (Or.inr (Or.inr (Or.inr (Or.inr (Or.inr (Or.inr (Or.inr (Or.inl (Int32.toInt_inj.mp (k.trans (by decide)))))))))))))))))))))))))))))
  · exact Or.inr (Or.inr (Or.inr (Or.inr (Or.inr (Or.inr (Or.inr (Or.inr (Or.inr (Or.inr (Or.inr (Or.inr (Or.inr (Or.inr (Or.inr (Or.inr (Or.inr (Or.inr (Or.inr (Or.inr (Or.inr (Or.inr (Or.inr (Or.inr (Or.inr (Or.inr (Or.inr (Or.inl (Int32.toInt_inj.mp (k.trans (by decide))))))))))))))))))))))))))))))
  · exact Or.inr (Or.inr (Or.inr (Or.inr (Or.inr (Or.inr (Or.inr (Or.inr (Or.inr (Or.inr (Or.inr (Or.inr (Or.inr (Or.inr (Or.inr (Or.inr (Or.inr (Or.inr (Or.inr (Or.inr (Or.inr (Or.inr (Or.inr (Or.inr (Or.inr (Or.inr (Or.inr (Or.inr (Or.inl (Int32.toInt_inj.mp (k.trans (by decide)))))))))))))))))))))))))))))))
  · exact Or.inr (Or.inr (Or.inr (Or.inr (Or.inr (Or.inr (Or.inr (Or.inr (Or.inr (Or.inr (Or.inr (Or.inr (Or.inr (Or.inr (Or.inr (Or.inr (Or.inr (Or.inr (Or.inr (Or.inr (Or.inr (Or.inr (Or.inr (Or.inr (Or.inr (Or.inr (Or.inr (Or.inr (Or.inr (Or.inl (Int32.toInt_inj.mp (k.trans (by decide))))))))))))))))))))))))))))))))
  · exact Or.inr (Or.inr (Or.inr (Or.inr (Or.inr (Or.inr (Or.inr (Or.inr (Or.inr (Or.inr (Or.inr (Or.inr (Or.inr (Or.inr (Or.inr (Or.inr (Or.inr (Or.inr (Or.inr (Or.inr (Or.inr (Or.inr (Or.inr (Or.inr (Or.inr (Or.inr (Or.inr (Or.inr (Or.inr (Or.inr (Or.inl (Int32.toInt_inj.mp (k.trans (by decide)))))))))))))))))))))))))))))))))
  · exact Or.inr (Or.inr (Or.inr (Or.inr (Or.inr (Or.inr (Or.inr (Or.inr (Or.inr (Or.inr (Or.inr (Or.inr (Or.inr (Or.inr (Or.inr (Or.inr (Or.inr (Or.inr (Or.inr (Or.inr (Or.inr (Or.inr (Or.inr (Or.inr (Or.inr (Or.inr (Or.inr (Or.inr (Or.inr (Or.inr (Or.inr (Or.inl (Int32.toInt_inj.mp (k.trans (by decide))))))))))))))))))))))))))))))))))
  · exact Or.inr (Or.inr (Or.inr (Or.inr (Or.inr (Or.inr (Or.inr (Or.inr (Or.inr (Or.inr (Or.inr (Or.inr (Or.inr (Or.inr (Or.inr (Or.inr (Or.inr (Or.inr (Or.inr (Or.inr (Or.inr (Or.inr (Or.inr (Or.inr (Or.inr (Or.inr (Or.inr (Or.inr (Or.inr (Or.inr (Or.inr (Or.inr (Or.inl (Int32.toInt_inj.mp (k.trans (by decide)))))))))))))))))))))))))))))))))))
  · exact Or.inr (Or.inr (Or.inr (Or.inr (Or.inr (Or.inr (Or.inr (Or.inr (Or.inr (Or.inr (Or.inr (Or.inr (Or.inr (Or.inr (Or.inr (Or.inr (Or.inr (Or.inr (Or.inr (Or.inr (Or.inr (Or.inr (Or.inr (Or.inr (Or.inr (Or.inr (Or.inr (Or.inr (Or.inr (Or.inr (Or.inr (Or.inr (Or.inr (Or.inl (Int32.toInt_inj.mp (k.trans (by decide))))))))))))))))))))))))))))))))))))
  · exact Or.inr (Or.inr (Or.inr (Or.inr (Or.inr (Or.inr (Or.inr (Or.inr (Or.inr (Or.inr (Or.inr (Or.inr (Or.inr (Or.inr (Or.inr (Or.inr (Or.inr (Or.inr (Or.inr (Or.inr (Or.inr (Or.inr (Or.inr (Or.inr (Or.inr (Or.inr (Or.inr (Or.inr (Or.inr (Or.inr (Or.inr (Or.inr (Or.inr (Or.inr (Or.inl (Int32.toInt_inj.mp (k.trans (by decide)))))))))))))))))))))))))))))))))))))
  · exact Or.inr (Or.inr (Or.inr (Or.inr (Or.inr (Or.inr (Or.inr (Or.inr (Or.inr (Or.inr (Or.inr (Or.inr (Or.inr (Or.inr (Or.inr (Or.inr (Or.inr (Or.inr (Or.inr (Or.inr (Or.inr (Or.inr (Or.inr (Or.inr (Or.inr (Or.inr (Or.inr (Or.inr (Or.inr (Or.inr (Or.inr (Or.inr (Or.inr (Or.inr (Or.inr (Or.inl (Int32.toInt_inj.mp (k.trans (by decide))))))))))))))))))))))))))))))))))))))
  · exact Or.inr (Or.inr (Or.inr (Or.inr (Or.inr (Or.inr (Or.inr (Or.inr (Or.inr (Or.inr (Or.inr (Or.inr (Or.inr (Or.inr (Or.inr (Or.inr (Or.inr (Or.inr (Or.inr (Or.inr (Or.inr (Or.inr (Or.inr (Or.inr (Or.inr (Or.inr (Or.inr (Or.inr (Or.inr (Or.inr (Or.inr (Or.inr (Or.inr (Or.inr (Or.inr (Or.inr (Or.inl (Int32.toInt_inj.mp (k.trans (by decide)))))))))))))))))))))))))))))))))))))))
  · exact Or.inr (Or.inr (Or.inr (Or.inr (Or.inr (Or.inr (Or.inr (Or.inr (Or.inr (Or.inr (Or.inr (Or.inr (Or.inr (Or.inr (Or.inr (Or.inr (Or.inr (Or.inr (Or.inr (Or.inr (Or.inr (Or.inr (Or.inr (Or.inr (Or.inr (Or.inr (Or.inr (Or.inr (Or.inr (Or.inr (Or.inr (Or.inr (Or.inr (Or.inr (Or.inr (Or.inr (Or.inr (Or.inl (Int32.toInt_inj.mp (k.trans (by decide))))))))))))))))))))))))))))))))))))))))
  · exact Or.inr (Or.inr (Or.inr (Or.inr (Or.inr (Or.inr (Or.inr (Or.inr (Or.inr (Or.inr (Or.inr (Or.inr (Or.inr (Or.inr (Or.inr (Or.inr (Or.inr (Or.inr (Or.inr (Or.inr (Or.inr (Or.inr (Or.inr (Or.inr (Or.inr (Or.inr (Or.inr (Or.inr (Or.inr (Or.inr (Or.inr (Or.inr (Or.inr (Or.inr (Or.inr (Or.inr (Or.inr (Or.inr (Or.inl (Int32.toInt_inj.mp (k.trans (by decide)))))))))))))))))))))))))))))))))))))))))
  · exact Or.inr (Or.inr (Or.inr (Or.inr (Or.inr (Or.inr (Or.inr (Or.inr (Or.inr (Or.inr (Or.inr (Or.inr (Or.inr (Or.inr (Or.inr (Or.inr (Or.inr (Or.inr (Or.inr (Or.inr (Or.inr (Or.inr (Or.inr (Or.inr (Or.inr (Or.inr (Or.inr (Or.inr (Or.inr (Or.inr (Or.inr (Or.inr (Or.inr (Or.inr (Or.inr (Or.inr (Or.inr (Or.inr (Or.inr (Or.inl (Int32.toInt_inj.mp (k.trans (by decide))))))))))))))))))))))))))))))))))))))))))
  · exact Or.inr (Or.inr (Or.inr (Or.inr (Or.inr (Or.inr (Or.inr (Or.inr (Or.inr (Or.inr (Or.inr (Or.inr (Or.inr (Or.inr (Or.inr (Or.inr (Or.inr (Or.inr (Or.inr (Or.inr (Or.inr (Or.inr (Or.inr (Or.inr (Or.inr (Or.inr (Or.inr (Or.inr (Or.inr (Or.inr (Or.inr (Or.inr (Or.inr (Or.inr (Or.inr (Or.inr (Or.inr (Or.inr (Or.inr (Or.inr (Or.inl (Int32.toInt_inj.mp (k.trans (by decide)))))))))))))))))))))))))))))))))))))))))))
  · exact Or.inr (Or.inr (Or.inr (Or.inr (Or.inr (Or.inr (Or.inr (Or.inr (Or.inr (Or.inr (Or.inr (Or.inr (Or.inr (Or.inr (Or.inr (Or.inr (Or.inr (Or.inr (Or.inr (Or.inr (Or.inr (Or.inr (Or.inr (Or.inr (Or.inr (Or.inr (Or.inr (Or.inr (Or.inr (Or.inr (Or.inr (Or.inr (Or.inr (Or.inr (Or.inr (Or.inr (Or.inr (Or.inr (Or.inr (Or.inr (Or.inr (Or.inl (Int32.toInt_inj.mp (k.trans (by decide))))))))))))))))))))))))))))))))))))))))))))
  · exact Or.inr (Or.inr (Or.inr (Or.inr (Or.inr (Or.inr (Or.inr (Or.inr (Or.inr (Or.inr (Or.inr (Or.inr (Or.inr (Or.inr (Or.inr (Or.inr (Or.inr (Or.inr (Or.inr (Or.inr (Or.inr (Or.inr (Or.inr (Or.inr (Or.inr (Or.inr (Or.inr (Or.inr (Or.inr (Or.inr (Or.inr (Or.inr (Or.inr (Or.inr (Or.inr (Or.inr (Or.inr (Or.inr (Or.inr (Or.inr (Or.inr (Or.inr (Or.inl (Int32.toInt_inj.mp (k.trans (by decide)))))))))))))))))))))))))))))))))))))))))))))
  · exact Or.inr (Or.inr (Or.inr (Or.inr (Or.inr (Or.inr (Or.inr (Or.inr (Or.inr (Or.inr (Or.inr (Or.inr (Or.inr (Or.inr (Or.inr (Or.inr (Or.inr (Or.inr (Or.inr (Or.inr (Or.inr (Or.inr (Or.inr (Or.inr (Or.inr (Or.inr (Or.inr (Or.inr (Or.inr (Or.inr (Or.inr (Or.inr (Or.inr (Or.inr (Or.inr (Or.inr (Or.inr (Or.inr (Or.inr (Or.inr (Or.inr (Or.inr (Or.inr (Or.inl (Int32.toInt_inj.mp (k.trans (by decide))))))))))))))))))))))))))))))))))))))))))))))
  · exact Or.inr (Or.inr (Or.inr (Or.inr (Or.inr (Or.inr (Or.inr (Or.inr (Or.inr (Or.inr (Or.inr (Or.inr (Or.inr (Or.inr (Or.inr (Or.inr (Or.inr (Or.inr (Or.inr (Or.inr (Or.inr (Or.inr (Or.inr (Or.inr (Or.inr (Or.inr (Or.inr (Or.inr (Or.inr (Or.inr (Or.inr (Or.inr (Or.inr (Or.inr (Or.inr (Or.inr (Or.inr (Or.inr (Or.inr (Or.inr (Or.inr (Or.inr (Or.inr (Or.inr (Or.inl (Int32.toInt_inj.mp (k.trans (by decide)))))))))))))))))))))))))))))))))))))))))))))))
  · exact Or.inr (Or.inr (Or.inr (Or.inr (Or.inr (Or.inr (Or.inr (Or.inr (Or.inr (Or.inr (Or.inr (Or.inr (Or.inr (Or.inr (Or.inr (Or.inr (Or.inr (Or.inr (Or.inr (Or.inr (Or.inr (Or.inr (Or.inr (Or.inr (Or.inr (Or.inr (Or.inr (Or.inr (Or.inr (Or.inr (Or.inr (Or.inr (Or.inr (Or.inr (Or.inr (Or.inr (Or.inr (Or.inr (Or.inr (Or.inr (Or.inr (Or.inr (Or.inr (Or.inr (Or.inr (Or.inl (Int32.toInt_inj.mp (k.trans (by decide))))))))))))))))))))))))))))))))))))))))))))))))
  · exact Or.inr (Or.inr (Or.inr (Or.inr (Or.inr (Or.inr (Or.inr (Or.inr (Or.inr (Or.inr (Or.inr (Or.inr (Or.inr (Or.inr (Or.inr (Or.inr (Or.inr (Or.inr (Or.inr (Or.inr (Or.inr (Or.inr (Or.inr (Or.inr (Or.inr (Or.inr (Or.inr (Or.inr (Or.inr (Or.inr (Or.inr (Or.inr (Or.inr (Or.inr (Or.inr (Or.inr (Or.inr (Or.inr (Or.inr (Or.inr (Or.inr (Or.inr (Or.inr (Or.inr (Or.inr (Or.inr (Or.inl (Int32.toInt_inj.mp (k.trans (by decide)))))))))))))))))))))))))))))))))))))))))))))))))
  · exact Or.inr (Or.inr (Or.inr (Or.inr (Or.inr (Or.inr (Or.inr (Or.inr (Or.inr (Or.inr (Or.inr (Or.inr (Or.inr (Or.inr (Or.inr (Or.inr (Or.inr (Or.inr (Or.inr (Or.inr (Or.inr (Or.inr (Or.inr (Or.inr (Or.inr (Or.inr (Or.inr (Or.inr (Or.inr (Or.inr (Or.inr (Or.inr (Or.inr (Or.inr (Or.inr (Or.inr (Or.inr (Or.inr (Or.inr (Or.inr (Or.inr (Or.inr (Or.inr (Or.inr (Or.inr (Or.inr (Or.inr (Or.inl (Int32.toInt_inj.mp (k.trans (by decide))))))))))))))))))))))))))))))))))))))))))))))))))
  · exact Or.inr (Or.inr (Or.inr (Or.inr (Or.inr (Or.inr (Or.inr (Or.inr (Or.inr (Or.inr (Or.inr (Or.inr (Or.inr (Or.inr (Or.inr (Or.inr (Or.inr (Or.inr (Or.inr (Or.inr (Or.inr (Or.inr (Or.inr (Or.inr (Or.inr (Or.inr (Or.inr (Or.inr (Or.inr (Or.inr (Or.inr (Or.inr (Or.inr (Or.inr (Or.inr (Or.inr (Or.inr (Or.inr (Or.inr (Or.inr (Or.inr (Or.inr (Or.inr (Or.inr (Or.inr (Or.inr (Or.inr (Or.inr (Or.inl (Int32.toInt_inj.mp (k.trans (by decide)))))))))))))))))))))))))))))))))))))))))))))))))))
  · exact Or.inr (Or.inr (Or.inr (Or.inr (Or.inr (Or.inr (Or.inr (Or.inr (Or.inr (Or.inr (Or.inr (Or.inr (Or.inr (Or.inr (Or.inr (Or.inr (Or.inr (Or.inr (Or.inr (Or.inr (Or.inr (Or.inr (Or.inr (Or.inr (Or.inr (Or.inr (Or.inr (Or.inr (Or.inr (Or.inr (Or.inr (Or.inr (Or.inr (Or.inr (Or.inr (Or.inr (Or.inr (Or.inr (Or.inr (Or.inr (Or.inr (Or.inr (Or.inr (Or.inr (Or.inr (Or.inr (Or.inr (Or.inr (Or.inr (Or.inl (Int32.toInt_inj.mp (k.trans (by decide))))))))))))))))))))))))))))))))))))))))))))))))))))
  · exact Or.inr (Or.inr (Or.inr (Or.inr (Or.inr (Or.inr (Or.inr (Or.inr (Or.inr (Or.inr (Or.inr (Or.inr (Or.inr (Or.inr (Or.inr (Or.inr (Or.inr (Or.inr (Or.inr (Or.inr (Or.inr (Or.inr (Or.inr (Or.inr (Or.inr (Or.inr (Or.inr (Or.inr (Or.inr (Or.inr (Or.inr (Or.inr (Or.inr (Or.inr (Or.inr (Or.inr (Or.inr (Or.inr (Or.inr (Or.inr (Or.inr (Or.inr (Or.inr (Or.inr (Or.inr (Or.inr (Or.inr (Or.inr (Or.inr (Or.inr (Or.inl (Int32.toInt_inj.mp (k.trans (by decide)))))))))))))))))))))))))))))))))))))))))))))))))))))
  · exact Or.inr (Or.inr (Or.inr (Or.inr (Or.inr (Or.inr (Or.inr (Or.inr (Or.inr (Or.inr (Or.inr (Or.inr (Or.inr (Or.inr (Or.inr (Or.inr (Or.inr (Or.inr (Or.inr (Or.inr (Or.inr (Or.inr (Or.inr (Or.inr (Or.inr (Or.inr (Or.inr (Or.inr (Or.inr (Or.inr (Or.inr (Or.inr (Or.inr (Or.inr (Or.inr (Or.inr (Or.inr (Or.inr (Or.inr (Or.inr (Or.inr (Or.inr (Or.inr (Or.inr (Or.inr (Or.inr (Or.inr (Or.inr (Or.inr (Or.inr (Or.inr (Or.inl (Int32.toInt_inj.mp (k.trans (by decide))))))))))))))))))))))))))))))))))))))))))))))))))))))
  · exact Or.inr (Or.inr (Or.inr (Or.inr (Or.inr (Or.inr (Or.inr (Or.inr (Or.inr (Or.inr (Or.inr (Or.inr (Or.inr (Or.inr (Or.inr (Or.inr (Or.inr (Or.inr (Or.inr (Or.inr (Or.inr (Or.inr (Or.inr (Or.inr (Or.inr (Or.inr (Or.inr (Or.inr (Or.inr (Or.inr (Or.inr (Or.inr (Or.inr (Or.inr (Or.inr (Or.inr (Or.inr (Or.inr (Or.inr (Or.inr (Or.inr (Or.inr (Or.inr (Or.inr (Or.inr (Or.inr (Or.inr (Or.inr (Or.inr (Or.inr (Or.inr (Or.inr (Or.inl (Int32.toInt_inj.mp (k.trans (by decide)))))))))))))))))))))))))))))))))))))))))))))))))))))))
  · exact Or.inr (Or.inr (Or.inr (Or.inr (Or.inr (Or.inr (Or.inr (Or.inr (Or.inr (Or.inr (Or.inr (Or.inr (Or.inr (Or.inr (Or.inr (Or.inr (Or.inr (Or.inr (Or.inr (Or.inr (Or.inr (Or.inr (Or.inr (Or.inr (Or.inr (Or.inr (Or.inr (Or.inr (Or.inr (Or.inr (Or.inr (Or.inr (Or.inr (Or.inr (Or.inr (Or.inr (Or.inr (Or.inr (Or.inr (Or.inr (Or.inr (Or.inr (Or.inr (Or.inr (Or.inr (Or.inr (Or.inr (Or.inr (Or.inr (Or.inr (Or.inr (Or.inr (Or.inr (Or.inl (Int32.toInt_inj.mp (k.trans (by decide))))))))))))))))))))))))))))))))))))))))))))))))))))))))
  · exact Or.inr (Or.inr (Or.inr (Or.inr (Or.inr (Or.inr (Or.inr (Or.inr (Or.inr (Or.inr (Or.inr (Or.inr (Or.inr (Or.inr (Or.inr (Or.inr (Or.inr (Or.inr (Or.inr (Or.inr (Or.inr (Or.inr (Or.inr (Or.inr (Or.inr (Or.inr (Or.inr (Or.inr (Or.inr (Or.inr (Or.inr (Or.inr (Or.inr (Or.inr (Or.inr (Or.inr (Or.inr (Or.inr (Or.inr (Or.inr (Or.inr (Or.inr (Or.inr (Or.inr (Or.inr (Or.inr (Or.inr (Or.inr (Or.inr (Or.inr (Or.inr (Or.inr (Or.inr (Or.inr (Or.inl (Int32.toInt_inj.mp (k.trans (by decide)))))))))))))))))))))))))))))))))))))))))))))))))))))))))
  · exact Or.inr (Or.inr (Or.inr (Or.inr (Or.inr (Or.inr (Or.inr (Or.inr (Or.inr (Or.inr (Or.inr (Or.inr (Or.inr (Or.inr (Or.inr (Or.inr (Or.inr (Or.inr (Or.inr (Or.inr (Or.inr (Or.inr (Or.inr (Or.inr (Or.inr (Or.inr (Or.inr (Or.inr (Or.inr (Or.inr (Or.inr (Or.inr (Or.inr (Or.inr (Or.inr (Or.inr (Or.inr (Or.inr (Or.inr (Or.inr (Or.inr (Or.inr (Or.inr (Or.inr (Or.inr (Or.inr (Or.inr (Or.inr (Or.inr (Or.inr (Or.inr (Or.inr (Or.inr (Or.inr (Or.inr (Or.inl (Int32.toInt_inj.mp (k.trans (by decide))))))))))))))))))))))))))))))))))))))))))))))))))))))))))
  · exact Or.inr (Or.inr (Or.inr (Or.inr (Or.inr (Or.inr (Or.inr (Or.inr (Or.inr (Or.inr (Or.inr (Or.inr (Or.inr (Or.inr (Or.inr (Or.inr (Or.inr (Or.inr (Or.inr (Or.inr (Or.inr (Or.inr (Or.inr (Or.inr (Or.inr (Or.inr (Or.inr (Or.inr (Or.inr (Or.inr (Or.inr (Or.inr (Or.inr (Or.inr (Or.inr (Or.inr (Or.inr (Or.inr (Or.inr (Or.inr (Or.inr (Or.inr (Or.inr (Or.inr (Or.inr (Or.inr (Or.inr (Or.inr (Or.inr (Or.inr (Or.inr (Or.inr (Or.inr (Or.inr (Or.inr (Or.inr (Or.inl (Int32.toInt_inj.mp (k.trans (by decide)))))))))))))))))))))))))))))))))))))))))))))))))))))))))))
  · exact Or.inr (Or.inr (Or.inr (Or.inr (Or.inr (Or.inr (Or.inr (Or.inr (Or.inr (Or.inr (Or.inr (Or.inr (Or.inr (Or.inr (Or.inr (Or.inr (Or.inr (Or.inr (Or.inr (Or.inr (Or.inr (Or.inr (Or.inr (Or.inr (Or.inr (Or.inr (Or.inr (Or.inr (Or.inr (Or.inr (Or.inr (Or.inr (Or.inr (Or.inr (Or.inr (Or.inr (Or.inr (Or.inr (Or.inr (Or.inr (Or.inr (Or.inr (Or.inr (Or.inr (Or.inr (Or.inr (Or.inr (Or.inr (Or.inr (Or.inr (Or.inr (Or.inr (Or.inr (Or.inr (Or.inr (Or.inr (Or.inr (Or.inl (Int32.toInt_inj.mp (k.trans (by decide))))))))))))))))))))))))))))))))))))))))))))))))))))))))))))
  · exact Or.inr (Or.inr (Or.inr (Or.inr (Or.inr (Or.inr (Or.inr (Or.inr (Or.inr (Or.inr (Or.inr (Or.inr (Or.inr (Or.inr (Or.inr (Or.inr (Or.inr (Or.inr (Or.inr (Or.inr (Or.inr (Or.inr (Or.inr (Or.inr (Or.inr (Or.inr (Or.inr (Or.inr (Or.inr (Or.inr (Or.inr (Or.inr (Or.inr (Or.inr (Or.inr (Or.inr (Or.inr (Or.inr (Or.inr (Or.inr (Or.inr (Or.inr (Or.inr (Or.inr (Or.inr (Or.inr (Or.inr (Or.inr (Or.inr (Or.inr (Or.inr (Or.inr (Or.inr (Or.inr (Or.inr (Or.inr (Or.inr (Or.inr (Or.inl (Int32.toInt_inj.mp (k.trans (by decide)))))))))))))))))))))))))))))))))))))))))))))))))))))))))))))
  · exact Or.inr (Or.inr (Or.inr (Or.inr (Or.inr (Or.inr (Or.inr (Or.inr (Or.inr (Or.inr (Or.inr (Or.inr (Or.inr (Or.inr (Or.inr (Or.inr (Or.inr (Or.inr (Or.inr (Or.inr (Or.inr (Or.inr (Or.inr (Or.inr (Or.inr (Or.inr (Or.inr (Or.inr (Or.inr (Or.inr (Or.inr (Or.inr (Or.inr (Or.inr (Or.inr (Or.inr (Or.inr (Or.inr (Or.inr (Or.inr (Or.inr (Or.inr (Or.inr (Or.inr (Or.inr (Or.inr (Or.inr (Or.inr (Or.inr (Or.inr (Or.inr (Or.inr (Or.inr (Or.inr (Or.inr (Or.inr (Or.inr (Or.inr (Or.inr (Int32.toInt_inj.mp (k.trans (by decide)))))))))))))))))))))))))))))))))))))))))))))))))))))))))))))
theorem rf_lwo {L : Nat} (hL : L ≤ 2048) : (Int32.ofNat L).toInt = L := Int32.toInt_ofNat_of_lt (by omega)
theorem rf_lwi {i : Int32} {L : Nat} (hL : L ≤ 2048) (h : ¬ (Int32.ofNat L) - 4 < i) : i.toInt + 4 ≤ L := by
  have e := rf_lwo hL
  have t : (4 : Int32).toInt = 4 := by decide
  rw [Int32.lt_iff_toInt_lt, Jvm.Kit.i32_sub (by rw [e, t]; omega) (by rw [e, t]; omega), e, t] at h
  omega
theorem rf_lw4 {i : Int32} (h : 0 ≤ i.toInt ∧ i.toInt ≤ 4096) : (i + Int32.ofInt 4).toInt = i.toInt + 4 := rf_pk (by decide) (by omega) (by omega)
set_option maxRecDepth 100000 in
set_option maxHeartbeats 4000000 in
theorem law_end {p : Program} {l : Launch} {e : Env} {s : State} {m : MethodId} {below : List Frame} {meth : Method} {c : Code} {D : va_G} {ct : Nat → ClassId} {A : Nat → Prop} {b9 L : Nat} {xs : Nat → Int32} {H : Heap} {locs : List Loc} {ls : Array Slot} {cells slots : Nat} (C1 : cmL p s m meth c D ct A b9 L xs) (hS : va_S A s.heap H locs) (hc : cells ≤ 601024) (hs : slots ≤ 7293034) : W p l e room_1 s m #[Value.ref b9] below meth c H locs cells slots (lw_Z below #[Value.ref b9] s) (F0 m 2161 ls []) := by
  obtain ⟨hx, hb, hr, hml, hown, hts, hK, hX, hXs, hbl, hbA, hA, hAr, hlocks⟩ := id C1
  refine lv_iconst (v := 1) hx hb dL_law_2161 (by decide) ?_
  refine va_forget (fun q hq => hAr _ (hS.2.2 q hq)) ?_
  refine W.widen (k := 601024) (n := 7293034) hc hs ?_
  refine W.base ?_
  exact lw_ret (Drawn.sameBut.refl s.drawn lw_cs) hx hb hr hlocks dL_law_2162
set_option maxRecDepth 100000 in
set_option maxHeartbeats 4000000 in
theorem law_back {p : Program} {l : Launch} {e : Env} {s : State} {m : MethodId} {below : List Frame} {meth : Method} {c : Code} {D : va_G} {ct : Nat → ClassId} {A : Nat → Prop} {b9 L : Nat} {xs : Nat → Int32} {H : Heap} {locs : List Loc} {ls : Array Slot} {cells slots c0 s0 : Nat} {i : Int32} (C1 : cmL p s m meth c D ct A b9 L xs) (hV : lw_V s D ct A b9 i c0 s0 H locs ls cells slots) (KK : ∀ (H : Heap) (locs : List Loc) (ls : Array Slot) (cells slots : Nat), lw_V s D ct A b9 (i + Int32.ofInt 4) c0 s0 H locs ls cells slots → W p l e room_1 s m #[Value.ref b9] below meth c H locs cells slots (lw_Z below #[Value.ref b9] s) (F0 m 28 ls [])) : W p l e room_1 s m #[Value.ref b9] below meth c H locs cells slots (lw_Z below #[Value.ref b9] s) (F0 m 2155 ls []) := by
  obtain ⟨hx, hb, hr, hml, hown, hts, hK, hX, hXs, hbl, hbA, hA, hAr, hlocks⟩ := id C1
  obtain ⟨x, sv, bu, mo, mw, ma, mf, m0, m1, mu, mv, u0, u1, iz, mb, ov, od, bl, le, th, mpt, mbg, mwr, mwk, men, f, fa, g, t0, t1, k, bb, su, sw, z0, z1, v, o, wa, wb, va, vb, xa, xb, o0, o1, hP, hD, hS, hl, hmn, hby, hE, hs0, hs1, hsd, hsN, hzb, hl0, hl1, hc0, hs00⟩ := hV
  refine lv_iinc (v := (i + Int32.ofInt 4)) (lv' := [(5, .int (i + Int32.ofInt 4)), (0, .ref b9), (1, .ref x), (2, .ref mo), (3, .ref ov), (4, .ref od)]) hx hb dL_law_2155 hl (k := 5) rfl rfl (by decide) rfl (fun ls hl => ?_)
  refine lv_goto (tgt := 28) hx hb dL_law_2158 (by decide) ?_
  exact KK _ _ _ _ _ ⟨x, sv, bu, mo, mw, ma, mf, m0, m1, mu, mv, u0, u1, iz, mb, ov, od, bl, le, th, mpt, mbg, mwr, mwk, men, f, fa, g, t0, t1, k, bb, su, sw, z0, z1, v, o, wa, wb, va, vb, xa, xb, o0, o1, hP, hD, hS, (lv_sub hl [1, 2, 3, 4, 5, 0] rfl), hmn, hby, hE, hs0, hs1, hsd, hsN, hzb, hl0, hl1, hc0, hs00⟩
set_option maxRecDepth 100000 in
set_option maxHeartbeats 4000000 in
theorem law_head {p : Program} {l : Launch} {e : Env} {s : State} {m : MethodId} {below : List Frame} {meth : Method} {c : Code} {D : va_G} {ct : Nat → ClassId} {A : Nat → Prop} {b9 L : Nat} {xs : Nat → Int32} {H : Heap} {locs : List Loc} {ls : Array Slot} {cells slots c0 s0 : Nat} {i : Int32} (hfl : l.stackTraces = false) (C1 : cmL p s m meth c D ct A b9 L xs) (hNc : va_Nc "java/lang/IllegalArgumentException" "java/lang/IndexOutOfBoundsException" s) (hL : L ≤ 2048) (hi : 0 ≤ i.toInt ∧ i.toInt ≤ 2052) (hV : lw_V s D ct A b9 i c0 s0 H locs ls cells slots) (hcc : c0 ≤ 601024) (hss : s0 ≤ 7293034) (hB : i.toInt + 4 ≤ L → c0 + 70 ≤ 601024 ∧ s0 + 1200 ≤ 7293034) (KB : i.toInt + 4 ≤ L → ∀ (H : Heap) (locs : List Loc) (ls : Array Slot) (cells slots : Nat), lw_V s D ct A b9 i (c0 + 70) (s0 + 1200) H locs ls cells slots → W p l e room_1 s m #[Value.ref b9] below meth c H locs cells slots (lw_Z below #[Value.ref b9] s) (F0 m 2155 ls [])) : W p l e room_1 s m #[Value.ref b9] below meth c H locs cells slots (lw_Z below #[Value.ref b9] s) (F0 m 28 ls []) := by
  obtain ⟨hx, hb, hr, hml, hown, hts, hK, hX, hXs, hbl, hbA, hA, hAr, hlocks⟩ := id C1
  obtain ⟨x, sv, bu, mo, mw, ma, mf, m0, m1, mu, mv, u0, u1, iz, mb, ov, od, bl, le, th, mpt, mbg, mwr, mwk, men, f, fa, g, t0, t1, k, bb, su, sw, z0, z1, v, o, wa, wb, va, vb, xa, xb, o0, o1, hP, hD, hS, hl, hmn, hby, hE, hs0, hs1, hsd, hsN, hzb, hl0, hl1, hc0, hs00⟩ := hV
  refine lv_iload hx hb dL_law_28 (lv_at hl 5 rfl) ?_
  refine lv_aload_n hx hb dL_law_30 rfl (lv_at hl 0 rfl) ?_
  refine va_slen hx hb hXs hbl hbA hS dL_law_31 ?_
  refine lv_iconst (v := 4) hx hb dL_law_32 (by decide) ?_
  refine lv_isub hx hb dL_law_33 ?_
  refine lv_icmp_gt (tgt := 2161) hx hb dL_law_34 (by decide) (fun hc_1 => ?_) (fun hc_1 => ?_)
  · exact law_end C1 hS (by omega) (by omega)
  · refine lv_aload_n hx hb dL_law_37 rfl (lv_at hl 0 rfl) ?_
    refine lv_iload hx hb dL_law_38 (lv_at hl 5 rfl) ?_
    have hq := rf_lwi hL hc_1
    have KK := KB hq
    have hi0 : vp_in i L := rf_vin (by omega)
    have hi1 : vp_in (i + 1) L := rf_vin (by have := rf_p1 (x := i) (by omega); omega)
    have hi2 : vp_in (i + 2) L := rf_vin (by have := rf_pk (x := i) (k := 2) (K := 2) (by decide) (by omega) (by omega); omega)
    have hi3 : vp_in (i + 3) L := rf_vin (by have := rf_pk (x := i) (k := 3) (K := 3) (by decide) (by omega) (by omega); omega)
    refine va_sld hx hb hXs hbl hbA hS hi0 dL_law_40 ?_
    refine lv_bipush (v := 63) hx hb dL_law_41 (by decide) ?_
    refine lv_iand hx hb dL_law_43 ?_
    by_cases hsw : 0 ≤ ((xs i.toNatClampNeg) &&& 63) ∧ ((xs i.toNatClampNeg) &&& 63) ≤ 59
    · rcases cm_upto59 hsw with e0 | e0 | e0 | e0 | e0 | e0 | e0 | e0 | e0 | e0 | e0 | e0 | e0 | e0 | e0 | e0 | e0 | e0 | e0 | e0 | e0 | e0 | e0 | e0 | e0 | e0 | e0 | e0 | e0 | e0 | e0 | e0 | e0 | e0 | e0 | e0 | e0 | e0 | e0 | e0 | e0 | e0 | e0 | e0 | e0 | e0 | e0 | e0 | e0 | e0 | e0 | e0 | e0 | e0 | e0 | e0 | e0 | e0 | e0 | e0
      · refine cm_cst (y := 0) e0 ?_
        refine lv_tableIn (off := 256) (tgt := 300) hx hb dL_law_44 (by decide +kernel) (by decide +kernel) (by decide +kernel) (by decide +kernel) ?_
        exact law_0 hfl C1 hNc hi1 hi2 hi3 hP hD hS hl hmn hby hE hs0 hs1 hsd hsN hzb hl0 hl1 hc0 hs00 (hB hq).1 (hB hq).2 KK
      · refine cm_cst (y := 1) e0 ?_
        refine lv_tableIn (off := 313) (tgt := 357) hx hb dL_law_44 (by decide +kernel) (by decide +kernel) (by decide +kernel) (by decide +kernel) ?_
        exact law_1 hfl C1 hNc hi1 hi2 hi3 hP hD hS hl hmn hby hE hs0 hs1 hsd hsN hzb hl0 hl1 hc0 hs00 (hB hq).1 (hB hq).2 KK
      · refine cm_cst (y := 2) e0 ?_
        refine lv_tableIn (off := 326) (tgt := 370) hx hb dL_law_44 (by decide +kernel) (by decide +kernel) (by decide +kernel) (by decide +kernel) ?_
        exact law_2 hfl C1 hNc hi1 hi2 hi3 hP hD hS hl hmn hby hE hs0 hs1 hsd hsN hzb hl0 hl1 hc0 hs00 (hB hq).1 (hB hq).2 KK
      · refine cm_cst (y := 3) e0 ?_
        refine lv_tableIn (off := 339) (tgt := 383) hx hb dL_law_44 (by decide +kernel) (by decide +kernel) (by decide +kernel) (by decide +kernel) ?_
        exact law_3 hfl C1 hNc hi1 hi2 hi3 hP hD hS hl hmn hby hE hs0 hs1 hsd hsN hzb hl0 hl1 hc0 hs00 (hB hq).1 (hB hq).2 KK
      · refine cm_cst (y := 4) e0 ?_
        refine lv_tableIn (off := 352) (tgt := 396) hx hb dL_law_44 (by decide +kernel) (by decide +kernel) (by decide +kernel) (by decide +kernel) ?_
        exact law_4 hfl C1 hNc hi1 hi2 hi3 hP hD hS hl hmn hby hE hs0 hs1 hsd hsN hzb hl0 hl1 hc0 hs00 (hB hq).1 (hB hq).2 KK
      · refine cm_cst (y := 5) e0 ?_
        refine lv_tableIn (off := 380) (tgt := 424) hx hb dL_law_44 (by decide +kernel) (by decide +kernel) (by decide +kernel) (by decide +kernel) ?_
        exact law_5 hfl C1 hNc hi1 hi2 hi3 hP hD hS hl hmn hby hE hs0 hs1 hsd hsN hzb hl0 hl1 hc0 hs00 (hB hq).1 (hB hq).2 KK
      · refine cm_cst (y := 6) e0 ?_
        refine lv_tableIn (off := 408) (tgt := 452) hx hb dL_law_44 (by decide +kernel) (by decide +kernel) (by decide +kernel) (by decide +kernel) ?_
        exact law_6 hfl C1 hNc hi1 hi2 hi3 hP hD hS hl hmn hby hE hs0 hs1 hsd hsN hzb hl0 hl1 hc0 hs00 (hB hq).1 (hB hq).2 KK
      · refine cm_cst (y := 7) e0 ?_
        refine lv_tableIn (off := 436) (tgt := 480) hx hb dL_law_44 (by decide +kernel) (by decide +kernel) (by decide +kernel) (by decide +kernel) ?_
        exact law_7 hfl C1 hNc hi1 hi2 hi3 hP hD hS hl hmn hby hE hs0 hs1 hsd hsN hzb hl0 hl1 hc0 hs00 (hB hq).1 (hB hq).2 KK
      · refine cm_cst (y := 8) e0 ?_
        refine lv_tableIn (off := 476) (tgt := 520) hx hb dL_law_44 (by decide +kernel) (by decide +kernel) (by decide +kernel) (by decide +kernel) ?_
        exact law_8 hfl C1 hNc hi1 hi2 hi3 hP hD hS hl hmn hby hE hs0 hs1 hsd hsN hzb hl0 hl1 hc0 hs00 (hB hq).1 (hB hq).2 KK
      · refine cm_cst (y := 9) e0 ?_
        refine lv_tableIn (off := 504) (tgt := 548) hx hb dL_law_44 (by decide +kernel) (by decide +kernel) (by decide +kernel) (by decide +kernel) ?_
        exact law_9 hfl C1 hNc hi1 hi2 hi3 hP hD hS hl hmn hby hE hs0 hs1 hsd hsN hzb hl0 hl1 hc0 hs00 (hB hq).1 (hB hq).2 KK
      · refine cm_cst (y := 10) e0 ?_
        refine lv_tableIn (off := 556) (tgt := 600) hx hb dL_law_44 (by decide +kernel) (by decide +kernel) (by decide +kernel) (by decide +kernel) ?_
        exact law_10 hfl C1 hNc hi1 hi2 hi3 hP hD hS hl hmn hby hE hs0 hs1 hsd hsN hzb hl0 hl1 hc0 hs00 (hB hq).1 (hB hq).2 KK
      · refine cm_cst (y := 11) e0 ?_
        refine lv_tableIn (off := 569) (tgt := 613) hx hb dL_law_44 (by decide +kernel) (by decide +kernel) (by decide +kernel) (by decide +kernel) ?_
        exact law_11 hfl C1 hNc hi1 hi2 hi3 hP hD hS hl hmn hby hE hs0 hs1 hsd hsN hzb hl0 hl1 hc0 hs00 (hB hq).1 (hB hq).2 KK
      · refine cm_cst (y := 12) e0 ?_
        refine lv_tableIn (off := 597) (tgt := 641) hx hb dL_law_44 (by decide +kernel) (by decide +kernel) (by decide +kernel) (by decide +kernel) ?_
        exact law_12 hfl C1 hNc hi1 hi2 hi3 hP hD hS hl hmn hby hE hs0 hs1 hsd hsN hzb hl0 hl1 hc0 hs00 (hB hq).1 (hB hq).2 KK
      · refine cm_cst (y := 13) e0 ?_
        refine lv_tableIn (off := 637) (tgt := 681) hx hb dL_law_44 (by decide +kernel) (by decide +kernel) (by decide +kernel) (by decide +kernel) ?_
        exact law_13 hfl C1 hNc hi1 hi2 hi3 hP hD hS hl hmn hby hE hs0 hs1 hsd hsN hzb hl0 hl1 hc0 hs00 (hB hq).1 (hB hq).2 KK
      · refine cm_cst (y := 14) e0 ?_
        refine lv_tableIn (off := 665) (tgt := 709) hx hb dL_law_44 (by decide +kernel) (by decide +kernel) (by decide +kernel) (by decide +kernel) ?_
        exact law_14 hfl C1 hNc hi1 hi2 hi3 hP hD hS hl hmn hby hE hs0 hs1 hsd hsN hzb hl0 hl1 hc0 hs00 (hB hq).1 (hB hq).2 KK
      · refine cm_cst (y := 15) e0 ?_
        refine lv_tableIn (off := 693) (tgt := 737) hx hb dL_law_44 (by decide +kernel) (by decide +kernel) (by decide +kernel) (by decide +kernel) ?_
        exact law_15 hfl C1 hNc hi1 hi2 hi3 hP hD hS hl hmn hby hE hs0 hs1 hsd hsN hzb hl0 hl1 hc0 hs00 (hB hq).1 (hB hq).2 KK
      · refine cm_cst (y := 16) e0 ?_
        refine lv_tableIn (off := 721) (tgt := 765) hx hb dL_law_44 (by decide +kernel) (by decide +kernel) (by decide +kernel) (by decide +kernel) ?_
        exact law_16 hfl C1 hNc hi1 hi2 hi3 hP hD hS hl hmn hby hE hs0 hs1 hsd hsN hzb hl0 hl1 hc0 hs00 (hB hq).1 (hB hq).2 KK
      · refine cm_cst (y := 17) e0 ?_
        refine lv_tableIn (off := 749) (tgt := 793) hx hb dL_law_44 (by decide +kernel) (by decide +kernel) (by decide +kernel) (by decide +kernel) ?_
        exact law_17 hfl C1 hNc hi1 hi2 hi3 hP hD hS hl hmn hby hE hs0 hs1 hsd hsN hzb hl0 hl1 hc0 hs00 (hB hq).1 (hB hq).2 KK
      · refine cm_cst (y := 18) e0 ?_
        refine lv_tableIn (off := 789) (tgt := 833) hx hb dL_law_44 (by decide +kernel) (by decide +kernel) (by decide +kernel) (by decide +kernel) ?_
        exact law_18 hfl C1 hNc hi1 hi2 hi3 hP hD hS hl hmn hby hE hs0 hs1 hsd hsN hzb hl0 hl1 hc0 hs00 (hB hq).1 (hB hq).2 KK
      · refine cm_cst (y := 19) e0 ?_
        refine lv_tableIn (off := 829) (tgt := 873) hx hb dL_law_44 (by decide +kernel) (by decide +kernel) (by decide +kernel) (by decide +kernel) ?_
        exact law_19 hfl C1 hNc hi1 hi2 hi3 hP hD hS hl hmn hby hE hs0 hs1 hsd hsN hzb hl0 hl1 hc0 hs00 (hB hq).1 (hB hq).2 KK
      · refine cm_cst (y := 20) e0 ?_
        refine lv_tableIn (off := 857) (tgt := 901) hx hb dL_law_44 (by decide +kernel) (by decide +kernel) (by decide +kernel) (by decide +kernel) ?_
        exact law_20 hfl C1 hNc hi1 hi2 hi3 hP hD hS hl hmn hby hE hs0 hs1 hsd hsN hzb hl0 hl1 hc0 hs00 (hB hq).1 (hB hq).2 KK
      · refine cm_cst (y := 21) e0 ?_
        refine lv_tableIn (off := 885) (tgt := 929) hx hb dL_law_44 (by decide +kernel) (by decide +kernel) (by decide +kernel) (by decide +kernel) ?_
        exact law_21 hfl C1 hNc hi1 hi2 hi3 hP hD hS hl hmn hby hE hs0 hs1 hsd hsN hzb hl0 hl1 hc0 hs00 (hB hq).1 (hB hq).2 KK
      · refine cm_cst (y := 22) e0 ?_
        refine lv_tableIn (off := 925) (tgt := 969) hx hb dL_law_44 (by decide +kernel) (by decide +kernel) (by decide +kernel) (by decide +kernel) ?_
        exact law_22 hfl C1 hNc hi1 hi2 hi3 hP hD hS hl hmn hby hE hs0 hs1 hsd hsN hzb hl0 hl1 hc0 hs00 (hB hq).1 (hB hq).2 KK
      · refine cm_cst (y := 23) e0 ?_
        refine lv_tableIn (off := 953) (tgt := 997) hx hb dL_law_44 (by decide +kernel) (by decide +kernel) (by decide +kernel) (by decide +kernel) ?_
        exact law_23 hfl C1 hNc hi1 hi2 hi3 hP hD hS hl hmn hby hE hs0 hs1 hsd hsN hzb hl0 hl1 hc0 hs00 (hB hq).1 (hB hq).2 KK
      · refine cm_cst (y := 24) e0 ?_
        refine lv_tableIn (off := 993) (tgt := 1037) hx hb dL_law_44 (by decide +kernel) (by decide +kernel) (by decide +kernel) (by decide +kernel) ?_
        exact law_24 hfl C1 hNc hi1 hi2 hi3 hP hD hS hl hmn hby hE hs0 hs1 hsd hsN hzb hl0 hl1 hc0 hs00 (hB hq).1 (hB hq).2 KK
      · refine cm_cst (y := 25) e0 ?_
        refine lv_tableIn (off := 1033) (tgt := 1077) hx hb dL_law_44 (by decide +kernel) (by decide +kernel) (by decide +kernel) (by decide +kernel) ?_
        exact law_25 hfl C1 hNc hi1 hi2 hi3 hP hD hS hl hmn hby hE hs0 hs1 hsd hsN hzb hl0 hl1 hc0 hs00 (hB hq).1 (hB hq).2 KK
      · refine cm_cst (y := 26) e0 ?_
        refine lv_tableIn (off := 1073) (tgt := 1117) hx hb dL_law_44 (by decide +kernel) (by decide +kernel) (by decide +kernel) (by decide +kernel) ?_
        exact law_26 hfl C1 hNc hi1 hi2 hi3 hP hD hS hl hmn hby hE hs0 hs1 hsd hsN hzb hl0 hl1 hc0 hs00 (hB hq).1 (hB hq).2 KK
      · refine cm_cst (y := 27) e0 ?_
        refine lv_tableIn (off := 1101) (tgt := 1145) hx hb dL_law_44 (by decide +kernel) (by decide +kernel) (by decide +kernel) (by decide +kernel) ?_
        exact law_27 hfl C1 hNc hi1 hi2 hi3 hP hD hS hl hmn hby hE hs0 hs1 hsd hsN hzb hl0 hl1 hc0 hs00 (hB hq).1 (hB hq).2 KK
      · refine cm_cst (y := 28) e0 ?_
        refine lv_tableIn (off := 1141) (tgt := 1185) hx hb dL_law_44 (by decide +kernel) (by decide +kernel) (by decide +kernel) (by decide +kernel) ?_
        exact law_28 hfl C1 hNc hi1 hi2 hi3 hP hD hS hl hmn hby hE hs0 hs1 hsd hsN hzb hl0 hl1 hc0 hs00 (hB hq).1 (hB hq).2 KK
      · refine cm_cst (y := 29) e0 ?_
        refine lv_tableIn (off := 1170) (tgt := 1214) hx hb dL_law_44 (by decide +kernel) (by decide +kernel) (by decide +kernel) (by decide +kernel) ?_
        exact law_29 hfl C1 hNc hi1 hi2 hi3 hP hD hS hl hmn hby hE hs0 hs1 hsd hsN hzb hl0 hl1 hc0 hs00 (hB hq).1 (hB hq).2 KK
      · refine cm_cst (y := 30) e0 ?_
        refine lv_tableIn (off := 1199) (tgt := 1243) hx hb dL_law_44 (by decide +kernel) (by decide +kernel) (by decide +kernel) (by decide +kernel) ?_
        exact law_30 hfl C1 hNc hi1 hi2 hi3 hP hD hS hl hmn hby hE hs0 hs1 hsd hsN hzb hl0 hl1 hc0 hs00 (hB hq).1 (hB hq).2 KK
      · refine cm_cst (y := 31) e0 ?_
        refine lv_tableIn (off := 1227) (tgt := 1271) hx hb dL_law_44 (by decide +kernel) (by decide +kernel) (by decide +kernel) (by decide +kernel) ?_
        exact law_31 hfl C1 hNc hi1 hi2 hi3 hP hD hS hl hmn hby hE hs0 hs1 hsd hsN hzb hl0 hl1 hc0 hs00 (hB hq).1 (hB hq).2 KK
      · refine cm_cst (y := 32) e0 ?_
        refine lv_tableIn (off := 1255) (tgt := 1299) hx hb dL_law_44 (by decide +kernel) (by decide +kernel) (by decide +kernel) (by decide +kernel) ?_
        exact law_32 hfl C1 hNc hi1 hi2 hi3 hP hD hS hl hmn hby hE hs0 hs1 hsd hsN hzb hl0 hl1 hc0 hs00 (hB hq).1 (hB hq).2 KK
      · refine cm_cst (y := 33) e0 ?_
        refine lv_tableIn (off := 1283) (tgt := 1327) hx hb dL_law_44 (by decide +kernel) (by decide +kernel) (by decide +kernel) (by decide +kernel) ?_
        exact law_33 hfl C1 hNc hi1 hi2 hi3 hP hD hS hl hmn hby hE hs0 hs1 hsd hsN hzb hl0 hl1 hc0 hs00 (hB hq).1 (hB hq).2 KK
      · refine cm_cst (y := 34) e0 ?_
        refine lv_tableIn (off := 1311) (tgt := 1355) hx hb dL_law_44 (by decide +kernel) (by decide +kernel) (by decide +kernel) (by decide +kernel) ?_
        exact law_34 hfl C1 hNc hi1 hi2 hi3 hP hD hS hl hmn hby hE hs0 hs1 hsd hsN hzb hl0 hl1 hc0 hs00 (hB hq).1 (hB hq).2 KK
      · refine cm_cst (y := 35) e0 ?_
        refine lv_tableIn (off := 1351) (tgt := 1395) hx hb dL_law_44 (by decide +kernel) (by decide +kernel) (by decide +kernel) (by decide +kernel) ?_
        exact law_35 hfl C1 hNc hi1 hi2 hi3 hP hD hS hl hmn hby hE hs0 hs1 hsd hsN hzb hl0 hl1 hc0 hs00 (hB hq).1 (hB hq).2 KK
      · refine cm_cst (y := 36) e0 ?_
        refine lv_tableIn (off := 1379) (tgt := 1423) hx hb dL_law_44 (by decide +kernel) (by decide +kernel) (by decide +kernel) (by decide +kernel) ?_
        exact law_36 hfl C1 hNc hi1 hi2 hi3 hP hD hS hl hmn hby hE hs0 hs1 hsd hsN hzb hl0 hl1 hc0 hs00 (hB hq).1 (hB hq).2 KK
      · refine cm_cst (y := 37) e0 ?_
        refine lv_tableIn (off := 1407) (tgt := 1451) hx hb dL_law_44 (by decide +kernel) (by decide +kernel) (by decide +kernel) (by decide +kernel) ?_
        exact law_37 hfl C1 hNc hi1 hi2 hi3 hP hD hS hl hmn hby hE hs0 hs1 hsd hsN hzb hl0 hl1 hc0 hs00 (hB hq).1 (hB hq).2 KK
      · refine cm_cst (y := 38) e0 ?_
        refine lv_tableIn (off := 1447) (tgt := 1491) hx hb dL_law_44 (by decide +kernel) (by decide +kernel) (by decide +kernel) (by decide +kernel) ?_
        exact law_38 hfl C1 hNc hi1 hi2 hi3 hP hD hS hl hmn hby hE hs0 hs1 hsd hsN hzb hl0 hl1 hc0 hs00 (hB hq).1 (hB hq).2 KK
      · refine cm_cst (y := 39) e0 ?_
        refine lv_tableIn (off := 1475) (tgt := 1519) hx hb dL_law_44 (by decide +kernel) (by decide +kernel) (by decide +kernel) (by decide +kernel) ?_
        exact law_39 hfl C1 hNc hi1 hi2 hi3 hP hD hS hl hmn hby hE hs0 hs1 hsd hsN hzb hl0 hl1 hc0 hs00 (hB hq).1 (hB hq).2 KK
      · refine cm_cst (y := 40) e0 ?_
        refine lv_tableIn (off := 1488) (tgt := 1532) hx hb dL_law_44 (by decide +kernel) (by decide +kernel) (by decide +kernel) (by decide +kernel) ?_
        exact law_40 hfl C1 hNc hi1 hi2 hi3 hP hD hS hl hmn hby hE hs0 hs1 hsd hsN hzb hl0 hl1 hc0 hs00 (hB hq).1 (hB hq).2 KK
      · refine cm_cst (y := 41) e0 ?_
        refine lv_tableIn (off := 1501) (tgt := 1545) hx hb dL_law_44 (by decide +kernel) (by decide +kernel) (by decide +kernel) (by decide +kernel) ?_
        exact law_41 hfl C1 hNc hi1 hi2 hi3 hP hD hS hl hmn hby hE hs0 hs1 hsd hsN hzb hl0 hl1 hc0 hs00 (hB hq).1 (hB hq).2 KK
      · refine cm_cst (y := 42) e0 ?_
        refine lv_tableIn (off := 1514) (tgt := 1558) hx hb dL_law_44 (by decide +kernel) (by decide +kernel) (by decide +kernel) (by decide +kernel) ?_
        exact law_42 hfl C1 hNc hi1 hi2 hi3 hP hD hS hl hmn hby hE hs0 hs1 hsd hsN hzb hl0 hl1 hc0 hs00 (hB hq).1 (hB hq).2 KK
      · refine cm_cst (y := 43) e0 ?_
        refine lv_tableIn (off := 1554) (tgt := 1598) hx hb dL_law_44 (by decide +kernel) (by decide +kernel) (by decide +kernel) (by decide +kernel) ?_
        exact law_43 hfl C1 hNc hi1 hi2 hi3 hP hD hS hl hmn hby hE hs0 hs1 hsd hsN hzb hl0 hl1 hc0 hs00 (hB hq).1 (hB hq).2 KK
      · refine cm_cst (y := 44) e0 ?_
        refine lv_tableIn (off := 1582) (tgt := 1626) hx hb dL_law_44 (by decide +kernel) (by decide +kernel) (by decide +kernel) (by decide +kernel) ?_
        exact law_44 hfl C1 hNc hi1 hi2 hi3 hP hD hS hl hmn hby hE hs0 hs1 hsd hsN hzb hl0 hl1 hc0 hs00 (hB hq).1 (hB hq).2 KK
      · refine cm_cst (y := 45) e0 ?_
        refine lv_tableIn (off := 1610) (tgt := 1654) hx hb dL_law_44 (by decide +kernel) (by decide +kernel) (by decide +kernel) (by decide +kernel) ?_
        exact law_45 hfl C1 hNc hi1 hi2 hi3 hP hD hS hl hmn hby hE hs0 hs1 hsd hsN hzb hl0 hl1 hc0 hs00 (hB hq).1 (hB hq).2 KK
      · refine cm_cst (y := 46) e0 ?_
        refine lv_tableIn (off := 1623) (tgt := 1667) hx hb dL_law_44 (by decide +kernel) (by decide +kernel) (by decide +kernel) (by decide +kernel) ?_
        exact law_46 hfl C1 hNc hi1 hi2 hi3 hP hD hS hl hmn hby hE hs0 hs1 hsd hsN hzb hl0 hl1 hc0 hs00 (hB hq).1 (hB hq).2 KK
      · refine cm_cst (y := 47) e0 ?_
        refine lv_tableIn (off := 1663) (tgt := 1707) hx hb dL_law_44 (by decide +kernel) (by decide +kernel) (by decide +kernel) (by decide +kernel) ?_
        exact law_47 hfl C1 hNc hi1 hi2 hi3 hP hD hS hl hmn hby hE hs0 hs1 hsd hsN hzb hl0 hl1 hc0 hs00 (hB hq).1 (hB hq).2 KK
      · refine cm_cst (y := 48) e0 ?_
        refine lv_tableIn (off := 1703) (tgt := 1747) hx hb dL_law_44 (by decide +kernel) (by decide +kernel) (by decide +kernel) (by decide +kernel) ?_
        exact law_48 hfl C1 hNc hi1 hi2 hi3 hP hD hS hl hmn hby hE hs0 hs1 hsd hsN hzb hl0 hl1 hc0 hs00 (hB hq).1 (hB hq).2 KK
      · refine cm_cst (y := 49) e0 ?_
        refine lv_tableIn (off := 1731) (tgt := 1775) hx hb dL_law_44 (by decide +kernel) (by decide +kernel) (by decide +kernel) (by decide +kernel) ?_
        exact law_49 hfl C1 hNc hi1 hi2 hi3 hP hD hS hl hmn hby hE hs0 hs1 hsd hsN hzb hl0 hl1 hc0 hs00 (hB hq).1 (hB hq).2 KK
      · refine cm_cst (y := 50) e0 ?_
        refine lv_tableIn (off := 1759) (tgt := 1803) hx hb dL_law_44 (by decide +kernel) (by decide +kernel) (by decide +kernel) (by decide +kernel) ?_
        exact law_50 hfl C1 hNc hi1 hi2 hi3 hP hD hS hl hmn hby hE hs0 hs1 hsd hsN hzb hl0 hl1 hc0 hs00 (hB hq).1 (hB hq).2 KK
      · refine cm_cst (y := 51) e0 ?_
        refine lv_tableIn (off := 1787) (tgt := 1831) hx hb dL_law_44 (by decide +kernel) (by decide +kernel) (by decide +kernel) (by decide +kernel) ?_
        exact law_51 hfl C1 hNc hi1 hi2 hi3 hP hD hS hl hmn hby hE hs0 hs1 hsd hsN hzb hl0 hl1 hc0 hs00 (hB hq).1 (hB hq).2 KK
      · refine cm_cst (y := 52) e0 ?_
        refine lv_tableIn (off := 1839) (tgt := 1883) hx hb dL_law_44 (by decide +kernel) (by decide +kernel) (by decide +kernel) (by decide +kernel) ?_
        exact law_52 hfl C1 hNc hi1 hi2 hi3 hP hD hS hl hmn hby hE hs0 hs1 hsd hsN hzb hl0 hl1 hc0 hs00 (hB hq).1 (hB hq).2 KK
      · refine cm_cst (y := 53) e0 ?_
        refine lv_tableIn (off := 1879) (tgt := 1923) hx hb dL_law_44 (by decide +kernel) (by decide +kernel) (by decide +kernel) (by decide +kernel) ?_
        exact law_53 hfl C1 hNc hi1 hi2 hi3 hP hD hS hl hmn hby hE hs0 hs1 hsd hsN hzb hl0 hl1 hc0 hs00 (hB hq).1 (hB hq).2 KK
      · refine cm_cst (y := 54) e0 ?_
        refine lv_tableIn (off := 1907) (tgt := 1951) hx hb dL_law_44 (by decide +kernel) (by decide +kernel) (by decide +kernel) (by decide +kernel) ?_
        exact law_54 hfl C1 hNc hi1 hi2 hi3 hP hD hS hl hmn hby hE hs0 hs1 hsd hsN hzb hl0 hl1 hc0 hs00 (hB hq).1 (hB hq).2 KK
      · refine cm_cst (y := 55) e0 ?_
        refine lv_tableIn (off := 1947) (tgt := 1991) hx hb dL_law_44 (by decide +kernel) (by decide +kernel) (by decide +kernel) (by decide +kernel) ?_
        exact law_55 hfl C1 hNc hi1 hi2 hi3 hP hD hS hl hmn hby hE hs0 hs1 hsd hsN hzb hl0 hl1 hc0 hs00 (hB hq).1 (hB hq).2 KK
      · refine cm_cst (y := 56) e0 ?_
        refine lv_tableIn (off := 1975) (tgt := 2019) hx hb dL_law_44 (by decide +kernel) (by decide +kernel) (by decide +kernel) (by decide +kernel) ?_
        exact law_56 hfl C1 hNc hi1 hi2 hi3 hP hD hS hl hmn hby hE hs0 hs1 hsd hsN hzb hl0 hl1 hc0 hs00 (hB hq).1 (hB hq).2 KK
      · refine cm_cst (y := 57) e0 ?_
        refine lv_tableIn (off := 2015) (tgt := 2059) hx hb dL_law_44 (by decide +kernel) (by decide +kernel) (by decide +kernel) (by decide +kernel) ?_
        exact law_57 hfl C1 hNc hi1 hi2 hi3 hP hD hS hl hmn hby hE hs0 hs1 hsd hsN hzb hl0 hl1 hc0 hs00 (hB hq).1 (hB hq).2 KK
      · refine cm_cst (y := 58) e0 ?_
        refine lv_tableIn (off := 2055) (tgt := 2099) hx hb dL_law_44 (by decide +kernel) (by decide +kernel) (by decide +kernel) (by decide +kernel) ?_
        exact law_58 hfl C1 hNc hi1 hi2 hi3 hP hD hS hl hmn hby hE hs0 hs1 hsd hsN hzb hl0 hl1 hc0 hs00 (hB hq).1 (hB hq).2 KK
      · refine cm_cst (y := 59) e0 ?_
        refine lv_tableIn (off := 2083) (tgt := 2127) hx hb dL_law_44 (by decide +kernel) (by decide +kernel) (by decide +kernel) (by decide +kernel) ?_
        exact law_59 hfl C1 hNc hi1 hi2 hi3 hP hD hS hl hmn hby hE hs0 hs1 hsd hsN hzb hl0 hl1 hc0 hs00 (hB hq).1 (hB hq).2 KK
    · refine lv_tableOut (tgt := 2155) hx hb dL_law_44 ?_ (by decide) ?_
      · rw [Int32.le_iff_toInt_le, Int32.le_iff_toInt_le] at hsw
        have z0 : (0 : Int32).toInt = 0 := by decide
        have z1 : (59 : Int32).toInt = 59 := by decide
        omega
      · exact KK _ _ _ _ _ ⟨x, sv, bu, mo, mw, ma, mf, m0, m1, mu, mv, u0, u1, iz, mb, ov, od, bl, le, th, mpt, mbg, mwr, mwk, men, f, fa, g, t0, t1, k, bb, su, sw, z0, z1, v, o, wa, wb, va, vb, xa, xb, o0, o1, hP, hD, hS, hl, hmn, hby, hE, hs0, hs1, hsd, hsN, hzb, hl0, hl1, (by omega), (by omega)⟩
set_option maxRecDepth 100000 in
set_option maxHeartbeats 4000000 in
theorem law_go {p : Program} {l : Launch} {e : Env} {s : State} {m : MethodId} {below : List Frame} {meth : Method} {c : Code} {D : va_G} {ct : Nat → ClassId} {A : Nat → Prop} {b9 L : Nat} {xs : Nat → Int32} (hfl : l.stackTraces = false) (C1 : cmL p s m meth c D ct A b9 L xs) (hNc : va_Nc "java/lang/IllegalArgumentException" "java/lang/IndexOutOfBoundsException" s) (hL : L ≤ 2048) : ∀ (n : Nat) (i : Int32) (c0 s0 : Nat) (H : Heap) (locs : List Loc) (ls : Array Slot) (cells slots : Nat), (0 ≤ i.toInt ∧ i.toInt ≤ 2052) → (L : Int) < i.toInt + 4 * n + 4 → c0 + 70 * n ≤ 601024 → s0 + 1200 * n ≤ 7293034 → lw_V s D ct A b9 i c0 s0 H locs ls cells slots → W p l e room_1 s m #[Value.ref b9] below meth c H locs cells slots (lw_Z below #[Value.ref b9] s) (F0 m 28 ls []) := by
  intro n
  induction n with
  | zero => exact fun i c0 s0 H locs ls cells slots hi h1 h2 h3 hV => law_head hfl C1 hNc hL hi hV (by omega) (by omega) (fun hq => absurd hq (by omega)) (fun hq => absurd hq (by omega))
  | succ n ih =>
    intro i c0 s0 H locs ls cells slots hi h1 h2 h3 hV
    refine law_head hfl C1 hNc hL hi hV (by omega) (by omega) (fun _ => ⟨by omega, by omega⟩) (fun hq H locs ls cells slots hV2 => law_back C1 hV2 (fun H locs ls cells slots hV3 => ?_))
    have e := rf_lw4 (i := i) (by omega)
    exact ih (i + Int32.ofInt 4) (c0 + 70) (s0 + 1200) H locs ls cells slots (by omega) (by omega) (by omega) (by omega) hV3
