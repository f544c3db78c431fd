theorem tb_2 (x : Int32) : x = 0 ∨ x = 1 ∨ x = 2 ∨ (x.toInt < 0 ∨ 2 < x.toInt) := by
  have key : ∀ k : Int32, x.toInt = k.toInt → x = k := fun k h => Int32.toInt_inj.mp h
  by_cases h1 : x.toInt < 0
  · exact (Or.inr (Or.inr (Or.inr (Or.inl h1))))
  · by_cases h2 : (2 : Int) < x.toInt
    · exact (Or.inr (Or.inr (Or.inr (Or.inr h2))))
    · have h3 : x.toInt = 0 ∨ x.toInt = 1 ∨ x.toInt = 2 := by omega
      rcases h3 with h | h | h
      · exact (Or.inl (key 0 (by rw [h]; decide)))
      · exact (Or.inr (Or.inl (key 1 (by rw [h]; decide))))
      · exact (Or.inr (Or.inr (Or.inl (key 2 (by rw [h]; decide)))))
theorem tb_12 (x : Int32) : x = 0 ∨ x = 1 ∨ x = 2 ∨ x = 3 ∨ x = 4 ∨ x = 5 ∨ x = 6 ∨ x = 7 ∨ x = 8 ∨ x = 9 ∨ x = 10 ∨ x = 11 ∨ x = 12 ∨ (x.toInt < 0 ∨ 12 < x.toInt) := by
  have key : ∀ k : Int32, x.toInt = k.toInt → x = k := fun k h => Int32.toInt_inj.mp h
  by_cases h1 : x.toInt < 0
  · exact (Or.inr (Or.inr (Or.inr (Or.inr (Or.inr (Or.inr (Or.inr (Or.inr (Or.inr (Or.inr (Or.inr (Or.inr (Or.inr (Or.inl h1))))))))))))))
  · by_cases h2 : (12 : Int) < x.toInt
    · exact (Or.inr (Or.inr (Or.inr (Or.inr (Or.inr (Or.inr (Or.inr (Or.inr (Or.inr (Or.inr (Or.inr (Or.inr (Or.inr (Or.inr h2))))))))))))))
    · have h3 : x.toInt = 0 ∨ x.toInt = 1 ∨ x.toInt = 2 ∨ x.toInt = 3 ∨ x.toInt = 4 ∨ x.toInt = 5 ∨ x.toInt = 6 ∨ x.toInt = 7 ∨ x.toInt = 8 ∨ x.toInt = 9 ∨ x.toInt = 10 ∨ x.toInt = 11 ∨ x.toInt = 12 := by omega
      rcases h3 with h | h | h | h | h | h | h | h | h | h | h | h | h
      · exact (Or.inl (key 0 (by rw [h]; decide)))
      · exact (Or.inr (Or.inl (key 1 (by rw [h]; decide))))
      · exact (Or.inr (Or.inr (Or.inl (key 2 (by rw [h]; decide)))))
      · exact (Or.inr (Or.inr (Or.inr (Or.inl (key 3 (by rw [h]; decide))))))
      · exact (Or.inr (Or.inr (Or.inr (Or.inr (Or.inl (key 4 (by rw [h]; decide)))))))
      · exact (Or.inr (Or.inr (Or.inr (Or.inr (Or.inr (Or.inl (key 5 (by rw [h]; decide))))))))
      · exact (Or.inr (Or.inr (Or.inr (Or.inr (Or.inr (Or.inr (Or.inl (key 6 (by rw [h]; decide)))))))))
      · exact (Or.inr (Or.inr (Or.inr (Or.inr (Or.inr (Or.inr (Or.inr (Or.inl (key 7 (by rw [h]; decide))))))))))
      · exact (Or.inr (Or.inr (Or.inr (Or.inr (Or.inr (Or.inr (Or.inr (Or.inr (Or.inl (key 8 (by rw [h]; decide)))))))))))
      · exact (Or.inr (Or.inr (Or.inr (Or.inr (Or.inr (Or.inr (Or.inr (Or.inr (Or.inr (Or.inl (key 9 (by rw [h]; decide))))))))))))
      · exact (Or.inr (Or.inr (Or.inr (Or.inr (Or.inr (Or.inr (Or.inr (Or.inr (Or.inr (Or.inr (Or.inl (key 10 (by rw [h]; decide)))))))))))))
      · exact (Or.inr (Or.inr (Or.inr (Or.inr (Or.inr (Or.inr (Or.inr (Or.inr (Or.inr (Or.inr (Or.inr (Or.inl (key 11 (by rw [h]; decide))))))))))))))
      · exact (Or.inr (Or.inr (Or.inr (Or.inr (Or.inr (Or.inr (Or.inr (Or.inr (Or.inr (Or.inr (Or.inr (Or.inr (Or.inl (key 12 (by rw [h]; decide)))))))))))))))
theorem tb_29 (x : Int32) : x = 0 ∨ x = 1 ∨ x = 2 ∨ x = 3 ∨ x = 4 ∨ x = 5 ∨ x = 6 ∨ x = 7 ∨ x = 8 ∨ x = 9 ∨ x = 10 ∨ x = 11 ∨ x = 12 ∨ x = 13 ∨ x = 14 ∨ x = 15 ∨ x = 16 ∨ x = 17 ∨ x = 18 ∨ x = 19 ∨ x = 20 ∨ x = 21 ∨ x = 22 ∨ x = 23 ∨ x = 24 ∨ x = 25 ∨ x = 26 ∨ x = 27 ∨ x = 28 ∨ x = 29 ∨ (x.toInt < 0 ∨ 29 < x.toInt) := by
  have key : ∀ k : Int32, x.toInt = k.toInt → x = k := fun k h => Int32.toInt_inj.mp h
  by_cases h1 : x.toInt < 0
  · exact (Or.inr (Or.inr (Or.inr (Or.inr (Or.inr (Or.inr (Or.inr (Or.inr (Or.inr (Or.inr (Or.inr (Or.inr (Or.inr (Or.inr (Or.inr (Or.inr (Or.inr (Or.inr (Or.inr (Or.inr (Or.inr (Or.inr (Or.inr (Or.inr (Or.inr (Or.inr (Or.inr (Or.inr (Or.inr (Or.inr (Or.inl h1)))))))))))))))))))))))))))))))
  · by_cases h2 : (29 : Int) < x.toInt
    · exact (Or.inr (Or.inr (Or.inr (Or.inr (Or.inr (Or.inr (Or.inr (Or.inr (Or.inr (Or.inr (Or.inr (Or.inr (Or.inr (Or.inr (Or.inr (Or.inr (Or.inr (Or.inr (Or.inr (Or.inr (Or.inr (Or.inr (Or.inr (Or.inr (Or.inr (Or.inr (Or.inr (Or.inr (Or.inr (Or.inr (Or.inr h2)))))))))))))))))))))))))))))))
    · have h3 : x.toInt = 0 ∨ x.toInt = 1 ∨ x.toInt = 2 ∨ x.toInt = 3 ∨ x.toInt = 4 ∨ x.toInt = 5 ∨ x.toInt = 6 ∨ x.toInt = 7 ∨ x.toInt = 8 ∨ x.toInt = 9 ∨ x.toInt = 10 ∨ x.toInt = 11 ∨ x.toInt = 12 ∨ x.toInt = 13 ∨ x.toInt = 14 ∨ x.toInt = 15 ∨ x.toInt = 16 ∨ x.toInt = 17 ∨ x.toInt = 18 ∨ x.toInt = 19 ∨ x.toInt = 20 ∨ x.toInt = 21 ∨ x.toInt = 22 ∨ x.toInt = 23 ∨ x.toInt = 24 ∨ x.toInt = 25 ∨ x.toInt = 26 ∨ x.toInt = 27 ∨ x.toInt = 28 ∨ x.toInt = 29 := by omega
      rcases h3 with h | h | h | h | h | h | h | h | h | h | h | h | h | h | h | h | h | h | h | h | h | h | h | h | h | h | h | h | h | h
      · exact (Or.inl (key 0 (by rw [h]; decide)))
      · exact (Or.inr (Or.inl (key 1 (by rw [h]; decide))))
      · exact (Or.inr (Or.inr (Or.inl (key 2 (by rw [h]; decide)))))
      · exact (Or.inr (Or.inr (Or.inr (Or.inl (key 3 (by rw [h]; decide))))))
      · exact (Or.inr (Or.inr (Or.inr (Or.inr (Or.inl (key 4 (by rw [h]; decide)))))))
      · exact (Or.inr (Or.inr (Or.inr (Or.inr (Or.inr (Or.inl (key 5 (by rw [h]; decide))))))))
      · exact (Or.inr (Or.inr (Or.inr (Or.inr (Or.inr (Or.inr (Or.inl (key 6 (by rw [h]; decide)))))))))
      · exact (Or.inr (Or.inr (Or.inr (Or.inr (Or.inr (Or.inr (Or.inr (Or.inl (key 7 (by rw [h]; decide))))))))))
      · exact (Or.inr (Or.inr (Or.inr (Or.inr (Or.inr (Or.inr (Or.inr (Or.inr (Or.inl (key 8 (by rw [h]; decide)))))))))))
      · exact (Or.inr (Or.inr (Or.inr (Or.inr (Or.inr (Or.inr (Or.inr (Or.inr (Or.inr (Or.inl (key 9 (by rw [h]; decide))))))))))))
      · exact (Or.inr (Or.inr (Or.inr (Or.inr (Or.inr (Or.inr (Or.inr (Or.inr (Or.inr (Or.inr (Or.inl (key 10 (by rw [h]; decide)))))))))))))
      · exact (Or.inr (Or.inr (Or.inr (Or.inr (Or.inr (Or.inr (Or.inr (Or.inr (Or.inr (Or.inr (Or.inr (Or.inl (key 11 (by rw [h]; decide))))))))))))))
      · exact (Or.inr (Or.inr (Or.inr (Or.inr (Or.inr (Or.inr (Or.inr (Or.inr (Or.inr (Or.inr (Or.inr (Or.inr (Or.inl (key 12 (by rw [h]; decide)))))))))))))))
      · exact (Or.inr (Or.inr (Or.inr (Or.inr (Or.inr (Or.inr (Or.inr (Or.inr (Or.inr (Or.inr (Or.inr (Or.inr (Or.inr (Or.inl (key 13 (by rw [h]; decide))))))))))))))))
      · exact (Or.inr (Or.inr (Or.inr (Or.inr (Or.inr (Or.inr (Or.inr (Or.inr (Or.inr (Or.inr (Or.inr (Or.inr (Or.inr (Or.inr (Or.inl (key 14 (by rw [h]; decide)))))))))))))))))
      · exact (Or.inr (Or.inr (Or.inr (Or.inr (Or.inr (Or.inr (Or.inr (Or.inr (Or.inr (Or.inr (Or.inr (Or.inr (Or.inr (Or.inr (Or.inr (Or.inl (key 15 (by rw [h]; decide))))))))))))))))))
      · exact (Or.inr (Or.inr (Or.inr (Or.inr (Or.inr (Or.inr (Or.inr (Or.inr (Or.inr (Or.inr (Or.inr (Or.inr (Or.inr (Or.inr (Or.inr (Or.inr (Or.inl (key 16 (by rw [h]; decide)))))))))))))))))))
      · exact (Or.inr (Or.inr (Or.inr (Or.inr (Or.inr (Or.inr (Or.inr (Or.inr (Or.inr (Or.inr (Or.inr (Or.inr (Or.inr (Or.inr (Or.inr (Or.inr (Or.inr (Or.inl (key 17 (by rw [h]; decide))))))))))))))))))))
      · exact (Or.inr (Or.inr (Or.inr (Or.inr (Or.inr (Or.inr (Or.inr (Or.inr (Or.inr (Or.inr (Or.inr (Or.inr (Or.inr (Or.inr (Or.inr (Or.inr (Or.inr (Or.inr (Or.inl (key 18 (by rw [h]; decide)))))))))))))))))))))
      · exact (Or.inr (Or.inr (Or.inr (Or.inr (Or.inr (Or.inr (Or.inr (Or.inr (Or.inr (Or.inr (Or.inr (Or.inr (Or.inr (Or.inr (Or.inr (Or.inr (Or.inr (Or.inr (Or.inr (Or.inl (key 19 (by rw [h]; decide))))))))))))))))))))))
      · exact (Or.inr (Or.inr (Or.inr (Or.inr (Or.inr (Or.inr (Or.inr (Or.inr (Or.inr (Or.inr (Or.inr (Or.inr (Or.inr (Or.inr (Or.inr (Or.inr (Or.inr (Or.inr (Or.inr (Or.inr (Or.inl (key 20 (by rw [h]; decide)))))))))))))))))))))))
      · exact (Or.inr (Or.inr (Or.inr (Or.inr (Or.inr (Or.inr (Or.inr (Or.inr (Or.inr (Or.inr (Or.inr (Or.inr (Or.inr (Or.inr (Or.inr (Or.inr (Or.inr (Or.inr (Or.inr (Or.inr (Or.inr (Or.inl (key 21 (by rw [h]; decide))))))))))))))))))))))))
      · exact (Or.inr (Or.inr (Or.inr (Or.inr (Or.inr (Or.inr (Or.inr (Or.inr (Or.inr (Or.inr (Or.inr (Or.inr (Or.inr (Or.inr (Or.inr (Or.inr (Or.inr (Or.inr (Or.inr (Or.inr (Or.inr (Or.inr (Or.inl (key 22 (by rw [h]; decide)))))))))))))))))))))))))
      · exact (Or.inr (Or.inr (Or.inr (Or.inr (Or.inr (Or.inr (Or.inr (Or.inr (Or.inr (Or.inr (Or.inr (Or.inr (Or.inr (Or.inr (Or.inr (Or.inr (Or.inr (Or.inr (Or.inr (Or.inr (Or.inr (Or.inr (Or.inr (Or.inl (key 23 (by rw [h]; decide))))))))))))))))))))))))))
      · exact (Or.inr (Or.inr (Or.inr (Or.inr (Or.inr (Or.inr (Or.inr (Or.inr (Or.inr (Or.inr (Or.inr (Or.inr (Or.inr (Or.inr (Or.inr (Or.inr (Or.inr (Or.inr (Or.inr (Or.inr (Or.inr (Or.inr (Or.inr (Or.inr (Or.inl (key 24 (by rw [h]; decide)))))))))))))))))))))))))))
      · exact (Or.inr (Or.inr (Or.inr (Or.inr (Or.inr (Or.inr (Or.inr (Or.inr (Or.inr (Or.inr (Or.inr (Or.inr (Or.inr (Or.inr (Or.inr (Or.inr (Or.inr (Or.inr (Or.inr (Or.inr (Or.inr (Or.inr (Or.inr (Or.inr (Or.inr (Or.inl (key 25 (by rw [h]; decide))))))))))))))))))))))))))))
      · exact (Or.inr (Or.inr (Or.inr (Or.inr (Or.inr (Or.inr (Or.inr (Or.inr (Or.inr (Or.inr (Or.inr (Or.inr (Or.inr (Or.inr (Or.inr (Or.inr (Or.inr (Or.inr (Or.inr (Or.inr (Or.inr (Or.inr (Or.inr (Or.inr (Or.inr (Or.inr (Or.inl (key 26 (by rw [h]; decide)))))))))))))))))))))))))))))
      · exact (Or.inr (Or.inr (Or.inr (Or.inr (Or.inr (Or.inr (Or.inr (Or.inr (Or.inr (Or.inr (Or.inr (Or.inr (Or.inr (Or.inr (Or.inr (Or.inr (Or.inr (Or.inr (Or.inr (Or.inr (Or.inr (Or.inr (Or.inr (Or.inr (Or.inr (Or.inr (Or.inr (Or.inl (key 27 (by rw [h]; decide))))))))))))))))))))))))))))))
      · exact (Or.inr (Or.inr (Or.inr (Or.inr (Or.inr (Or.inr (Or.inr (Or.inr (Or.inr (Or.inr (Or.inr (Or.inr (Or.inr (Or.inr (Or.inr (Or.inr (Or.inr (Or.inr (Or.inr (Or.inr (Or.inr (Or.inr (Or.inr (Or.inr (Or.inr (Or.inr (Or.inr (Or.inr (Or.inl (key 28 (by rw [h]; decide)))))))))))))))))))))))))))))))
      · exact (Or.inr (Or.inr (Or.inr (Or.inr (Or.inr (Or.inr (Or.inr (Or.inr (Or.inr (Or.inr (Or.inr (Or.inr (Or.inr (Or.inr (Or.inr (Or.inr (Or.inr (Or.inr (Or.inr (Or.inr (Or.inr (Or.inr (Or.inr (Or.inr (Or.inr (Or.inr (Or.inr (Or.inr (Or.inr (Or.inl (key 29 (by rw [h]; decide))))))))))))))))))))))))))))))))
def sp_post (p0 : Int32) : Int32 := if (0 ≤ p0 ∧ p0 ≤ 479) then 1 else (-1)
def sp_as (p0 : Int32) : Int32 := if (0 ≤ p0 ∧ p0 ≤ 99) then 99 else (-1)
def sp_end (p0 : Int32) : Int32 := if (0 ≤ p0 ∧ p0 ≤ 0) then 1 else 0
def sp_hand (p0 p1 p2 p3 : Int32) : Int32 := if (10 ≤ p0 ∧ p0 ≤ 200) ∧ (0 ≤ p1 ∧ p1 ≤ 255) ∧ (0 ≤ p2 ∧ p2 ≤ 65535) ∧ (0 ≤ p3 ∧ p3 ≤ 3) then 0 else (-1)
def sp_piece (p0 p1 p2 p3 p4 p5 p6 p7 p8 : Int32) : Int32 := if (0 ≤ p0 ∧ p0 ≤ 7) ∧ (0 ≤ p1 ∧ p1 ≤ 7) ∧ (1 ≤ p2 ∧ p2 ≤ 400) ∧ (0 ≤ p3 ∧ p3 ≤ 3) ∧ (0 ≤ p4 ∧ p4 ≤ 9) ∧ (0 ≤ p5 ∧ p5 ≤ 4800) ∧ (p5 ≤ p6 ∧ p6 ≤ 4800) ∧ (0 ≤ p7 ∧ p7 ≤ 65535) ∧ (0 ≤ p8 ∧ p8 ≤ 6) then 0 else (-1)
def sp_count (p0 : Int32) : Int32 := if p0 = 9 then 99 else if 0 ≤ p0.toInt ∧ p0.toInt ≤ 12 then 0 else -1
def sp_claims (p0 p1 : Int32) : Int32 := if (0 ≤ p0 ∧ p0 ≤ 7) ∧ (0 ≤ p1 ∧ p1 ≤ 4) then 0 else (-1)
def sp_step (p0 : Int32) : Int32 := if (0 ≤ p0 ∧ p0 ≤ 960) then p0 else (-1)
def sp_tried (p0 p1 : Int32) : Int32 := if p0 = -1 ∧ (0 ≤ p1 ∧ p1 ≤ 960) then 0 else -1
def sp_rule (p0 p1 : Int32) : Int32 := if (0 ≤ p0 ∧ p0 ≤ 3) ∧ (0 ≤ p1 ∧ p1 ≤ 9) then (-1) else (-100)
