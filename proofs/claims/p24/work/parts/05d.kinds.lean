def tyl (k : Nat → ClassId) : List (ClassId × FieldType) := [(k 0, .int), (k 1, .char), (k 2, .byte), (k 3, .object RX4), (k 4, .object RX6), (k 5, .object RX0), (k 6, .object RX9), (k 7, .object RX2), (k 8, .long)]
/-- the cell of a kind -/
def cl_ (a : Nat → Nat) (k : Nat → ClassId) (n : Nat) (u : Nat → Int32) (v : Nat → Option Nat) (t : Nat) : va_E := ([.inr (0, []),
  .inr (4, [.int (u 0), .int (u 1), .int (u 2)]),
  .inr (6, [.int (u 0), .int (u 1), .int (u 2), .int (u 3), .int (u 4), .int (u 5), .int (u 6), .int (u 7), .int (u 8), .int (u 9), .int (u 10)]),
  .inr (0, [.int (u 0), .int (u 1), .int (u 2)]),
  .inr (2, [.int (u 0), .int (u 1), .int (u 2), .int (u 3), .int (u 4), .int (u 5)]),
  .inr (9, [.int (u 0), .int (u 1), va_rf (v 2)]),
  .inl (k 0, n, .inl u),
  .inr (9, [.int (u 0), .int (u 1), va_rf (v 2)]),
  .inr (2, [.int (u 0), .int (u 1), .int (u 2), .int (u 3), .int (u 4), .int (u 5)]),
  .inr (0, []),
  .inr (11, [.ref (a 1), .ref (a 2), .ref (a 3), .ref (a 4), .ref (a 5), .ref (a 6), .ref (a 7), .int (u 7), .ref (a 8), .int (u 9)]),
  .inr (1, [.ref (a 9), .int (u 1), .ref (a 10), .int (u 3), .ref (a 11), .int (u 5), .ref (a 12), .int (u 7)]),
  .inr (10, [.ref (a 13), .int (u 1), .ref (a 14), .ref (a 15), .ref (a 16), .ref (a 17)]),
  .inr (3, [.ref (a 1), .ref (a 2), .int (u 2), .ref (a 20), .ref (a 21), .ref (a 22), .ref (a 23), .ref (a 24), .ref (a 25), .ref (a 26), .ref (a 27), .ref (a 28)]),
  .inr (3, [.ref (a 1), .ref (a 2), .int (u 2), .ref (a 30), .ref (a 31), .ref (a 32), .ref (a 33), .ref (a 34), .ref (a 35), .ref (a 36), .ref (a 37), .ref (a 38)]),
  .inr (5, [.ref (a 1), .ref (a 2), .ref (a 3), .ref (a 40), .int (u 4), .int (u 5)]),
  .inr (7, [.ref (a 1), .ref (a 3), .ref (a 41), .int (u 3), .ref (a 42), .int (u 5), .ref (a 43), .ref (a 44), .ref (a 45), .int (u 9), .int (u 10), .int (u 11), .int (u 12)]),
  .inl (k 1, 100, .inl u),
  .inl (k 0, 8, .inl u),
  .inl (k 0, 4, .inl u),
  .inl (k 3, 8, .inr (.inr (.inr (.inr v)))),
  .inl (k 4, 30, .inr (.inr (.inr (.inr v)))),
  .inl (k 5, 30, .inr (.inr (.inr (.inr v)))),
  .inl (k 6, 20, .inr (.inr (.inr (.inr v)))),
  .inl (k 0, 8, .inl u),
  .inl (k 6, 4, .inr (.inr (.inr (.inr v)))),
  .inr (8, [.ref (a 18), .int (u 1), .ref (a 19), .int (u 3), .int (u 4), .int (u 5), .int (u 6), .int (u 7)]),
  .inl (k 0, 60, .inl u),
  .inl (k 0, 60, .inl u),
  .inl (k 1, 60, .inl u),
  .inl (k 0, 8, .inl u),
  .inl (k 0, 8, .inl u),
  .inl (k 0, 8, .inl u),
  .inl (k 0, 8, .inl u),
  .inl (k 0, 30, .inl u),
  .inl (k 0, 30, .inl u),
  .inl (k 0, 30, .inl u),
  .inl (k 0, 30, .inl u),
  .inl (k 0, 30, .inl u),
  .inr (0, []),
  .inl (k 0, 8, .inl u),
  .inl (k 0, 8, .inl u),
  .inl (k 0, 8, .inl u),
  .inl (k 0, 8, .inl u),
  .inl (k 0, 30, .inl u),
  .inl (k 0, 30, .inl u),
  .inl (k 0, 30, .inl u),
  .inl (k 0, 30, .inl u),
  .inl (k 0, 30, .inl u),
  .inr (0, []),
  .inl (k 7, 40, .inr (.inr (.inr (.inr v)))),
  .inl (k 0, 5, .inl u),
  .inl (k 0, 3, .inl u),
  .inl (k 0, 3, .inl u),
  .inl (k 0, 8, .inl u),
  .inl (k 0, 8, .inl u),
  .inr (0, []),
  .inr (0, []),
  .inr (0, []),
  .inl (k 8, 1, .inr (.inl (fun j => (u j).toInt64))),
  .inr (12, [.ref (a 51), .int (u 1), .ref (a 53), .ref (a 54), .ref (a 55), .int (u 5), .ref (a 57), .ref (a 58), .ref (a 59), .int (u 9), .ref (a 61), .ref (a 62), .ref (a 63), .ref (a 64), .ref (a 65), .ref (a 66), .ref (a 67), .ref (a 68), .ref (a 69), .int (u 19), .ref (a 71), .ref (a 72), .ref (a 73), .ref (a 74), .int (u 24), .ref (a 76), .ref (a 77), .ref (a 78), .ref (a 79), .ref (a 80), .int (u 30), .int (u 31), .ref (a 83), .ref (a 84), .int (u 34), .ref (a 86), .int (u 36), .int (u 37), .ref (a 89), .ref (a 90), .int (u 40), .ref (a 92), va_rf (v 42), .int (u 43), .int (u 44), .int (u 45), .int (u 46), va_rf (v 47), .ref (a 99), .ref (a 100), .ref (a 101), .int (u 51), .int (u 52), .ref (a 104), .ref (a 105), .int (u 55), .int (u 56), .int (u 57)]),
  .inl (k 0, 4, .inl u),
  .inr (0, []),
  .inl (k 0, 8, .inl u),
  .inl (k 0, 8, .inl u),
  .inl (k 0, 8, .inl u),
  .inr (0, []),
  .inl (k 0, 31, .inl u),
  .inl (k 0, 31, .inl u),
  .inl (k 0, 31, .inl u),
  .inr (0, []),
  .inl (k 0, 30, .inl u),
  .inl (k 0, 30, .inl u),
  .inl (k 0, 30, .inl u),
  .inl (k 0, 30, .inl u),
  .inl (k 0, 30, .inl u),
  .inl (k 0, 30, .inl u),
  .inl (k 0, 30, .inl u),
  .inl (k 0, 30, .inl u),
  .inl (k 0, 30, .inl u),
  .inr (0, []),
  .inl (k 2, 1200, .inl u),
  .inl (k 0, 20, .inl u),
  .inl (k 0, 20, .inl u),
  .inl (k 0, 20, .inl u),
  .inr (0, []),
  .inl (k 2, 22, .inl u),
  .inl (k 0, 40, .inl u),
  .inl (k 0, 40, .inl u),
  .inl (k 0, 40, .inl u),
  .inl (k 0, 120, .inl u),
  .inr (0, []),
  .inr (0, []),
  .inl (k 0, 60, .inl u),
  .inl (k 2, 100, .inl u),
  .inr (0, []),
  .inl (k 0, 16, .inl u),
  .inr (0, []),
  .inr (0, []),
  .inl (k 0, 199, .inl u),
  .inl (k 0, 199, .inl u),
  .inr (0, []),
  .inl (k 0, 8, .inl u),
  .inr (0, []),
  .inr (0, []),
  .inr (0, []),
  .inr (0, []),
  .inr (0, []),
  .inr (0, []),
  .inl (k 0, 38408, .inl u),
  .inl (k 0, 5, .inl u),
  .inl (k 0, 3, .inl u),
  .inr (0, []),
  .inr (0, []),
  .inl (k 0, 8, .inl u),
  .inl (k 0, 8, .inl u)] : List va_E).getD t (.inr (0, []))
def fxs : List Nat := [0, 1, 2, 3, 4, 5, 6, 7, 8, 9, 10, 11, 12, 13, 14, 15, 16, 17, 18, 19, 20, 21, 22, 23, 24, 25, 26, 27, 28, 30, 31, 32, 33, 34, 35, 36, 37, 38, 40, 41, 42, 43, 44, 45, 49, 50, 51, 53, 54, 55, 57, 58, 59, 61, 62, 63, 64, 65, 66, 67, 68, 69, 71, 72, 73, 74, 76, 77, 78, 79, 80, 83, 84, 86, 89, 90, 92, 99, 100, 101, 104, 105]
theorem cl_e1 {a : Nat → Nat} {k : Nat → ClassId} {n : Nat} {u : Nat → Int32} {v : Nat → Option Nat} : cl_ a k n u v 1 = .inr (4, [.int (u 0), .int (u 1), .int (u 2)]) := rfl
theorem cl_e2 {a : Nat → Nat} {k : Nat → ClassId} {n : Nat} {u : Nat → Int32} {v : Nat → Option Nat} : cl_ a k n u v 2 = .inr (6, [.int (u 0), .int (u 1), .int (u 2), .int (u 3), .int (u 4), .int (u 5), .int (u 6), .int (u 7), .int (u 8), .int (u 9), .int (u 10)]) := rfl
theorem cl_e3 {a : Nat → Nat} {k : Nat → ClassId} {n : Nat} {u : Nat → Int32} {v : Nat → Option Nat} : cl_ a k n u v 3 = .inr (0, [.int (u 0), .int (u 1), .int (u 2)]) := rfl
theorem cl_e4 {a : Nat → Nat} {k : Nat → ClassId} {n : Nat} {u : Nat → Int32} {v : Nat → Option Nat} : cl_ a k n u v 4 = .inr (2, [.int (u 0), .int (u 1), .int (u 2), .int (u 3), .int (u 4), .int (u 5)]) := rfl
theorem cl_e5 {a : Nat → Nat} {k : Nat → ClassId} {n : Nat} {u : Nat → Int32} {v : Nat → Option Nat} : cl_ a k n u v 5 = .inr (9, [.int (u 0), .int (u 1), va_rf (v 2)]) := rfl
theorem cl_e6 {a : Nat → Nat} {k : Nat → ClassId} {n : Nat} {u : Nat → Int32} {v : Nat → Option Nat} : cl_ a k n u v 6 = .inl (k 0, n, .inl u) := rfl
theorem cl_e7 {a : Nat → Nat} {k : Nat → ClassId} {n : Nat} {u : Nat → Int32} {v : Nat → Option Nat} : cl_ a k n u v 7 = .inr (9, [.int (u 0), .int (u 1), va_rf (v 2)]) := rfl
theorem cl_e8 {a : Nat → Nat} {k : Nat → ClassId} {n : Nat} {u : Nat → Int32} {v : Nat → Option Nat} : cl_ a k n u v 8 = .inr (2, [.int (u 0), .int (u 1), .int (u 2), .int (u 3), .int (u 4), .int (u 5)]) := rfl
theorem cl_e10 {a : Nat → Nat} {k : Nat → ClassId} {n : Nat} {u : Nat → Int32} {v : Nat → Option Nat} : cl_ a k n u v 10 = .inr (11, [.ref (a 1), .ref (a 2), .ref (a 3), .ref (a 4), .ref (a 5), .ref (a 6), .ref (a 7), .int (u 7), .ref (a 8), .int (u 9)]) := rfl
theorem cl_e11 {a : Nat → Nat} {k : Nat → ClassId} {n : Nat} {u : Nat → Int32} {v : Nat → Option Nat} : cl_ a k n u v 11 = .inr (1, [.ref (a 9), .int (u 1), .ref (a 10), .int (u 3), .ref (a 11), .int (u 5), .ref (a 12), .int (u 7)]) := rfl
theorem cl_e12 {a : Nat → Nat} {k : Nat → ClassId} {n : Nat} {u : Nat → Int32} {v : Nat → Option Nat} : cl_ a k n u v 12 = .inr (10, [.ref (a 13), .int (u 1), .ref (a 14), .ref (a 15), .ref (a 16), .ref (a 17)]) := rfl
theorem cl_e13 {a : Nat → Nat} {k : Nat → ClassId} {n : Nat} {u : Nat → Int32} {v : Nat → Option Nat} : cl_ a k n u v 13 = .inr (3, [.ref (a 1), .ref (a 2), .int (u 2), .ref (a 20), .ref (a 21), .ref (a 22), .ref (a 23), .ref (a 24), .ref (a 25), .ref (a 26), .ref (a 27), .ref (a 28)]) := rfl
theorem cl_e14 {a : Nat → Nat} {k : Nat → ClassId} {n : Nat} {u : Nat → Int32} {v : Nat → Option Nat} : cl_ a k n u v 14 = .inr (3, [.ref (a 1), .ref (a 2), .int (u 2), .ref (a 30), .ref (a 31), .ref (a 32), .ref (a 33), .ref (a 34), .ref (a 35), .ref (a 36), .ref (a 37), .ref (a 38)]) := rfl
theorem cl_e15 {a : Nat → Nat} {k : Nat → ClassId} {n : Nat} {u : Nat → Int32} {v : Nat → Option Nat} : cl_ a k n u v 15 = .inr (5, [.ref (a 1), .ref (a 2), .ref (a 3), .ref (a 40), .int (u 4), .int (u 5)]) := rfl
theorem cl_e16 {a : Nat → Nat} {k : Nat → ClassId} {n : Nat} {u : Nat → Int32} {v : Nat → Option Nat} : cl_ a k n u v 16 = .inr (7, [.ref (a 1), .ref (a 3), .ref (a 41), .int (u 3), .ref (a 42), .int (u 5), .ref (a 43), .ref (a 44), .ref (a 45), .int (u 9), .int (u 10), .int (u 11), .int (u 12)]) := rfl
theorem cl_e17 {a : Nat → Nat} {k : Nat → ClassId} {n : Nat} {u : Nat → Int32} {v : Nat → Option Nat} : cl_ a k n u v 17 = .inl (k 1, 100, .inl u) := rfl
theorem cl_e18 {a : Nat → Nat} {k : Nat → ClassId} {n : Nat} {u : Nat → Int32} {v : Nat → Option Nat} : cl_ a k n u v 18 = .inl (k 0, 8, .inl u) := rfl
theorem cl_e19 {a : Nat → Nat} {k : Nat → ClassId} {n : Nat} {u : Nat → Int32} {v : Nat → Option Nat} : cl_ a k n u v 19 = .inl (k 0, 4, .inl u) := rfl
theorem cl_e20 {a : Nat → Nat} {k : Nat → ClassId} {n : Nat} {u : Nat → Int32} {v : Nat → Option Nat} : cl_ a k n u v 20 = .inl (k 3, 8, .inr (.inr (.inr (.inr v)))) := rfl
theorem cl_e21 {a : Nat → Nat} {k : Nat → ClassId} {n : Nat} {u : Nat → Int32} {v : Nat → Option Nat} : cl_ a k n u v 21 = .inl (k 4, 30, .inr (.inr (.inr (.inr v)))) := rfl
theorem cl_e22 {a : Nat → Nat} {k : Nat → ClassId} {n : Nat} {u : Nat → Int32} {v : Nat → Option Nat} : cl_ a k n u v 22 = .inl (k 5, 30, .inr (.inr (.inr (.inr v)))) := rfl
theorem cl_e23 {a : Nat → Nat} {k : Nat → ClassId} {n : Nat} {u : Nat → Int32} {v : Nat → Option Nat} : cl_ a k n u v 23 = .inl (k 6, 20, .inr (.inr (.inr (.inr v)))) := rfl
theorem cl_e24 {a : Nat → Nat} {k : Nat → ClassId} {n : Nat} {u : Nat → Int32} {v : Nat → Option Nat} : cl_ a k n u v 24 = .inl (k 0, 8, .inl u) := rfl
theorem cl_e25 {a : Nat → Nat} {k : Nat → ClassId} {n : Nat} {u : Nat → Int32} {v : Nat → Option Nat} : cl_ a k n u v 25 = .inl (k 6, 4, .inr (.inr (.inr (.inr v)))) := rfl
theorem cl_e26 {a : Nat → Nat} {k : Nat → ClassId} {n : Nat} {u : Nat → Int32} {v : Nat → Option Nat} : cl_ a k n u v 26 = .inr (8, [.ref (a 18), .int (u 1), .ref (a 19), .int (u 3), .int (u 4), .int (u 5), .int (u 6), .int (u 7)]) := rfl
theorem cl_e27 {a : Nat → Nat} {k : Nat → ClassId} {n : Nat} {u : Nat → Int32} {v : Nat → Option Nat} : cl_ a k n u v 27 = .inl (k 0, 60, .inl u) := rfl
theorem cl_e28 {a : Nat → Nat} {k : Nat → ClassId} {n : Nat} {u : Nat → Int32} {v : Nat → Option Nat} : cl_ a k n u v 28 = .inl (k 0, 60, .inl u) := rfl
theorem cl_e29 {a : Nat → Nat} {k : Nat → ClassId} {n : Nat} {u : Nat → Int32} {v : Nat → Option Nat} : cl_ a k n u v 29 = .inl (k 1, 60, .inl u) := rfl
theorem cl_e30 {a : Nat → Nat} {k : Nat → ClassId} {n : Nat} {u : Nat → Int32} {v : Nat → Option Nat} : cl_ a k n u v 30 = .inl (k 0, 8, .inl u) := rfl
theorem cl_e31 {a : Nat → Nat} {k : Nat → ClassId} {n : Nat} {u : Nat → Int32} {v : Nat → Option Nat} : cl_ a k n u v 31 = .inl (k 0, 8, .inl u) := rfl
theorem cl_e32 {a : Nat → Nat} {k : Nat → ClassId} {n : Nat} {u : Nat → Int32} {v : Nat → Option Nat} : cl_ a k n u v 32 = .inl (k 0, 8, .inl u) := rfl
theorem cl_e33 {a : Nat → Nat} {k : Nat → ClassId} {n : Nat} {u : Nat → Int32} {v : Nat → Option Nat} : cl_ a k n u v 33 = .inl (k 0, 8, .inl u) := rfl
theorem cl_e34 {a : Nat → Nat} {k : Nat → ClassId} {n : Nat} {u : Nat → Int32} {v : Nat → Option Nat} : cl_ a k n u v 34 = .inl (k 0, 30, .inl u) := rfl
theorem cl_e35 {a : Nat → Nat} {k : Nat → ClassId} {n : Nat} {u : Nat → Int32} {v : Nat → Option Nat} : cl_ a k n u v 35 = .inl (k 0, 30, .inl u) := rfl
theorem cl_e36 {a : Nat → Nat} {k : Nat → ClassId} {n : Nat} {u : Nat → Int32} {v : Nat → Option Nat} : cl_ a k n u v 36 = .inl (k 0, 30, .inl u) := rfl
theorem cl_e37 {a : Nat → Nat} {k : Nat → ClassId} {n : Nat} {u : Nat → Int32} {v : Nat → Option Nat} : cl_ a k n u v 37 = .inl (k 0, 30, .inl u) := rfl
theorem cl_e38 {a : Nat → Nat} {k : Nat → ClassId} {n : Nat} {u : Nat → Int32} {v : Nat → Option Nat} : cl_ a k n u v 38 = .inl (k 0, 30, .inl u) := rfl
theorem cl_e40 {a : Nat → Nat} {k : Nat → ClassId} {n : Nat} {u : Nat → Int32} {v : Nat → Option Nat} : cl_ a k n u v 40 = .inl (k 0, 8, .inl u) := rfl
theorem cl_e41 {a : Nat → Nat} {k : Nat → ClassId} {n : Nat} {u : Nat → Int32} {v : Nat → Option Nat} : cl_ a k n u v 41 = .inl (k 0, 8, .inl u) := rfl
theorem cl_e42 {a : Nat → Nat} {k : Nat → ClassId} {n : Nat} {u : Nat → Int32} {v : Nat → Option Nat} : cl_ a k n u v 42 = .inl (k 0, 8, .inl u) := rfl
theorem cl_e43 {a : Nat → Nat} {k : Nat → ClassId} {n : Nat} {u : Nat → Int32} {v : Nat → Option Nat} : cl_ a k n u v 43 = .inl (k 0, 8, .inl u) := rfl
theorem cl_e44 {a : Nat → Nat} {k : Nat → ClassId} {n : Nat} {u : Nat → Int32} {v : Nat → Option Nat} : cl_ a k n u v 44 = .inl (k 0, 30, .inl u) := rfl
theorem cl_e45 {a : Nat → Nat} {k : Nat → ClassId} {n : Nat} {u : Nat → Int32} {v : Nat → Option Nat} : cl_ a k n u v 45 = .inl (k 0, 30, .inl u) := rfl
theorem cl_e46 {a : Nat → Nat} {k : Nat → ClassId} {n : Nat} {u : Nat → Int32} {v : Nat → Option Nat} : cl_ a k n u v 46 = .inl (k 0, 30, .inl u) := rfl
theorem cl_e47 {a : Nat → Nat} {k : Nat → ClassId} {n : Nat} {u : Nat → Int32} {v : Nat → Option Nat} : cl_ a k n u v 47 = .inl (k 0, 30, .inl u) := rfl
theorem cl_e48 {a : Nat → Nat} {k : Nat → ClassId} {n : Nat} {u : Nat → Int32} {v : Nat → Option Nat} : cl_ a k n u v 48 = .inl (k 0, 30, .inl u) := rfl
theorem cl_e50 {a : Nat → Nat} {k : Nat → ClassId} {n : Nat} {u : Nat → Int32} {v : Nat → Option Nat} : cl_ a k n u v 50 = .inl (k 7, 40, .inr (.inr (.inr (.inr v)))) := rfl
theorem cl_e51 {a : Nat → Nat} {k : Nat → ClassId} {n : Nat} {u : Nat → Int32} {v : Nat → Option Nat} : cl_ a k n u v 51 = .inl (k 0, 5, .inl u) := rfl
theorem cl_e52 {a : Nat → Nat} {k : Nat → ClassId} {n : Nat} {u : Nat → Int32} {v : Nat → Option Nat} : cl_ a k n u v 52 = .inl (k 0, 3, .inl u) := rfl
theorem cl_e53 {a : Nat → Nat} {k : Nat → ClassId} {n : Nat} {u : Nat → Int32} {v : Nat → Option Nat} : cl_ a k n u v 53 = .inl (k 0, 3, .inl u) := rfl
theorem cl_e54 {a : Nat → Nat} {k : Nat → ClassId} {n : Nat} {u : Nat → Int32} {v : Nat → Option Nat} : cl_ a k n u v 54 = .inl (k 0, 8, .inl u) := rfl
theorem cl_e55 {a : Nat → Nat} {k : Nat → ClassId} {n : Nat} {u : Nat → Int32} {v : Nat → Option Nat} : cl_ a k n u v 55 = .inl (k 0, 8, .inl u) := rfl
theorem cl_e59 {a : Nat → Nat} {k : Nat → ClassId} {n : Nat} {u : Nat → Int32} {v : Nat → Option Nat} : cl_ a k n u v 59 = .inl (k 8, 1, .inr (.inl (fun j => (u j).toInt64))) := rfl
theorem cl_e60 {a : Nat → Nat} {k : Nat → ClassId} {n : Nat} {u : Nat → Int32} {v : Nat → Option Nat} : cl_ a k n u v 60 = .inr (12, [.ref (a 51), .int (u 1), .ref (a 53), .ref (a 54), .ref (a 55), .int (u 5), .ref (a 57), .ref (a 58), .ref (a 59), .int (u 9), .ref (a 61), .ref (a 62), .ref (a 63), .ref (a 64), .ref (a 65), .ref (a 66), .ref (a 67), .ref (a 68), .ref (a 69), .int (u 19), .ref (a 71), .ref (a 72), .ref (a 73), .ref (a 74), .int (u 24), .ref (a 76), .ref (a 77), .ref (a 78), .ref (a 79), .ref (a 80), .int (u 30), .int (u 31), .ref (a 83), .ref (a 84), .int (u 34), .ref (a 86), .int (u 36), .int (u 37), .ref (a 89), .ref (a 90), .int (u 40), .ref (a 92), va_rf (v 42), .int (u 43), .int (u 44), .int (u 45), .int (u 46), va_rf (v 47), .ref (a 99), .ref (a 100), .ref (a 101), .int (u 51), .int (u 52), .ref (a 104), .ref (a 105), .int (u 55), .int (u 56), .int (u 57)]) := rfl
theorem cl_e61 {a : Nat → Nat} {k : Nat → ClassId} {n : Nat} {u : Nat → Int32} {v : Nat → Option Nat} : cl_ a k n u v 61 = .inl (k 0, 4, .inl u) := rfl
theorem cl_e63 {a : Nat → Nat} {k : Nat → ClassId} {n : Nat} {u : Nat → Int32} {v : Nat → Option Nat} : cl_ a k n u v 63 = .inl (k 0, 8, .inl u) := rfl
theorem cl_e64 {a : Nat → Nat} {k : Nat → ClassId} {n : Nat} {u : Nat → Int32} {v : Nat → Option Nat} : cl_ a k n u v 64 = .inl (k 0, 8, .inl u) := rfl
theorem cl_e65 {a : Nat → Nat} {k : Nat → ClassId} {n : Nat} {u : Nat → Int32} {v : Nat → Option Nat} : cl_ a k n u v 65 = .inl (k 0, 8, .inl u) := rfl
theorem cl_e67 {a : Nat → Nat} {k : Nat → ClassId} {n : Nat} {u : Nat → Int32} {v : Nat → Option Nat} : cl_ a k n u v 67 = .inl (k 0, 31, .inl u) := rfl
theorem cl_e68 {a : Nat → Nat} {k : Nat → ClassId} {n : Nat} {u : Nat → Int32} {v : Nat → Option Nat} : cl_ a k n u v 68 = .inl (k 0, 31, .inl u) := rfl
theorem cl_e69 {a : Nat → Nat} {k : Nat → ClassId} {n : Nat} {u : Nat → Int32} {v : Nat → Option Nat} : cl_ a k n u v 69 = .inl (k 0, 31, .inl u) := rfl
theorem cl_e71 {a : Nat → Nat} {k : Nat → ClassId} {n : Nat} {u : Nat → Int32} {v : Nat → Option Nat} : cl_ a k n u v 71 = .inl (k 0, 30, .inl u) := rfl
theorem cl_e72 {a : Nat → Nat} {k : Nat → ClassId} {n : Nat} {u : Nat → Int32} {v : Nat → Option Nat} : cl_ a k n u v 72 = .inl (k 0, 30, .inl u) := rfl
theorem cl_e73 {a : Nat → Nat} {k : Nat → ClassId} {n : Nat} {u : Nat → Int32} {v : Nat → Option Nat} : cl_ a k n u v 73 = .inl (k 0, 30, .inl u) := rfl
theorem cl_e74 {a : Nat → Nat} {k : Nat → ClassId} {n : Nat} {u : Nat → Int32} {v : Nat → Option Nat} : cl_ a k n u v 74 = .inl (k 0, 30, .inl u) := rfl
theorem cl_e75 {a : Nat → Nat} {k : Nat → ClassId} {n : Nat} {u : Nat → Int32} {v : Nat → Option Nat} : cl_ a k n u v 75 = .inl (k 0, 30, .inl u) := rfl
theorem cl_e76 {a : Nat → Nat} {k : Nat → ClassId} {n : Nat} {u : Nat → Int32} {v : Nat → Option Nat} : cl_ a k n u v 76 = .inl (k 0, 30, .inl u) := rfl
theorem cl_e77 {a : Nat → Nat} {k : Nat → ClassId} {n : Nat} {u : Nat → Int32} {v : Nat → Option Nat} : cl_ a k n u v 77 = .inl (k 0, 30, .inl u) := rfl
theorem cl_e78 {a : Nat → Nat} {k : Nat → ClassId} {n : Nat} {u : Nat → Int32} {v : Nat → Option Nat} : cl_ a k n u v 78 = .inl (k 0, 30, .inl u) := rfl
theorem cl_e79 {a : Nat → Nat} {k : Nat → ClassId} {n : Nat} {u : Nat → Int32} {v : Nat → Option Nat} : cl_ a k n u v 79 = .inl (k 0, 30, .inl u) := rfl
theorem cl_e81 {a : Nat → Nat} {k : Nat → ClassId} {n : Nat} {u : Nat → Int32} {v : Nat → Option Nat} : cl_ a k n u v 81 = .inl (k 2, 1200, .inl u) := rfl
theorem cl_e82 {a : Nat → Nat} {k : Nat → ClassId} {n : Nat} {u : Nat → Int32} {v : Nat → Option Nat} : cl_ a k n u v 82 = .inl (k 0, 20, .inl u) := rfl
theorem cl_e83 {a : Nat → Nat} {k : Nat → ClassId} {n : Nat} {u : Nat → Int32} {v : Nat → Option Nat} : cl_ a k n u v 83 = .inl (k 0, 20, .inl u) := rfl
theorem cl_e84 {a : Nat → Nat} {k : Nat → ClassId} {n : Nat} {u : Nat → Int32} {v : Nat → Option Nat} : cl_ a k n u v 84 = .inl (k 0, 20, .inl u) := rfl
theorem cl_e86 {a : Nat → Nat} {k : Nat → ClassId} {n : Nat} {u : Nat → Int32} {v : Nat → Option Nat} : cl_ a k n u v 86 = .inl (k 2, 22, .inl u) := rfl
theorem cl_e87 {a : Nat → Nat} {k : Nat → ClassId} {n : Nat} {u : Nat → Int32} {v : Nat → Option Nat} : cl_ a k n u v 87 = .inl (k 0, 40, .inl u) := rfl
theorem cl_e88 {a : Nat → Nat} {k : Nat → ClassId} {n : Nat} {u : Nat → Int32} {v : Nat → Option Nat} : cl_ a k n u v 88 = .inl (k 0, 40, .inl u) := rfl
theorem cl_e89 {a : Nat → Nat} {k : Nat → ClassId} {n : Nat} {u : Nat → Int32} {v : Nat → Option Nat} : cl_ a k n u v 89 = .inl (k 0, 40, .inl u) := rfl
theorem cl_e90 {a : Nat → Nat} {k : Nat → ClassId} {n : Nat} {u : Nat → Int32} {v : Nat → Option Nat} : cl_ a k n u v 90 = .inl (k 0, 120, .inl u) := rfl
theorem cl_e93 {a : Nat → Nat} {k : Nat → ClassId} {n : Nat} {u : Nat → Int32} {v : Nat → Option Nat} : cl_ a k n u v 93 = .inl (k 0, 60, .inl u) := rfl
theorem cl_e94 {a : Nat → Nat} {k : Nat → ClassId} {n : Nat} {u : Nat → Int32} {v : Nat → Option Nat} : cl_ a k n u v 94 = .inl (k 2, 100, .inl u) := rfl
theorem cl_e96 {a : Nat → Nat} {k : Nat → ClassId} {n : Nat} {u : Nat → Int32} {v : Nat → Option Nat} : cl_ a k n u v 96 = .inl (k 0, 16, .inl u) := rfl
theorem cl_e99 {a : Nat → Nat} {k : Nat → ClassId} {n : Nat} {u : Nat → Int32} {v : Nat → Option Nat} : cl_ a k n u v 99 = .inl (k 0, 199, .inl u) := rfl
theorem cl_e100 {a : Nat → Nat} {k : Nat → ClassId} {n : Nat} {u : Nat → Int32} {v : Nat → Option Nat} : cl_ a k n u v 100 = .inl (k 0, 199, .inl u) := rfl
theorem cl_e102 {a : Nat → Nat} {k : Nat → ClassId} {n : Nat} {u : Nat → Int32} {v : Nat → Option Nat} : cl_ a k n u v 102 = .inl (k 0, 8, .inl u) := rfl
theorem cl_e109 {a : Nat → Nat} {k : Nat → ClassId} {n : Nat} {u : Nat → Int32} {v : Nat → Option Nat} : cl_ a k n u v 109 = .inl (k 0, 38408, .inl u) := rfl
theorem cl_e110 {a : Nat → Nat} {k : Nat → ClassId} {n : Nat} {u : Nat → Int32} {v : Nat → Option Nat} : cl_ a k n u v 110 = .inl (k 0, 5, .inl u) := rfl
theorem cl_e111 {a : Nat → Nat} {k : Nat → ClassId} {n : Nat} {u : Nat → Int32} {v : Nat → Option Nat} : cl_ a k n u v 111 = .inl (k 0, 3, .inl u) := rfl
theorem cl_e114 {a : Nat → Nat} {k : Nat → ClassId} {n : Nat} {u : Nat → Int32} {v : Nat → Option Nat} : cl_ a k n u v 114 = .inl (k 0, 8, .inl u) := rfl
theorem cl_e115 {a : Nat → Nat} {k : Nat → ClassId} {n : Nat} {u : Nat → Int32} {v : Nat → Option Nat} : cl_ a k n u v 115 = .inl (k 0, 8, .inl u) := rfl
