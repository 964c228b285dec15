theorem ops_ok (xs : Nat → Int32) : OpOk xs (opAt (xs 0 &&& 63)) := by sorry
