/-! longs with intervals; sum and product of the reference -/
def lf_B (lo hi : Int) (x : Int64) : Prop := lo ≤ x.toInt ∧ x.toInt ≤ hi
theorem lf_weak {a b c d : Int} {x : Int64} (h : lf_B a b x) (h1 : c ≤ a) (h2 : b ≤ d) : lf_B c d x := ⟨Int.le_trans h1 h.1, Int.le_trans h.2 h2⟩
