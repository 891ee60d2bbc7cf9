/-! ===== what the desk is: the numbers of its row N (the model's layout), and what is asked of them ===== -/
def LF (N : Int → Int) (x w : Int) : Int := N (483 + 500 * x + w)
def END (N : Int → Int) (x k : Int) : Int := if 0 < LF N x 13 ∧ LF N x 13 - 1 ≤ k then LF N x 12 else LF N x 0 + LF N x 1
def REV (N : Int → Int) (x : Int) : Int := if LF N x 5 = 0 then 0 else (LF N x 1 - 1).tdiv (LF N x 3)
def isV (N : Int → Int) (m k : Int) : Prop := 0 ≤ m ∧ m ≤ 239 ∧ 0 < N (3 + m) ∧ N (243 + m) ≤ k
