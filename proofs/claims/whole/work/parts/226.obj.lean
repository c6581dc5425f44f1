def okl (w : Nat × List (Nat × AI × Nat)) : Bool := w.2.all (fun q => okb w.1 q.1 q.2.1 q.2.2)
theorem ob_all : cdt.all okl = true := sorry
