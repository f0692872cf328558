def zth3 (w : Int32) : Prop := w = 2 ∨ w = 5 ∨ w = 7
