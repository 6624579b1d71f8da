abbrev rmX4_kindAt : Room := { frames := 6, cells := 0, slots := 0, locals := 160 }
def kindIx (c : Int32) : Int32 := if c = 116 then 0 else if c = 103 then 1 else if c = 114 then 2 else if c = 119 then 3 else (-1)
def m_X4_kindAt (v1 : Int32) (S : Hs) : Option (Int32) := if gI S 1 1 ≤ v1 then (some (-9)) else (gd (inb v1 110) (some (kindIx (gA S 2 v1.toNatClampNeg))))
theorem c_X4_kindAt (l : Launch) (g : GG) (hg : Inj g) (v1 : Int32)  (S : Hs) (r : Int32) (hm : m_X4_kindAt v1 S = some r) : CM l yX4_kindAt [.code yX4_kindAt cX4_kindAt 2 (some .int)] rmX4_kindAt [.ref (g.2.1 1), .int v1] g S (some (.int r)) S := by
  sorry
