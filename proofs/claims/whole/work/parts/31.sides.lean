/-- a side of a need: NONE is the eleventh number -/
def sdI (x : Int32) : Int32 := if x = -1 then 10 else x
