def b2i (b : Bool) : Int32 := match b with
  | false => 0
  | true => 1
abbrev eIO : String := "java/lang/IndexOutOfBoundsException"
abbrev eIA : String := "java/lang/IllegalArgumentException"
abbrev eIS : String := "java/lang/IllegalStateException"
abbrev eNS : String := "java/util/NoSuchElementException"
/-- the words of programs -/
def wdL : List (List Nat) := [[115, 111, 114, 116], [99, 111, 112, 121], [117, 110, 105, 116, 101], [99, 111, 109, 109, 111, 110], [119, 105, 116, 104, 111, 117, 116], [108, 97, 115, 116], [102, 105, 114, 115, 116], [116, 117, 114, 110], [99, 108, 101, 97, 114], [105, 110, 116, 111], [117, 112], [100, 111, 119, 110], [110, 97, 116, 117, 114, 97, 108], [102, 117, 108, 108], [114, 101, 112, 108, 97, 99, 101], [115, 104, 111, 114, 116, 101, 115, 116], [98, 97, 108, 97, 110, 99, 101, 100], [112, 111, 108, 121]]
def wd (k : Nat) : List Nat := wdL.getD k []
def tn (k : Nat) : Nat := (wd k).length
def tb (k : Nat) (i : Nat) : Int32 := nI ((wd k).getD i 0)
