/-! the tables of the methods -/
def mDf : Mt := (⟨"", "", ""⟩, ⟨#[]⟩, 0, none, 0, false, 0, 0, 0, [])
def mT (y : Nat) : Mt := mTab.getD y mDf
def mN (y : Nat) : MethodName := (mT y).1
def mB (y : Nat) : ByteArray := (mT y).2.1
def mL (y : Nat) : Nat := (mT y).2.2.1
def mR (y : Nat) : Option FieldType := (mT y).2.2.2.1
def mC (y : Nat) : Nat := (mT y).2.2.2.2.1
def mS (y : Nat) : Bool := (mT y).2.2.2.2.2.1
def mA (y : Nat) : Nat := (mT y).2.2.2.2.2.2.1
def mF (y : Nat) : Nat := (mT y).2.2.2.2.2.2.2.1
def mO (y : Nat) : Nat := (mT y).2.2.2.2.2.2.2.2.1
def mK (y : Nat) : List (List (Nat × Ins)) := (mT y).2.2.2.2.2.2.2.2.2
def bkp (y k : Nat) : List (Nat × Ins) := (mK y).getD k []
def blk (y k : Nat) : List Ins := (bkp y k).map Prod.snd
