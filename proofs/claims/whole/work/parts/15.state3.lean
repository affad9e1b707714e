/-! STATE: coder and frame -/
def bC (_ : Nat → ClassId) (h ad hw hh hlo hf : Nat) : va_W := [(h, .inr (iCoder, [.int (nI ad), .ref hw, .ref hh, .ref hlo, .ref hf]))]
def bF (_ : Nat → ClassId) (h hm kd : Nat) (ak tu be : Bool) (cr : Nat) : va_W := [(h, .inr (iFrame, [.ref hm, .int (nI kd), .int (bI ak), .int (bI tu), .int (bI be), .int (nI cr)]))]
