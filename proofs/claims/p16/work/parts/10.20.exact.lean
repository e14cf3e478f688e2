noncomputable def eC (m : Nat) (c : aK) : Bool := achk aGI (aCt cL13) aAf aIl 4000 m c
