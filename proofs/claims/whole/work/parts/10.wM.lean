abbrev wE : va_W := []
def wM (cA : Nat → ClassId) (ad : Nat → Nat) (d : Nat → Int32) (kept : Nat → Int32) (aside : Nat → Int32) (images : Int32) (found : Nat → Int32) (base : Int32) (at0 : Int32) (size : Int32) (fault : Int32) (opened : Int32) (isRub : Int32) (names : Nat → Int32) (code : Nat → Int32) (coded : Int32) (pile : Nat → Int32) (needs : Nat → Int32) (traced : Nat → Int32) (traceMany : Int32) (who : Int32) (bitsOf : Nat → Int32) (sizeOf : Nat → Int32) (number : Nat → Int32) (lifted : Nat → Int32) : va_W :=
  [(ad 0, .inr (12, [.ref (ad 1), .ref (ad 2), .ref (ad 3), .int images, .ref (ad 5), .int base, .int at0, .int size, .int fault, .int opened, .int isRub, .ref (ad 12), .ref (ad 13), .int coded, .ref (ad 15), .ref (ad 16), .ref (ad 17), .int traceMany, .int who, .ref (ad 20), .ref (ad 21), .ref (ad 22), .ref (ad 23)])),
   (ad 1, .inl (cA 0, 326, .inl d)),
   (ad 2, .inl (cA 0, 326, .inl kept)),
   (ad 3, .inl (cA 0, 154, .inl aside)),
   (ad 5, .inl (cA 0, 6, .inl found)),
   (ad 12, .inl (cA 0, 3, .inl names)),
   (ad 13, .inl (cA 0, 60, .inl code)),
   (ad 15, .inl (cA 0, 60, .inl pile)),
   (ad 16, .inl (cA 0, 256, .inl needs)),
   (ad 17, .inl (cA 0, 40, .inl traced)),
   (ad 20, .inl (cA 0, 4, .inl bitsOf)),
   (ad 21, .inl (cA 0, 4, .inl sizeOf)),
   (ad 22, .inl (cA 0, 160, .inl number)),
   (ad 23, .inl (cA 0, 40, .inl lifted))]
