/-- the code of NoSuchElementException(String): its super's constructor by the entry 13 -/
def zNb : ByteArray := ⟨#[0x2a, 0x2b, 0xb7, 0x00, 0x0d, 0xb1]⟩
/-- the words of 'throw new NoSuchElementException("text")', as Bundle.ownAtoms has them for an entry 7 -/
def zNown (own : String) (ic : Nat) : List Cond := Bundle.throwableAtoms ++ Bundle.throwableSAtoms ++ (Bundle.passSAtoms "java/util/NoSuchElementException" "java/lang/RuntimeException" 13 zNb ++ Bundle.chainSAtoms "java/lang/RuntimeException" ["java/lang/Exception"]) ++ (Bundle.ownAtoms own ic "java/util/NoSuchElementException" []).drop (Bundle.throwableAtoms ++ Bundle.throwableSAtoms ++ Bundle.chainSAtoms "java/util/NoSuchElementException" []).length
def zNat (own : String) (ic : Nat) : List Cond := (zNown own ic).filter vx_no
