theorem zkd_wP {S : zM} {a k v b : Nat} : zkd (zwP S a k v) b = zkd S b := rfl
theorem zkd_wI {S : zM} {a k b : Nat} {v : Int32} : zkd (zwI S a k v) b = zkd S b := rfl
theorem zkd_nw {S : zM} {t n b : Nat} : zkd (znw S t n) b = if b = zgn S + 1 then (t, n) else zkd S b := rfl
theorem zgn_wP {S : zM} {a k v : Nat} : zgn (zwP S a k v) = zgn S := rfl
theorem zgn_wI {S : zM} {a k : Nat} {v : Int32} : zgn (zwI S a k v) = zgn S := rfl
theorem zgn_nw {S : zM} {t n : Nat} : zgn (znw S t n) = zgn S + 1 := rfl
theorem zgP_nw {S : zM} {t n b k : Nat} : zgP (znw S t n) b k = if b = zgn S + 1 then 0 else zgP S b k := rfl
theorem zgI_nw {S : zM} {t n b k : Nat} : zgI (znw S t n) b k = if b = zgn S + 1 then 0 else zgI S b k := rfl
theorem zgL_nw {S : zM} {t n b k : Nat} : zgL (znw S t n) b k = if b = zgn S + 1 then 0 else zgL S b k := rfl
