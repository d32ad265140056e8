theorem esum_s (f : fT) (p : Nat) : esum f (p + 1) = esum f p + (if f (2 + p) = -1 then nI 0 else err f p) := rfl
theorem wst_s (f : fT) (p : Nat) : wst f (p + 1) = if f (2 + p) = -1 then wst f p else match wst f p with
    | none => some p
    | some b => if err f b < err f p then some p else some b := rfl
theorem rns_s (f : fT) (k : Nat) : rns f (k + 1) = rns f k + (if f (293 + (k + 1)) = f (293 + k) then 0 else 1) := rfl
theorem bsum_s (f : fT) (but : Int32) (p : Nat) : bsum f but (p + 1) = if f (2 + p) = -1 then bsum f but p else bsum f but p + nbd f (f (2 + p)) but := rfl
theorem gsum_s (f : fT) (c : Int32) (p : Nat) : gsum f c (p + 1) = if f (2 + p) = -1 then gsum f c p else gsum f c p + (if 0 < nbd f (f (2 + p)) (-1) - dst (f 291) (f (2 + p)) c then nbd f (f (2 + p)) (-1) - dst (f 291) (f (2 + p)) c else nI 0) := rfl
theorem chp_s (f : fT) (e : Nat) : chp f (e + 1) = if f (275 + e) = 1 then chp f e else match chp f e with
    | none => some e
    | some b => if bsum f (nI e) (fA f) < bsum f (nI b) (fA f) then some e else some b := rfl
def wstV (f : fT) : Int32 := match wst f (fA f) with
  | none => -1
  | some b => nI (16 * (b / fW f) + b % fW f)
