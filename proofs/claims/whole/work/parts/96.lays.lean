/-! the parts of a key, byte by byte -/
theorem xor255 : ∀ b, b < 256 → b ^^^ 255 = 255 - b := by decide +kernel
theorem zb8_x {n : Nat} (h : n < 2 ^ 31) (dn : Bool) : zb8 (nI n ^^^ (if dn then 255 else 0)) = if dn then 255 - n % 256 else n % 256 := by
  cases dn
  · rw [if_neg (by decide), if_neg (by decide), show (0 : Int32) = nI 0 from rfl, fb_xorI, Nat.xor_zero, zb8_n h]
  · rw [if_pos rfl, if_pos rfl, show (255 : Int32) = nI 255 from rfl, fb_xorI, zb8_n (Nat.xor_lt_two_pow (n := 31) h (by decide)), show (256 : Nat) = 2 ^ 8 from rfl, Nat.xor_mod_two_pow]
    exact xor255 _ (Nat.mod_lt _ (by decide))
theorem zch_n {v : Int64} (h : zch false v = true) (hm : ¬ v = zMiss) : ∃ N, 22769 ≤ N ∧ N ≤ 42767 ∧ v.toInt32 + 32768 = nI N := by
  rw [zch, if_neg hm, if_neg (by decide)] at h
  have h2 := of_decide_eq_true h
  have h3 := (fa_le64 _ _).mp h2.1
  have h4 := (fa_le64 _ _).mp h2.2
  have e1 : (-9999 : Int64).toInt = -9999 := by decide
  have e2 : (9999 : Int64).toInt = 9999 := by decide
  have e3 : v.toInt32.toInt = v.toInt := by
    rw [Int64.toInt_toInt32]
    exact fb_bmod (by omega) (by omega)
  have e4 : (32768 : Int32).toInt = 32768 := by decide
  have e5 : (v.toInt32 + 32768).toInt = v.toInt + 32768 := by rw [fb_addI (by omega) (by omega), e3, e4]
  refine ⟨(v.toInt + 32768).toNat, by omega, by omega, ?_⟩
  rw [fa_eq, e5, nI_toInt (by omega)]
  omega
theorem zpt_n {v : Int64} {dn fs : Bool} {N : Nat} (hm : ¬ v = zMiss) (h1 : N < 65536) (e : v.toInt32 + 32768 = nI N) : zpt false dn fs v = [1, if dn then 255 - N / 256 else N / 256, if dn then 255 - N % 256 else N % 256] := by
  rw [zpt, if_neg hm, if_neg (by decide), e, show nI N >>> (8 &&& 31) = nI (N / 256) from pk_shrN (by omega) _ 8 (by decide), zb8_x (by omega), zb8_x (by omega), Nat.mod_eq_of_lt (show N / 256 < 256 by omega)]
theorem zwl_at {a : Nat} (ha : a < 2 ^ 48) : ∀ (n i : Nat), i + n = 6 → zwl (lN a) i n = true → (∀ j, i ≤ j → j < 6 → a / 2 ^ (8 * i) = 0 ∨ a / 2 ^ (8 * j) = 0 ∨ (97 ≤ a / 2 ^ (8 * j) % 256 ∧ a / 2 ^ (8 * j) % 256 ≤ 122))
  | 0, i, hi, _ => fun j h1 h2 => by omega
  | n + 1, i, hi, h => fun j h1 h2 => by
    rw [zwl] at h
    rw [zsh_lN (by omega) (by omega)] at h
    have hle : a / 2 ^ (8 * i) < 2 ^ 62 := Nat.lt_of_le_of_lt (Nat.div_le_self _ _) (by omega)
    by_cases h0 : a / 2 ^ (8 * i) = 0
    · exact Or.inl h0
    · rw [if_neg (fun q => h0 ((lN_0 (by omega)).mp q))] at h
      rw [zlow8 hle] at h
      by_cases hb : lN (a / 2 ^ (8 * i) % 256) < 97 ∨ 122 < lN (a / 2 ^ (8 * i) % 256)
      · rw [if_pos hb] at h
        cases h
      · rw [if_neg hb] at h
        have g1 : 97 ≤ a / 2 ^ (8 * i) % 256 := Nat.le_of_not_lt (fun q => hb (Or.inl ((pk_lLT (b := 97) (by omega) (by decide)).mpr q)))
        have g2 : a / 2 ^ (8 * i) % 256 ≤ 122 := Nat.le_of_not_lt (fun q => hb (Or.inr ((pk_lLT (a := 122) (by decide) (by omega)).mpr q)))
        by_cases e : j = i
        · subst e
          exact Or.inr (Or.inr ⟨g1, g2⟩)
        · rcases zwl_at ha n (i + 1) (by omega) h j (by omega) h2 with q | q
          · right
            left
            have : a / 2 ^ (8 * j) ≤ a / 2 ^ (8 * (i + 1)) := Nat.div_le_div_left (Nat.pow_le_pow_right (by decide) (by omega)) (Nat.two_pow_pos _)
            rw [q] at this
            exact Nat.le_zero.mp this
          · exact Or.inr q
theorem zow_at {a : Nat} (ha : a < 2 ^ 48) (h : zow (lN a) = true) {j : Nat} (hj : j < 6) : a / 2 ^ (8 * j) = 0 ∨ (97 ≤ a / 2 ^ (8 * j) % 256 ∧ a / 2 ^ (8 * j) % 256 ≤ 122) := by
  rw [zow, Bool.and_eq_true] at h
  rcases zwl_at ha 6 0 rfl h.2 j (Nat.zero_le _) hj with q | q
  · left
    rw [Nat.mul_zero, Nat.pow_zero, Nat.div_one] at q
    rw [q, Nat.zero_div]
  · exact q
/-- the letters of a word from the k-th on down -/
def zlts (dn : Bool) (a : Nat) : Nat → List Nat
  | 0 => []
  | k + 1 => (if a / 2 ^ (8 * k) = 0 then [] else [if dn then 255 - a / 2 ^ (8 * k) % 256 else a / 2 ^ (8 * k) % 256]) ++ zlts dn a k
theorem lN_i32 {a : Nat} : (lN a).toInt32 = nI a := lN_i a
theorem zwd_lts {a : Nat} (ha : a < 2 ^ 48) (dn : Bool) : ∀ k, k ≤ 6 → zwd (if dn then 255 else 0) (lN a) k = zlts dn a k
  | 0, _ => rfl
  | k + 1, hk => by
    rw [zwd, zlts, zwd_lts ha dn k (by omega)]
    have hle : a / 2 ^ (8 * k) < 2 ^ 62 := Nat.lt_of_le_of_lt (Nat.div_le_self _ _) (by omega)
    rw [zshr (a := a) (k := 8 * k) (by omega) (by omega)]
    by_cases h0 : a / 2 ^ (8 * k) = 0
    · rw [if_pos ((lN_0 (by omega)).mpr h0), if_pos h0]
    · rw [if_neg (fun q => h0 ((lN_0 (by omega)).mp q)), if_neg h0, lN_i32]
      congr 2
      have e : nI (a / 2 ^ (8 * k)) ^^^ (if dn then 255 else 0) = nI (a / 2 ^ (8 * k)) ^^^ nI (if dn then 255 else 0) := by cases dn <;> rfl
      rw [e, fb_xorI]
      show (nI (a / 2 ^ (8 * k) ^^^ (if dn then 255 else 0))).toBitVec.toNat % 256 = _
      have e2 : ∀ n : Nat, (nI n).toBitVec.toNat % 256 = n % 256 := fun n => by
        show (BitVec.ofNat 32 n).toNat % 256 = n % 256
        rw [BitVec.toNat_ofNat, Nat.mod_mod_of_dvd _ (by decide)]
      rw [e2, show (256 : Nat) = 2 ^ 8 from rfl, Nat.xor_mod_two_pow]
      cases dn
      · show a / 2 ^ (8 * k) % 2 ^ 8 ^^^ 0 % 2 ^ 8 = a / 2 ^ (8 * k) % 2 ^ 8
        rw [Nat.zero_mod, Nat.xor_zero]
      · exact xor255 _ (Nat.mod_lt _ (by decide))
theorem zpt_w {a : Nat} {dn fs : Bool} (hm : ¬ lN a = zMiss) (ha : a < 2 ^ 48) : zpt true dn fs (lN a) = 1 :: (zlts dn a 6 ++ [if dn then 255 else 0]) := by
  rw [zpt, if_neg hm, if_pos rfl, zwd_lts ha dn 6 (Nat.le_refl _)]
  congr 2
  cases dn <;> rfl
theorem zlts_len (dn : Bool) (a : Nat) : ∀ k, (zlts dn a k).length ≤ k
  | 0 => Nat.le_refl _
  | k + 1 => by
    rw [zlts, List.length_append]
    have := zlts_len dn a k
    split <;> simp <;> omega
