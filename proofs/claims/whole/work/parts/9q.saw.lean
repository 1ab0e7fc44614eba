/-! what a reader saw keeps to what was changed -/
theorem mC.saw {S : zM} {t : zTB} {R : Nat → Option zRDR} {j : Nat} {x y : zRDR} {L : List Nat} (h : mC S t R) (hj : j < 4) (hx : R j = some x) (hL : ∀ i ∈ L, i < tG t) (hs : y.2.2.2.2.2.1 = zsg x.2.2.2.2.2.1 L) (ha : y.2.2.2.2.2.2.1 = zsa x.2.2.2.2.2.2.1 L (tv t)) : mC S t (va_up R j (some y)) := by
  obtain ⟨⟨ca, hca⟩, hz1, hz2⟩ := h
  refine ⟨⟨ca, fun i hi => ⟨(hca i hi).1, (hca i hi).2.1, ?_⟩⟩, hz1, fun r x' hr hx' i hi => ?_⟩
  · rcases (hca i hi).2.2 with q | ⟨q1, q2, q3⟩
    · exact Or.inl q
    · refine Or.inr ⟨q1, fun r x' hr hx' hp => ?_, q3⟩
      by_cases e : r = j
      · rw [e, va_up, if_pos rfl] at hx'
        cases hx'
        rw [ha, zsa]
        by_cases m : i ∈ L
        · rw [if_pos m]
          exact (hca i hi).2.1
        · rw [if_neg m]
          rw [hs, zsg, List.count_eq_zero.mpr m] at hp
          exact q2 j x hj hx hp
      · rw [va_up, if_neg e] at hx'
        exact q2 r x' hr hx' hp
  · by_cases e : r = j
    · rw [e, va_up, if_pos rfl] at hx'
      cases hx'
      rw [hs, zsg, hz2 j x hj hx i hi, List.count_eq_zero.mpr (fun m => absurd (hL i m) (by omega))]
    · rw [va_up, if_neg e] at hx'
      exact hz2 r x' hr hx' i hi
