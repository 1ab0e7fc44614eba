/-! a reader that goes on: what it saw, row by row -/
theorem ztk_up {L : List Nat} {i x : Nat} (h : L[i]? = some x) : L.take (i + 1) = L.take i ++ [x] := by
  rw [List.take_succ, h]
  rfl
theorem zsg_up {L : List Nat} {i x : Nat} (h : L[i]? = some x) (g : Nat → Nat) (j : Nat) : zsg g (L.take (i + 1)) j = zsg g (L.take i) j + if j = x then 1 else 0 := by
  unfold zsg
  rw [ztk_up h, List.count_append, List.count_singleton]
  by_cases e : j = x
  · rw [if_pos e, e]
    simp
    omega
  · rw [if_neg e, if_neg (by simp; exact fun q => e q.symm)]
    omega
theorem zsa_up {L : List Nat} {i x : Nat} (h : L[i]? = some x) (g : Nat → Nat) (now j : Nat) : zsa g (L.take (i + 1)) now j = if j = x then now else zsa g (L.take i) now j := by
  unfold zsa
  rw [ztk_up h]
  by_cases e : j = x
  · rw [if_pos e, if_pos (by rw [e]; simp)]
  · rw [if_neg e]
    by_cases q : j ∈ L.take i
    · rw [if_pos q, if_pos (List.mem_append.mpr (Or.inl q))]
    · rw [if_neg q, if_neg (fun z => (List.mem_append.mp z).elim q (fun z => e (List.mem_singleton.mp z)))]
theorem zid_seg {O : List zOe} {V : List zSe} {t : zRW} {f e : Nat} : zid O V t f e = zseg (zBB O V t) f e := rfl
abbrev zXw (r c k : Nat) : Prop := (c = 157 ∨ c = 158) ∧ 64 * r ≤ k ∧ k < 64 * r + 64
def mSw (S : zM) (r : Nat) (g a : Nat → Nat) : Prop := ∀ j, j < 64 → zgI S 157 (64 * r + j) = nI (g j) ∧ (0 < g j → zgI S 158 (64 * r + j) = nI (a j))
set_option maxRecDepth 20000 in
set_option maxHeartbeats 4000000 in
theorem j_saws {E : zE} {S : zM} {Q : Option zV → zM → Prop} {r u v : Nat} {bk : Bool} {L : List Nat} {g a : Nat → Nat} (hM : zMs S) (hr : r < 4) (hL : mFd S L) (hLi : ∀ x ∈ L, x < 64) (hL20 : L.length ≤ 20) (hv : zgI S 123 29 = nI v) (h0 : mSw S r g a) (cont : ∀ T, zK (zXw r) S T → mSw T r (zsg g L) (zsa a L v) → zJ E 5 0 0 mX12_goesReader cX12_goesReader 225 [some (zR 123), some (zI (nI r)), some (zI (zbi bk)), some (zI (nI u)), some (zI (nI L.length))] [] T Q) : zJ E 5 0 0 mX12_goesReader cX12_goesReader 168 [some (zR 123), some (zI (nI r)), some (zI (zbi bk)), some (zI (nI u)), some (zI (nI 0))] [] S Q := by
  have lp : ∀ (m i : Nat) (T : zM), i + m = L.length → zK (zXw r) S T → mSw T r (zsg g (L.take i)) (zsa a (L.take i) v) → zJ E 5 0 0 mX12_goesReader cX12_goesReader 168 [some (zR 123), some (zI (nI r)), some (zI (zbi bk)), some (zI (nI u)), some (zI (nI i))] [] T Q := by
    intro m
    induction m with
    | zero =>
      intro i T hi hk hs
      have mT := hk.ms hM
      have hFd := hL.k hk (by unfold zXw; omega) (fun i => by unfold zXw; omega)
      refine j_iload (pc := 168) dX12_goesReader_168 rfl ?_
      refine j_aload_n (pc := 170) dX12_goesReader_170 rfl ?_
      refine j_getIv (pc := 171) dX12_goesReader_171 f_X12_392 (Or.inl rfl) mT.1 (hFd.1) ?_
      refine j_icmp_ge (pc := 174) (tgt := 225) dX12_goesReader_174 (by decide) (fun h174 => ?_) (fun h174 => absurd (nI_le (show L.length ≤ i by omega) (by omega)) h174)
      have ei : i = L.length := by omega
      rw [ei] at hs ⊢
      rw [List.take_length] at hs
      exact cont T hk hs
    | succ m ih =>
      intro i T hi hk hs
      have mT := hk.ms hM
      have hFd := hL.k hk (by unfold zXw; omega) (fun i => by unfold zXw; omega)
      have hvT : zgI T 123 29 = nI v := (hk.2.2.2.1 _ _ (by unfold zXw; omega)).trans hv
      obtain ⟨x, hx⟩ : ∃ x, L[i]? = some x := ⟨_, gD 0 (show i < L.length by omega)⟩
      have hx64 := hLi x (List.mem_of_getElem? hx)
      refine j_iload (pc := 168) dX12_goesReader_168 rfl ?_
      refine j_aload_n (pc := 170) dX12_goesReader_170 rfl ?_
      refine j_getIv (pc := 171) dX12_goesReader_171 f_X12_392 (Or.inl rfl) mT.1 (hFd.1) ?_
      refine j_icmp_ge (pc := 174) (tgt := 225) dX12_goesReader_174 (by decide) (fun h174 => absurd h174 (nI_ge (by omega) (by omega))) (fun h174 => ?_)
      refine j_aload_n (pc := 177) dX12_goesReader_177 rfl ?_
      refine j_getPv (pc := 178) dX12_goesReader_178 f_X12_117 (Or.inr ⟨_, rfl⟩) mT.1 (mp_sawMany mT) ?_
      refine j_bipush (pc := 181) (v := 64) dX12_goesReader_181 (by decide) ?_
      refine j_iload_n (pc := 183) dX12_goesReader_183 rfl ?_
      refine j_imul (pc := 184) dX12_goesReader_184 ?_
      rw [show (64 : Int32) * nI r = nI (64 * r) from pk_mul 64 _]
      refine j_aload_n (pc := 185) dX12_goesReader_185 rfl ?_
      refine j_getPv (pc := 186) dX12_goesReader_186 f_X12_75 (Or.inr ⟨_, rfl⟩) mT.1 (mp_found mT) ?_
      refine j_iload (pc := 189) dX12_goesReader_189 rfl ?_
      refine j_ialdn (pc := 191) dX12_goesReader_191 (mk_found mT) (by omega) (Nat.le_of_ble_eq_true rfl) (hFd.2 i x hx) ?_
      refine j_iadd (pc := 192) dX12_goesReader_192 ?_
      rw [nI_add]
      refine j_dup2 (pc := 193) dX12_goesReader_193 rfl rfl ?_
      refine j_ialdn (pc := 194) dX12_goesReader_194 (mk_sawMany mT) (by omega) (Nat.le_of_ble_eq_true rfl) ((hs x hx64).1) ?_
      refine j_iconst (pc := 195) (v := 1) dX12_goesReader_195 (by decide) ?_
      refine j_iadd (pc := 196) dX12_goesReader_196 ?_
      rw [nI_1]
      refine j_iastn (pc := 197) dX12_goesReader_197 (mk_sawMany mT) (by omega) (Nat.le_of_ble_eq_true rfl) ?_
      refine j_aload_n (pc := 198) dX12_goesReader_198 rfl ?_
      refine j_getPv (pc := 199) dX12_goesReader_199 f_X12_120 (Or.inr ⟨_, rfl⟩) mT.1 (mp_sawAt mT) ?_
      refine j_bipush (pc := 202) (v := 64) dX12_goesReader_202 (by decide) ?_
      refine j_iload_n (pc := 204) dX12_goesReader_204 rfl ?_
      refine j_imul (pc := 205) dX12_goesReader_205 ?_
      rw [show (64 : Int32) * nI r = nI (64 * r) from pk_mul 64 _]
      refine j_aload_n (pc := 206) dX12_goesReader_206 rfl ?_
      refine j_getPv (pc := 207) dX12_goesReader_207 f_X12_75 (Or.inr ⟨_, rfl⟩) mT.1 (mp_found mT) ?_
      refine j_iload (pc := 210) dX12_goesReader_210 rfl ?_
      refine j_ialdn (pc := 212) dX12_goesReader_212 (mk_found mT) (by omega) (Nat.le_of_ble_eq_true rfl) (hFd.2 i x hx) ?_
      refine j_iadd (pc := 213) dX12_goesReader_213 ?_
      rw [nI_add]
      refine j_aload_n (pc := 214) dX12_goesReader_214 rfl ?_
      refine j_getIv (pc := 215) dX12_goesReader_215 f_X12_277 (Or.inl rfl) mT.1 (hvT) ?_
      refine j_iastn (pc := 218) dX12_goesReader_218 (mk_sawAt mT) (by omega) (Nat.le_of_ble_eq_true rfl) ?_
      refine j_iinc (pc := 219) (v := _ + 1) (ls' := [_, _, _, _, _]) dX12_goesReader_219 rfl rfl (by decide) rfl rfl ?_
      refine j_goto (pc := 222) (tgt := 168) dX12_goesReader_222 (by decide) ?_
      rw [nI_1]
      refine ih (i + 1) _ (by omega) ((hk.tr (zK.wI ⟨Or.inl rfl, by omega, by omega⟩)).tr (zK.wI ⟨Or.inr rfl, by omega, by omega⟩)) (fun j hj => ?_)
      rw [zsg_up hx, zsa_up hx, zgI_wI, if_neg (by omega), zgI_wI]
      by_cases e : j = x
      · rw [if_pos ⟨rfl, by omega⟩, if_pos e, if_pos e, zgI_wI, if_pos ⟨rfl, by omega⟩, e]
        exact ⟨rfl, fun _ => rfl⟩
      · rw [if_neg (by omega), if_neg e, if_neg e, zgI_wI, if_neg (by omega), zgI_wI, if_neg (by omega)]
        exact hs j hj
  exact lp L.length 0 S (by omega) zK.rf h0
