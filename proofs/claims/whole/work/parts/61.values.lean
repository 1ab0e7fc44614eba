/-! rules that name what is read: a value that is known, an index that is a number -/
section ZVALS
variable {E : zE} {lv mc ms : Nat} {M : zMI} {cc : ByteArray} {pc : Nat} {ls : List (Option zV)} {st : List zV} {S : zM} {Q : Option zV → zM → Prop}
theorem j_getIv {i t k a : Nat} {v : Int32} (hd : decode cc pc = .ok (.getfield i, 3)) (hf : zFL M.1 i t k) (hy : zty t k = .int ∨ zty t k = .boolean) (ha : zkd S a = (t + 1, 0)) (hv : zgI S a k = v) (kk : zJ E lv mc ms M cc (pc + 3) ls (zI v :: st) S Q) : zJ E lv mc ms M cc pc ls (zR a :: st) S Q := j_getI hd hf hy ha (hv ▸ kk)
theorem j_getLv {i t k a : Nat} {v : Int64} (hd : decode cc pc = .ok (.getfield i, 3)) (hf : zFL M.1 i t k) (hy : zty t k = .long) (ha : zkd S a = (t + 1, 0)) (hv : zgL S a k = v) (kk : zJ E lv mc ms M cc (pc + 3) ls (zL v :: st) S Q) : zJ E lv mc ms M cc pc ls (zR a :: st) S Q := j_getL hd hf hy ha (hv ▸ kk)
theorem j_getPv {i t k a b : Nat} (hd : decode cc pc = .ok (.getfield i, 3)) (hf : zFL M.1 i t k) (hy : (∃ n, zty t k = .object n) ∨ ∃ n, zty t k = .array n) (ha : zkd S a = (t + 1, 0)) (hv : zgP S a k = b) (kk : zJ E lv mc ms M cc (pc + 3) ls (zR b :: st) S Q) : zJ E lv mc ms M cc pc ls (zR a :: st) S Q := j_getP hd hf hy ha (hv ▸ kk)
theorem j_ialdn {a n i : Nat} {v : Int32} (hd : decode cc pc = .ok (.iaload, 1)) (ha : zkd S a = (14, n)) (hi : i < n) (hn : n ≤ 65536) (hv : zgI S a i = v) (kk : zJ E lv mc ms M cc (pc + 1) ls (zI v :: st) S Q) : zJ E lv mc ms M cc pc ls (zI (nI i) :: zR a :: st) S Q := j_iald hd ha (vp_in_nI hi (by omega)) (by rw [nI_clamp (by omega), hv]; exact kk)
theorem j_laldn {a n i : Nat} {v : Int64} (hd : decode cc pc = .ok (.laload, 1)) (ha : zkd S a = (15, n)) (hi : i < n) (hn : n ≤ 65536) (hv : zgL S a i = v) (kk : zJ E lv mc ms M cc (pc + 1) ls (zL v :: st) S Q) : zJ E lv mc ms M cc pc ls (zI (nI i) :: zR a :: st) S Q := j_lald hd ha (vp_in_nI hi (by omega)) (by rw [nI_clamp (by omega), hv]; exact kk)
theorem j_zaldn {a n i : Nat} {v : Int32} (hd : decode cc pc = .ok (.baload, 1)) (ha : zkd S a = (16, n)) (hi : i < n) (hn : n ≤ 65536) (hv : zgI S a i = v) (kk : zJ E lv mc ms M cc (pc + 1) ls (zI v :: st) S Q) : zJ E lv mc ms M cc pc ls (zI (nI i) :: zR a :: st) S Q := j_zald hd ha (vp_in_nI hi (by omega)) (by rw [nI_clamp (by omega), hv]; exact kk)
theorem j_aaldn {a n i j b : Nat} (hd : decode cc pc = .ok (.aaload, 1)) (ha : zkd S a = (14 + j, n)) (hj : j = 3 ∨ j = 4) (hi : i < n) (hn : n ≤ 65536) (hv : zgP S a i = b) (kk : zJ E lv mc ms M cc (pc + 1) ls (zR b :: st) S Q) : zJ E lv mc ms M cc pc ls (zI (nI i) :: zR a :: st) S Q := j_aald hd ha hj (vp_in_nI hi (by omega)) (by rw [nI_clamp (by omega), hv]; exact kk)
theorem j_iastn {a n i : Nat} {v : Int32} (hd : decode cc pc = .ok (.iastore, 1)) (ha : zkd S a = (14, n)) (hi : i < n) (hn : n ≤ 65536) (kk : zJ E lv mc ms M cc (pc + 1) ls st (zwI S a i v) Q) : zJ E lv mc ms M cc pc ls (zI v :: zI (nI i) :: zR a :: st) S Q := j_iast hd ha (vp_in_nI hi (by omega)) (by rw [nI_clamp (by omega)]; exact kk)
theorem j_lastn {a n i : Nat} {v : Int64} (hd : decode cc pc = .ok (.lastore, 1)) (ha : zkd S a = (15, n)) (hi : i < n) (hn : n ≤ 65536) (kk : zJ E lv mc ms M cc (pc + 1) ls st (zwL S a i v) Q) : zJ E lv mc ms M cc pc ls (zL v :: zI (nI i) :: zR a :: st) S Q := j_last hd ha (vp_in_nI hi (by omega)) (by rw [nI_clamp (by omega)]; exact kk)
theorem j_zastn {a n i : Nat} {v : Int32} (hd : decode cc pc = .ok (.bastore, 1)) (ha : zkd S a = (16, n)) (hi : i < n) (hn : n ≤ 65536) (hx : v = 0 ∨ v = 1) (kk : zJ E lv mc ms M cc (pc + 1) ls st (zwI S a i v) Q) : zJ E lv mc ms M cc pc ls (zI v :: zI (nI i) :: zR a :: st) S Q := j_zast hd ha (vp_in_nI hi (by omega)) hx (by rw [nI_clamp (by omega)]; exact kk)
/-- an int on the stack is told otherwise -/
theorem j_eqI {x y : Int32} (h : x = y) (kk : zJ E lv mc ms M cc pc ls (zI y :: st) S Q) : zJ E lv mc ms M cc pc ls (zI x :: st) S Q := h ▸ kk
theorem j_eqL {x y : Int64} (h : x = y) (kk : zJ E lv mc ms M cc pc ls (zL y :: st) S Q) : zJ E lv mc ms M cc pc ls (zL x :: st) S Q := h ▸ kk
theorem j_eqS {S' : zM} (h : S = S') (kk : zJ E lv mc ms M cc pc ls st S' Q) : zJ E lv mc ms M cc pc ls st S Q := h ▸ kk
end ZVALS
/-! THE MODEL: its object is cell 123, its arrays the cells behind it -/
def zMl : List (Nat × Nat × Nat × Nat) := [(4, 124, 14, 900), (7, 125, 16, 4), (9, 126, 14, 4), (10, 127, 16, 4), (11, 128, 16, 4), (14, 129, 15, 4), (15, 130, 16, 4), (17, 131, 14, 4), (18, 132, 16, 4), (19, 133, 16, 4), (21, 134, 15, 120), (32, 135, 16, 2624), (33, 136, 15, 10496), (34, 137, 14, 64), (35, 138, 14, 36), (37, 139, 14, 42), (40, 140, 14, 2), (41, 141, 14, 2), (42, 142, 15, 2), (43, 143, 14, 20), (45, 144, 14, 36), (48, 145, 14, 20), (49, 146, 15, 80), (50, 147, 14, 1800), (51, 148, 14, 2), (52, 149, 14, 2), (53, 150, 14, 900), (55, 151, 14, 4), (56, 152, 14, 4), (57, 153, 16, 4), (58, 154, 14, 4), (59, 155, 14, 4), (60, 156, 14, 144), (61, 157, 14, 256), (62, 158, 14, 256), (63, 159, 14, 4)]
def zMs (S : zM) : Prop := zkd S 123 = (13, 0) ∧ ∀ q ∈ zMl, zgP S 123 q.1 = q.2.1 ∧ zkd S q.2.1 = (q.2.2.1, q.2.2.2)
theorem mp_tape {S : zM} (h : zMs S) : zgP S 123 4 = 124 := (h.2 (4, 124, 14, 900) (by decide)).1
theorem mk_tape {S : zM} (h : zMs S) : zkd S 124 = (14, 900) := (h.2 (4, 124, 14, 900) (by decide)).2
theorem mp_isText {S : zM} (h : zMs S) : zgP S 123 7 = 125 := (h.2 (7, 125, 16, 4) (by decide)).1
theorem mk_isText {S : zM} (h : zMs S) : zkd S 125 = (16, 4) := (h.2 (7, 125, 16, 4) (by decide)).2
theorem mp_order {S : zM} (h : zMs S) : zgP S 123 9 = 126 := (h.2 (9, 126, 14, 4) (by decide)).1
theorem mk_order {S : zM} (h : zMs S) : zkd S 126 = (14, 4) := (h.2 (9, 126, 14, 4) (by decide)).2
theorem mp_isDown {S : zM} (h : zMs S) : zgP S 123 10 = 127 := (h.2 (10, 127, 16, 4) (by decide)).1
theorem mk_isDown {S : zM} (h : zMs S) : zkd S 127 = (16, 4) := (h.2 (10, 127, 16, 4) (by decide)).2
theorem mp_isFirst {S : zM} (h : zMs S) : zgP S 123 11 = 128 := (h.2 (11, 128, 16, 4) (by decide)).1
theorem mk_isFirst {S : zM} (h : zMs S) : zkd S 128 = (16, 4) := (h.2 (11, 128, 16, 4) (by decide)).2
theorem mp_readNames {S : zM} (h : zMs S) : zgP S 123 14 = 129 := (h.2 (14, 129, 15, 4) (by decide)).1
theorem mk_readNames {S : zM} (h : zMs S) : zkd S 129 = (15, 4) := (h.2 (14, 129, 15, 4) (by decide)).2
theorem mp_readText {S : zM} (h : zMs S) : zgP S 123 15 = 130 := (h.2 (15, 130, 16, 4) (by decide)).1
theorem mk_readText {S : zM} (h : zMs S) : zkd S 130 = (16, 4) := (h.2 (15, 130, 16, 4) (by decide)).2
theorem mp_newOrder {S : zM} (h : zMs S) : zgP S 123 17 = 131 := (h.2 (17, 131, 14, 4) (by decide)).1
theorem mk_newOrder {S : zM} (h : zMs S) : zkd S 131 = (14, 4) := (h.2 (17, 131, 14, 4) (by decide)).2
theorem mp_newDown {S : zM} (h : zMs S) : zgP S 123 18 = 132 := (h.2 (18, 132, 16, 4) (by decide)).1
theorem mk_newDown {S : zM} (h : zMs S) : zkd S 132 = (16, 4) := (h.2 (18, 132, 16, 4) (by decide)).2
theorem mp_newFirst {S : zM} (h : zMs S) : zgP S 123 19 = 133 := (h.2 (19, 133, 16, 4) (by decide)).1
theorem mk_newFirst {S : zM} (h : zMs S) : zkd S 133 = (16, 4) := (h.2 (19, 133, 16, 4) (by decide)).2
theorem mp_readValues {S : zM} (h : zMs S) : zgP S 123 21 = 134 := (h.2 (21, 134, 15, 120) (by decide)).1
theorem mk_readValues {S : zM} (h : zMs S) : zkd S 134 = (15, 120) := (h.2 (21, 134, 15, 120) (by decide)).2
theorem mp_isThere {S : zM} (h : zMs S) : zgP S 123 32 = 135 := (h.2 (32, 135, 16, 2624) (by decide)).1
theorem mk_isThere {S : zM} (h : zMs S) : zkd S 135 = (16, 2624) := (h.2 (32, 135, 16, 2624) (by decide)).2
theorem mp_values {S : zM} (h : zMs S) : zgP S 123 33 = 136 := (h.2 (33, 136, 15, 10496) (by decide)).1
theorem mk_values {S : zM} (h : zMs S) : zkd S 136 = (15, 10496) := (h.2 (33, 136, 15, 10496) (by decide)).2
theorem mp_changedAt {S : zM} (h : zMs S) : zgP S 123 34 = 137 := (h.2 (34, 137, 14, 64) (by decide)).1
theorem mk_changedAt {S : zM} (h : zMs S) : zkd S 137 = (14, 64) := (h.2 (34, 137, 14, 64) (by decide)).2
theorem mp_key {S : zM} (h : zMs S) : zgP S 123 35 = 138 := (h.2 (35, 138, 14, 36) (by decide)).1
theorem mk_key {S : zM} (h : zMs S) : zkd S 138 = (14, 36) := (h.2 (35, 138, 14, 36) (by decide)).2
theorem mp_mark {S : zM} (h : zMs S) : zgP S 123 37 = 139 := (h.2 (37, 139, 14, 42) (by decide)).1
theorem mk_mark {S : zM} (h : zMs S) : zkd S 139 = (14, 42) := (h.2 (37, 139, 14, 42) (by decide)).2
theorem mp_sieveColumn {S : zM} (h : zMs S) : zgP S 123 40 = 140 := (h.2 (40, 140, 14, 2) (by decide)).1
theorem mk_sieveColumn {S : zM} (h : zMs S) : zkd S 140 = (14, 2) := (h.2 (40, 140, 14, 2) (by decide)).2
theorem mp_sieveHow {S : zM} (h : zMs S) : zgP S 123 41 = 141 := (h.2 (41, 141, 14, 2) (by decide)).1
theorem mk_sieveHow {S : zM} (h : zMs S) : zkd S 141 = (14, 2) := (h.2 (41, 141, 14, 2) (by decide)).2
theorem mp_sieveValue {S : zM} (h : zMs S) : zgP S 123 42 = 142 := (h.2 (42, 142, 15, 2) (by decide)).1
theorem mk_sieveValue {S : zM} (h : zMs S) : zkd S 142 = (15, 2) := (h.2 (42, 142, 15, 2) (by decide)).2
theorem mp_found {S : zM} (h : zMs S) : zgP S 123 43 = 143 := (h.2 (43, 143, 14, 20) (by decide)).1
theorem mk_found {S : zM} (h : zMs S) : zkd S 143 = (14, 20) := (h.2 (43, 143, 14, 20) (by decide)).2
theorem mp_bestKey {S : zM} (h : zMs S) : zgP S 123 45 = 144 := (h.2 (45, 144, 14, 36) (by decide)).1
theorem mk_bestKey {S : zM} (h : zMs S) : zkd S 144 = (14, 36) := (h.2 (45, 144, 14, 36) (by decide)).2
theorem mp_pageIds {S : zM} (h : zMs S) : zgP S 123 48 = 145 := (h.2 (48, 145, 14, 20) (by decide)).1
theorem mk_pageIds {S : zM} (h : zMs S) : zkd S 145 = (14, 20) := (h.2 (48, 145, 14, 20) (by decide)).2
theorem mp_pageValues {S : zM} (h : zMs S) : zgP S 123 49 = 146 := (h.2 (49, 146, 15, 80) (by decide)).1
theorem mk_pageValues {S : zM} (h : zMs S) : zkd S 146 = (15, 80) := (h.2 (49, 146, 15, 80) (by decide)).2
theorem mp_tokens {S : zM} (h : zMs S) : zgP S 123 50 = 147 := (h.2 (50, 147, 14, 1800) (by decide)).1
theorem mk_tokens {S : zM} (h : zMs S) : zkd S 147 = (14, 1800) := (h.2 (50, 147, 14, 1800) (by decide)).2
theorem mp_tokenLong {S : zM} (h : zMs S) : zgP S 123 51 = 148 := (h.2 (51, 148, 14, 2) (by decide)).1
theorem mk_tokenLong {S : zM} (h : zMs S) : zkd S 148 = (14, 2) := (h.2 (51, 148, 14, 2) (by decide)).2
theorem mp_beyonds {S : zM} (h : zMs S) : zgP S 123 52 = 149 := (h.2 (52, 149, 14, 2) (by decide)).1
theorem mk_beyonds {S : zM} (h : zMs S) : zkd S 149 = (14, 2) := (h.2 (52, 149, 14, 2) (by decide)).2
theorem mp_asked {S : zM} (h : zMs S) : zgP S 123 53 = 150 := (h.2 (53, 150, 14, 900) (by decide)).1
theorem mk_asked {S : zM} (h : zMs S) : zkd S 150 = (14, 900) := (h.2 (53, 150, 14, 900) (by decide)).2
theorem mp_readerSize {S : zM} (h : zMs S) : zgP S 123 55 = 151 := (h.2 (55, 151, 14, 4) (by decide)).1
theorem mk_readerSize {S : zM} (h : zMs S) : zkd S 151 = (14, 4) := (h.2 (55, 151, 14, 4) (by decide)).2
theorem mp_readerView {S : zM} (h : zMs S) : zgP S 123 56 = 152 := (h.2 (56, 152, 14, 4) (by decide)).1
theorem mk_readerView {S : zM} (h : zMs S) : zkd S 152 = (14, 4) := (h.2 (56, 152, 14, 4) (by decide)).2
theorem mp_isEnded {S : zM} (h : zMs S) : zgP S 123 57 = 153 := (h.2 (57, 153, 16, 4) (by decide)).1
theorem mk_isEnded {S : zM} (h : zMs S) : zkd S 153 = (16, 4) := (h.2 (57, 153, 16, 4) (by decide)).2
theorem mp_readerPages {S : zM} (h : zMs S) : zgP S 123 58 = 154 := (h.2 (58, 154, 14, 4) (by decide)).1
theorem mk_readerPages {S : zM} (h : zMs S) : zkd S 154 = (14, 4) := (h.2 (58, 154, 14, 4) (by decide)).2
theorem mp_standLong {S : zM} (h : zMs S) : zgP S 123 59 = 155 := (h.2 (59, 155, 14, 4) (by decide)).1
theorem mk_standLong {S : zM} (h : zMs S) : zkd S 155 = (14, 4) := (h.2 (59, 155, 14, 4) (by decide)).2
theorem mp_stands {S : zM} (h : zMs S) : zgP S 123 60 = 156 := (h.2 (60, 156, 14, 144) (by decide)).1
theorem mk_stands {S : zM} (h : zMs S) : zkd S 156 = (14, 144) := (h.2 (60, 156, 14, 144) (by decide)).2
theorem mp_sawMany {S : zM} (h : zMs S) : zgP S 123 61 = 157 := (h.2 (61, 157, 14, 256) (by decide)).1
theorem mk_sawMany {S : zM} (h : zMs S) : zkd S 157 = (14, 256) := (h.2 (61, 157, 14, 256) (by decide)).2
theorem mp_sawAt {S : zM} (h : zMs S) : zgP S 123 62 = 158 := (h.2 (62, 158, 14, 256) (by decide)).1
theorem mk_sawAt {S : zM} (h : zMs S) : zkd S 158 = (14, 256) := (h.2 (62, 158, 14, 256) (by decide)).2
theorem mp_turns {S : zM} (h : zMs S) : zgP S 123 63 = 159 := (h.2 (63, 159, 14, 4) (by decide)).1
theorem mk_turns {S : zM} (h : zMs S) : zkd S 159 = (14, 4) := (h.2 (63, 159, 14, 4) (by decide)).2
/-- nothing is made, no reference is written, nothing but the places of X is written -/
def zK (X : Nat → Nat → Prop) (S T : zM) : Prop := zkd T = zkd S ∧ zgn T = zgn S ∧ zgP T = zgP S ∧ (∀ c k, ¬ X c k → zgI T c k = zgI S c k) ∧ ∀ c k, ¬ X c k → zgL T c k = zgL S c k
theorem zK.rf {X : Nat → Nat → Prop} {S : zM} : zK X S S := ⟨rfl, rfl, rfl, fun _ _ _ => rfl, fun _ _ _ => rfl⟩
theorem zK.tr {X : Nat → Nat → Prop} {S T U : zM} (h : zK X S T) (g : zK X T U) : zK X S U := ⟨g.1.trans h.1, g.2.1.trans h.2.1, g.2.2.1.trans h.2.2.1, fun c k hc => (g.2.2.2.1 c k hc).trans (h.2.2.2.1 c k hc), fun c k hc => (g.2.2.2.2 c k hc).trans (h.2.2.2.2 c k hc)⟩
theorem zK.mo {X Y : Nat → Nat → Prop} {S T : zM} (h : zK X S T) (g : ∀ c k, X c k → Y c k) : zK Y S T := ⟨h.1, h.2.1, h.2.2.1, fun c k hc => h.2.2.2.1 c k (fun q => hc (g c k q)), fun c k hc => h.2.2.2.2 c k (fun q => hc (g c k q))⟩
theorem zK.wI {X : Nat → Nat → Prop} {S : zM} {a k : Nat} {v : Int32} (h : X a k) : zK X S (zwI S a k v) := ⟨rfl, rfl, rfl, fun c j hc => by
  rw [zgI_wI]
  exact if_neg (fun (q : c = a ∧ j = k) => hc (by rw [q.1, q.2]; exact h)), fun _ _ _ => rfl⟩
theorem zK.wL {X : Nat → Nat → Prop} {S : zM} {a k : Nat} {v : Int64} (h : X a k) : zK X S (zwL S a k v) := ⟨rfl, rfl, rfl, fun _ _ _ => rfl, fun c j hc => by
  rw [zgL_wL]
  exact if_neg (fun (q : c = a ∧ j = k) => hc (by rw [q.1, q.2]; exact h))⟩
theorem zK.ms {X : Nat → Nat → Prop} {S T : zM} (h : zK X S T) (m : zMs S) : zMs T := by
  unfold zMs
  rw [h.1, h.2.2.1]
  exact m
theorem zK.f {X : Nat → Nat → Prop} {Y : Nat → Prop} {S T : zM} (h : zK X S T) (g : ∀ c k, X c k → Y c) : zF Y S T := ⟨h.1, h.2.1, h.2.2.1, fun c hc k => h.2.2.2.1 c k (fun q => hc (g c k q)), fun c hc k => h.2.2.2.2 c k (fun q => hc (g c k q))⟩
theorem zMs.wI {S : zM} {a k : Nat} {v : Int32} (m : zMs S) : zMs (zwI S a k v) := m
theorem zMs.wL {S : zM} {a k : Nat} {v : Int64} (m : zMs S) : zMs (zwL S a k v) := m
