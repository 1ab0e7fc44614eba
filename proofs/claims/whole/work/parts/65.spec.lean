/-! WHAT EACH CALL ANSWERS, and the state behind it -/
abbrev zrf (s : zST) (n : Nat) : Int32 × zST := (-1, zno s n)
abbrev zan (s : zST) (x : Int32) : Int32 × zST := (x, zno s 0)
abbrev zrfL (s : zST) (n : Nat) : Int64 × zST := (zMiss, zno s n)
abbrev zanL (s : zST) (x : Int64) : Int64 × zST := (x, zno s 0)
abbrev zrd (s : zST) (y : Int32) : Int32 × zST := (y, zno s (if y = -1 then 1 else 0))
abbrev zn (x : Int32) : Nat := x.toNatClampNeg
def z4 (x : Int32) : List Nat := [zb8 (x >>> (16 &&& 31) >>> (8 &&& 31)), zb8 (x >>> (16 &&& 31)), zb8 (x >>> (8 &&& 31)), zb8 x]
def q_feed (s : zST) (a b c d e : Int32) : Int32 × zST := if 880 < (sF s).length then (-1, s) else (nI ((sF s).length + 20), (sF s ++ z4 a ++ z4 b ++ z4 c ++ z4 d ++ z4 e, s.2))
def zrt (X : List Nat) : Except (Nat × Nat) zPi := zrA X 900 (zadv X 0, [], [], [], 0, fun _ _ => 0)
def q_table (s : zST) (x : Int32) : Int32 × zST := if zoT (sF s).length x = false then zrf s 2 else match zrt ((sF s).take (zn x)) with
  | .error e => (-1, ([], (4, e.1, nI e.2), s.2.2))
  | .ok w => (nI w.2.2.2.2.1, ([], (0, 0, sPl s), some (w.2.2.1, w.2.2.2.1, [], (fun _ => (fun i => decide (i < w.2.2.2.2.1), w.2.2.2.2.2)), w.2.2.2.2.1, 0, 0, fun _ => 0), none, fun _ => none))
def q_fault (s : zST) : Int32 × zST := (nI (sFl s), s)
def q_where (s : zST) : Int32 × zST := (if sTr s = 4 then sPl s else -1, s)
def q_about (s : zST) (x : Int32) : Int32 × zST := match sT s with
  | none => zrf s 1
  | some t => if x = 0 then zan s (nI (tK t).length) else if x = 1 then zan s (nI (tO t).length) else if x = 2 then zan s (nI (fb_ct (tW t).1 64)) else if x = 3 then zan s (nI (tG t)) else if x = 4 then zan s (nI (tv t)) else if x = 5 then zan s (nI (tn t % 256)) else if x = 6 then zan s (nI (tv t - 40)) else zrf s 1
def q_kind (s : zST) (x : Int32) : Int32 × zST := match sT s with
  | none => zrf s 1
  | some t => if zcl2 (tK t).length x = true then zan s (zbi ((tK t).getD (zn x) false)) else zrf s 1
def zoe (e : zOe) (w : Int32) : Int32 := if w = 0 then nI e.1 else if w = 1 then zbi e.2.2.1 else zbi e.2.2.2
def q_orderAt (s : zST) (i w : Int32) : Int32 × zST := match sT s with
  | none => zrf s 1
  | some t => if zcl2 (tO t).length i = true ∧ zcl2 3 w = true then zan s (zoe ((tO t).getD (zn i) (0, false, false, false)) w) else zrf s 1
def q_value (s : zST) (x c : Int32) : Int64 × zST := match sT s with
  | none => zrfL s 1
  | some t => if zth (tW t).1 x = true ∧ zcl2 (tK t).length c = true then zanL s ((tW t).2 (zn x) (zn c)) else zrfL s 1
def q_was (s : zST) (v x c : Int32) : Int64 × zST := match sT s with
  | none => zrfL s 1
  | some t => if zcv (tv t) v = false then zrfL s 8 else if zcl2 (tK t).length c = true ∧ zth (tH t (zn v)).1 x = true then zanL s ((tH t (zn v)).2 (zn x) (zn c)) else zrfL s 1
abbrev tkf (t : zTB) : Nat → List Nat := zkf (tO t) (tW t)
abbrev tA (t : zTB) : List Nat := zsr (tkf t) (tW t).1 64
def q_keySize (s : zST) (x : Int32) : Int32 × zST := match sT s with
  | none => zrf s 1
  | some t => if zth (tW t).1 x = true then zan s (nI (tkf t (zn x)).length) else zrf s 1
def q_keyByte (s : zST) (x i : Int32) : Int32 × zST := match sT s with
  | none => zrf s 1
  | some t => if zth (tW t).1 x = true then zrd s (zget (tkf t (zn x)) i) else zrf s 1
def q_rank (s : zST) (x : Int32) : Int32 × zST := match sT s with
  | none => zrf s 1
  | some t => if zth (tW t).1 x = true then zan s (zpo (tA t) (zn x)) else zrf s 1
def q_ranked (s : zST) (k : Int32) : Int32 × zST := match sT s with
  | none => zrf s 1
  | some t => if zcl2 (fb_ct (tW t).1 64) k = true then zan s (nI ((tA t).getD (zn k) 0)) else zrf s 1
def zdf (O : List zOe) (f g : Nat → Int64) : Int32 := match O.findIdx? (fun e => decide (f e.1 ≠ g e.1)) with
  | some i => nI i
  | none => -2
def q_differ (s : zST) (x y : Int32) : Int32 × zST := match sT s with
  | none => zrf s 1
  | some t => if zth (tW t).1 x = true ∧ zth (tW t).1 y = true ∧ x ≠ y then zan s (zdf (tO t) ((tW t).2 (zn x)) ((tW t).2 (zn y))) else zrf s 1
/-- the page of a stretch of a version -/
def zpage (t : zTB) (v f e z st : Nat) : zPGE := (zid (tO t) (tV t) (tH t v) f e, fun i j => (tH t v).2 ((zid (tO t) (tV t) (tH t v) f e).getD i 0) j,
  (if f < e then ztok (tn t) z st (zkf (tO t) (tH t v) ((zBB (tO t) (tV t) (tH t v)).getD f 0)) else []),
  (if f < e then ztok (tn t) z st (zkf (tO t) (tH t v) ((zBB (tO t) (tV t) (tH t v)).getD (e - 1) 0)) else []),
  (if f < e then f else 0), (if f < e then (zBB (tO t) (tV t) (tH t v)).length - e else 0))
def zshow (s : zST) (q : zPGE) : Int32 × zST := (nI q.1.length, (sF s, (0, s.2.1.2), sT s, some q, sR s))
def q_page (s : zST) (z : Int32) (st : Bool) : Int32 × zST := match sT s with
  | none => zrf s 1
  | some t => if zsz z = true then zshow s (zpage t (tv t) 0 (min (zn z) (zBB (tO t) (tV t) (tW t)).length) (zn z) (if st then tv t + 1 else 0)) else zrf s 2
def zlf (O : List zOe) (V : List zSe) (t : zRW) (G : List Nat) : Nat := ((zBB O V t).takeWhile (fun x => zkl (zkf O t x) G)).length
def zlg (O : List zOe) (V : List zSe) (t : zRW) (G : List Nat) : Nat := ((zBB O V t).takeWhile (fun x => !zkl G (zkf O t x))).length
def zek (t : zTB) (v : Int64) : List Nat := match tO t with
  | [] => []
  | e :: _ => zpt e.2.1 e.2.2.1 e.2.2.2 v
def zch0 (t : zTB) (v : Int64) : Bool := match tO t with
  | [] => false
  | e :: _ => zch e.2.1 v
def q_seek (s : zST) (z : Int32) (v : Int64) : Int32 × zST := match sT s with
  | none => zrf s 1
  | some t => if zsz z = true ∧ zch0 t v = true then zshow s (zpage t (tv t) (zlf (tO t) (tV t) (tW t) (zek t v)) (min (zlf (tO t) (tV t) (tW t) (zek t v) + zn z) (zBB (tO t) (tV t) (tW t)).length) (zn z) 0) else zrf s 2
/-- what is wrong with a token -/
def zwt (t : zTB) (F : List Nat) (n : Nat) : Nat := if n < 8 ∨ F.getD 0 0 ≠ 84 ∨ F.getD (n - 1) 0 ≠ zchk (F.take (n - 1)) ∨ F.getD 2 0 < 1 ∨ 20 < F.getD 2 0 then 6 else if F.getD 1 0 ≠ tn t % 256 then 7 else if F.getD 3 0 * 256 + F.getD 4 0 ≠ 0 ∧ zcv (tv t) (nI (F.getD 3 0 * 256 + F.getD 4 0 - 1)) = false then 8 else 0
abbrev zst (F : List Nat) : Nat := F.getD 3 0 * 256 + F.getD 4 0
abbrev zvr (t : zTB) (F : List Nat) : Nat := if zst F = 0 then tv t else zst F - 1
abbrev zgk (F : List Nat) (n : Nat) : List Nat := (F.drop 5).take (n - 6)
def zkeep (t : zTB) (F : List Nat) (n : Nat) (q : zPGE) : zPGE := if q.1.length = 0 then (q.1, q.2.1, F.take n, F.take n, zlf (tO t) (tV t) (tH t (zvr t F)) (zgk F n), (zBB (tO t) (tV t) (tH t (zvr t F))).length - zlg (tO t) (tV t) (tH t (zvr t F)) (zgk F n)) else q
def q_tok (s : zST) (x : Int32) (on : Bool) : Int32 × zST := match sT s with
  | none => zrf s 1
  | some t => if zoT (sF s).length x = false then zrf s 2 else if zwt t (sF s) (zn x) ≠ 0 then (-1, ([], (zwt t (sF s) (zn x), s.2.1.2), s.2.2)) else
    zshow ([], s.2) (zkeep t (sF s) (zn x) (zpage t (zvr t (sF s)) (zbf (tO t) (tV t) (tH t (zvr t (sF s))) (zgk (sF s) (zn x)) ((sF s).getD 2 0) on) (zbe (tO t) (tV t) (tH t (zvr t (sF s))) (zgk (sF s) (zn x)) ((sF s).getD 2 0) on) ((sF s).getD 2 0) (zst (sF s))))
def q_at (s : zST) (i : Int32) : Int32 × zST := match sP s with
  | none => zrf s 1
  | some q => if zin2 q.1.length i = true then zan s (nI (q.1.getD (zn i) 0)) else zrf s 1
def q_cell (s : zST) (i c : Int32) : Int64 × zST := match sP s with
  | none => zrfL s 1
  | some q => if zin2 q.1.length i = true ∧ zcol s c = true then zanL s (q.2.1 (zn i) (zn c)) else zrfL s 1
abbrev zto (q : zPGE) (w : Int32) : List Nat := if w = 0 then q.2.2.1 else q.2.2.2.1
def q_tokenSize (s : zST) (w : Int32) : Int32 × zST := match sP s with
  | none => zrf s 1
  | some q => if zcl2 2 w = true then zan s (nI (zto q w).length) else zrf s 1
def q_tokenByte (s : zST) (w i : Int32) : Int32 × zST := match sP s with
  | none => zrf s 1
  | some q => if zcl2 2 w = true then zrd s (zget (zto q w) i) else zrf s 1
def q_beyond (s : zST) (w : Int32) : Int32 × zST := match sP s with
  | none => zrf s 1
  | some q => if zcl2 2 w = true then zan s (if w = 0 then nI q.2.2.2.2.1 else nI q.2.2.2.2.2) else zrf s 1
def q_checks (s : zST) (x : Int32) : Int32 × zST := match sT s with
  | none => zrf s 1
  | some t => if zoT (sF s).length x = false then zrf s 2 else zan s (nI (zwt t (sF s) (zn x)))
def q_begin (s : zST) (r z : Int32) (st : Bool) : Int32 × zST := match sT s with
  | none => (0, zno s 1)
  | some t => if zcl2 4 r = false then (0, zno s 1) else if zsz z = false then (0, zno s 2) else (1, (sF s, (0, s.2.1.2), sT s, sP s, va_up (sR s) (zn r) (some (st, false, zn z, tv t, 0, fun _ => 0, fun _ => 0, []))))
abbrev zrv2 (t : zTB) (x : zRDR) : Nat := if x.1 then x.2.2.2.1 else tv t
def zstep (t : zTB) (x : zRDR) (on : Bool) : Nat × zRDR :=
  let B := zBB (tO t) (tV t) (tH t (zrv2 t x))
  let f := zbf (tO t) (tV t) (tH t (zrv2 t x)) x.2.2.2.2.2.2.2 x.2.2.1 on
  let e := zbe (tO t) (tV t) (tH t (zrv2 t x)) x.2.2.2.2.2.2.2 x.2.2.1 on
  (e - f, x.1, zRe f e on x.2.1, x.2.2.1, x.2.2.2.1, x.2.2.2.2.1 + 1, zsg x.2.2.2.2.2.1 (zseg B f e), zsa x.2.2.2.2.2.2.1 (zseg B f e) (tv t), zRk (tO t) (tH t (zrv2 t x)) B f e on x.2.2.2.2.2.2.2)
def q_step (s : zST) (r : Int32) (on : Bool) : Int32 × zST := match sT s with
  | none => zrf s 1
  | some t => if zcl2 4 r = false then zrf s 1 else match sR s (zn r) with
    | none => zrf s 1
    | some x => if zcv (tv t) (nI (zrv2 t x)) = false then zrf s 8 else (nI (zstep t x on).1, (sF s, (0, s.2.1.2), sT s, sP s, va_up (sR s) (zn r) (some (zstep t x on).2)))
def zacc (t : zTB) (x : zRDR) (w : Int32) (n : Nat) : Nat := fb_ct (fun id => zct w ((tW t).1 id) (zps (tV t) ((tW t).2 id)) (x.2.2.2.2.2.1 id) (x.2.2.2.2.2.2.1 id) (tc t id)) n
def q_account (s : zST) (r w : Int32) : Int32 × zST := match sT s with
  | none => zrf s 1
  | some t => if zcl2 4 r = false then zrf s 1 else match sR s (zn r) with
    | none => zrf s 1
    | some x => if zcl2 7 w = false then zrf s 1 else zan s (if w = 5 then zbi x.2.1 else if w = 6 then nI x.2.2.2.2.1 else nI (zacc t x w (tG t)))
def q_seen (s : zST) (r i : Int32) : Int32 × zST := match sT s with
  | none => zrf s 1
  | some t => if zcl2 4 r = false then zrf s 1 else match sR s (zn r) with
    | none => zrf s 1
    | some x => if zcl2 (tG t) i = true then zan s (nI (x.2.2.2.2.2.1 (zn i))) else zrf s 1
/-- a version more -/
def zact (t : zTB) (W : zRW) (g : Nat) (c : Nat → Nat) : zTB := (tK t, tO t, tV t, (fun u => if u = tv t + 1 then W else tH t u), g, tv t + 1, tn t, c)
/-- a row more: what it has is written in all that was, where it isn't there -/
def zfil (t : zTB) (f : Nat → Int64) (vl : Nat → Nat → Int64) : Nat → Nat → Int64 := fun i k => if i = tG t ∧ k < (tK t).length then f k else vl i k
def zgrow (t : zTB) (f : Nat → Int64) : zTB := (tK t, tO t, tV t, (fun u => if u = tv t + 1 then (va_up (tW t).1 (tG t) true, zfil t f (tW t).2) else ((tH t u).1, zfil t f (tH t u).2)), tG t + 1, tv t + 1, tn t, tc t)
def zin4 (a b c d : Int64) (k : Nat) : Int64 := if k = 0 then a else if k = 1 then b else if k = 2 then c else d
def zoff (K : List Bool) (f : Nat → Int64) : Bool := (List.range K.length).all (fun c => zch (K.getD c false) (f c))
def q_insert (s : zST) (a b c d : Int64) : Int32 × zST := match sT s with
  | none => zrf s 1
  | some t => if zoff (tK t) (zin4 a b c d) = false then zrf s 2 else if 40 ≤ fb_ct (tW t).1 64 ∨ 64 ≤ tG t then zrf s 3 else
    (nI (tG t), (sF s, (0, s.2.1.2), some (zgrow t (zin4 a b c d)), sP s, sR s))
def q_remove (s : zST) (x : Int32) : Int32 × zST := match sT s with
  | none => zrf s 1
  | some t => if zth (tW t).1 x = true then (nI (fb_ct (va_up (tW t).1 (zn x) false) 64), (sF s, (0, s.2.1.2), some (zact t (va_up (tW t).1 (zn x) false, (tW t).2) (tG t) (tc t)), sP s, sR s)) else zrf s 1
abbrev zchg (t : zTB) (x c : Nat) (v : Int64) : zTB := zact t ((tW t).1, zu2 (tW t).2 x c v) (tG t) (va_up (tc t) x (tv t + 1))
def q_change (s : zST) (x c : Int32) (v : Int64) : Int32 × zST := match sT s with
  | none => zrf s 1
  | some t => if zth (tW t).1 x = true ∧ zcl2 (tK t).length c = true then (if zch ((tK t).getD (zn c) false) v = true then (zpo (tA (zchg t (zn x) (zn c) v)) (zn x), (sF s, (0, s.2.1.2), some (zchg t (zn x) (zn c) v), sP s, sR s)) else zrf s 2) else zrf s 1
def ztO (K : List Bool) (cs : List Int32) : List zOe := cs.map (fun c => (zn ((c >>> ((2 : Int32) &&& 31)) : Int32), K.getD (zn ((c >>> ((2 : Int32) &&& 31)) : Int32)) false, decide (¬ c &&& 2 = 0), decide (¬ c &&& 1 = 0)))
def zturn (s : zST) (t : zTB) (O : List zOe) (V : List zSe) : zST := (sF s, (0, s.2.1.2), some (tK t, O, V, tH t, tG t, tv t, tn t + 1, tc t), sP s, fun _ => none)
def q_turn (s : zST) (a b c d : Int32) : Int32 × zST := match sT s with
  | none => zrf s 1
  | some t => if zlo (tK t).length [a, b, c, d] 0 0 0 = 0 then zrf s 2 else (zlo (tK t).length [a, b, c, d] 0 0 0, zturn s t (ztO (tK t) ([a, b, c, d].take (zn (zlo (tK t).length [a, b, c, d] 0 0 0)))) (tV t))
def q_sieve (s : zST) (c h : Int32) (v : Int64) : Int32 × zST := match sT s with
  | none => zrf s 1
  | some t => if zcl2 (tK t).length c = false then zrf s 1 else if zcl2 5 h = false ∨ (h < 3 ∧ (v = zMiss ∨ zch ((tK t).getD (zn c) false) v = false)) then zrf s 2 else if 2 ≤ (tV t).length then zrf s 3 else (nI ((tV t).length + 1), zturn s t (tO t) (tV t ++ [(zn c, (tK t).getD (zn c) false, zn h, v)]))
def q_clear (s : zST) : Int32 × zST := match sT s with
  | none => zrf s 1
  | some t => (nI (tV t).length, zturn s t (tO t) [])
def q_passes (s : zST) (x : Int32) : Int32 × zST := match sT s with
  | none => zrf s 1
  | some t => if zth (tW t).1 x = true then zan s (zbi (zps (tV t) ((tW t).2 (zn x)))) else zrf s 1
def q_condition (s : zST) (i w : Int32) : Int32 × zST := match sT s with
  | none => zrf s 1
  | some t => if zcl2 (tV t).length i = true ∧ zcl2 2 w = true then zan s (if w = 0 then nI ((tV t).getD (zn i) (0, false, 0, 0)).1 else nI ((tV t).getD (zn i) (0, false, 0, 0)).2.2.1) else zrf s 1
/-- the rows that lack a value, below n -/
def zlks (t : zTB) (n : Nat) : List Nat := (List.range n).filter (fun id => (tW t).1 id && zlk (tK t).length ((tW t).2 id))
def q_lacking (s : zST) (i : Int32) : Option Int32 := match sT s with
  | none => none
  | some t => if i < 0 then none else ((zlks t 64)[zn i]?).map nI
def q_size (s : zST) (w : Int32) : Int32 × zST := (if w = 0 then nI (sF s).length else if w = 1 then (match sP s with | none => 0 | some q => nI q.1.length) else if w = 2 then (match sT s with | none => 0 | some t => nI (tv t - (tv t - 40))) else if w = 3 then nI (zcR (sR s) 4) else -1, s)
def q_trouble (s : zST) : Int32 × zST := (nI (sTr s), s)
/-! ends -/
theorem zQF.w1 {S : zM} {k : Nat} {v : Int32} : zQF S (zwI S 1 k v) := (zF.wI (X := zOM) (Or.inl (by decide))).nf
theorem q_ref {S T : zM} {s : zST} {n : Nat} {q : Int32 × zST} (h : zCI T s) (f : zQF S T) (e : q = zrf s n) : some (zI (-1)) = some (zI q.1) ∧ zCI (zwI T 1 6 (nI n)) q.2 ∧ zQF S (zwI T 1 6 (nI n)) := by
  subst e
  exact ⟨rfl, h.no n, f.tr zQF.w1⟩
theorem q_ans {S T : zM} {s : zST} {x : Int32} {q : Int32 × zST} (h : zCI T s) (f : zQF S T) (e : q = zan s x) : some (zI x) = some (zI q.1) ∧ zCI (zwI T 1 6 0) q.2 ∧ zQF S (zwI T 1 6 0) := by
  subst e
  exact ⟨rfl, h.no 0, f.tr zQF.w1⟩
theorem q_refL {S T : zM} {s : zST} {n : Nat} {q : Int64 × zST} (h : zCI T s) (f : zQF S T) (e : q = zrfL s n) : some (zL zMiss) = some (zL q.1) ∧ zCI (zwI T 1 6 (nI n)) q.2 ∧ zQF S (zwI T 1 6 (nI n)) := by
  subst e
  exact ⟨rfl, h.no n, f.tr zQF.w1⟩
theorem q_ansL {S T : zM} {s : zST} {x : Int64} {q : Int64 × zST} (h : zCI T s) (f : zQF S T) (e : q = zanL s x) : some (zL x) = some (zL q.1) ∧ zCI (zwI T 1 6 0) q.2 ∧ zQF S (zwI T 1 6 0) := by
  subst e
  exact ⟨rfl, h.no 0, f.tr zQF.w1⟩
theorem zQF.rf {S : zM} : zQF S S := zNF.rf
theorem zG.q {S T : zM} (h : zG zXV S T) : zQF S T := h.nf (fun c z => Or.inl (by unfold zXV at z; omega))
