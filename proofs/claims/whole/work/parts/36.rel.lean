/-! the class's cells against the reference's -/
/-- what was told, as numbers -/
def ar_told (tn : Nat → Nat) : Prop := tn 0 ≤ 4 ∧ tn 1 ≤ 6 ∧ (10 ≤ tn 2 ∧ tn 2 ≤ 99) ∧ tn 3 ≤ 30 ∧ (∀ e, e < 4 → tn (6 + e) ≤ 40 ∧ tn (10 + e) ≤ 2 ∧ tn (14 + e) ≤ 60) ∧ (∀ e, e < tn 0 → 1 ≤ tn (6 + e) ∧ 1 ≤ tn (14 + e)) ∧ (∀ c, c < 6 → tn (18 + c) ≤ 5 ∧ tn (24 + c) ≤ 12 ∧ tn (30 + c) ≤ 3 ∧ tn (36 + c) ≤ 30) ∧ (∀ c, c < tn 1 → 1 ≤ tn (24 + c) ∧ 1 ≤ tn (36 + c)) ∧ tn 4 ≤ 200
def ar_T (T : Nat) (tn : Nat → Nat) (I : Nat → Nat → Int32) : Prop := (∀ j, j < 42 → I 79 j = nI (tn j)) ∧ I T 0 = nI (tn 0) ∧ I T 4 = nI (tn 1) ∧ I T 9 = nI (tn 2) ∧ I T 10 = nI (tn 3) ∧ (∀ e, e < tn 0 → I (T + 1) e = nI (tn (6 + e)) ∧ I (T + 2) e = nI (tn (10 + e)) ∧ I (T + 3) e = nI (tn (14 + e))) ∧ (∀ c, c < tn 1 → I (T + 4) c = nI (tn (18 + c)) ∧ I (T + 5) c = nI (tn (24 + c)) ∧ I (T + 6) c = nI (tn (30 + c)) ∧ I (T + 7) c = nI (tn (36 + c)))
/-- how things stand, as numbers: 0 dawn, 1 minute, 2 dressed, 3.. left, 7.. yards -/
def ar_ok (tn sn : Nat → Nat) : Prop := (∀ j, sn j ≤ 100) ∧ sn 0 ≤ tn 0 ∧ sn 2 < 2 ^ tn 1 ∧ ∀ c, c < tn 1 → sn (7 + 4 * c) + sn (7 + 4 * c + 1) + sn (7 + 4 * c + 2) + sn (7 + 4 * c + 3) ≤ tn (24 + c)
def ar_eq (nd : Nat) (I : Nat → Nat → Int32) (k : Nat) (sn : Nat → Nat) : Prop := I k 0 = nI (sn 0) ∧ I k 1 = nI (sn 1) ∧ I k 2 = nI (sn 2) ∧ (∀ e, e < nd → I (k + 1) e = nI (sn (3 + e))) ∧ ∀ q, q < 24 → I (k + 2) q = nI (sn (7 + q))
def ar_S (tn sn : Nat → Nat) (I : Nat → Nat → Int32) : Prop := (∀ j, j < 31 → I 81 j = nI (sn j)) ∧ ar_ok tn sn ∧ ar_eq (tn 0) I 20 sn
def ar_pl (nx m i : Nat) : Nat := 25 + 3 * ((nx + 10 - m + i) % 10)
def ar_P (tn : Nat → Nat) (pn : Nat → Nat → Nat) (nx m : Nat) (I : Nat → Nat → Int32) : Prop := m ≤ 10 ∧ nx < 10 ∧ I 23 1 = nI nx ∧ I 23 2 = nI m ∧ I 77 7 = nI m ∧ ∀ i, i < m → (∀ j, j < 31 → I 82 (31 * i + j) = nI (pn i j)) ∧ ar_ok tn (pn i) ∧ ar_eq (tn 0) I (ar_pl nx m i) (pn i)
def ar_I (tn : Nat → Nat) (im : Nat → Nat → Nat) (I : Nat → Nat → Int32) : Prop := ∀ q, q < 2 → (I 56 q = nI 0 ∧ I 84 q = nI 0) ∨ (I 56 q = nI 1 ∧ I 84 q = nI 1 ∧ (∀ j, j < 31 → I 83 (31 * q + j) = nI (im q j)) ∧ ar_ok tn (im q) ∧ ar_eq (tn 0) I (71 + 3 * q) (im q))
def ar_X (tx : Nat → Nat) (ln : Nat) (I : Nat → Nat → Int32) : Prop := ln ≤ 120 ∧ I 2 1 = nI ln ∧ I 77 2 = nI ln ∧ ∀ j, j < ln → I 3 j = nI (tx j) ∧ I 78 j = nI (tx j) ∧ tx j ≤ 255
def ar_F (fm fi : Nat → Nat) (pm : Nat) (I : Nat → Nat → Int32) : Prop := pm ≤ 6 ∧ I 57 2 = nI pm ∧ I 77 11 = nI pm ∧ ∀ i, i < pm → 1 ≤ fm i ∧ fm i ≤ 60 ∧ fi i ≤ 1 ∧ I 58 i = nI (fm i) ∧ I 59 i = nI (fi i) ∧ I 85 i = nI (2 * fm i + fi i)
/-! sets of clients as numbers; sums over them; rounds -/
/-- the sum of f over the clients below n that are in a set -/
def am_sm (f : Nat → Nat) (set : Nat) : Nat → Nat
  | 0 => 0
  | c + 1 => am_sm f set c + if set.testBit c = true then f c else 0
/-- a set without one client -/
def am_wo (set c : Nat) : Nat := set &&& (63 - 2 ^ c)
/-- the soonest of a set by what the smaller ones are: 0 while none is found -/
def am_sn1 (tn : Nat → Nat) (tab : Nat → Nat) (set : Nat) : Nat → Nat
  | 0 => 0
  | c + 1 => if set.testBit c = true then (if am_sn1 tn tab set c = 0 then max (am_sm (fun c => tn (24 + c)) set (tn 1)) (tab (am_wo set c)) + tn (36 + c) else min (am_sn1 tn tab set c) (max (am_sm (fun c => tn (24 + c)) set (tn 1)) (tab (am_wo set c)) + tn (36 + c))) else am_sn1 tn tab set c
/-- the table of the sets below a bound -/
def am_snT (tn : Nat → Nat) : Nat → Nat → Nat
  | 0 => fun _ => 0
  | s + 1 => fun x => if x = s then am_sn1 tn (am_snT tn s) s (tn 1) else am_snT tn s x
def am_soon (tn : Nat → Nat) (set : Nat) : Nat := am_snT tn (set + 1) set
def am_suN (tn : Nat → Nat) (e c : Nat) : Bool := decide (tn (30 + c) = 3) || decide (tn (30 + c) = tn (10 + e))
def am_suA (tn : Nat → Nat) (e set : Nat) : Nat → Bool
  | 0 => true
  | c + 1 => am_suA tn e set c && (!set.testBit c || am_suN tn e c)
/-- can a dawn clothe a set -/
def am_can (tn : Nat → Nat) (e set : Nat) : Bool := am_suA tn e set (tn 1) && (decide (am_sm (fun c => tn (24 + c)) set (tn 1) ≤ tn (6 + e)) && (decide (am_sm (fun c => tn (24 + c)) set (tn 1) ≤ tn (14 + e)) && decide (am_soon tn set ≤ tn 2)))
/-- the sets below a bound that a dawn can clothe, as bits -/
def am_clo (tn : Nat → Nat) (e : Nat) : Nat → Nat
  | 0 => 0
  | s + 1 => am_clo tn e s + if am_can tn e s = true then 2 ^ s else 0
/-- the most of a set that a dawn and those behind it can clothe: by parts below a bound -/
def am_ms1 (tn : Nat → Nat) (nxt : Nat → Nat) (e set : Nat) : Nat → Nat
  | 0 => 0
  | q + 1 => if (q &&& (63 - set)) = 0 ∧ am_can tn e q = true then max (am_ms1 tn nxt e set q) (am_pc q + nxt (set &&& (63 - q))) else am_ms1 tn nxt e set q
/-- the same for a number of dawns at the end -/
def am_msE (tn : Nat → Nat) : Nat → Nat → Nat
  | 0 => fun _ => 0
  | k + 1 => fun set => am_ms1 tn (am_msE tn k) (tn 0 - (k + 1)) set (set + 1)
def am_most (tn : Nat → Nat) (e set : Nat) : Nat := am_msE tn (tn 0 - e) set
def ar_C (tn : Nat → Nat) (I : Nat → Nat → Int32) (J : Nat → Nat → Int64) : Prop := I 60 0 = nI (tn 0) ∧ I 60 1 = nI (tn 1) ∧ (∀ set, set < 2 ^ tn 1 → I 61 set = nI (am_soon tn set)) ∧ (∀ e, e < tn 0 → J 62 e = lN (am_clo tn e (2 ^ tn 1))) ∧ ∀ e, e ≤ tn 0 → ∀ set, set < 2 ^ tn 1 → I (64 + e) set = nI (am_most tn e set)
/-- all of it -/
def am_Rel (sw : Bool) (I : Nat → Nat → Int32) (J : Nat → Nat → Int64) : Prop := ∃ (T : Nat) (tn sn : Nat → Nat) (pn im : Nat → Nat → Nat) (tx fm fi : Nat → Nat) (nx m ln pm : Nat), am_tbr sw T ∧ ar_told tn ∧ ar_T T tn I ∧ ar_S tn sn I ∧ ar_P tn pn nx m I ∧ ar_I tn im I ∧ ar_X tx ln I ∧ ar_F fm fi pm I ∧ ar_C tn I J ∧ J 1 9 = J 77 0
/-- two calls, class and reference, answer alike, and what holds then -/
def am_pr (n d : Nat) (y1 y2 : am_MI) (a1 a2 : List Value) : Prop := ∀ (sw : Bool) (I : Nat → Nat → Int32) (J : Nat → Nat → Int64), am_Rel sw I J → am_call d y1 a1 (am_sh n, I, J, am_Rf sw) (fun v M1 => am_call d y2 a2 M1 (fun v2 M2 => v2 = v ∧ (∃ w, v = some (.int w)) ∧ ∃ (sw' : Bool) (I' : Nat → Nat → Int32) (J' : Nat → Nat → Int64), M2 = (am_sh n, I', J', am_Rf sw') ∧ (∀ j, I' 0 j = I 0 j) ∧ am_Rel sw' I' J'))
