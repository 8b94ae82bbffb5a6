/-! CLASS: whoever goes together lies in one of 39. Sets are numbers; their 64 lowest bits say nothing: they keep the numbers apart. -/
set_option maxRecDepth 100000
def uS (j : Nat) : Nat := (uAt j).2.2.2.2
def uC (i : Nat) : Nat := cod (uAt i).1 (uAt i).2.1 (uAt i).2.2.1
def lo64 : Nat := 18446744073709551615
def sl (v : Nat) : Nat := Nat.mod (Nat.mul (v + 1) 11400714819323198485) 18446744073709551616
def pck : Nat → List En → Bool
  | _, [] => true
  | i, e :: l => (Nat.beq (pT i) e.2.2.2.1 && (Nat.beq (pS i) (Nat.lor (Nat.shiftLeft e.2.2.2.2 64) lo64) && (Nat.beq (pC i) (cod e.1 e.2.1 e.2.2.1) && Nat.beq (ixT (cod e.1 e.2.1 e.2.2.1)) i))) && frc (i + 1) fun i' => pck i' l
theorem ixT_id : ixT 16484 = 510 := by decide +kernel
theorem pck_t : pck 0 UL0 = true ∧ pck 100 UL1 = true ∧ pck 200 UL2 = true ∧ pck 300 UL3 = true ∧ pck 400 UL4 = true := by decide +kernel
theorem GMx_t : GMx = GMs.map (fun G => Nat.lor (Nat.shiftLeft G 64) lo64) := by decide +kernel
def addV (tv cand : Nat) (dec : List Nat) (k : Nat → Bool) : List Nat → Nat → Bool
  | [], c2 => k c2
  | w :: l, c2 => frc (lk tv (w / 729)) fun x => frc (lk tv (w / 27 % 27)) fun y => frc (lk tv (w % 27)) fun z => cond (Nat.ble x 26 && (Nat.ble y 26 && Nat.ble z 26)) (frc (cod x y z) fun c => frc (ixT c) fun j => cond (Nat.beq j 511) true (cond (Nat.beq j 510) (addV tv cand dec k l c2) (cond (bitB cand (64 + j) || dec.any (fun d => Nat.beq d c)) (frc (Nat.xor (Nat.land c2 (pS j)) (sl j)) fun c3 => addV tv cand dec k l c3) true))) true
def fltK (v : Nat) (k : List Nat → Bool) : List Nat → List Nat → Bool
  | [], acc => k acc
  | G :: l, acc => cond (bitB G (64 + v)) (fltK v k l (G :: acc)) (fltK v k l acc)
def srch : Nat → Nat → List Nat → List Nat → Bool
  | 0, _, _, _ => false
  | f + 1, cand, dec, gl => (gl.any fun G => Nat.beq (Nat.land cand G) cand) || (Nat.ble 18446744073709551616 cand && frc (Nat.log2 cand - 64) fun v => frc (Nat.xor cand (Nat.lor (Nat.shiftLeft 1 (64 + v)) (sl v))) fun c1 => (frc (pT v) fun tv => frc (Nat.xor (Nat.land c1 (pS v)) (sl v)) fun c0 => frc (pC v) fun cv => addV tv cand (cv :: dec) (fun c2 => fltK v (fun gl' => srch f c2 (cv :: dec) gl') gl []) (cv :: dec) c0) && srch f c1 dec gl)
def top (v : Nat) : Bool := frc (Nat.shiftLeft 1 (v + 65) - 1) fun cand => frc (Nat.xor (Nat.shiftLeft 1 (v + 64) - 1) (sl v)) fun c1 => frc (pT v) fun tv => frc (Nat.xor (Nat.land c1 (pS v)) (sl v)) fun c0 => frc (pC v) fun cv => addV tv cand [cv] (fun c2 => fltK v (fun gl' => srch 2000 c2 [cv] gl') GMx []) [cv] c0
def topR : Nat → Nat → Bool
  | 0, _ => true
  | n + 1, v => top v && frc (v + 1) fun v' => topR n v'
theorem top_0 : topR 81 0 = true := by decide +kernel
theorem top_1 : topR 89 81 = true := by decide +kernel
theorem top_2 : topR 70 170 = true := by decide +kernel
theorem top_3 : topR 50 240 = true := by decide +kernel
theorem top_4 : topR 51 290 = true := by decide +kernel
theorem top_5 : topR 39 341 = true := by decide +kernel
theorem top_6 : topR 30 380 = true := by decide +kernel
theorem top_7 : topR 25 410 = true := by decide +kernel
theorem top_8 : topR 20 435 = true := by decide +kernel
theorem top_9 : topR 12 455 = true := by decide +kernel
theorem top_10 : topR 12 467 = true := by decide +kernel
