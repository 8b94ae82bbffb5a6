/-! Calls that have the pool; GROUPS within a GROUP; what a call answers, over lists of keys. -/
section ZPOOL
variable {p : Program} {l : Launch} {e : Env} {R : Room} {s : State} {m : MethodId} {args : Array Value} {below : List Frame} {meth : Method} {c : Code} {H H0 : Heap} {locs : List Loc} {cells slots : Nat} {Q : State → Prop}
variable {pc : Nat} {ls : Array Slot} {rest st0 : List Value} {A : Nat → Prop} {D : va_G} {cl : List vw_C} {tys : List (ClassId × FieldType)} {X pl cx wr : va_W} {av : List Value} {a : Array Value} {mc ms : Nat}
theorem zPre.atP (hK : va_K D cl tys s) (hP : va_P D cl (X ++ pl) H) (hD : va_D A (X ++ pl)) (hS : va_S A s.heap H locs) (hA : ∀ q, s.heap.size ≤ q → A q) (hX : stF A s s.heap) (isC : List Nat) (hn : va_nd isC = true) (hC : isC.map (fun i => X[i]?) = cx.map some) : ∀ U : State, U.heap = H → s.WarmedH U.vm → va_Pc av (zPre D cl tys (cx ++ pl) H.size) av.toArray U := by
  intro U hU hW
  have hF := va_freeP hD hS hA isC hC
  have hDc := (zD_subT hD isC hn hC).weaken (B := fun _ => True) (fun _ _ _ _ => trivial)
  have hPc := zP_subT hP isC hC
  refine ⟨rfl, by rw [hU], by rw [hU]; exact hPc, va_K.moved hW.alike hK, hDc, ?_⟩
  rw [hU]
  exact ((hX.kept (H1 := H) (fun q h1 h2 => hS.2.1 q h1 h2)).narrow hF).warm hW
theorem zI.backP {S : Type} {post : Int → S → Prop} {rx pl1 : S → va_W} (hr : va_Run p l e R s m args below meth c H locs cells slots mc ms (F0 m pc ls st0) rest (va_Qi (fun r u => ∃ z : Int, r = iI z ∧ post z u) (zPost D cl tys (va_A (cx ++ pl) H.size) (fun u => rx u ++ pl1 u)) (va_A (cx ++ pl) H.size) a) (va_A (cx ++ pl) H.size))
    (hP : va_P D cl (X ++ pl) H) (hD : va_D A (X ++ pl)) (hS : va_S A H0 H locs) (hA : ∀ q, H0.size ≤ q → A q) (isC isR : List Nat) (hC : isC.map (fun i => X[i]?) = cx.map some) (hR : isR.map (fun i => X[i]?) = wr.map some) (hn : va_nd isR = true) (hdis : ∀ i ∈ isR, i ∉ isC)
    (kk : ∀ (z : Int) (u : S) (H1 : Heap) (locs1 : List Loc), post z u → va_P D cl ((wr ++ rx u) ++ pl1 u) H1 → va_D A ((wr ++ rx u) ++ pl1 u) → va_S A H0 H1 locs1 → H.size ≤ H1.size → (∀ q : Nat, q < H.size → ¬ va_A (cx ++ pl) H.size q → H1[q]? = H[q]?) → W p l e R s m args below meth c H1 locs1 (cells + mc) (slots + ms) Q (F0 m (pc + 3) ls (.int (iI z) :: rest))) : W p l e R s m args below meth c H locs cells slots Q (F0 m pc ls st0) := by
  have hF := va_freeP hD hS hA isC hC
  refine va_calli hr hS (fun q _ h => hF q h) hF (fun r u t H1 locs1 ht hvm hw hB hz1 hk1 hS1 => ?_)
  obtain ⟨z, rfl, hp⟩ := hw
  obtain ⟨hP1, hD1⟩ := hB
  rw [ht] at hP1
  obtain ⟨hP2, hD2⟩ := va_joinP hP hD isC isR hC hR hn hdis hk1 hF hP1 hD1
  exact kk z u H1 locs1 hp hP2 hD2 hS1 hz1 hk1
end ZPOOL
theorem zunfA {X pool g3 a3 h2 rest : va_W} (h : pool.Perm ((g3 ++ (a3 ++ h2)) ++ rest)) : ((X ++ (g3 ++ a3)) ++ (h2 ++ rest)).Perm (X ++ pool) := by
  rw [List.append_assoc X]
  refine (List.Perm.append_left X (h.trans ?_)).symm
  rw [← List.append_assoc g3, List.append_assoc (g3 ++ a3)]
theorem zunfH {X pool g3 a3 h2 rest : va_W} (h : pool.Perm ((g3 ++ (a3 ++ h2)) ++ rest)) : ((X ++ (g3 ++ h2)) ++ (a3 ++ rest)).Perm (X ++ pool) := by
  rw [List.append_assoc X]
  refine (List.Perm.append_left X (h.trans ?_)).symm
  rw [List.append_assoc g3, List.append_assoc g3, List.append_assoc a3]
  refine List.Perm.append_left g3 ?_
  rw [← List.append_assoc a3, ← List.append_assoc h2]
  exact List.Perm.append_right _ List.perm_append_comm
theorem zfocA {X pool g3 a3 h2 rest : va_W} (h : pool.Perm ((g3 ++ (a3 ++ h2)) ++ rest)) : (X ++ pool).Perm ((X ++ (g3 ++ a3)) ++ (h2 ++ rest)) := (zunfA h).symm
theorem zfocH {X pool g3 a3 h2 rest : va_W} (h : pool.Perm ((g3 ++ (a3 ++ h2)) ++ rest)) : (X ++ pool).Perm ((X ++ (g3 ++ h2)) ++ (a3 ++ rest)) := (zunfH h).symm
theorem GInv.set {gs : List GRec} {hf : Nat → Option Nat} (h : GInv gs hf) {i : Nat} {q q' : GRec} (hq : gs[i]? = some q) (e1 : q'.1 = q.1) (hk : gK q' = gK q) (ho : gOK q') : GInv (gs.set i q') hf ∧ (gs.set i q').map gK = gs.map gK ∧ (gs.set i q').length = gs.length ∧ (gs.set i q')[i]? = some q' := by
  obtain ⟨hi, e⟩ := List.getElem?_eq_some_iff.mp hq
  refine ⟨⟨by rw [List.length_set]; exact h.1, fun j r hj => ?_, fun r hr => ?_⟩, ?_, List.length_set .., ?_⟩
  · rw [List.getElem?_set] at hj
    split at hj
    · rename_i e2
      subst e2
      cases hj
      rw [e1]
      exact h.2.1 i q hq
    · exact h.2.1 j r hj
  · rcases List.mem_or_eq_of_mem_set hr with g | g
    · exact h.2.2 r g
    · rw [g]; exact ho
  · rw [List.map_set, hk, ← e]
    apply List.ext_getElem?
    intro j
    rw [List.getElem?_set]
    split
    · rename_i e2
      subst e2
      rw [List.length_map, if_pos hi, List.getElem?_map, List.getElem?_eq_getElem hi]
      rfl
    · rfl
  · rw [List.getElem?_set, if_pos rfl, if_pos hi]
/-- a part of a GROUP that is closed is a GROUP -/
theorem isG_sub {ks L : List Int} (h : isG ks) (hn : L.Nodup) (hs : ∀ x ∈ L, x ∈ ks) (hu : u0 ∈ L) (hc : ∀ x ∈ L, ∀ y ∈ L, timesK x y ∈ L) : isG L := ⟨hn, hu, fun x hx => h.2.2.1 x (hs x hx), hc⟩
theorem selG {ks : List Int} (h : isG ks) (hs : ks.Pairwise (· < ·)) {p : Nat → Prop} (hu : ∀ j, j < ks.length → ks.getD j (-1) = u0 → p j) (hc : ∀ i j k, i < ks.length → j < ks.length → k < ks.length → p i → p j → timesK (ks.getD i (-1)) (ks.getD j (-1)) = ks.getD k (-1) → p k) : isG (selT ks p ks.length) := by
  have hso := selT_sorted hs (p := p) (Nat.le_refl ks.length)
  refine isG_sub h (nodup_lt hso) (fun x hx => selT_sub (Nat.le_refl _) hx) ?_ ?_
  · obtain ⟨j, hj, e⟩ := mem_getD h.2.1
    exact mem_selT.mpr ⟨j, hj, hu j hj e, e⟩
  · intro x hx y hy
    obtain ⟨i, hi, pi, rfl⟩ := mem_selT.mp hx
    obtain ⟨j, hj, pj, rfl⟩ := mem_selT.mp hy
    obtain ⟨k, hk, e⟩ := mem_getD (h.2.2.2 _ (getD_mem hi) _ (getD_mem hj))
    exact mem_selT.mpr ⟨k, hk, hc i j k hi hj hk pi pj e.symm, e⟩
theorem selG_len {ks : List Int} {p : Nat → Prop} (hl : ks.length ≤ 192) : (selT ks p ks.length).length ≤ 192 := by
  rw [selT_len]
  exact Nat.le_trans (cnt_le _) hl
theorem keepG {ks : List Int} (h : isG ks) (hs : ks.Pairwise (· < ·)) {pl : Int} (hp : isPl pl) : isG (selT ks (fun j => movK (ks.getD j (-1)) pl = pl) ks.length) := by
  refine selG h hs (fun j _ e => by show movK _ pl = pl; rw [e]; exact u0_act hp) ?_
  intro i j k hi hj hk pi pj e
  show movK _ pl = pl
  rw [← e, times_act pl (h.tne (getD_mem hi) (getD_mem hj)), pj]
  exact pi
theorem bothG {a b : List Int} (h : isG a) (hs : a.Pairwise (· < ·)) (h2 : isG b) : isG (selT a (fun j => a.getD j (-1) ∈ b) a.length) := by
  refine selG h hs (fun j _ e => by show _ ∈ b; rw [e]; exact h2.2.1) ?_
  intro i j k hi hj hk pi pj e
  show _ ∈ b
  rw [← e]
  exact h2.2.2.2 _ pi _ pj
theorem cnt_one_of {p : Nat → Prop} {k : Nat} (hp : p k) : ∀ {n : Nat}, k < n → (cnt p n = 1 ↔ ∀ i, i < n → p i → i = k) := by
  intro n hk
  have h0 : cnt p n = cnt (fun i => p i ∧ i ≠ k) n + 1 := cnt_one hk hp (fun h => h.2 rfl) (fun i hi hne => ⟨fun h => ⟨h, hne⟩, fun h => h.1⟩)
  constructor
  · intro e i hi hpi
    have h1 : cnt (fun i => p i ∧ i ≠ k) n = 0 := by omega
    apply Classical.byContradiction
    intro hne
    have h2 : cnt (fun i => p i ∧ i ≠ k) n = cnt (fun j => (p j ∧ j ≠ k) ∧ j ≠ i) n + 1 := cnt_one hi ⟨hpi, hne⟩ (fun h => h.2 rfl) (fun j hj hji => ⟨fun h => ⟨h, hji⟩, fun h => h.1⟩)
    omega
  · intro h
    have h1 : cnt (fun i => p i ∧ i ≠ k) n = cnt (fun _ => False) n := cnt_congr fun i hi => ⟨fun q => q.2 (h i hi q.1), False.elim⟩
    have h2 : ∀ n, cnt (fun _ => False) n = 0 := by
      intro n
      induction n with
      | zero => rfl
      | succ n ih => rw [cnt_f (by exact id), ih]
    rw [h0, h1, h2]
/-- alone in its set: it goes with all -/
theorem mAlk_one {ks : List Int} (h : isG ks) (hs : ks.Pairwise (· < ·)) {k : Nat} (hk : k < ks.length) : mAlk ks k = 1 ↔ ∀ c ∈ ks, timesK c (ks.getD k (-1)) = timesK (ks.getD k (-1)) c := by
  unfold mAlk
  rw [cnt_one_of (p := fun i => alk ks i k) (alk_refl h hk) hk]
  constructor
  · intro hall c hc
    obtain ⟨ci, hci, e1, e2⟩ := h.inv hc
    have hx := getD_mem hk
    have hcx := h.2.2.2 c hc _ hx
    have hb := h.2.2.2 _ hcx _ hci
    obtain ⟨i, hi, ei⟩ := mem_getD hb
    have key : timesK (ks.getD i (-1)) c = timesK c (ks.getD k (-1)) := by
      rw [ei, h.assoc hcx hci hc, e2, h.ur hcx]
    have ha : alk ks i k := alk_symm h hk hi ⟨c, hc, key.symm⟩
    have := hall i hi ha
    subst this
    exact key.symm
  · intro hall i hi ⟨c, hc, e⟩
    have hx := getD_mem hk
    have hy := getD_mem hi
    have e2 : timesK c (ks.getD i (-1)) = timesK c (ks.getD k (-1)) := by rw [e, hall c hc]
    exact getD_inj hs hi hk (h.lc hc hy hx e2)
theorem centG {ks : List Int} (h : isG ks) (hs : ks.Pairwise (· < ·)) : isG (selT ks (fun j => mAlk ks j = 1) ks.length) := by
  refine selG h hs (fun j hj e => by show mAlk ks j = 1; rw [mAlk_one h hs hj, e]; intro c hc; rw [h.ul hc, h.ur hc]) ?_
  intro i j k hi hj hk pi pj e
  show mAlk ks k = 1
  rw [mAlk_one h hs hi] at pi
  rw [mAlk_one h hs hj] at pj
  rw [mAlk_one h hs hk]
  intro c hc
  have mi := getD_mem hi
  have mj := getD_mem hj
  rw [← e, ← h.assoc hc mi mj, pi c hc, h.assoc mi hc mj, pj c hc, ← h.assoc mi mj hc]
theorem pcN_xor {a b m : Nat} (ha : a < 128) (hb : b < 128) (hm : m < 128) : pcN ((a ^^^ b) &&& m) % 2 = (pcN (a &&& m) + pcN (b &&& m)) % 2 := by
  have key : ∀ x y : Nat, x < 128 → y < 128 → pcN (x ^^^ y) % 2 = (pcN x + pcN y) % 2 := by
    have h7 : ∀ x y : Nat, (x ^^^ y) % 2 = (x % 2 + y % 2) % 2 := fun x y => by
      rw [show 2 = 2 ^ 1 from rfl, Nat.xor_mod_two_pow]
      rcases Nat.mod_two_eq_zero_or_one x with h | h <;> rcases Nat.mod_two_eq_zero_or_one y with g | g <;> simp [h, g]
    have hd : ∀ x y k : Nat, (x ^^^ y) / 2 ^ k = (x / 2 ^ k) ^^^ (y / 2 ^ k) := fun x y k => by
      rw [← Nat.shiftRight_eq_div_pow, ← Nat.shiftRight_eq_div_pow, ← Nat.shiftRight_eq_div_pow, Nat.shiftRight_xor_distrib]
    intro x y _ _
    unfold pcN
    have e1 := hd x y 1
    have e2 := hd x y 2
    have e3 := hd x y 3
    have e4 := hd x y 4
    have e5 := hd x y 5
    have e6 := hd x y 6
    simp only [show 2 ^ 1 = 2 from rfl, show 2 ^ 2 = 4 from rfl, show 2 ^ 3 = 8 from rfl, show 2 ^ 4 = 16 from rfl, show 2 ^ 5 = 32 from rfl, show 2 ^ 6 = 64 from rfl] at e1 e2 e3 e4 e5 e6
    rw [e1, e2, e3, e4, e5, e6, h7 x y, h7 (x / 2), h7 (x / 4), h7 (x / 8), h7 (x / 16), h7 (x / 32), h7 (x / 64)]
    omega
  rw [Nat.and_xor_distrib_right]
  exact key _ _ (Nat.lt_of_le_of_lt Nat.and_le_right hm) (Nat.lt_of_le_of_lt Nat.and_le_right hm)
theorem halfG {ks K : List Int} (h : isG ks) (hs : ks.Pairwise (· < ·)) (hq : sqG ks K) {co : Nat → Int} {bb m : Nat} (hH : HIv ks K co bb) (hd : ∀ x, x < ks.length → co x ≠ -1) (hb : bb < 8) (hm : m < 2 ^ bb) : isG (selT ks (hpar co m) ks.length) := by
  have h128 := pow_le128 hb
  have hr : ∀ x, x < ks.length → (co x).toNat < 128 := fun x hx => by
    rcases hH.1 x hx with q | q
    · exact absurd q (hd x hx)
    · omega
  refine selG h hs (fun j hj e => ?_) ?_
  · have : co j = 0 := (hH.2.1 j hj).mpr (by rw [e]; exact hq.1.2.1)
    show pcN ((co j).toNat &&& m) % 2 = 0
    rw [this]
    show pcN (0 &&& m) % 2 = 0
    rw [Nat.zero_and]
    rfl
  · intro i j k hi hj hk pi pj e
    have := hH.2.2.1 i j k hi hj hk (hd i hi) (hd j hj) e
    show pcN ((co k).toNat &&& m) % 2 = 0
    rw [this]
    show pcN (((co i).toNat ^^^ (co j).toNat) &&& m) % 2 = 0
    rw [pcN_xor (hr i hi) (hr j hj) (by omega)]
    have pi : pcN ((co i).toNat &&& m) % 2 = 0 := pi
    have pj : pcN ((co j).toNat &&& m) % 2 = 0 := pj
    omega
/-- what is to be known of the CLASS: a row of SORTS is a number of nine digits -/
def ClsB : Prop := ∀ ks : List Int, isG ks → ks.Pairwise (· < ·) → ks.length ≤ 192 → 0 ≤ rowT ks ks.length ∧ rowT ks ks.length < 2147483648
theorem ClsB.ok (hc : ClsB) {ks : List Int} (h : isG ks) (hs : ks.Pairwise (· < ·)) (hl : ks.length ≤ 192) : gkOK ks := ⟨h, hs, hl, (hc ks h hs hl).1, (hc ks h hs hl).2⟩
/-! what calls answer -/
def isH (kss : List (List Int)) (x : Int) (ks : List Int) : Prop := 0 ≤ x ∧ x < (kss.length : Int) ∧ kss[x.toNat]? = some ks
def noH (kss : List (List Int)) (x : Int) : Prop := ¬ (0 ≤ x ∧ x < (kss.length : Int))
def chOK (chs : List Int) (n p : Int) : Prop := chs.length < 10 ∧ (0 ≤ n ∧ n < 19683) ∧ isPl p ∧ (detF (mdg (n * 13824 + p)) = 1 ∨ detF (mdg (n * 13824 + p)) = -1)
def sChoose (chs : List Int) (n p z : Int) (chs' : List Int) : Prop := (chOK chs n p ∧ z = (chs.length : Int) + 1 ∧ chs' = chs ++ [n * 13824 + p]) ∨ (¬ chOK chs n p ∧ z = -1 ∧ chs' = chs)
def sGroup (kss : List (List Int)) (chs : List Int) (z : Int) (kss' : List (List Int)) : Prop := (∃ ks, genOK chs ks ∧ numR kss ks z kss') ∨ ((¬ ∃ ks, genOK chs ks) ∧ z = -1 ∧ kss' = kss)
def halvB (ks : List Int) (co : Nat → Int) (bb : Nat) : Prop := ∃ K, sqG ks K ∧ HIv ks K co bb ∧ (∀ x, x < ks.length → co x ≠ -1) ∧ bb < 8
def aboutK (ks : List Int) (w z : Int) : Prop := (w = 0 ∧ z = (ks.length : Int)) ∨ (w = 1 ∧ z = matT ks ks.length) ∨ (w = 2 ∧ z = cenT ks ks.length) ∨ (w = 3 ∧ ∃ i, lix ks u0 i ∧ z = letK ks i (cenT ks ks.length)) ∨ (w = 4 ∧ clsF (rowT ks ks.length) z) ∨ (w = 5 ∧ z = (nAlk ks : Int)) ∨ (w = 6 ∧ ∃ co bb, halvB ks co bb ∧ z = ((2 ^ bb : Nat) : Int) - 1) ∨ ((w < 0 ∨ 6 < w) ∧ z = -1)
def sAbout (kss : List (List Int)) (x w z : Int) : Prop := (noH kss x ∧ z = -1) ∨ ∃ ks, isH kss x ks ∧ aboutK ks w z
def ofK (ks : List Int) (k : Nat) (w z : Int) : Prop := (w = 0 ∧ z = ks.getD k (-1) / 13824) ∨ (w = 1 ∧ z = ks.getD k (-1) % 13824) ∨ (w = 2 ∧ z = sortK (ks.getD k (-1))) ∨ (w = 3 ∧ trn (ks.getD k (-1)) z) ∨ (w = 4 ∧ z = (mAlk ks k : Int)) ∨ ((w < 0 ∨ 4 < w) ∧ z = -1)
def sOf (kss : List (List Int)) (x k w z : Int) : Prop := (noH kss x ∧ z = -1) ∨ ∃ ks, isH kss x ks ∧ ((¬ (0 ≤ k ∧ k < (ks.length : Int)) ∧ z = -1) ∨ (0 ≤ k ∧ k < (ks.length : Int) ∧ ofK ks k.toNat w z))
def sProduct (kss : List (List Int)) (x i j z : Int) : Prop := (noH kss x ∧ z = -1) ∨ ∃ ks, isH kss x ks ∧ ((¬ ((0 ≤ i ∧ i < (ks.length : Int)) ∧ 0 ≤ j ∧ j < (ks.length : Int)) ∧ z = -1) ∨ ((0 ≤ i ∧ i < (ks.length : Int)) ∧ (0 ≤ j ∧ j < (ks.length : Int)) ∧ lix ks (timesK (ks.getD i.toNat (-1)) (ks.getD j.toNat (-1))) z))
def sFind (kss : List (List Int)) (x n p z : Int) : Prop := ((noH kss x ∨ ¬ (0 ≤ n ∧ n < 19683) ∨ ¬ isPl p) ∧ z = -1) ∨ ∃ ks, isH kss x ks ∧ (0 ≤ n ∧ n < 19683) ∧ isPl p ∧ lix ks (n * 13824 + p) z
def sHalf (kss : List (List Int)) (x k z : Int) (kss' : List (List Int)) : Prop := (noH kss x ∧ z = -1 ∧ kss' = kss) ∨ ∃ ks co bb, isH kss x ks ∧ halvB ks co bb ∧ ((¬ (0 ≤ k ∧ k < ((2 ^ bb : Nat) : Int) - 1) ∧ z = -1 ∧ kss' = kss) ∨ (0 ≤ k ∧ k < ((2 ^ bb : Nat) : Int) - 1 ∧ numR kss (selT ks (hpar co (revB (k.toNat + 1) bb)) ks.length) z kss'))
def sBoth (kss : List (List Int)) (x y z : Int) (kss' : List (List Int)) : Prop := ((noH kss x ∨ noH kss y) ∧ z = -1 ∧ kss' = kss) ∨ ∃ a b, isH kss x a ∧ isH kss y b ∧ numR kss (selT a (fun j => a.getD j (-1) ∈ b) a.length) z kss'
def sCentre (kss : List (List Int)) (x z : Int) (kss' : List (List Int)) : Prop := (noH kss x ∧ z = -1 ∧ kss' = kss) ∨ ∃ ks, isH kss x ks ∧ numR kss (selT ks (fun j => mAlk ks j = 1) ks.length) z kss'
def sWithin (kss : List (List Int)) (x y z : Int) : Prop := ((noH kss x ∨ noH kss y) ∧ z = 0) ∨ ∃ a b, isH kss x a ∧ isH kss y b ∧ ((z = 1 ∧ ∀ v ∈ a, v ∈ b) ∨ (z = 0 ∧ ¬ ∀ v ∈ a, v ∈ b))
noncomputable def keepK (ks : List Int) (p : Int) : List Int := selT ks (fun j => movK (ks.getD j (-1)) p = p) ks.length
def orbK (ks : List Int) (p w z : Int) : Prop := (w = -2 ∧ z = ((keepK ks p).length : Int)) ∨ (w = -3 ∧ clsF (rowT (keepK ks p) (keepK ks p).length) z) ∨ (w ≠ -2 ∧ w ≠ -3 ∧ ∃ L : List Int, L.Pairwise (· < ·) ∧ orbL ks p ks.length L ∧ ((w = -1 ∧ z = (L.length : Int)) ∨ (w ≠ -1 ∧ z = lat L w)))
def sOrbit (kss : List (List Int)) (x p w z : Int) : Prop := ((noH kss x ∨ ¬ isPl p) ∧ z = -1) ∨ ∃ ks, isH kss x ks ∧ isPl p ∧ orbK ks p w z
def sKeepers (kss : List (List Int)) (x p z : Int) (kss' : List (List Int)) : Prop := ((noH kss x ∨ ¬ isPl p) ∧ z = -1 ∧ kss' = kss) ∨ ∃ ks, isH kss x ks ∧ isPl p ∧ numR kss (keepK ks p) z kss'
/-- a state of the class -/
abbrev GS : Type := List GRec × (Nat → Option Nat) × List Int × (Nat → Int) × Int × (Nat → Int) × CS
def GSt (gs : List GRec) (hf : Nat → Option Nat) (chs : List Int) (fch : Nat → Int) (gsz : Int) (fga : Nat → Int) (fs : Int) (ff : Nat → Int) : Prop :=
  GInv gs hf ∧ chs.length ≤ 10 ∧ (∀ j, j < chs.length → fch j = chs.getD j (-1)) ∧ (∀ a ∈ chs, vOK a) ∧ (∃ K, rowOK 192 fga K ∧ gsz = (K.length : Int)) ∧ ∃ K, rowOK 192 ff K ∧ fs = (K.length : Int)
def GOK (u : GS) : Prop := GSt u.1 u.2.1 u.2.2.1 u.2.2.2.1 u.2.2.2.2.1 u.2.2.2.2.2.1 u.2.2.2.2.2.2.1 u.2.2.2.2.2.2.2.1
def ghW (cI cG : ClassId) (gh ha ch b lf rt cl fr fa ca ge ga gaa : Nat) (u : GS) : va_W :=
  [(gh, .inr (6, [.ref ha, .int (iI (u.1.length : Int)), .ref ch, .int (iI (u.2.2.1.length : Int)), .ref b, .ref cl, .ref ga])), (ha, .inl (cG, 40, .inr (.inr (.inr (.inr u.2.1))))), (ch, .inl (cI, 10, .inl (zf u.2.2.2.1))), (b, .inr (1, [.ref lf, .ref rt])), (lf, .inl (cI, 9, .inl (zf u.2.2.2.2.2.2.2.2.2.2.2.2.1))), (rt, .inl (cI, 9, .inl (zf u.2.2.2.2.2.2.2.2.2.2.2.2.2))), (cl, .inr (2, [.ref b, .ref fr, .ref ca, .int (iI u.2.2.2.2.2.2.2.2.2.1), .ref ge, .int (iI u.2.2.2.2.2.2.2.2.2.2.2.1)])), (fr, .inr (5, [.ref fa, .int (iI u.2.2.2.2.2.2.1)])), (fa, .inl (cI, 192, .inl (zf u.2.2.2.2.2.2.2.1))), (ca, .inl (cI, 192, .inl (zf u.2.2.2.2.2.2.2.2.1))), (ge, .inl (cI, 10, .inl (zf u.2.2.2.2.2.2.2.2.2.2.1))), (ga, .inr (5, [.ref gaa, .int (iI u.2.2.2.2.1)])), (gaa, .inl (cI, 192, .inl (zf u.2.2.2.2.2.1)))] ++ poolW cI u.1
theorem gs_H {gs : List GRec} {x : Int} {q : GRec} (h : gs[x.toNat]? = some q) (h0 : 0 ≤ x) (h1 : x < (gs.length : Int)) : isH (gs.map gK) x (gK q) := ⟨h0, by rw [List.length_map]; exact h1, by rw [List.getElem?_map, h]; rfl⟩
theorem gs_N {gs : List GRec} {x : Int} (h : ¬ (0 ≤ x ∧ x < (gs.length : Int))) : noH (gs.map gK) x := by unfold noH; rw [List.length_map]; exact h
section ZNEWQ
variable {p : Program} {l : Launch} {e : Env} {R : Room} {s : State} {m : MethodId} {args : Array Value} {below : List Frame} {meth : Method} {c : Code} {H H0 : Heap} {locs : List Loc} {cells slots : Nat} {Q : State → Prop}
variable {pc : Nat} {ls : Array Slot} {rest : List Value} {A : Nat → Prop} {D : va_G} {cl : List vw_C} {tys : List (ClassId × FieldType)} {ws : va_W} {cc : ByteArray}
theorem lz_newq (hexec : p.tables.exec = Jvm.exec) (hb : c.code = cc) {own C : String} {index : Nat} (hown : s.vm.findClass own = some m.cls) (hclink : (Cond.classLink own index C).before args s = true) (hover : va_AO C s) (hK : va_K D cl tys s) (hP : va_P D cl ws H) (hD : va_D A ws) (hS : va_S A H0 H locs) (hA : ∀ q, H0.size ≤ q → A q) (t0 : Nat) {cG : ClassId} (ht : tys[t0]? = some (cG, .object C))
    {z : Int} {N : Nat} (hz : z = (N : Int)) (hN : N ≤ 100000) (hcells : cells + 1 ≤ R.cells) (hslots : slots + N ≤ R.slots) (hdg : decode cc pc = .ok (.anewarray index, 3))
    (kk : ∀ (q : Nat) (H1 : Heap), va_P D cl (ws ++ [(q, .inl (cG, N, .inr (.inr (.inr (.inr (fun _ => none))))))]) H1 → va_D A (ws ++ [(q, .inl (cG, N, .inr (.inr (.inr (.inr (fun _ => none))))))]) → va_S A H0 H1 locs →
      W p l e R s m args below meth c H1 locs (cells + 1) (slots + N) Q (F0 m (pc + 3) ls (.ref q :: rest))) : W p l e R s m args below meth c H locs cells slots Q (F0 m pc ls (.int (iI z) :: rest)) := by
  subst hz
  refine va_newq hexec hb hown hclink hover hK hP hD hS hA (n := iI (N : Int)) (N' := N) ?_ ?_ ?_ hcells hslots hdg (fun q cA H1 hK1 hP1 hD1 hS1 => ?_)
  · rw [← iI_0, iI_lt (by omega) (by omega)]; omega
  · rw [iI_clamp (by omega)]; omega
  · omega
  · obtain ⟨_, _, _, _, _, e1⟩ := (hK1.2 tys.length (cA, .object C) (by simp)).2
    obtain ⟨_, _, _, _, _, e2⟩ := (hK.2 t0 (cG, .object C) ht).2
    rw [e1] at e2
    obtain rfl : cA = cG := Option.some.inj e2
    exact kk q H1 hP1 hD1 hS1
end ZNEWQ
