/-! The reference as seen from one node: its rows cut out, and what its methods do to them -/
abbrev LV : Type := Nat × Nat × Nat × (Nat → Int64) × (Nat → Int64) × (Nat → Int64) × (Nat → Int64) × (Nat → Nat) × Nat × (Nat → Int64) × (Nat → Nat) × (Nat → Int64)
abbrev lSt (L : LV) : Nat := L.1
abbrev lFu (L : LV) : Nat := L.2.1
abbrev lSu (L : LV) : Nat := L.2.2.1
abbrev lOw (L : LV) : Nat → Int64 := L.2.2.2.1
abbrev lEc (L : LV) : Nat → Int64 := L.2.2.2.2.1
abbrev lRe (L : LV) : Nat → Int64 := L.2.2.2.2.2.1
abbrev lAp (L : LV) : Nat → Int64 := L.2.2.2.2.2.2.1
abbrev lFr (L : LV) : Nat → Nat := L.2.2.2.2.2.2.2.1
abbrev lMa (L : LV) : Nat := L.2.2.2.2.2.2.2.2.1
abbrev lHe (L : LV) : Nat → Int64 := L.2.2.2.2.2.2.2.2.2.1
abbrev lHm (L : LV) : Nat → Nat := L.2.2.2.2.2.2.2.2.2.2.1
abbrev lAc (L : LV) : Nat → Int64 := L.2.2.2.2.2.2.2.2.2.2.2
def cut {α : Type} (o : α) (k : Nat) (f : Nat → α) : Nat → α := fun i => if i < k then f i else o
def rv (S : RS) (x : Nat) : LV :=
  (rSt S x, rFu S x, rSu S x, cut 0 5 (fun i => rOw S (5 * x + i)), cut 0 35 (fun i => rEc S (35 * x + i)), cut 0 35 (fun i => rRe S (35 * x + i)), cut 0 35 (fun i => rAp S (35 * x + i)),
   cut 0 7 (fun i => rFr S (7 * x + i)), rMa S x, cut 0 735 (fun i => rHe S (735 * x + i)), cut 0 7 (fun i => rHm S (7 * x + i)), cut 0 35 (fun i => rAc S (35 * x + i)))
theorem cut_same {α : Type} {o v : α} {f : Nat → α} {w i x : Nat} (hi : i < w) : cut o w (fun j => va_up f (w * x + i) v (w * x + j)) = va_up (cut o w (fun j => f (w * x + j))) i v := by
  funext j
  simp only [cut, va_up]
  by_cases h : j = i
  · rw [if_pos h, h, if_pos hi, if_pos rfl]
  · rw [if_neg h, if_neg (show ¬ w * x + j = w * x + i by omega)]
theorem cut_else {α : Type} {o v : α} {f : Nat → α} {w i x y : Nat} (hi : i < w) (hx : y ≠ x) : cut o w (fun j => va_up f (w * x + i) v (w * y + j)) = cut o w (fun j => f (w * y + j)) := by
  funext j
  simp only [cut, va_up]
  by_cases h : j < w
  · rw [if_pos h, if_pos h, if_neg]
    intro e
    have h1 : (w * y + j) / w = y := by rw [Nat.mul_add_div (by omega), Nat.div_eq_of_lt h, Nat.add_zero]
    have h2 : (w * x + i) / w = x := by rw [Nat.mul_add_div (by omega), Nat.div_eq_of_lt hi, Nat.add_zero]
    rw [e, h2] at h1
    exact hx h1.symm
  · rw [if_neg h, if_neg h]
theorem cut_blk {α : Type} {o : α} {f : Nat → α} {w x : Nat} : cut o w (fun j => blk f (w * x) w o (w * x + j)) = fun _ => o := by
  funext j
  simp only [cut, blk]
  by_cases h : j < w
  · rw [if_pos h, if_pos (by omega)]
  · rw [if_neg h]
theorem cut_blkE {α : Type} {o v : α} {f : Nat → α} {w x y : Nat} (hx : y ≠ x) : cut o w (fun j => blk f (w * x) w v (w * y + j)) = cut o w (fun j => f (w * y + j)) := by
  funext j
  simp only [cut, blk]
  by_cases h : j < w
  · rw [if_pos h, if_pos h, if_neg]
    intro ⟨e1, e2⟩
    have h1 : (w * y + j) / w = y := by rw [Nat.mul_add_div (by omega), Nat.div_eq_of_lt h, Nat.add_zero]
    have h2 : (w * y + j) / w = x := by
      have e3 : w * y + j = w * x + (w * y + j - w * x) := by omega
      rw [e3, Nat.mul_add_div (by omega), Nat.div_eq_of_lt (by omega), Nat.add_zero]
    exact hx (h1.symm.trans h2)
  · rw [if_neg h, if_neg h]
theorem up_s {α : Type} {f : Nat → α} {x : Nat} {v : α} : va_up f x v x = v := if_pos rfl
theorem up_e {α : Type} {f : Nat → α} {x y : Nat} {v : α} (h : y ≠ x) : va_up f x v y = f y := if_neg h
/-- S' is S but for the rows of x, which are L' -/
def AtV (x : Nat) (S S' : RS) (L' : LV) : Prop := rv S' x = L' ∧ ∀ y, y ≠ x → rv S' y = rv S y
theorem AtV.trans {x : Nat} {S S' S'' : RS} {L' L'' : LV} (h1 : AtV x S S' L') (h2 : AtV x S' S'' L'') : AtV x S S'' L'' := ⟨h2.1, fun y hy => (h2.2 y hy).trans (h1.2 y hy)⟩
theorem AtV.refl {x : Nat} {S : RS} : AtV x S S (rv S x) := ⟨rfl, fun _ _ => rfl⟩
def lFall (L : LV) : LV := (1, 0, lSu L, lOw L, lEc L, lRe L, lAp L, lFr L, lMa L, fun _ => 0, fun _ => 0, fun _ => 0)
def lBurn (L : LV) : LV := (lSt L, lFu L - 1, L.2.2)
def lUpSt (L : LV) (v : Nat) : LV := (v, L.2)
def lUpFu (L : LV) (v : Nat) : LV := (lSt L, v, L.2.2)
def lUpOw (L : LV) (p : Int64) : LV := (lSt L, lFu L, lSu L + 1, va_up (lOw L) (lSu L) p, L.2.2.2.2)
def lUpEc (L : LV) (i : Nat) (p : Int64) : LV := (lSt L, lFu L, lSu L, lOw L, va_up (lEc L) i p, lRe L, lAp L, lFr L, lMa L, lHe L, lHm L, lAc L)
def lUpRe (L : LV) (i : Nat) (p : Int64) : LV := (lSt L, lFu L, lSu L, lOw L, lEc L, va_up (lRe L) i p, lAp L, lFr L, lMa L, lHe L, lHm L, lAc L)
def lUpMa (L : LV) (v : Nat) : LV := (lSt L, lFu L, lSu L, lOw L, lEc L, lRe L, lAp L, lFr L, v, lHe L, lHm L, lAc L)
def lUpHe (L : LV) (j : Nat) (p : Int64) : LV := (lSt L, lFu L, lSu L, lOw L, lEc L, lRe L, lAp L, lFr L, lMa L, va_up (lHe L) j p, lHm L, lAc L)
def lUpHm (L : LV) (y v : Nat) : LV := (lSt L, lFu L, lSu L, lOw L, lEc L, lRe L, lAp L, lFr L, lMa L, lHe L, va_up (lHm L) y v, lAc L)
def lUpAc (L : LV) (i : Nat) (p : Int64) : LV := (lSt L, lFu L, lSu L, lOw L, lEc L, lRe L, lAp L, lFr L, lMa L, lHe L, lHm L, va_up (lAc L) i p)
def lUpAp (L : LV) (i : Nat) (p : Int64) : LV := (lSt L, lFu L - 1, lSu L, lOw L, lEc L, lRe L, va_up (lAp L) i p, lFr L, lMa L, lHe L, lHm L, va_up (lAc L) i 0)
theorem at_fall {S : RS} {x : Nat} : AtV x S (rFall S x) (lFall (rv S x)) :=
  ⟨by simp only [rv, rSt, rFu, rSu, rOw, rEc, rRe, rAp, rFr, rMa, rHe, rHm, rAc, lSt, lFu, lSu, lOw, lEc, lRe, lAp, lFr, lMa, lHe, lHm, lAc, rFall, lFall, cut_blk, up_s], fun y hy => by simp only [rv, rSt, rFu, rSu, rOw, rEc, rRe, rAp, rFr, rMa, rHe, rHm, rAc, lSt, lFu, lSu, lOw, lEc, lRe, lAp, lFr, lMa, lHe, lHm, lAc, rFall, cut_blkE hy, up_e hy]⟩
theorem at_burn {S : RS} {x : Nat} (h : ¬ rFu S x = 1) : AtV x S (rBurn S x) (lBurn (rv S x)) := by
  rw [rBurn, if_neg h]
  exact ⟨by simp only [rv, rSt, rFu, rSu, rOw, rEc, rRe, rAp, rFr, rMa, rHe, rHm, rAc, lSt, lFu, lSu, lOw, lEc, lRe, lAp, lFr, lMa, lHe, lHm, lAc, lBurn, up_s], fun y hy => by simp only [rv, rSt, rFu, rSu, rOw, rEc, rRe, rAp, rFr, rMa, rHe, rHm, rAc, lSt, lFu, lSu, lOw, lEc, lRe, lAp, lFr, lMa, lHe, lHm, lAc, up_e hy]⟩
theorem at_st {S : RS} {x v : Nat} : AtV x S (rUpSt S x v) (lUpSt (rv S x) v) := ⟨by simp only [rv, rSt, rFu, rSu, rOw, rEc, rRe, rAp, rFr, rMa, rHe, rHm, rAc, lSt, lFu, lSu, lOw, lEc, lRe, lAp, lFr, lMa, lHe, lHm, lAc, rUpSt, lUpSt, up_s], fun y hy => by simp only [rv, rSt, rFu, rSu, rOw, rEc, rRe, rAp, rFr, rMa, rHe, rHm, rAc, lSt, lFu, lSu, lOw, lEc, lRe, lAp, lFr, lMa, lHe, lHm, lAc, rUpSt, up_e hy]⟩
theorem at_fu {S : RS} {x v : Nat} : AtV x S (rUpFu S x v) (lUpFu (rv S x) v) := ⟨by simp only [rv, rSt, rFu, rSu, rOw, rEc, rRe, rAp, rFr, rMa, rHe, rHm, rAc, lSt, lFu, lSu, lOw, lEc, lRe, lAp, lFr, lMa, lHe, lHm, lAc, rUpFu, lUpFu, up_s], fun y hy => by simp only [rv, rSt, rFu, rSu, rOw, rEc, rRe, rAp, rFr, rMa, rHe, rHm, rAc, lSt, lFu, lSu, lOw, lEc, lRe, lAp, lFr, lMa, lHe, lHm, lAc, rUpFu, up_e hy]⟩
theorem at_ma {S : RS} {x v : Nat} : AtV x S (rUpMa S x v) (lUpMa (rv S x) v) := ⟨by simp only [rv, rSt, rFu, rSu, rOw, rEc, rRe, rAp, rFr, rMa, rHe, rHm, rAc, lSt, lFu, lSu, lOw, lEc, lRe, lAp, lFr, lMa, lHe, lHm, lAc, rUpMa, lUpMa, up_s], fun y hy => by simp only [rv, rSt, rFu, rSu, rOw, rEc, rRe, rAp, rFr, rMa, rHe, rHm, rAc, lSt, lFu, lSu, lOw, lEc, lRe, lAp, lFr, lMa, lHe, lHm, lAc, rUpMa, up_e hy]⟩
theorem at_ow {S : RS} {x : Nat} {p : Int64} (h : rSu S x < 5) : AtV x S (rUpOw S x p) (lUpOw (rv S x) p) := ⟨by simp only [rv, rSt, rFu, rSu, rOw, rEc, rRe, rAp, rFr, rMa, rHe, rHm, rAc, lSt, lFu, lSu, lOw, lEc, lRe, lAp, lFr, lMa, lHe, lHm, lAc, rUpOw, lUpOw, up_s, cut_same h], fun y hy => by simp only [rv, rSt, rFu, rSu, rOw, rEc, rRe, rAp, rFr, rMa, rHe, rHm, rAc, lSt, lFu, lSu, lOw, lEc, lRe, lAp, lFr, lMa, lHe, lHm, lAc, rUpOw, up_e hy, cut_else h hy]⟩
theorem at_ec {S : RS} {x i : Nat} {p : Int64} (h : i < 35) : AtV x S (rUpEc S (35 * x + i) p) (lUpEc (rv S x) i p) := ⟨by simp only [rv, rSt, rFu, rSu, rOw, rEc, rRe, rAp, rFr, rMa, rHe, rHm, rAc, lSt, lFu, lSu, lOw, lEc, lRe, lAp, lFr, lMa, lHe, lHm, lAc, rUpEc, lUpEc, cut_same h], fun y hy => by simp only [rv, rSt, rFu, rSu, rOw, rEc, rRe, rAp, rFr, rMa, rHe, rHm, rAc, lSt, lFu, lSu, lOw, lEc, lRe, lAp, lFr, lMa, lHe, lHm, lAc, rUpEc, cut_else h hy]⟩
theorem at_re {S : RS} {x i : Nat} {p : Int64} (h : i < 35) : AtV x S (rUpRe S (35 * x + i) p) (lUpRe (rv S x) i p) := ⟨by simp only [rv, rSt, rFu, rSu, rOw, rEc, rRe, rAp, rFr, rMa, rHe, rHm, rAc, lSt, lFu, lSu, lOw, lEc, lRe, lAp, lFr, lMa, lHe, lHm, lAc, rUpRe, lUpRe, cut_same h], fun y hy => by simp only [rv, rSt, rFu, rSu, rOw, rEc, rRe, rAp, rFr, rMa, rHe, rHm, rAc, lSt, lFu, lSu, lOw, lEc, lRe, lAp, lFr, lMa, lHe, lHm, lAc, rUpRe, cut_else h hy]⟩
theorem at_ac {S : RS} {x i : Nat} {p : Int64} (h : i < 35) : AtV x S (rUpAc S (35 * x + i) p) (lUpAc (rv S x) i p) := ⟨by simp only [rv, rSt, rFu, rSu, rOw, rEc, rRe, rAp, rFr, rMa, rHe, rHm, rAc, lSt, lFu, lSu, lOw, lEc, lRe, lAp, lFr, lMa, lHe, lHm, lAc, rUpAc, lUpAc, cut_same h], fun y hy => by simp only [rv, rSt, rFu, rSu, rOw, rEc, rRe, rAp, rFr, rMa, rHe, rHm, rAc, lSt, lFu, lSu, lOw, lEc, lRe, lAp, lFr, lMa, lHe, lHm, lAc, rUpAc, cut_else h hy]⟩
theorem at_hm {S : RS} {x i v : Nat} (h : i < 7) : AtV x S (rUpHm S (7 * x + i) v) (lUpHm (rv S x) i v) := ⟨by simp only [rv, rSt, rFu, rSu, rOw, rEc, rRe, rAp, rFr, rMa, rHe, rHm, rAc, lSt, lFu, lSu, lOw, lEc, lRe, lAp, lFr, lMa, lHe, lHm, lAc, rUpHm, lUpHm, cut_same h], fun y hy => by simp only [rv, rSt, rFu, rSu, rOw, rEc, rRe, rAp, rFr, rMa, rHe, rHm, rAc, lSt, lFu, lSu, lOw, lEc, lRe, lAp, lFr, lMa, lHe, lHm, lAc, rUpHm, cut_else h hy]⟩
theorem he_ix {x k b q y : Nat} (hk : 1 ≤ k) (hq : 1 ≤ q) : ((x * 3 + k - 1) * 35 + b * 5 + q - 1) * 7 + y = 735 * x + (((k - 1) * 35 + (b * 5 + q - 1)) * 7 + y) := by omega
theorem bq_ix {x b q : Nat} (hq : 1 ≤ q) : (x * 7 + b) * 5 + q - 1 = 35 * x + (b * 5 + q - 1) := by omega
theorem bs_ix {x b s : Nat} : (x * 7 + b) * 5 + s = 35 * x + (b * 5 + s) := by omega
theorem at_he {S : RS} {x y k b q : Nat} {p : Int64} (hk : 1 ≤ k) (hk3 : k ≤ 3) (hb : b < 7) (hq : 1 ≤ q) (hq5 : q ≤ 5) (hy : y < 7) : AtV x S (rV S x y k b q p) (lUpHe (rv S x) (((k - 1) * 35 + (b * 5 + q - 1)) * 7 + y) p) := by
  have h : ((k - 1) * 35 + (b * 5 + q - 1)) * 7 + y < 735 := by omega
  unfold rV
  rw [he_ix hk hq]
  exact ⟨by simp only [rv, rSt, rFu, rSu, rOw, rEc, rRe, rAp, rFr, rMa, rHe, rHm, rAc, lSt, lFu, lSu, lOw, lEc, lRe, lAp, lFr, lMa, lHe, lHm, lAc, lUpHe, cut_same h], fun y' hy' => by simp only [rv, rSt, rFu, rSu, rOw, rEc, rRe, rAp, rFr, rMa, rHe, rHm, rAc, lSt, lFu, lSu, lOw, lEc, lRe, lAp, lFr, lMa, lHe, lHm, lAc, cut_else h hy']⟩
theorem rv_ow {S : RS} {x i : Nat} (h : i < 5) : lOw (rv S x) i = rOw S (5 * x + i) := if_pos h
theorem rv_ec {S : RS} {x i : Nat} (h : i < 35) : lEc (rv S x) i = rEc S (35 * x + i) := if_pos h
theorem rv_re {S : RS} {x i : Nat} (h : i < 35) : lRe (rv S x) i = rRe S (35 * x + i) := if_pos h
theorem rv_ap {S : RS} {x i : Nat} (h : i < 35) : lAp (rv S x) i = rAp S (35 * x + i) := if_pos h
theorem rv_ac {S : RS} {x i : Nat} (h : i < 35) : lAc (rv S x) i = rAc S (35 * x + i) := if_pos h
theorem rv_fr {S : RS} {x i : Nat} (h : i < 7) : lFr (rv S x) i = rFr S (7 * x + i) := if_pos h
theorem rv_hm {S : RS} {x i : Nat} (h : i < 7) : lHm (rv S x) i = rHm S (7 * x + i) := if_pos h
theorem rv_he {S : RS} {x i : Nat} (h : i < 735) : lHe (rv S x) i = rHe S (735 * x + i) := if_pos h
theorem cntB_eq {P Q : Nat → Bool} : ∀ {n : Nat}, (∀ i, i < n → P i = Q i) → cntB P n = cntB Q n
  | 0, _ => rfl
  | n + 1, h => by rw [cntB, cntB, cntB_eq (n := n) (fun i hi => h i (by omega)), h n (by omega)]
theorem allB_eq {P Q : Nat → Bool} : ∀ {n : Nat}, (∀ i, i < n → P i = Q i) → allB P n = allB Q n
  | 0, _ => rfl
  | n + 1, h => by rw [allB, allB, allB_eq (n := n) (fun i hi => h i (by omega)), h n (by omega)]
theorem fstB_eq {P Q : Nat → Bool} : ∀ {k i : Nat}, (∀ j, i ≤ j → j < i + k → P j = Q j) → fstB P k i = fstB Q k i
  | 0, _, _ => rfl
  | k + 1, i, h => by
    rw [fstB, fstB, h i (by omega) (by omega), fstB_eq (k := k) (i := i + 1) (fun j h1 h2 => h j (by omega) (by omega))]
theorem sumN_eq {P Q : Nat → Nat} : ∀ {n : Nat}, (∀ i, i < n → P i = Q i) → sumN P n = sumN Q n
  | 0, _ => rfl
  | n + 1, h => by rw [sumN, sumN, sumN_eq (n := n) (fun i hi => h i (by omega)), h n (by omega)]
def lCnt (L : LV) (b : Nat) : Nat := cntB (fun s => decide (lAp L (b * 5 + s) ≠ 0)) 5
theorem rv_cnt {S : RS} {x b : Nat} (hb : b < 7) : rCnt S x b = lCnt (rv S x) b :=
  cntB_eq (fun s hs => by rw [rv_ap (by omega), bs_ix])
theorem rv_ws {S : RS} {x b c : Nat} {z : Int64} (hc : c < 7) : ∀ {k : Nat}, k ≤ 5 → rWs (rAp S) x b c z k = rWs (lAp (rv S x)) 0 b c z k
  | 0, _ => rfl
  | k + 1, h => by rw [rWs, rWs, rv_ws hc (k := k) (by omega), rv_ap (by omega), show (x * 7 + c) * 5 + k = 35 * x + ((0 * 7 + c) * 5 + k) by omega]
theorem rv_wo {S : RS} {x b : Nat} {z : Int64} : ∀ {n : Nat}, n ≤ 7 → rWo (rAp S) x b z n = rWo (lAp (rv S x)) 0 b z n
  | 0, _ => rfl
  | n + 1, h => by rw [rWo, rWo, rv_wo (n := n) (by omega), rv_ws (by omega) (Nat.le_refl 5)]
def lVal (L : LV) (n : Nat) (z : Int64) (c : Nat) (q : Int64) : Bool := allB (fun b => decide (needN q b ≤ lCnt L b)) n && decide (lN (amtN q) ≤ rWo (lAp L) 0 c z n)
theorem rv_val {S : RS} {n x c : Nat} {z q : Int64} (hn : n ≤ 7) : rVal S n z x c q = lVal (rv S x) n z c q := by
  rw [rVal, lVal, rv_wo hn, allB_eq (Q := fun b => decide (needN q b ≤ lCnt (rv S x) b)) (fun b hb => by rw [rv_cnt (by omega)])]
def lNxt (L : LV) (n : Nat) (z : Int64) (c : Nat) : Bool := decide (lCnt L c < 5) && (decide (lAc L (c * 5 + lCnt L c) ≠ 0) && lVal L n z c (lAc L (c * 5 + lCnt L c)))
def lLst (L : LV) (n : Nat) (z : Int64) : Nat := fstB (lNxt L n z) n 0
theorem rv_nxt {S : RS} {n x c : Nat} {z : Int64} (hn : n ≤ 7) (hc : c < n) : rNxt S n z x c = lNxt (rv S x) n z c := by
  rw [rNxt, lNxt, rv_cnt (by omega)]
  by_cases h : lCnt (rv S x) c < 5
  · rw [rv_ac (by omega), ← bs_ix, rv_val hn]
  · rw [decide_eq_false h, Bool.false_and, Bool.false_and]
theorem rv_lst {S : RS} {n x : Nat} {z : Int64} (hn : n ≤ 7) : rLst S n z x = lLst (rv S x) n z := fstB_eq (fun c _ h => rv_nxt hn (by omega))
theorem fstB_P {P : Nat → Bool} : ∀ {k i : Nat}, fstB P k i < i + k → P (fstB P k i) = true
  | 0, i, h => by simp only [fstB] at h; omega
  | k + 1, i, h => by
    rw [fstB] at h ⊢
    by_cases hp : P i = true
    · rw [if_pos hp]; exact hp
    · rw [if_neg hp] at h ⊢; exact fstB_P (by omega)
theorem fstB_le2 {P : Nat → Bool} : ∀ {k i : Nat}, fstB P k i ≤ i + k
  | 0, i => by simp only [fstB]; omega
  | k + 1, i => by
    rw [fstB]
    have := fstB_le2 (P := P) (k := k) (i := i + 1)
    split <;> omega
theorem lLst_lt {L : LV} {n : Nat} {z : Int64} (h : ¬ lLst L n z = n) : lLst L n z < n ∧ lNxt L n z (lLst L n z) = true := by
  have h1 : fstB (lNxt L n z) n 0 ≤ 0 + n := fstB_le2
  have h2 : lLst L n z < n := by have : lLst L n z ≤ 0 + n := h1; omega
  exact ⟨h2, fstB_P (P := lNxt L n z) (k := n) (i := 0) (by have : lLst L n z < n := h2; unfold lLst at this; omega)⟩
theorem lNxt_of {L : LV} {n c : Nat} {z : Int64} (h : lNxt L n z c = true) : lCnt L c < 5 ∧ lAc L (c * 5 + lCnt L c) ≠ 0 ∧ lVal L n z c (lAc L (c * 5 + lCnt L c)) = true := by
  simp only [lNxt, Bool.and_eq_true, decide_eq_true_eq] at h
  exact h
def lStp (L : LV) (n : Nat) (z : Int64) : LV := lUpAp L (lLst L n z * 5 + lCnt L (lLst L n z)) (lAc L (lLst L n z * 5 + lCnt L (lLst L n z)))
def lApy (n : Nat) (z : Int64) : Nat → Nat → LV → Int32 × LV
  | 0, d, L => (nI d, L)
  | m + 1, d, L => if lLst L n z = n then (nI d, L) else if lFu L = 1 then (-7, lFall L) else lApy n z m (d + 1) (lStp L n z)
theorem at_ap {S : RS} {x i : Nat} {p : Int64} (h : i < 35) : AtV x S (rSt S, va_up (rFu S) x (rFu S x - 1), rSu S, rOw S, rEc S, rRe S, va_up (rAp S) (35 * x + i) p, rFr S, rMa S, rHe S, rHm S, va_up (rAc S) (35 * x + i) 0) (lUpAp (rv S x) i p) :=
  ⟨by simp only [rv, rSt, rFu, rSu, rOw, rEc, rRe, rAp, rFr, rMa, rHe, rHm, rAc, lSt, lFu, lSu, lOw, lEc, lRe, lAp, lFr, lMa, lHe, lHm, lAc, lUpAp, cut_same h, up_s], fun y hy => by simp only [rv, rSt, rFu, rSu, rOw, rEc, rRe, rAp, rFr, rMa, rHe, rHm, rAc, lSt, lFu, lSu, lOw, lEc, lRe, lAp, lFr, lMa, lHe, lHm, lAc, cut_else h hy, up_e hy]⟩
theorem at_stp {S : RS} {n x : Nat} {z : Int64} (hn : n ≤ 7) (h : ¬ rLst S n z x = n) : AtV x S (rStp S n z x) (lStp (rv S x) n z) := by
  rw [rv_lst hn] at h
  obtain ⟨h1, h2⟩ := lLst_lt h
  obtain ⟨h3, -, -⟩ := lNxt_of h2
  have hi : lLst (rv S x) n z * 5 + lCnt (rv S x) (lLst (rv S x) n z) < 35 := by omega
  unfold rStp lStp
  rw [rv_lst hn, rv_cnt (by omega), bs_ix, ← rv_ac hi]
  exact at_ap hi
theorem at_apy {n x : Nat} {z : Int64} (hn : n ≤ 7) : ∀ (m d : Nat) (S : RS), (rApy n z x m d S).1 = (lApy n z m d (rv S x)).1 ∧ AtV x S (rApy n z x m d S).2 (lApy n z m d (rv S x)).2
  | 0, _, _ => ⟨rfl, AtV.refl⟩
  | m + 1, d, S => by
    rw [rApy, lApy]
    by_cases h : rLst S n z x = n
    · rw [if_pos h, if_pos (show lLst (rv S x) n z = n from rv_lst hn ▸ h)]
      exact ⟨rfl, AtV.refl⟩
    · rw [if_neg h, if_neg (show ¬ lLst (rv S x) n z = n from rv_lst hn ▸ h)]
      by_cases h1 : rFu S x = 1
      · rw [if_pos h1, if_pos (show lFu (rv S x) = 1 from h1)]
        exact ⟨rfl, at_fall⟩
      · rw [if_neg h1, if_neg (show ¬ lFu (rv S x) = 1 from h1)]
        have ih := at_apy (x := x) (z := z) hn m (d + 1) (rStp S n z x)
        have hs := at_stp hn h
        rw [hs.1] at ih
        exact ⟨ih.1, hs.trans ih.2⟩
