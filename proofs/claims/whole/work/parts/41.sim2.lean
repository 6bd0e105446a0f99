/-! The reference as seen from one node: freeing, receiving, what is said -/
def lForget (L : LV) (n i : Nat) : LV := (lSt L, lFu L, lSu L, lOw L, va_up (lEc L) i 0, va_up (lRe L) i 0, lAp L, lFr L, lMa L, fun j => if j / 7 % 35 = i ∧ j % 7 < n then 0 else lHe L j, lHm L, lAc L)
theorem fgH_same {S : RS} {n x i : Nat} : cut 0 735 (fun j => fgH S n x i 4 0 (735 * x + j)) = fun j => if j / 7 % 35 = i ∧ j % 7 < n then 0 else cut 0 735 (fun j => rHe S (735 * x + j)) j := by
  funext j
  simp only [cut, fgH]
  by_cases h : j < 735
  · rw [if_pos h, if_pos h]
    by_cases h2 : j / 7 % 35 = i ∧ j % 7 < n
    · rw [if_pos h2, if_pos (by omega)]
    · rw [if_neg h2, if_neg (by omega)]
  · rw [if_neg h, if_neg h]
    split <;> rfl
theorem fgH_else {S : RS} {n x y i : Nat} (h : y ≠ x) : cut 0 735 (fun j => fgH S n x i 4 0 (735 * y + j)) = cut 0 735 (fun j => rHe S (735 * y + j)) := by
  funext j
  simp only [cut, fgH]
  by_cases hj : j < 735
  · rw [if_pos hj, if_pos hj, if_neg (by omega)]
  · rw [if_neg hj, if_neg hj]
theorem at_fg {S : RS} {n x i : Nat} (h : i < 35) : AtV x S (rSt S, rFu S, rSu S, rOw S, va_up (rEc S) (35 * x + i) 0, va_up (rRe S) (35 * x + i) 0, rAp S, rFr S, rMa S, fgH S n x i 4 0, rHm S, rAc S) (lForget (rv S x) n i) :=
  ⟨by simp only [rv, rSt, rFu, rSu, rOw, rEc, rRe, rAp, rFr, rMa, rHe, rHm, rAc, lSt, lFu, lSu, lOw, lEc, lRe, lAp, lFr, lMa, lHe, lHm, lAc, lForget, cut_same h]; rw [fgH_same], fun y hy => by simp only [rv, rSt, rFu, rSu, rOw, rEc, rRe, rAp, rFr, rMa, rHe, rHm, rAc, lSt, lFu, lSu, lOw, lEc, lRe, lAp, lFr, lMa, lHe, lHm, lAc, cut_else h hy]; rw [fgH_else hy]⟩
theorem at_forget {S : RS} {n x b q : Nat} (hb : b < 7) (hq : 1 ≤ q) (hq5 : q ≤ 5) : AtV x S (rForget S n x b q) (lForget (rv S x) n (b * 5 + q - 1)) := by
  unfold rForget
  rw [bq_ix hq]
  exact at_fg (by omega)
def lForgets (n b k : Nat) : Nat → LV → LV
  | 0, L => L
  | m + 1, L => lForget (lForgets n b k m L) n (b * 5 + (k + m))
theorem at_forgets {n x b k : Nat} (hb : b < 7) : ∀ (m : Nat) (S : RS), (0 < m → k + m ≤ 5) → AtV x S (rForgets n x b k m S) (lForgets n b k m (rv S x))
  | 0, _, _ => AtV.refl
  | m + 1, S, h => by
    have ih := at_forgets (n := n) (x := x) (b := b) (k := k) hb m S (fun _ => by have := h (by omega); omega)
    have h1 := at_forget (S := rForgets n x b k m S) (n := n) (x := x) (b := b) (q := k + 1 + m) hb (by omega) (by have := h (by omega); omega)
    rw [ih.1, show b * 5 + (k + 1 + m) - 1 = b * 5 + (k + m) by omega] at h1
    exact ih.trans h1
def lUpFr (L : LV) (b v : Nat) : LV := (lSt L, lFu L, lSu L, lOw L, lEc L, lRe L, lAp L, va_up (lFr L) b v, lMa L, lHe L, lHm L, lAc L)
def rUpFr (S : RS) (i v : Nat) : RS := (rSt S, rFu S, rSu S, rOw S, rEc S, rRe S, rAp S, va_up (rFr S) i v, rMa S, rHe S, rHm S, rAc S)
theorem at_fr {S : RS} {x i v : Nat} (h : i < 7) : AtV x S (rUpFr S (7 * x + i) v) (lUpFr (rv S x) i v) := ⟨by simp only [rv, rSt, rFu, rSu, rOw, rEc, rRe, rAp, rFr, rMa, rHe, rHm, rAc, lSt, lFu, lSu, lOw, lEc, lRe, lAp, lFr, lMa, lHe, lHm, lAc, rUpFr, lUpFr, cut_same h], fun y hy => by simp only [rv, rSt, rFu, rSu, rOw, rEc, rRe, rAp, rFr, rMa, rHe, rHm, rAc, lSt, lFu, lSu, lOw, lEc, lRe, lAp, lFr, lMa, lHe, lHm, lAc, rUpFr, cut_else h hy]⟩
def lFreeC (n v b : Nat) (L : LV) : LV := lUpFr (lForgets n b (lFr L b) (rDg v b - lFr L b) L) b (max (lFr L b) (rDg v b))
theorem at_freeC {S : RS} {n x v b : Nat} (hb : b < 7) (hd : rDg v b ≤ 5) : AtV x S (rFreeC n x v b S) (lFreeC n v b (rv S x)) := by
  rw [rFreeC_eq]
  have h1 := at_forgets (n := n) (x := x) (b := b) (k := rFr S (7 * x + b)) hb (rDg v b - rFr S (7 * x + b)) S (fun _ => by omega)
  have h2 := at_fr (S := rForgets n x b (rFr S (7 * x + b)) (rDg v b - rFr S (7 * x + b)) S) (x := x) (i := b) (v := max (rFr S (7 * x + b)) (rDg v b)) hb
  rw [h1.1] at h2
  unfold lFreeC
  rw [rv_fr hb]
  exact h1.trans h2
def lFreeTo (n v : Nat) : Nat → LV → LV
  | 0, L => L
  | k + 1, L => lFreeC n v k (lFreeTo n v k L)
theorem at_freeTo {n x v : Nat} : ∀ (k : Nat) (S : RS), k ≤ 7 → (∀ b, b < k → rDg v b ≤ 5) → AtV x S (rFreeTo n x v k S) (lFreeTo n v k (rv S x))
  | 0, _, _, _ => AtV.refl
  | k + 1, S, hk, hd => by
    have ih := at_freeTo (n := n) (x := x) (v := v) k S (by omega) (fun b hb => hd b (by omega))
    have h1 := at_freeC (S := rFreeTo n x v k S) (n := n) (x := x) (v := v) (b := k) (by omega) (hd k (by omega))
    rw [ih.1] at h1
    exact ih.trans h1
def lSame (L : LV) (n : Nat) : Nat := cntB (fun y => decide (0 < lMa L ∧ lHm L y = lMa L)) n
theorem rv_same {S : RS} {n x : Nat} (hn : n ≤ 7) : rSame S n x = lSame (rv S x) n := cntB_eq (fun y hy => by rw [rv_hm (by omega)]; rfl)
def lRel (L : LV) (n f : Nat) : LV := if lSame L n < 2 * f + 1 then L else lFreeTo n (lMa L - 1) n L
theorem at_rel {S : RS} {n f x : Nat} (hn : n ≤ 7) (hm : rMa S x = 0 ∨ ∀ b, b < n → rDg (rMa S x - 1) b ≤ 5) : AtV x S (rRel S n f x) (lRel (rv S x) n f) := by
  unfold rRel lRel
  rw [rv_same hn]
  by_cases h : lSame (rv S x) n < 2 * f + 1
  · rw [if_pos h, if_pos h]; exact AtV.refl
  · rw [if_neg h, if_neg h]
    refine at_freeTo n S hn ?_
    rcases hm with h0 | h0
    · exfalso
      rw [← rv_same hn] at h
      have := rSame_pos (S := S) (n := n) (x := x) (by omega)
      omega
    · exact h0
def lMany (L : LV) (n k i : Nat) (p : Int64) : Nat := cntB (fun y => decide (lHe L (((k - 1) * 35 + i) * 7 + y) = p)) n
theorem rv_many {S : RS} {n x k b q : Nat} {p : Int64} (hn : n ≤ 7) (hk : 1 ≤ k) (hk3 : k ≤ 3) (hb : b < 7) (hq : 1 ≤ q) (hq5 : q ≤ 5) : rMany S n x k b q p = lMany (rv S x) n k (b * 5 + q - 1) p :=
  cntB_eq (fun y hy => by rw [rv_he (by omega), he_ix hk hq])
def lRdy (L : LV) (n f k i : Nat) (p : Int64) : Bool := decide (lRe L i = 0) && ((decide (k = 1) && decide ((n + f) / 2 + 1 ≤ lMany L n 1 i p)) || (decide (k = 2) && decide (f + 1 ≤ lMany L n 2 i p)))
def lAq (L : LV) (n f i : Nat) (p : Int64) : Bool := decide (lCnt L (i / 5) < i % 5 + 1) && (decide (lAc L i = 0) && (decide (2 * f + 1 ≤ lMany L n 2 i p) || decide (f + 1 ≤ lMany L n 3 i p)))
theorem rv_rdy {S : RS} {n f x k b q : Nat} {p : Int64} (hn : n ≤ 7) (hb : b < 7) (hq : 1 ≤ q) (hq5 : q ≤ 5) : rRdy S n f x k b q p = lRdy (rv S x) n f k (b * 5 + q - 1) p := by
  rw [rRdy, lRdy, rv_many hn (by omega) (by omega) hb hq hq5, rv_many hn (by omega) (by omega) hb hq hq5, rv_re (by omega), bq_ix hq]
theorem rv_aq {S : RS} {n f x b q : Nat} {p : Int64} (hn : n ≤ 7) (hb : b < 7) (hq : 1 ≤ q) (hq5 : q ≤ 5) : rAq S n f x b q p = lAq (rv S x) n f (b * 5 + q - 1) p := by
  rw [rAq, lAq, rv_many hn (by omega) (by omega) hb hq hq5, rv_many hn (by omega) (by omega) hb hq hq5, rv_ac (by omega), bq_ix hq, rv_cnt hb, show (b * 5 + q - 1) / 5 = b by omega, show (b * 5 + q - 1) % 5 + 1 = q by omega]
abbrev lHi (k i y : Nat) : Nat := ((k - 1) * 35 + i) * 7 + y
def lMid (L : LV) (n f k i : Nat) (p : Int64) : LV := if lRdy L n f k i p = true then lUpRe (lBurn L) i p else L
def lAcq (L : LV) (n f i : Nat) (p : Int64) : LV := if lAq L n f i p = true then lUpAc L i p else L
def lTk (L : LV) (n f : Nat) (z : Int64) (y k i : Nat) (p : Int64) : Int32 × LV :=
  if k = 0 then (if lFu L = 1 then (-7, lFall L) else (0, lUpEc (lBurn L) i p))
  else if lRdy (lUpHe L (lHi k i y) p) n f k i p = true ∧ lFu L = 1 then (-7, lFall (lUpHe L (lHi k i y) p))
  else lApy n z 36 0 (lAcq (lMid (lUpHe L (lHi k i y) p) n f k i p) n f i p)
theorem at_tk {S : RS} {n f x y k b q : Nat} {z p : Int64} (hn : n ≤ 7) (hy : y < 7) (hk : k ≤ 3) (hb : b < 7) (hq : 1 ≤ q) (hq5 : q ≤ 5) : (rTk S n f z x y k b q p).1 = (lTk (rv S x) n f z y k (b * 5 + q - 1) p).1 ∧ AtV x S (rTk S n f z x y k b q p).2 (lTk (rv S x) n f z y k (b * 5 + q - 1) p).2 := by
  unfold rTk lTk
  have hi : b * 5 + q - 1 < 35 := by omega
  by_cases h0 : k = 0
  · rw [if_pos h0, if_pos h0]
    by_cases h1 : rFu S x = 1
    · rw [if_pos h1, if_pos (show lFu (rv S x) = 1 from h1)]
      exact ⟨rfl, at_fall⟩
    · rw [if_neg h1, if_neg (show ¬ lFu (rv S x) = 1 from h1)]
      have e1 := at_burn h1
      have e2 := at_ec (S := rBurn S x) (x := x) (p := p) hi
      rw [e1.1] at e2
      rw [bq_ix hq]
      exact ⟨rfl, e1.trans e2⟩
  · rw [if_neg h0, if_neg h0]
    have eV := at_he (S := S) (x := x) (y := y) (k := k) (b := b) (q := q) (p := p) (by omega) hk hb hq hq5 hy
    have hR : rRdy (rV S x y k b q p) n f x k b q p = lRdy (lUpHe (rv S x) (lHi k (b * 5 + q - 1) y) p) n f k (b * 5 + q - 1) p := by rw [rv_rdy hn hb hq hq5, eV.1]
    have hF : rFu (rV S x y k b q p) x = rFu S x := rfl
    rw [hR]
    by_cases h1 : lRdy (lUpHe (rv S x) (lHi k (b * 5 + q - 1) y) p) n f k (b * 5 + q - 1) p = true ∧ rFu S x = 1
    · rw [if_pos h1, if_pos (show _ ∧ lFu (rv S x) = 1 from h1)]
      have e := at_fall (S := rV S x y k b q p) (x := x)
      rw [eV.1] at e
      exact ⟨rfl, eV.trans e⟩
    · rw [if_neg h1, if_neg (show ¬ (_ ∧ lFu (rv S x) = 1) from h1)]
      have eZ : AtV x S (if lRdy (lUpHe (rv S x) (lHi k (b * 5 + q - 1) y) p) n f k (b * 5 + q - 1) p = true then rUpRe (rBurn (rV S x y k b q p) x) ((x * 7 + b) * 5 + q - 1) p else rV S x y k b q p) (lMid (lUpHe (rv S x) (lHi k (b * 5 + q - 1) y) p) n f k (b * 5 + q - 1) p) := by
        unfold lMid
        by_cases h2 : lRdy (lUpHe (rv S x) (lHi k (b * 5 + q - 1) y) p) n f k (b * 5 + q - 1) p = true
        · rw [if_pos h2, if_pos h2, bq_ix hq]
          have e1 := at_burn (S := rV S x y k b q p) (x := x) (fun e => h1 ⟨h2, e⟩)
          rw [eV.1] at e1
          have e2 := at_re (S := rBurn (rV S x y k b q p) x) (x := x) (p := p) hi
          rw [e1.1] at e2
          exact (eV.trans e1).trans e2
        · rw [if_neg h2, if_neg h2]; exact eV
      generalize (if lRdy (lUpHe (rv S x) (lHi k (b * 5 + q - 1) y) p) n f k (b * 5 + q - 1) p = true then rUpRe (rBurn (rV S x y k b q p) x) ((x * 7 + b) * 5 + q - 1) p else rV S x y k b q p) = Z at eZ ⊢
      generalize lMid (lUpHe (rv S x) (lHi k (b * 5 + q - 1) y) p) n f k (b * 5 + q - 1) p = ZL at eZ ⊢
      have eA : AtV x S (if rAq Z n f x b q p = true then rUpAc Z ((x * 7 + b) * 5 + q - 1) p else Z) (lAcq ZL n f (b * 5 + q - 1) p) := by
        unfold lAcq
        rw [rv_aq hn hb hq hq5, eZ.1]
        by_cases h2 : lAq ZL n f (b * 5 + q - 1) p = true
        · rw [if_pos h2, if_pos h2, bq_ix hq]
          have e2 := at_ac (S := Z) (x := x) (p := p) hi
          rw [eZ.1] at e2
          exact eZ.trans e2
        · rw [if_neg h2, if_neg h2]; exact eZ
      show (rApy n z x 36 0 (if rAq Z n f x b q p = true then rUpAc Z ((x * 7 + b) * 5 + q - 1) p else Z)).1 = _ ∧ AtV x S (rApy n z x 36 0 (if rAq Z n f x b q p = true then rUpAc Z ((x * 7 + b) * 5 + q - 1) p else Z)).2 _
      generalize (if rAq Z n f x b q p = true then rUpAc Z ((x * 7 + b) * 5 + q - 1) p else Z) = W at eA ⊢
      have e := at_apy (x := x) (z := z) hn 36 0 W
      rw [eA.1] at e
      exact ⟨e.1, eA.trans e.2⟩
def lOb (L : LV) (n y k i : Nat) (p : Int64) : Int32 :=
  if wfP p (i / 5) n = false then -3
  else if k = 0 ∧ y ≠ i / 5 then -4
  else if i % 5 + 1 ≤ lFr L (i / 5) then -5
  else if (if k = 0 then lEc L i else lHe L (lHi k i y)) = 0 then 0 else -6
def lObj (L : LV) (n y t : Nat) (p : Int64) : Int32 :=
  if t = 140 then (if isMk p n = false then -3 else if lN (lHm L y) = p + 1 then -6 else 0)
  else lOb L n y (t / 35) (t % 35) p
theorem rv_obj {S : RS} {n x y t : Nat} {p : Int64} (hy : y < 7) (ht : t ≤ 140) : rObj S n x y t p = lObj (rv S x) n y t p := by
  unfold rObj lObj
  by_cases h : t = 140
  · rw [if_pos h, if_pos h, rv_hm hy]
  · rw [if_neg h, if_neg h, rOb0, lOb, rv_fr (by omega), show t % 35 % 5 + 1 = t % 5 + 1 by omega]
    by_cases h0 : t / 35 = 0
    · rw [if_pos h0, if_pos h0, rv_ec (by omega), show (x * 7 + t % 35 / 5) * 5 + (t % 5 + 1) - 1 = 35 * x + t % 35 by omega]
    · rw [if_neg h0, if_neg h0, rv_he (by unfold lHi; omega), he_ix (by omega) (by omega), show t % 35 / 5 * 5 + (t % 5 + 1) - 1 = t % 35 by omega]
def lRv (L : LV) (n f : Nat) (z : Int64) (y t : Nat) (p : Int64) : Int32 × LV :=
  if ¬ lObj L n y t p = 0 then (lObj L n y t p, L)
  else if t = 140 then (0, lRel (lUpHm L y (pn p + 1)) n f)
  else lTk L n f z y (t / 35) (t % 35) p
theorem at_rv {S : RS} {n f x y t : Nat} {z p : Int64} (hn : n ≤ 7) (hy : y < 7) (ht : t ≤ 140) (hm : rMa S x = 0 ∨ ∀ b, b < n → rDg (rMa S x - 1) b ≤ 5) : (rRv S n f z x y t p).1 = (lRv (rv S x) n f z y t p).1 ∧ AtV x S (rRv S n f z x y t p).2 (lRv (rv S x) n f z y t p).2 := by
  unfold rRv lRv
  rw [rv_obj hy ht]
  by_cases h : lObj (rv S x) n y t p = 0
  · have hnn : ¬ ¬ lObj (rv S x) n y t p = 0 := fun w => w h
    rw [if_neg hnn, if_neg hnn]
    by_cases h4 : t = 140
    · rw [if_pos h4, if_pos h4]
      have e1 := at_hm (S := S) (x := x) (v := pn p + 1) hy
      have e2 := at_rel (S := rUpHm S (7 * x + y) (pn p + 1)) (n := n) (f := f) (x := x) hn hm
      rw [e1.1] at e2
      exact ⟨rfl, e1.trans e2⟩
    · rw [if_neg h4, if_neg h4]
      have e := at_tk (S := S) (n := n) (f := f) (x := x) (y := y) (k := t / 35) (b := t % 35 / 5) (q := t % 5 + 1) (z := z) (p := p) hn hy (by omega) (by omega) (by omega) (by omega)
      rw [show t % 35 / 5 * 5 + (t % 5 + 1) - 1 = t % 35 by omega] at e
      exact e
  · rw [if_pos h, if_pos h]
    exact ⟨rfl, AtV.refl⟩
def lSd0 (L : LV) (me k i : Nat) : Int64 :=
  if k = 3 then lAp L i
  else if lFr L (i / 5) < i % 5 + 1 then
    (if k = 1 then lEc L i else if k = 2 then lRe L i else if me = i / 5 ∧ i % 5 + 1 ≤ lSu L then lOw L (i % 5) else 0)
  else 0
def m1 (p : Int64) : Int64 := if p = 0 then -1 else p
def lSaid (L : LV) (me t : Nat) : Int64 := if t = 140 then lN (lMa L) - 1 else m1 (lSd0 L me (t / 35) (t % 35))
theorem rv_said {S : RS} {x t : Nat} (ht : t ≤ 140) : rSaid S x t = lSaid (rv S x) x t := by
  unfold rSaid lSaid
  by_cases h : t = 140
  · rw [if_pos h, if_pos h]; rfl
  · rw [if_neg h, if_neg h]
    have e : rSd0 S x (t / 35) (t % 35 / 5) (t % 5 + 1) = lSd0 (rv S x) x (t / 35) (t % 35) := by
      unfold rSd0 lSd0
      rw [rv_ap (by omega), rv_fr (by omega), rv_ec (by omega), rv_re (by omega), rv_ow (by omega), show (x * 7 + t % 35 / 5) * 5 + (t % 5 + 1) - 1 = 35 * x + t % 35 by omega, show t % 35 % 5 = t % 5 by omega, show 5 * x + (t % 5 + 1) - 1 = 5 * x + t % 5 by omega]
      rfl
    rw [e]
    rfl
