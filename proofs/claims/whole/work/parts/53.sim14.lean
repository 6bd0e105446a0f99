/-! The relation holds of new objects -/
theorem m1N : m1 (0 : Int64) = -1 := rfl
theorem cut_c {α : Type} {o : α} {k : Nat} : cut o k (fun _ => o) = fun _ => o := by
  funext j
  unfold cut
  split <;> rfl
theorem rv_new (x : Nat) : rv rNew x = (0, 0, 0, fun _ => 0, fun _ => 0, fun _ => 0, fun _ => 0, fun _ => 0, 0, fun _ => 0, fun _ => 0, fun _ => 0) := by
  show (0, 0, 0, cut 0 5 (fun _ => (0 : Int64)), cut 0 35 (fun _ => (0 : Int64)), cut 0 35 (fun _ => (0 : Int64)), cut 0 35 (fun _ => (0 : Int64)), cut 0 7 (fun _ => (0 : Nat)), 0, cut 0 735 (fun _ => (0 : Int64)), cut 0 7 (fun _ => (0 : Nat)), cut 0 35 (fun _ => (0 : Int64))) = _
  simp only [cut_c]
def lNew : LV := (0, 0, 0, fun _ => 0, fun _ => 0, fun _ => 0, fun _ => 0, fun _ => 0, 0, fun _ => 0, fun _ => 0, fun _ => 0)
theorem new_cnt (b : Nat) : lCnt lNew b = 0 := cntB_0 (fun _ => rfl) 5
theorem new_said {me t : Nat} (ht : t ≤ 140) : lSaid lNew me t = -1 := by
  rcases t_cases ht with rfl | ⟨ht1, e | e | e | e⟩
  · rfl
  · rw [said_k ht1, e, sd_0]
    split
    · split <;> rfl
    · rfl
  · rw [said_k ht1, e, sd_1]; split <;> rfl
  · rw [said_k ht1, e, sd_2]; split <;> rfl
  · rw [said_k ht1, e, sd_3]; rfl
theorem new_ws {b c : Nat} {z : Int64} : ∀ k, rWs (fun _ => 0) 0 b c z k = z
  | 0 => rfl
  | k + 1 => by rw [rWs, new_ws k, wAdd_0 rfl]
theorem new_wo {b : Nat} {z : Int64} : ∀ k, rWo (fun _ => 0) 0 b z k = z
  | 0 => rfl
  | k + 1 => by rw [rWo, new_wo k, new_ws]
theorem sim_new (nd sd : Int32) : Sim (cN nd) ((cN nd - 1) / 3) (cZ sd) 0 (fun _ => nNew (cZ sd)) rNew := by
  have hb := cN_b nd
  have e : ∀ x, rv rNew x = lNew := rv_new
  refine ⟨⟨hb.1, hb.2, rfl⟩, ⟨(cntB_0 (fun _ => rfl) _).symm, Nat.zero_le _⟩, fun x hx => ⟨⟨⟨⟨Nat.zero_le _, Nat.zero_le _, Nat.zero_le _, fun _ => Nat.zero_le _, fun _ => Nat.zero_le _⟩, fun i _ w => absurd rfl w, Or.inl rfl⟩, fun _ _ => rfl⟩, ?_, ?_⟩, ⟨⟨fun _ => Nat.zero_le _, fun _ => Nat.zero_le _, fun _ => Nat.zero_le _, fun _ => Nat.zero_le _, fun _ => Nat.zero_le _, fun _ => Nat.zero_le _⟩, fun _ _ => Or.inl rfl⟩, fun x hx _ => ?_⟩
  · rw [e]
    exact ⟨⟨rfl, rfl, rfl⟩, fun t ht => (new_said ht).symm, ⟨fun b _ => (new_cnt b).symm, fun _ _ => rfl, fun b _ => (new_wo _).symm⟩, ⟨fun _ _ _ _ _ _ _ => rfl, fun _ _ => rfl⟩, fun _ _ => rfl⟩
  · rw [e]
    refine ⟨⟨Nat.zero_le _, Nat.zero_le _, fun _ => Nat.zero_le _⟩, fun b s _ _ => ?_, fun _ _ _ => ⟨⟨rfl, rfl, rfl⟩, fun _ _ _ _ _ => rfl⟩, ⟨fun _ _ w => absurd rfl w, fun _ _ w => absurd rfl w, fun _ _ w => absurd rfl w, fun _ _ w => absurd rfl w⟩, fun s w => absurd w (Nat.not_lt_zero s), fun _ => (show (0 : Int64) ≠ -1 by decide), Or.inl rfl, fun _ _ => Nat.zero_le _, fun _ _ w => ?_⟩
    · rw [new_cnt]; exact ⟨fun w => absurd rfl w, fun w => absurd w (Nat.not_lt_zero s)⟩
    · exact w.elim (fun a => absurd rfl a) (fun a => absurd rfl a)
  · rw [e]
    intro a s _ _ _
    refine ⟨fun w => ?_, fun _ _ _ _ _ _ w => absurd rfl w⟩
    rcases w with w | w | w | w <;> exact absurd rfl w
