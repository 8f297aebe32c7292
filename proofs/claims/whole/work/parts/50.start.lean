/-! What holds at the start of the law's loop. -/
def M00 : dp_M := fun h k => if h = 6 ∨ h = 23 then nI (k / 2) else if h = 13 then nI 20 else nI 0
def s00 : GSt := (0, 0, fun w => w / 2, fun _ => 0, fun _ _ => 0, fun _ => nI 20, fun _ => 0, fun _ _ => 0)
def l00 : LSt := (fun _ => nI 0, fun _ => nI 0, fun _ => nI 0, fun _ => 0, nI 0)
theorem M00_o {h k : Nat} (h1 : h ≠ 6) (h2 : h ≠ 23) (h3 : h ≠ 13) : M00 h k = nI 0 := by
  unfold M00
  rw [if_neg (by omega), if_neg h3]
theorem GW00 : GW s00 := ⟨Nat.zero_le _, Nat.zero_le _, fun w hw => (by show w / 2 < 20; omega), fun _ _ => Nat.zero_le _, fun a k _ hk => absurd hk (Nat.not_lt_zero _), fun _ _ => Nat.zero_le _, fun c k _ hk => absurd hk (Nat.not_lt_zero _)⟩
theorem JJ00 : JJ M00 s00 l00 := by
  refine ⟨⟨GW00, fun _ _ _ => rfl, fun _ _ _ => rfl, M00_o (by decide) (by decide) (by decide), M00_o (by decide) (by decide) (by decide), fun w _ => rfl, fun a _ => M00_o (by decide) (by decide) (by decide), fun a k _ hk => absurd hk (Nat.not_lt_zero _), fun a x _ _ => M00_o (by omega) (by omega) (by omega), fun x _ => M00_o (by decide) (by decide) (by decide), fun c _ => M00_o (by decide) (by decide) (by decide), fun c k _ hk => absurd hk (Nat.not_lt_zero _), fun c hc => absurd hc (Nat.not_lt_zero _), fun c _ _ => rfl⟩, ?_, ?_, ?_, ?_⟩
  · exact ⟨fun c _ => (by decide : (0 : Nat) < 2 ^ 16), fun a _ => M00_o (by decide) (by decide) (by decide), fun c _ => ⟨M00_o (by decide) (by decide) (by decide), M00_o (by decide) (by decide) (by decide), M00_o (by decide) (by decide) (by decide)⟩, M00_o (by decide) (by decide) (by decide)⟩
  · exact ⟨GW00, M00_o (by decide) (by decide) (by decide), M00_o (by decide) (by decide) (by decide), fun w _ => rfl, fun a _ => M00_o (by decide) (by decide) (by decide), fun a k _ hk => absurd hk (Nat.not_lt_zero _), fun c _ => M00_o (by decide) (by decide) (by decide), fun c k _ hk => absurd hk (Nat.not_lt_zero _), fun c hc => absurd hc (Nat.not_lt_zero _)⟩
  · exact ⟨fun c _ => (by decide : (0 : Nat) < 2 ^ 16), fun a _ => M00_o (by decide) (by decide) (by decide), fun c _ => ⟨M00_o (by decide) (by decide) (by decide), M00_o (by decide) (by decide) (by decide), M00_o (by decide) (by decide) (by decide)⟩, M00_o (by decide) (by decide) (by decide)⟩
  · exact ⟨fun c _ _ => ⟨rfl, rfl⟩, fun c a _ _ => Nat.zero_testBit a⟩
/-- a world in another order -/
theorem wP_of {D : va_G} {cl : List vw_C} {ws ws' : va_W} {H : Heap} (h : va_P D cl ws H) (hm : ∀ (k : Nat) (q : Nat × va_E), ws'[k]? = some q → ∃ j : Nat, ws[j]? = some q) : va_P D cl ws' H := fun k q hk => by
  obtain ⟨j, hj⟩ := hm k q hk
  exact h j q hj
theorem wD_of {A : Nat → Prop} {ws ws' : va_W} (h : va_D A ws) (f : Nat → Nat) (hf : ∀ i j, i < ws'.length → j < ws'.length → f i = f j → i = j) (hm : ∀ (k : Nat) (q : Nat × va_E), ws'[k]? = some q → ws[f k]? = some q) : va_D A ws' := by
  refine ⟨fun i j p q hi hj e => ?_, fun k q hk => h.2 (f k) q (hm k q hk)⟩
  have h1 : i < ws'.length := (List.getElem?_eq_some_iff.mp hi).1
  have h2 : j < ws'.length := (List.getElem?_eq_some_iff.mp hj).1
  exact hf i j h1 h2 (h.1 _ _ p q (hm i p hi) (hm j q hj) e)
