/-! What holds at the start of the law's loop. (written by wip/whole/start.py) -/
def M00 : dp_M := fun h => if h = 6 ∨ h = 23 then ct_st 40 else if h = 13 then ct_fl (nI 20) 6 else ct_z
def s00 : GSt := (0, 0, fun w => w / 2, fun _ => 0, fun _ _ => 0, fun _ => nI 20, fun _ => 0, fun _ _ => 0)
def l00 : LSt := (fun _ => nI 0, fun _ => nI 0, fun _ => nI 0, fun _ => 0, nI 0)
theorem M00_o {h k : Nat} (h1 : h ≠ 6) (h2 : h ≠ 23) (h3 : h ≠ 13) : M00 h k = nI 0 := by
  unfold M00
  rw [if_neg (by omega), if_neg h3]
  rfl
theorem M00_s {w : Nat} (hw : w < 40) : M00 6 w = nI (w / 2) ∧ M00 23 w = nI (w / 2) := by
  refine ⟨?_, ?_⟩
  · show ct_st 40 w = _
    exact if_pos hw
  · show ct_st 40 w = _
    exact if_pos hw
theorem M00_b {c : Nat} (hc : c < 6) : M00 13 c = nI 20 := by
  show ct_fl (nI 20) 6 c = _
  exact if_pos hc
theorem GW00 : GW s00 := ⟨Nat.zero_le _, Nat.zero_le _, fun w hw => (by show w / 2 < 20; omega), fun _ _ => Nat.zero_le _, fun a k _ hk => absurd hk (Nat.not_lt_zero _), fun _ _ => Nat.zero_le _, fun c k _ hk => absurd hk (Nat.not_lt_zero _)⟩
theorem JJ00 : JJ M00 s00 l00 := by
  refine ⟨⟨GW00, fun _ _ _ => rfl, fun _ _ _ => rfl, M00_o (by decide) (by decide) (by decide), M00_o (by decide) (by decide) (by decide), fun w hw => (M00_s hw).1, fun a _ => M00_o (by decide) (by decide) (by decide), fun a k _ hk => absurd hk (Nat.not_lt_zero _), fun a x _ _ => M00_o (by omega) (by omega) (by omega), fun x _ => M00_o (by decide) (by decide) (by decide), fun c _ => M00_o (by decide) (by decide) (by decide), fun c k _ hk => absurd hk (Nat.not_lt_zero _), fun c hc => absurd hc (Nat.not_lt_zero _), fun c _ hc => M00_b hc⟩, ?_, ?_, ?_, ?_⟩
  · exact ⟨fun c _ => (by decide : (0 : Nat) < 2 ^ 16), fun a _ => M00_o (by decide) (by decide) (by decide), fun c _ => ⟨M00_o (by decide) (by decide) (by decide), M00_o (by decide) (by decide) (by decide), M00_o (by decide) (by decide) (by decide)⟩, M00_o (by decide) (by decide) (by decide)⟩
  · exact ⟨GW00, M00_o (by decide) (by decide) (by decide), M00_o (by decide) (by decide) (by decide), fun w hw => (M00_s hw).2, fun a _ => M00_o (by decide) (by decide) (by decide), fun a k _ hk => absurd hk (Nat.not_lt_zero _), fun c _ => M00_o (by decide) (by decide) (by decide), fun c k _ hk => absurd hk (Nat.not_lt_zero _), fun c hc => absurd hc (Nat.not_lt_zero _)⟩
  · exact ⟨fun c _ => (by decide : (0 : Nat) < 2 ^ 16), fun a _ => M00_o (by decide) (by decide) (by decide), fun c _ => ⟨M00_o (by decide) (by decide) (by decide), M00_o (by decide) (by decide) (by decide), M00_o (by decide) (by decide) (by decide)⟩, M00_o (by decide) (by decide) (by decide)⟩
  · exact ⟨fun c _ _ => ⟨rfl, rfl⟩, fun c a _ _ => Nat.zero_testBit a⟩
/-- the addresses by handles -/
def st_l (q : Nat) (u : ct_S3) (mo : Nat) (v : Nat × Nat × Nat) (oo : Nat) : List Nat := [q, u.1.1, u.1.2.1, u.1.2.2.1, u.1.2.2.2.1, u.1.2.2.2.2, u.2.1.1.1, u.2.1.1.2.1, u.2.1.1.2.2.1, u.2.1.1.2.2.2.1, u.2.1.1.2.2.2.2, u.2.2.1.1.1, u.2.2.1.1.2.1, u.2.2.1.1.2.2, u.2.2.2.1.1, u.2.2.2.1.2.1, u.2.2.2.1.2.2.1, u.2.2.2.1.2.2.2, u.2.2.2.2.1, u.2.2.2.2.2.1, u.2.2.2.2.2.2.1, u.2.2.2.2.2.2.2, mo, v.1, v.2.1, v.2.2, oo, u.2.1.2.1 0, u.2.1.2.1 1, u.2.1.2.1 2, u.2.1.2.1 3, u.2.1.2.1 4, u.2.1.2.1 5, u.2.1.2.1 6, u.2.1.2.1 7, u.2.1.2.1 8, u.2.1.2.1 9, u.2.1.2.1 10, u.2.1.2.1 11, u.2.1.2.1 12, u.2.1.2.1 13, u.2.1.2.1 14, u.2.1.2.1 15, u.2.1.2.2 0, u.2.1.2.2 1, u.2.1.2.2 2, u.2.1.2.2 3, u.2.1.2.2 4, u.2.1.2.2 5, u.2.1.2.2 6, u.2.1.2.2 7, u.2.1.2.2 8, u.2.1.2.2 9, u.2.1.2.2 10, u.2.1.2.2 11, u.2.1.2.2 12, u.2.1.2.2 13, u.2.1.2.2 14, u.2.1.2.2 15, u.2.2.1.2 0, u.2.2.1.2 1, u.2.2.1.2 2, u.2.2.1.2 3, u.2.2.1.2 4, u.2.2.1.2 5]
def st_ad (q : Nat) (u : ct_S3) (mo : Nat) (v : Nat × Nat × Nat) (oo b : Nat) : Nat → Nat := fun k => if k = 1000 then b else (st_l q u mo v oo).getD k 0
def st_F : List Nat := [0, 1, 39, 49, 54, 59, 2, 3, 20, 21, 38, 40, 47, 48, 50, 51, 52, 53, 55, 56, 57, 58, 60, 61, 62, 63, 64, 4, 5, 6, 7, 8, 9, 10, 11, 12, 13, 14, 15, 16, 17, 18, 19, 22, 23, 24, 25, 26, 27, 28, 29, 30, 31, 32, 33, 34, 35, 36, 37, 41, 42, 43, 44, 45, 46]
def st_f (k : Nat) : Nat := st_F.getD k 0
theorem st_inj : ∀ i, i < 65 → ∀ j, j < 65 → st_f i = st_f j → i = j := by decide +kernel
abbrev st_oc (g : dp_G) : va_E := .inl (g.2.2.1, 1, .inr (.inl fun j => if j = 0 then (0 : Int64) else 0))
abbrev st_W (g : dp_G) (q : Nat) (u : ct_S3) (mo : Nat) (v : Nat × Nat × Nat) (oo : Nat) : va_W := (out_X3 g q u ++ out_X4 g mo v) ++ [(oo, st_oc g)]
theorem st_out {ad : Nat → Nat} {k N : Nat} {r : Nat → Nat} (h : ∀ j, j < N → ad (k + j) = r j) : dp_out ad k N = fun i => if i < N then some (r i) else none := by
  funext i
  unfold dp_out
  by_cases hi : i < N
  · rw [if_pos hi, if_pos hi, h i hi]
  · rw [if_neg hi, if_neg hi]
section STW
variable {g : dp_G} {q : Nat} {u : ct_S3} {mo : Nat} {v : Nat × Nat × Nat} {oo b : Nat}
theorem st_o7 : dp_out (st_ad q u mo v oo b) 27 16 = fun i => if i < 16 then some (u.2.1.2.1 i) else none := by
  refine st_out (fun j hj => ?_)
  match j, hj with
  | 0, _ => rfl
  | 1, _ => rfl
  | 2, _ => rfl
  | 3, _ => rfl
  | 4, _ => rfl
  | 5, _ => rfl
  | 6, _ => rfl
  | 7, _ => rfl
  | 8, _ => rfl
  | 9, _ => rfl
  | 10, _ => rfl
  | 11, _ => rfl
  | 12, _ => rfl
  | 13, _ => rfl
  | 14, _ => rfl
  | 15, _ => rfl
  | j + 16, hj => exact absurd hj (by omega)
theorem st_o9 : dp_out (st_ad q u mo v oo b) 43 16 = fun i => if i < 16 then some (u.2.1.2.2 i) else none := by
  refine st_out (fun j hj => ?_)
  match j, hj with
  | 0, _ => rfl
  | 1, _ => rfl
  | 2, _ => rfl
  | 3, _ => rfl
  | 4, _ => rfl
  | 5, _ => rfl
  | 6, _ => rfl
  | 7, _ => rfl
  | 8, _ => rfl
  | 9, _ => rfl
  | 10, _ => rfl
  | 11, _ => rfl
  | 12, _ => rfl
  | 13, _ => rfl
  | 14, _ => rfl
  | 15, _ => rfl
  | j + 16, hj => exact absurd hj (by omega)
theorem st_o11 : dp_out (st_ad q u mo v oo b) 59 6 = fun i => if i < 6 then some (u.2.2.1.2 i) else none := by
  refine st_out (fun j hj => ?_)
  match j, hj with
  | 0, _ => rfl
  | 1, _ => rfl
  | 2, _ => rfl
  | 3, _ => rfl
  | 4, _ => rfl
  | 5, _ => rfl
  | j + 6, hj => exact absurd hj (by omega)
set_option maxRecDepth 20000 in
theorem st_at : ∀ k, k < 65 → (st_W g q u mo v oo)[st_f k]? = some (st_ad q u mo v oo b k, dp_cel g (st_ad q u mo v oo b) M00 0 k) := by
  intro k hk
  match k, hk with
  | 0, _ => rfl
  | 1, _ => rfl
  | 2, _ => rfl
  | 3, _ => rfl
  | 4, _ => rfl
  | 5, _ => rfl
  | 6, _ => rfl
  | 7, _ =>
    show _ = some (_, (.inl (g.2.2.2, 16, .inr (.inr (.inr (.inr (dp_out (st_ad q u mo v oo b) 27 16))))) : va_E))
    rw [st_o7]
    rfl
  | 8, _ => rfl
  | 9, _ =>
    show _ = some (_, (.inl (g.2.2.2, 16, .inr (.inr (.inr (.inr (dp_out (st_ad q u mo v oo b) 43 16))))) : va_E))
    rw [st_o9]
    rfl
  | 10, _ => rfl
  | 11, _ =>
    show _ = some (_, (.inl (g.2.2.2, 6, .inr (.inr (.inr (.inr (dp_out (st_ad q u mo v oo b) 59 6))))) : va_E))
    rw [st_o11]
    rfl
  | 12, _ => rfl
  | 13, _ => rfl
  | 14, _ => rfl
  | 15, _ => rfl
  | 16, _ => rfl
  | 17, _ => rfl
  | 18, _ => rfl
  | 19, _ => rfl
  | 20, _ => rfl
  | 21, _ => rfl
  | 22, _ => rfl
  | 23, _ => rfl
  | 24, _ => rfl
  | 25, _ => rfl
  | 26, _ => rfl
  | 27, _ => rfl
  | 28, _ => rfl
  | 29, _ => rfl
  | 30, _ => rfl
  | 31, _ => rfl
  | 32, _ => rfl
  | 33, _ => rfl
  | 34, _ => rfl
  | 35, _ => rfl
  | 36, _ => rfl
  | 37, _ => rfl
  | 38, _ => rfl
  | 39, _ => rfl
  | 40, _ => rfl
  | 41, _ => rfl
  | 42, _ => rfl
  | 43, _ => rfl
  | 44, _ => rfl
  | 45, _ => rfl
  | 46, _ => rfl
  | 47, _ => rfl
  | 48, _ => rfl
  | 49, _ => rfl
  | 50, _ => rfl
  | 51, _ => rfl
  | 52, _ => rfl
  | 53, _ => rfl
  | 54, _ => rfl
  | 55, _ => rfl
  | 56, _ => rfl
  | 57, _ => rfl
  | 58, _ => rfl
  | 59, _ => rfl
  | 60, _ => rfl
  | 61, _ => rfl
  | 62, _ => rfl
  | 63, _ => rfl
  | 64, _ => rfl
  | k + 65, hk => exact absurd hk (by omega)
theorem st_P {H : Heap} (h : va_P g.1 vwCl (st_W g q u mo v oo) H) : va_P g.1 vwCl (dp_wl g (st_ad q u mo v oo b) 65 M00 0) H := by
  refine h.by st_f (fun k x hk => ?_)
  obtain ⟨h1, rfl⟩ := dp_wl_get hk
  exact st_at k h1
theorem st_D {A : Nat → Prop} (h : va_D A (st_W g q u mo v oo)) : va_D A (dp_wl g (st_ad q u mo v oo b) 65 M00 0) := by
  refine h.by st_f (fun k x hk => ?_) (fun i j hi hj e => ?_)
  · obtain ⟨h1, rfl⟩ := dp_wl_get hk
    exact st_at k h1
  · rw [dp_wl_len] at hi hj
    exact st_inj i hi j hj e
end STW
