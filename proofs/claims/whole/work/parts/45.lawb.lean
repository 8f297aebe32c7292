/-! The law: what holds between calls. (written by wip/whole/lawb.py) -/
def JJ (M : dp_M) (s : GSt) (l : LSt) : Prop := CG M s ∧ CLn M l ∧ RG M s ∧ RLt M l ∧ WFL s l
theorem RG_wC {M M' : dp_M} {s : GSt} (hF : Fr wC M M') (h : RG M s) : RG M' s := h.congr (fun h k a1 a2 _ _ _ => hF h k (fun z => by simp only [wC] at z; omega))
theorem RLt_wC {M M' : dp_M} {l : LSt} (hF : Fr wC M M') (h : RLt M l) : RLt M' l := h.congr (fun h k a1 a2 _ _ _ => hF h k (fun z => by simp only [wC] at z; omega))
theorem CG_wR {M M' : dp_M} {s : GSt} (hF : Fr wR M M') (h : CG M s) : CG M' s := h.congr (fun h k a => hF h k (fun z => by simp only [wR] at z; omega))
theorem CL_wR {M M' : dp_M} {l : LSt} (hF : Fr wR M M') (h : CLn M l) : CLn M' l := CL_n_congr (fun h k a => hF h k (fun z => by simp only [wR] at z; simp only [wL_n] at a; omega)) h
theorem JJ_next {M2 M3 : dp_M} {u : Out} {M : dp_M} (hA : CA M M2 u) (hB : RA M2 M3 u) (hw : WFL (u_s u) (u_l u)) : JJ M3 (u_s u) (u_l u) := ⟨CG_wR hB.1 hA.2.1, CL_wR hB.1 hA.2.2, hB.2.1, hB.2.2.1, hw⟩
theorem lgc {a : Int64} : lg_cmp a a = 0 := by
  unfold lg_cmp
  simp
theorem law_ge {n i : Nat} (hn : n < 2 ^ 31) (hi : i < 2 ^ 31) : ¬ nI n - nI 3 < nI i ↔ i + 3 ≤ n := by
  by_cases h : 3 ≤ n
  · rw [pk_sub h, nI_ltI (by omega) hi]
    omega
  · have h2 : nI n - nI 3 < 0 := by
      rcases (by omega : n = 0 ∨ n = 1 ∨ n = 2) with rfl | rfl | rfl <;> decide
    have h3 : nI n - nI 3 < nI i := Int32.lt_of_lt_of_le h2 (nI_pos' hi)
    constructor
    · intro z
      exact absurd h3 z
    · intro z
      omega
theorem wfl_setStem {s : GSt} {l : LSt} {x y : Int32} (h : WFL s l) (hW : GW s) : WFL (u_s (fc_setStem s l x y)) (u_l (fc_setStem s l x y)) := by
  unfold fc_setStem
  (repeat' split) <;> first | exact h
theorem wfl_write {s : GSt} {l : LSt} {x y : Int32} (h : WFL s l) (hW : GW s) : WFL (u_s (fc_write s l x y)) (u_l (fc_write s l x y)) := by
  unfold fc_write
  (repeat' split) <;> first | exact h
theorem wfl_strike {s : GSt} {l : LSt} {x y : Int32} (h : WFL s l) (hW : GW s) : WFL (u_s (fc_strike s l x y)) (u_l (fc_strike s l x y)) := by
  unfold fc_strike
  (repeat' split) <;> first | exact h
theorem wfl_want {s : GSt} {l : LSt} {x y : Int32} (h : WFL s l) (hW : GW s) : WFL (u_s (fc_want s l x y)) (u_l (fc_want s l x y)) := by
  unfold fc_want
  (repeat' split) <;> first | exact h
theorem wfl_drop {s : GSt} {l : LSt} {x y : Int32} (h : WFL s l) (hW : GW s) : WFL (u_s (fc_drop s l x y)) (u_l (fc_drop s l x y)) := by
  unfold fc_drop
  (repeat' split) <;> first | exact h
theorem wfl_setBar {s : GSt} {l : LSt} {x y : Int32} (h : WFL s l) (hW : GW s) : WFL (u_s (fc_setBar s l x y)) (u_l (fc_setBar s l x y)) := by
  unfold fc_setBar
  (repeat' split) <;> first | exact h
theorem wfl_pay {s : GSt} {l : LSt} {x y : Int32} (h : WFL s l) (hW : GW s) : WFL (u_s (fc_pay s l x y)) (u_l (fc_pay s l x y)) := by
  unfold fc_pay
  (repeat' split) <;> first | exact h
theorem wfl_told {s : GSt} {l : LSt} {x y : Int32} (h : WFL s l) (hW : GW s) : WFL (u_s (fc_told s l x y)) (u_l (fc_told s l x y)) := by
  unfold fc_told
  (repeat' split) <;> first | exact h
theorem wfl_word {s : GSt} {l : LSt} {x y : Int32} (h : WFL s l) (hW : GW s) : WFL (u_s (fc_word s l x y)) (u_l (fc_word s l x y)) := by
  unfold fc_word
  (repeat' split) <;> first | exact h
theorem wfl_about {s : GSt} {l : LSt} {x y : Int32} (h : WFL s l) (hW : GW s) : WFL (u_s (fc_about s l x y)) (u_l (fc_about s l x y)) := by
  unfold fc_about
  (repeat' split) <;> first | exact h
theorem wfl_stem {s : GSt} {l : LSt} {x y : Int32} (h : WFL s l) (hW : GW s) : WFL (u_s (fc_stem s l x y)) (u_l (fc_stem s l x y)) := by
  unfold fc_stem
  (repeat' split) <;> first | exact h
theorem wfl_score {s : GSt} {l : LSt} {x y : Int32} (h : WFL s l) (hW : GW s) : WFL (u_s (fc_score s l x y)) (u_l (fc_score s l x y)) := by
  unfold fc_score
  (repeat' split) <;> first | exact h
theorem wfl_fit {s : GSt} {l : LSt} {x y : Int32} (h : WFL s l) (hW : GW s) : WFL (u_s (fc_fit s l x y)) (u_l (fc_fit s l x y)) := by
  unfold fc_fit
  (repeat' split) <;> first | exact h
theorem wfl_alike {s : GSt} {l : LSt} {x y : Int32} (h : WFL s l) (hW : GW s) : WFL (u_s (fc_alike s l x y)) (u_l (fc_alike s l x y)) := by
  unfold fc_alike
  (repeat' split) <;> first | exact h
theorem wfl_foresee {s : GSt} {l : LSt} {x y : Int32} (h : WFL s l) (hW : GW s) : WFL (u_s (fc_foresee s l x y)) (u_l (fc_foresee s l x y)) := by
  unfold fc_foresee
  (repeat' split) <;> first | exact h
theorem wfl_client {s : GSt} {l : LSt} {x : Int32} (h : WFL s l) (hW : GW s) : WFL (u_s (fc_client s l x)) (u_l (fc_client s l x)) := by
  unfold fc_client
  (repeat' split) <;> first | exact h | exact ⟨fun c e1 e2 => h.1 c (Nat.le_of_succ_le e1) e2, h.2⟩
theorem wfl_send {s : GSt} {l : LSt} {x : Int32} (h : WFL s l) (hW : GW s) : WFL (u_s (fc_send s l x)) (u_l (fc_send s l x)) := by
  have hC6 := hW.2.1
  unfold fc_send
  cases e : ix (g_nC s) x with
  | none => exact h
  | some c => exact h.send (ix_some e (by omega)).1
theorem wfl_pass {s : GSt} {l : LSt} {x : Int32} (h : WFL s l) (hW : GW s) : WFL (u_s (fc_pass s l x)) (u_l (fc_pass s l x)) := by
  unfold fc_pass
  (repeat' split) <;> first | exact h | exact h.rounds _
theorem wfl_count {s : GSt} {l : LSt} {x : Int32} (h : WFL s l) (hW : GW s) : WFL (u_s (fc_count s l x)) (u_l (fc_count s l x)) := by
  unfold fc_count
  (repeat' split) <;> first | exact h
theorem wfl_rarity {s : GSt} {l : LSt} {x : Int32} (h : WFL s l) (hW : GW s) : WFL (u_s (fc_rarity s l x)) (u_l (fc_rarity s l x)) := by
  unfold fc_rarity
  (repeat' split) <;> first | exact h
theorem wfl_advise {s : GSt} {l : LSt} {x : Int32} (h : WFL s l) (hW : GW s) : WFL (u_s (fc_advise s l x)) (u_l (fc_advise s l x)) := by
  unfold fc_advise
  (repeat' split) <;> first | exact h
theorem wfl_print {s : GSt} {l : LSt} (h : WFL s l) (hW : GW s) : WFL (u_s (fc_print s l)) (u_l (fc_print s l)) := by
  unfold fc_print
  (repeat' split) <;> first | exact h | exact ⟨h.1, fun c a hc ha => h.2 c a hc (Nat.le_of_succ_le ha)⟩