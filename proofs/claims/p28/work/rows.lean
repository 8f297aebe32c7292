section
-- PART A of the skeleton, and the claim's printed names (kit starting texts), taken over by wip/whole/gen.py
-- ===== PART A: goes FIRST, ahead of the names: the tables' words, and 'selects' of the private methods out of them =====
/-- a private method of a class that the tables say can be made, by its rows of tables_1 -/
def lw_okq (q : MethodName × Nat) : Prop := (q.1.cls ≠ "java/lang/invoke/MethodHandle" ∧ q.1.cls ≠ "java/lang/invoke/VarHandle") ∧ Cond.instantiable q.1.cls q.2 ∈ tables_1 ∧ Cond.privateMethod q.1 ∈ tables_1 ∧ Cond.instanceMethod q.1 ∈ tables_1
theorem lw_p0 : lw_okq (⟨"ClipBureau", "checkClient", "(I)V"⟩, 5) := ⟨⟨by decide +kernel, by decide +kernel⟩, List.mem_of_getElem? (i := 18) (by decide +kernel), List.mem_of_getElem? (i := 131) (by decide +kernel), List.mem_of_getElem? (i := 132) (by decide +kernel)⟩
theorem lw_p1 : lw_okq (⟨"java/lang/Throwable", "fillInStackTrace", "(I)Ljava/lang/Throwable;"⟩, 6) := ⟨⟨by decide +kernel, by decide +kernel⟩, List.mem_of_getElem? (i := 173) (by decide +kernel), List.mem_of_getElem? (i := 171) (by decide +kernel), List.mem_of_getElem? (i := 172) (by decide +kernel)⟩
theorem lw_p2 : lw_okq (⟨"ClipBureau", "sendTo", "(LClipBureau$Ledger;I)I"⟩, 5) := ⟨⟨by decide +kernel, by decide +kernel⟩, List.mem_of_getElem? (i := 18) (by decide +kernel), List.mem_of_getElem? (i := 203) (by decide +kernel), List.mem_of_getElem? (i := 204) (by decide +kernel)⟩
theorem lw_p3 : lw_okq (⟨"ClipBureau", "bestFit", "(LClipBureau$Ledger;I)I"⟩, 5) := ⟨⟨by decide +kernel, by decide +kernel⟩, List.mem_of_getElem? (i := 18) (by decide +kernel), List.mem_of_getElem? (i := 207) (by decide +kernel), List.mem_of_getElem? (i := 208) (by decide +kernel)⟩
theorem lw_p4 : lw_okq (⟨"ClipBureau", "scoreFor", "(LClipBureau$Ledger;II)I"⟩, 5) := ⟨⟨by decide +kernel, by decide +kernel⟩, List.mem_of_getElem? (i := 18) (by decide +kernel), List.mem_of_getElem? (i := 211) (by decide +kernel), List.mem_of_getElem? (i := 212) (by decide +kernel)⟩
theorem lw_p5 : lw_okq (⟨"ClipBureau", "isFit", "(LClipBureau$Ledger;III)Z"⟩, 5) := ⟨⟨by decide +kernel, by decide +kernel⟩, List.mem_of_getElem? (i := 18) (by decide +kernel), List.mem_of_getElem? (i := 233) (by decide +kernel), List.mem_of_getElem? (i := 234) (by decide +kernel)⟩
theorem lw_p6 : lw_okq (⟨"ClipBureau", "priceFor", "(LClipBureau$Ledger;II)I"⟩, 5) := ⟨⟨by decide +kernel, by decide +kernel⟩, List.mem_of_getElem? (i := 18) (by decide +kernel), List.mem_of_getElem? (i := 241) (by decide +kernel), List.mem_of_getElem? (i := 242) (by decide +kernel)⟩
theorem lw_p7 : lw_okq (⟨"ClipBureau", "playRounds", "(LClipBureau$Ledger;I)V"⟩, 5) := ⟨⟨by decide +kernel, by decide +kernel⟩, List.mem_of_getElem? (i := 18) (by decide +kernel), List.mem_of_getElem? (i := 282) (by decide +kernel), List.mem_of_getElem? (i := 283) (by decide +kernel)⟩
theorem lw_p8 : lw_okq (⟨"ClipBureau", "checkArticle", "(I)V"⟩, 5) := ⟨⟨by decide +kernel, by decide +kernel⟩, List.mem_of_getElem? (i := 18) (by decide +kernel), List.mem_of_getElem? (i := 294) (by decide +kernel), List.mem_of_getElem? (i := 295) (by decide +kernel)⟩
theorem lw_p9 : lw_okq (⟨"ClipBureau", "tellOfArticle", "(II)I"⟩, 5) := ⟨⟨by decide +kernel, by decide +kernel⟩, List.mem_of_getElem? (i := 18) (by decide +kernel), List.mem_of_getElem? (i := 303) (by decide +kernel), List.mem_of_getElem? (i := 304) (by decide +kernel)⟩
theorem lw_p10 : lw_okq (⟨"ClipBureau", "tellOfClient", "(II)I"⟩, 5) := ⟨⟨by decide +kernel, by decide +kernel⟩, List.mem_of_getElem? (i := 18) (by decide +kernel), List.mem_of_getElem? (i := 320) (by decide +kernel), List.mem_of_getElem? (i := 321) (by decide +kernel)⟩
theorem lw_p11 : lw_okq (⟨"ClipBureau", "fitArticles", "(I)I"⟩, 5) := ⟨⟨by decide +kernel, by decide +kernel⟩, List.mem_of_getElem? (i := 18) (by decide +kernel), List.mem_of_getElem? (i := 325) (by decide +kernel), List.mem_of_getElem? (i := 326) (by decide +kernel)⟩
theorem lw_p12 : lw_okq (⟨"ClipBureau", "tellOfAll", "(I)I"⟩, 5) := ⟨⟨by decide +kernel, by decide +kernel⟩, List.mem_of_getElem? (i := 18) (by decide +kernel), List.mem_of_getElem? (i := 333) (by decide +kernel), List.mem_of_getElem? (i := 334) (by decide +kernel)⟩
theorem lw_p13 : lw_okq (⟨"ClipBureau", "fitArticleAt", "(II)I"⟩, 5) := ⟨⟨by decide +kernel, by decide +kernel⟩, List.mem_of_getElem? (i := 18) (by decide +kernel), List.mem_of_getElem? (i := 361) (by decide +kernel), List.mem_of_getElem? (i := 362) (by decide +kernel)⟩
theorem lw_p14 : lw_okq (⟨"ClipBureau", "fitArticlesAhead", "(III)I"⟩, 5) := ⟨⟨by decide +kernel, by decide +kernel⟩, List.mem_of_getElem? (i := 18) (by decide +kernel), List.mem_of_getElem? (i := 365) (by decide +kernel), List.mem_of_getElem? (i := 366) (by decide +kernel)⟩
theorem lw_p15 : lw_okq (⟨"ClipBureau", "someoneIsShort", "(LClipBureau$Ledger;)Z"⟩, 5) := ⟨⟨by decide +kernel, by decide +kernel⟩, List.mem_of_getElem? (i := 18) (by decide +kernel), List.mem_of_getElem? (i := 380) (by decide +kernel), List.mem_of_getElem? (i := 381) (by decide +kernel)⟩
def lw_privs_1 : List (MethodName × Nat) := [(⟨"ClipBureau", "checkClient", "(I)V"⟩, 5), (⟨"java/lang/Throwable", "fillInStackTrace", "(I)Ljava/lang/Throwable;"⟩, 6), (⟨"ClipBureau", "sendTo", "(LClipBureau$Ledger;I)I"⟩, 5), (⟨"ClipBureau", "bestFit", "(LClipBureau$Ledger;I)I"⟩, 5), (⟨"ClipBureau", "scoreFor", "(LClipBureau$Ledger;II)I"⟩, 5), (⟨"ClipBureau", "isFit", "(LClipBureau$Ledger;III)Z"⟩, 5), (⟨"ClipBureau", "priceFor", "(LClipBureau$Ledger;II)I"⟩, 5), (⟨"ClipBureau", "playRounds", "(LClipBureau$Ledger;I)V"⟩, 5), (⟨"ClipBureau", "checkArticle", "(I)V"⟩, 5), (⟨"ClipBureau", "tellOfArticle", "(II)I"⟩, 5), (⟨"ClipBureau", "tellOfClient", "(II)I"⟩, 5), (⟨"ClipBureau", "fitArticles", "(I)I"⟩, 5), (⟨"ClipBureau", "tellOfAll", "(I)I"⟩, 5), (⟨"ClipBureau", "fitArticleAt", "(II)I"⟩, 5), (⟨"ClipBureau", "fitArticlesAhead", "(III)I"⟩, 5), (⟨"ClipBureau", "someoneIsShort", "(LClipBureau$Ledger;)Z"⟩, 5)]
theorem lw_r1 : ∀ q ∈ lw_privs_1, lw_okq q := List.forall_mem_cons.mpr ⟨lw_p0, List.forall_mem_cons.mpr ⟨lw_p1, List.forall_mem_cons.mpr ⟨lw_p2, List.forall_mem_cons.mpr ⟨lw_p3, List.forall_mem_cons.mpr ⟨lw_p4, List.forall_mem_cons.mpr ⟨lw_p5, List.forall_mem_cons.mpr ⟨lw_p6, List.forall_mem_cons.mpr ⟨lw_p7, List.forall_mem_cons.mpr ⟨lw_p8, List.forall_mem_cons.mpr ⟨lw_p9, List.forall_mem_cons.mpr ⟨lw_p10, List.forall_mem_cons.mpr ⟨lw_p11, List.forall_mem_cons.mpr ⟨lw_p12, List.forall_mem_cons.mpr ⟨lw_p13, List.forall_mem_cons.mpr ⟨lw_p14, List.forall_mem_cons.mpr ⟨lw_p15, fun _ h => absurd h List.not_mem_nil⟩⟩⟩⟩⟩⟩⟩⟩⟩⟩⟩⟩⟩⟩⟩⟩
theorem lw_p16 : lw_okq (⟨"ClipBureau$Press", "recountArticle", "(I)V"⟩, 6) := ⟨⟨by decide +kernel, by decide +kernel⟩, List.mem_of_getElem? (i := 26) (by decide +kernel), List.mem_of_getElem? (i := 466) (by decide +kernel), List.mem_of_getElem? (i := 467) (by decide +kernel)⟩
theorem lw_p17 : lw_okq (⟨"ClipBureau$Press", "stemOfWord", "(I)I"⟩, 6) := ⟨⟨by decide +kernel, by decide +kernel⟩, List.mem_of_getElem? (i := 26) (by decide +kernel), List.mem_of_getElem? (i := 470) (by decide +kernel), List.mem_of_getElem? (i := 471) (by decide +kernel)⟩
def lw_privs_2 : List (MethodName × Nat) := [(⟨"ClipBureau$Press", "recountArticle", "(I)V"⟩, 6), (⟨"ClipBureau$Press", "stemOfWord", "(I)I"⟩, 6)]
theorem lw_r2 : ∀ q ∈ lw_privs_2, lw_okq q := List.forall_mem_cons.mpr ⟨lw_p16, List.forall_mem_cons.mpr ⟨lw_p17, fun _ h => absurd h List.not_mem_nil⟩⟩
def lw_privs : List (MethodName × Nat) := lw_privs_1 ++ (lw_privs_2)
def lw_tbl : List Cond := k2_sels lw_privs ++ tables_1
theorem lw_privs_ok : ∀ q ∈ lw_privs, lw_okq q := by
  show ∀ q ∈ lw_privs_1 ++ (lw_privs_2), lw_okq q
  exact List.forall_mem_append.mpr ⟨lw_r1, lw_r2⟩
/-- the streams that the claim lets the run draw from -/
abbrev lw_cs : List Choice := [Jvm.Choice.named "NaN.bits"]
theorem lw_bits : nanBits ∈ lw_cs := by first | decide | exact List.mem_cons_self | simp [lw_cs, nanBits]
/-! ===== BEGIN words of one list among another's, by their places ===== -/
theorem goodIn_r {big : List Cond} (ws : List Cond) (ps : List Nat) (hp : ws = ps.filterMap (fun i => big[i]?)) (h : ws.all goodWord = true) : GoodIn big ws := by
  intro w hw
  have h1 := List.all_eq_true.mp h w hw
  rw [hp] at hw
  obtain ⟨i, -, hi⟩ := List.mem_filterMap.mp hw
  have hm : w ∈ big := by first | exact List.mem_of_getElem? hi | exact List.getElem?_mem hi
  exact ⟨hm, good_of_word h1⟩
theorem goodIn_app {big a b : List Cond} (ha : GoodIn big a) (hb : GoodIn big b) : GoodIn big (a ++ b) := fun w h => (List.mem_append.mp h).elim (ha w) (hb w)
theorem goodIn_ca {big a b : List Cond} {c : Cond} (ha : GoodIn big (c :: a)) (hb : GoodIn big b) : GoodIn big (c :: (a ++ b)) := fun w h => (List.mem_cons.mp h).elim (fun e => ha w (List.mem_cons.mpr (Or.inl e))) (fun h => (List.mem_append.mp h).elim (fun h => ha w (List.mem_cons.mpr (Or.inr h))) (hb w))
theorem goodIn_sub {big ws : List Cond} (hm : ∀ w ∈ ws, w ∈ big) (h : ws.all goodWord = true) : GoodIn big ws := fun w hw => ⟨hm w hw, good_of_word (List.all_eq_true.mp h w hw)⟩
/-! ===== END ===== -/

def va_AOA (ty : FieldType) (U : State) : Prop := (Cond.arrayOver (.array ty)).before #[] U = true
theorem va_AOA.use {ty : FieldType} {A : Array Value} {U : State} (h : va_AOA ty U) : (Cond.arrayOver (.array ty)).before A U = true := h
/-! ===== BEGIN new T[n][m]: the outer array a place, the inner ones among the pooled ===== -/
/-- f, but v at every address of l -/
def vr_up {α : Type} (f : Nat → α) (l : List Nat) (v : α) : Nat → α := fun a => if a ∈ l then v else f a
theorem vr_up_in {α : Type} {f : Nat → α} {l : List Nat} {v : α} {a : Nat} (h : a ∈ l) : vr_up f l v a = v := if_pos h
theorem vr_up_ne {α : Type} {f : Nat → α} {l : List Nat} {v : α} {a : Nat} (h : a ∉ l) : vr_up f l v a = f a := if_neg h
theorem vr_rows {L l : List Nat} {f : Nat → va_E} {e : va_E} (h : ∀ a, a ∈ l → a ∉ L) : va_pl L f ++ l.map (fun a => (a, e)) = va_pl (L ++ l) (vr_up f l e) := by
  unfold va_pl
  rw [List.map_append]
  congr 1
  · apply List.map_congr_left
    intro a ha
    rw [vr_up_ne (fun q => h a q ha)]
  · apply List.map_congr_left
    intro a ha
    rw [vr_up_in ha]
theorem vr_lay {X rows : va_W} {x : Nat × va_E} {pl : va_W} {D : va_G} {cl : List vw_C} {H : Heap} (hP : va_P D cl (((X ++ pl) ++ [x]) ++ rows) H) : va_P D cl ((X ++ [x]) ++ (pl ++ rows)) H := by
  rw [List.append_assoc (X ++ pl)] at hP
  have h := va_P.swap hP
  rw [← List.append_assoc X] at h
  have h2 := va_P.swap h
  rw [List.append_assoc (X ++ [x])] at h2
  exact h2
theorem vr_layD {X rows : va_W} {x : Nat × va_E} {pl : va_W} {A : Nat → Prop} (hD : va_D A (((X ++ pl) ++ [x]) ++ rows)) : va_D A ((X ++ [x]) ++ (pl ++ rows)) := by
  rw [List.append_assoc (X ++ pl)] at hD
  have h := va_D.swap hD
  rw [← List.append_assoc X] at h
  have h2 := va_D.swap h
  rw [List.append_assoc (X ++ [x])] at h2
  exact h2
theorem vr_outer (c : ClassId) (N h0 : Nat) : ∀ i : Nat, Jvm.Free.Multi.outerC c N h0 i = arrV c N (fun j => va_rf (if j < i then some (h0 + 1 + j) else none))
  | 0 => by
    show ({ cls := c, slots := Array.replicate N .null, vm := .none } : Cell) = _
    rw [arrV_new]
    refine congrArg (arrV c N) (funext fun j => ?_)
    simp [va_rf]
  | i + 1 => by
    show (Jvm.Free.Multi.outerC c N h0 i).setSlot i (.ref (h0 + 1 + i)) = _
    rw [vr_outer c N h0 i, arrV_store]
    refine congrArg (arrV c N) (funext fun j => ?_)
    by_cases e : j = i
    · subst e
      simp [updV, va_rf]
    · by_cases h : j < i
      · simp [updV, e, h, Nat.lt_succ_of_lt h]
      · simp [updV, e, h, show ¬ j < i + 1 by omega]
section VGM
variable {p : Program} {l : Launch} {e : Env} {R : Room} {s : State} {m : MethodId} {args : Array Value} {below : List Frame} {meth : Method} {c : Code} {H : Heap} {locs : List Loc} {cells slots : Nat} {Q : State → Prop}
variable {cc : ByteArray} {pc : Nat} {ls : Array Slot} {rest : List Value} {D : va_G} {cl : List vw_C} {A : Nat → Prop} {a : Nat} {tys : List (ClassId × FieldType)} {ws : va_W} {H0 : Heap}
theorem va_mna {X : va_W} {L : List Nat} {f : Nat → va_E} {cc : ByteArray} (hexec : p.tables.exec = Jvm.exec) (hb : c.code = cc) {own : String} {index : Nat} {ty : FieldType} {cy : ClassId} (hown : s.vm.findClass own = some m.cls) (hclink : (Cond.classLink own index ("[" ++ (FieldType.array ty).toString)).before args s = true) (hover : va_AOA ty s) (harr : (Cond.arrayClass ty).before args s = true) (hcy : s.vm.findClass (FieldType.array ty).toString = some cy)
    (hK : va_K D cl tys s) (hP : va_P D cl (X ++ va_pl L f) H) (hD : va_D A (X ++ va_pl L f)) (hS : va_S A H0 H locs) (hA : ∀ q, H0.size ≤ q → A q) {n k : Int32} {N' K' : Nat} {z : vp_A} (hn : ¬ n < 0) (hk : ¬ k < 0) (hN : n.toNatClampNeg = N') (hM : k.toNatClampNeg = K')
    (hb1 : N' * 4 ≤ 536870912) (hb2 : K' * componentBytes ty ≤ 536870912) (hb3 : K' ≤ 536870912) (hdf : fits ty (defaultValue ty) = true) (hdd : (defaultValue ty).isDefault = true) (hcells : cells + (1 + N') ≤ R.cells) (hslots : slots + (N' + N' * K') ≤ R.slots) (hz : ∀ c : ClassId, Jvm.Free.Multi.innerC c K' (defaultValue ty) = vp_cell c z) (hdg : decode cc pc = .ok (.multianewarray index 2, 4))
    (kk : ∀ (q : Nat) (r : Nat → Nat) (cA : ClassId) (H1 : Heap), (∀ i j : Nat, i < N' → j < N' → r i = r j → i = j) → (∀ i : Nat, i < N' → r i ∉ L) → va_K D cl (tys ++ [(cA, .array ty)]) s →
      va_P D cl ((X ++ [(q, .inl (cA, N', .inr (.inr (.inr (.inr (fun i => if i < N' then some (r i) else none))))))]) ++ va_pl (L ++ (List.range N').map r) (vr_up f ((List.range N').map r) (.inl (cy, z)))) H1 → va_D A ((X ++ [(q, .inl (cA, N', .inr (.inr (.inr (.inr (fun i => if i < N' then some (r i) else none))))))]) ++ va_pl (L ++ (List.range N').map r) (vr_up f ((List.range N').map r) (.inl (cy, z)))) → va_S A H0 H1 locs →
      W p l e R s m args below meth c H1 locs (cells + 1 + N') (slots + N' + N' * K') Q (F0 m (pc + 4) ls (.ref q :: rest))) : W p l e R s m args below meth c H locs cells slots Q (F0 m pc ls (.int k :: .int n :: rest)) := by
  subst hN
  subst hM
  intro T hT Xs
  obtain ⟨vm₁, cA, comp, -, fA, fC, hO, -, X', step⟩ := Xs.multianewarray2F hexec hown hclink (va_AOA.use hover) harr (g := F0 m pc ls (.int k :: .int n :: rest)) rfl (by rw [hb]; exact hdg) rfl hn hk hb1 hb2 hb3 hdf hdd hcells hslots
  have ec : some cy = some comp := hcy.symm.trans fC
  cases ec
  generalize hF : Jvm.Free.Multi.fill (T.setVm vm₁) cA cy n.toNatClampNeg k.toNatClampNeg (defaultValue ty) n.toNatClampNeg = F at X' step
  have hTh : (T.setVm vm₁).heap = H := hT
  obtain ⟨f1, f2, -, -⟩ := Jvm.Free.Multi.fill_facts (T.setVm vm₁) cA cy n.toNatClampNeg k.toNatClampNeg (defaultValue ty) n.toNatClampNeg
  rw [hF, hTh] at f1 f2
  have hold : ∀ x : Nat, x < H.size → F.heap[x]? = H[x]? := fun x hx => by
    have := Jvm.Free.Multi.fill_old (T.setVm vm₁) cA cy n.toNatClampNeg k.toNatClampNeg (defaultValue ty) (a := x) (by rw [hTh]; exact hx) n.toNatClampNeg
    rw [hF, hTh] at this
    exact this
  have hrow : ∀ j : Nat, j < n.toNatClampNeg → F.heap[H.size + 1 + j]? = some (vp_cell cy z) := fun j hj => by
    have := Jvm.Free.Multi.fill_inner (T.setVm vm₁) cA cy n.toNatClampNeg k.toNatClampNeg (defaultValue ty) n.toNatClampNeg j hj
    rw [hF, hTh, hz] at this
    exact this
  have hout : Jvm.Free.Multi.outerC cA n.toNatClampNeg H.size n.toNatClampNeg = vp_cell cA (n.toNatClampNeg, .inr (.inr (.inr (.inr (fun i => if i < n.toNatClampNeg then some (H.size + 1 + i) else none))))) := by
    rw [vp_cell_q]
    exact vr_outer cA n.toNatClampNeg H.size n.toNatClampNeg
  rw [hout] at f2
  have hlt : ∀ a, a ∈ L → a < H.size := fun a ha => by
    obtain ⟨k9, hk9⟩ := va_pl_get (X := X) (f := f) ha
    exact (hP k9 _ hk9).lt
  have hnl : ∀ i : Nat, i < n.toNatClampNeg → H.size + 1 + i ∉ L := fun i _ h => by
    have := hlt _ h
    omega
  have hnm : ∀ a, a ∈ (List.range n.toNatClampNeg).map (fun i => H.size + 1 + i) → a ∉ L := fun a ha h => by
    obtain ⟨i, -, rfl⟩ := List.mem_map.mp ha
    have := hlt _ h
    omega
  have hP0 : va_P D cl (X ++ va_pl L f) F.heap := hP.kept (fun k9 x hx => hold x.1 ((hP k9 x hx).lt))
  have hP1 : va_P D cl ((X ++ va_pl L f) ++ [(H.size, .inl (cA, n.toNatClampNeg, .inr (.inr (.inr (.inr (fun i => if i < n.toNatClampNeg then some (H.size + 1 + i) else none))))))]) F.heap := hP0.app (fun k9 x hx => by
    have h0 : k9 < 1 := (List.getElem?_eq_some_iff.mp hx).1
    rw [show k9 = 0 by omega] at hx
    cases hx
    exact f2)
  have hP2 : va_P D cl (((X ++ va_pl L f) ++ [(H.size, .inl (cA, n.toNatClampNeg, .inr (.inr (.inr (.inr (fun i => if i < n.toNatClampNeg then some (H.size + 1 + i) else none))))))]) ++ ((List.range n.toNatClampNeg).map (fun i => H.size + 1 + i)).map (fun a => (a, .inl (cy, z)))) F.heap := hP1.app (fun k9 x hx => by
    obtain ⟨a, ha, rfl⟩ := List.mem_map.mp (List.mem_of_getElem? hx)
    obtain ⟨i, hi, rfl⟩ := List.mem_map.mp ha
    exact hrow i (List.mem_range.mp hi))
  have hD2 : va_D A (((X ++ va_pl L f) ++ [(H.size, .inl (cA, n.toNatClampNeg, .inr (.inr (.inr (.inr (fun i => if i < n.toNatClampNeg then some (H.size + 1 + i) else none))))))]) ++ ((List.range n.toNatClampNeg).map (fun i => H.size + 1 + i)).map (fun a => (a, .inl (cy, z)))) := by
    have hD1 := hD.push (e := .inl (cA, n.toNatClampNeg, .inr (.inr (.inr (.inr (fun i => if i < n.toNatClampNeg then some (H.size + 1 + i) else none)))))) hP rfl (hA _ hS.1)
    generalize hW1 : (X ++ va_pl L f) ++ [(H.size, .inl (cA, n.toNatClampNeg, .inr (.inr (.inr (.inr (fun i => if i < n.toNatClampNeg then some (H.size + 1 + i) else none))))))] = W1 at hD1 hP1 ⊢
    have hle : ∀ (k9 : Nat) (x : Nat × va_E), W1[k9]? = some x → x.1 ≤ H.size := fun k9 x hx => by
      rw [← hW1] at hx
      by_cases hl : k9 < (X ++ va_pl L f).length
      · rw [List.getElem?_append_left hl] at hx
        exact Nat.le_of_lt ((hP k9 x hx).lt)
      · rw [List.getElem?_append_right (by omega)] at hx
        have h0 : k9 - (X ++ va_pl L f).length < 1 := (List.getElem?_eq_some_iff.mp hx).1
        rw [show k9 - (X ++ va_pl L f).length = 0 by omega] at hx
        cases hx
        exact Nat.le_refl _
    have hr : ∀ (k9 : Nat) (x : Nat × va_E), (((List.range n.toNatClampNeg).map (fun i => H.size + 1 + i)).map (fun a => ((a, .inl (cy, z)) : Nat × va_E)))[k9]? = some x → x.1 = H.size + 1 + k9 := fun k9 x hx => by
      rw [List.getElem?_map, List.getElem?_map] at hx
      by_cases h9 : k9 < n.toNatClampNeg
      · rw [List.getElem?_range h9] at hx
        cases hx
        rfl
      · have hn0 : (List.range n.toNatClampNeg)[k9]? = none := List.getElem?_eq_none (by rw [List.length_range]; omega)
        rw [hn0] at hx
        cases hx
    refine ⟨fun i j x y hi hj hxy => ?_, fun k9 x hx => ?_⟩
    · by_cases h1 : i < W1.length <;> by_cases h2 : j < W1.length
      · rw [List.getElem?_append_left h1] at hi
        rw [List.getElem?_append_left h2] at hj
        exact hD1.1 i j x y hi hj hxy
      · rw [List.getElem?_append_left h1] at hi
        rw [List.getElem?_append_right (by omega)] at hj
        have := hle _ _ hi
        have := hr _ _ hj
        omega
      · rw [List.getElem?_append_right (by omega)] at hi
        rw [List.getElem?_append_left h2] at hj
        have := hle _ _ hj
        have := hr _ _ hi
        omega
      · rw [List.getElem?_append_right (by omega)] at hi hj
        have := hr _ _ hi
        have := hr _ _ hj
        omega
    · by_cases h1 : k9 < W1.length
      · rw [List.getElem?_append_left h1] at hx
        exact hD1.2 k9 x hx
      · rw [List.getElem?_append_right (by omega)] at hx
        have := hr _ _ hx
        exact hA _ (by have := hS.1; omega)
  have hAr : ArrOfT s cA (.array ty) := fun N9 z9 => by
    obtain ⟨-, k9, hk9, cm9, hkk9⟩ := (hO 0 0 0).1
    exact ⟨(fun q hq => by cases hq), k9, hk9, cm9, hkk9⟩
  have hK2 : va_K D cl (tys ++ [(cA, .array ty)]) s := ⟨hK.1, fun k9 x hx => by
    by_cases hl : k9 < tys.length
    · rw [List.getElem?_append_left hl] at hx
      exact hK.2 k9 x hx
    · rw [List.getElem?_append_right (by omega)] at hx
      have h0 : k9 - tys.length < 1 := (List.getElem?_eq_some_iff.mp hx).1
      rw [show k9 - tys.length = 0 by omega] at hx
      cases hx
      exact ⟨hAr, fA⟩⟩
  obtain ⟨t, a1, b1⟩ := kk H.size (fun i => H.size + 1 + i) cA F.heap (fun i j _ _ h => by have h9 : H.size + 1 + i = H.size + 1 + j := h; omega) hnl hK2 (by rw [← vr_rows hnm]; exact vr_lay hP2) (by rw [← vr_rows hnm]; exact vr_layD hD2) ⟨by rw [f1]; have := hS.1; omega, fun x h1 h2 => (hold x (Nat.lt_of_lt_of_le h1 hS.1)).trans (hS.2.1 x h1 h2), hS.2.2⟩ F rfl X'
  refine ⟨t, step t ?_, b1⟩
  have e : T.heap.size = H.size := by rw [hT]
  rw [e]
  exact a1
end VGM
/-! ===== END ===== -/

/-! ===== BEGIN exceptions that leave a method, and their catching by the caller (launches without stack traces) ===== -/
section VXA
/-! The laws vx_back, vx_callV, vx_callS, vx_callSW, vx_throw0, vx_throwS follow proofs of the library, with one case more: JvmDerived/Free/Laws.lean (Back.of_free), Shelf42/LK1.lean (callV, callS), Shelf/KitTraced.lean (throwNew0V, throwNewS). -/
/-- where a method has thrown q: the class by its name, the cell, what was written, the world -/
def vx_T (XC : String → State → State → Prop) (st : State) (q : Addr) (t : State) (mc ms : Nat) (free : Addr → Prop) : Prop :=
  ∃ (E : String) (ce : Cell) (L : List Loc), XC E st t ∧ t.heap[q]? = some ce ∧ ce.vm = .none ∧ st.vm.findClass E = some ce.cls ∧ st.WarmedH t.vm ∧ st.sameButNew ({ t with vm := st.vm } : State) L mc ms ∧ ∀ z ∈ L, free z.base
def vx_Q (Qc : Array Value → State → Outcome → State → Prop) (XC : String → State → State → Prop) (mc ms : Nat) (free : Addr → Prop) : Array Value → State → Outcome → State → Prop := fun a st o t =>
  (Qc a st o t ∧ ∃ L, FrameEnd st o t L mc ms ∧ ∀ q ∈ L, free q.base) ∨ ∃ q, o = .threw q ∧ vx_T XC st q t mc ms free
/-- a callee that returns or throws -/
def vx_Met (l : Launch) (y : MethodName) (ws : List Cond) (rm : Room) (Pc : Array Value → State → Prop) (Qc : Array Value → State → Outcome → State → Prop) (XC : String → State → State → Prop) (mc ms : Nat) (free : Addr → Prop) : Prop :=
  MetFree l y (headSpec ws rm) Pc (fun _ _ _ _ _ => True) (vx_Q Qc XC mc ms free)
def vx_Post (XC : String → State → State → Prop) (mc ms : Nat) (free : Addr → Prop) : Pt → Array Value → Addr → Pt → Prop := fun A a q B =>
  ∃ (g : JFrame) (mk : MethodId) (t : State) (L : List Loc) (E : String) (ce : Cell), B.U.heap = t.heap ∧ B.U.vm = t.vm ∧ XC E (A.U.calling g mk a) t ∧ t.heap[q]? = some ce ∧ ce.vm = .none ∧ A.U.vm.findClass E = some ce.cls ∧ B.locs = A.locs ++ L ∧ (∀ z ∈ L, free z.base) ∧ B.cells = A.cells + mc ∧ B.slots = A.slots + ms
def vx_Back (l : Launch) (R : Room) (p : Program) (e : Env) (below : List Frame) (s : State) (sargs : Array Value) (y : MethodName) (len W9 : Nat)
    (Pre : Pt → Array Value → Prop) (Post : Pt → Array Value → Option Value → Pt → Prop) (PostX : Pt → Array Value → Addr → Pt → Prop) : Prop :=
  ∀ (m : MethodId) (meth : Method) (c : Code) (A : Pt) (g : JFrame) (ig : Instr) (mk : MethodId) (a : Array Value),
    Stand p l e R s m sargs below meth c A.U A.locs A.cells A.slots → g.method = m → g.locals.size = c.maxLocals → decode c.code g.pc = .ok (ig, len) →
    2 * g.monitorRoom + (g.stack.map fun v => v.category).sum ≤ W9 → A.U.methodNamed? y = some mk → Pre A a →
    (∃ (v : Option Value) (B : Pt), Stand p l e R s m sargs below meth c B.U B.locs B.cells B.slots ∧ Post A a v B ∧
      Steps p.tables e below (doInvoke e (A.U.setTop g) [] mk a).1 (B.U.setTop { g with pc := g.pc + len, stack := v.toList ++ g.stack })) ∨
    (∃ (q : Addr) (B : Pt), Stand p l e R s m sargs below meth c B.U B.locs B.cells B.slots ∧ PostX A a q B ∧
      Steps p.tables e below (doInvoke e (A.U.setTop g) [] mk a).1 ((B.U.setTop g).pushFrame (.throwing q)))
section Payer
variable {l : Launch} {R : Room} {p : Program} {e : Env} {below : List Frame} {s : State} {sargs : Array Value} {y : MethodName} {len W9 : Nat}
theorem vx_back {ws : List Cond} {rm : Room} {Pc : Array Value → State → Prop} {Qc : Array Value → State → Outcome → State → Prop} {XC : String → State → State → Prop} {mc ms : Nat} {free : Addr → Prop} {bytes : ByteArray} {maxL : Nat} {ret : Option FieldType}
    (hM : vx_Met l y ws rm Pc Qc XC mc ms free) (hblind : FrameBlind Pc) (hrc : rm.cells = mc) (hrs : rm.slots = ms)
    (hframes : rm.frames + 1 ≤ R.frames) (hlocals : W9 + (maxL + 11) + rm.locals ≤ R.locals)
    (hws : ∀ w ∈ ws, ∀ a' U, s.WarmedH U.vm → w.before a' U = true) (hcode : Cond.code y bytes maxL ret ∈ ws) (hinit : ∀ a' U, s.WarmedH U.vm → (Cond.initialized y.cls).before a' U = true) :
    vx_Back l R p e below s sargs y len W9 (PreOf R mc ms Pc) (PostOf Qc mc ms free) (vx_Post XC mc ms free) := by
  intro m meth c A g ig mk a X hg hsize hdg hW hn hp
  have h1 : (headSpec ws rm).pre.before a A.U = true := atoms_intro fun w hw => hws w hw _ _ X.warmed
  have h2 : (Cond.code y bytes maxL ret).before a A.U = true := hws _ hcode _ _ X.warmed
  have h3 : (Cond.initialized y.cls).before a A.U = true := hinit _ _ X.warmed
  have h4 : A.cells + (headSpec ws rm).room.cells ≤ R.cells := by rw [show (headSpec ws rm).room.cells = mc from hrc]; exact hp.1
  have h5 : A.slots + (headSpec ws rm).room.slots ≤ R.slots := by rw [show (headSpec ws rm).room.slots = ms from hrs]; exact hp.2.1
  have hPc : Pc a (A.U.calling g mk a) := hblind _ _ _ _ hp.2.2
  obtain ⟨U, Ls, c0, s0⟩ := A
  dsimp only [Pt.U, Pt.locs, Pt.cells, Pt.slots] at h1 h2 h3 h4 h5 X hn hPc ⊢
  obtain ⟨methY, cY, hmY, hcY, -, hlY, -, -, -, -⟩ := Cond.code_spec hn h2
  obtain ⟨kY, hkY, -⟩ := className_of_methodNamed hn
  have hinitY : kY.init = .initialized := Cond.initialized_spec (findClass_of_methodNamed hn) hkY h3
  have h : At U g.method c below := by rw [hg]; exact X.here
  have hlocals9 : W9 + (maxL + 11) + (headSpec ws rm).room.locals ≤ R.locals := hlocals
  have happ : (headSpec ws rm).appliesLoose y e.platform (U.calling g mk a) = true :=
    Spec.appliesLoose_calling (g := g) h hdg hn hkY hinitY
      (X.room_calling (g := g) (R' := (headSpec ws rm).room) hsize hmY hcY hframes (by rw [hlY]; omega) h4 h5) h1
  obtain ⟨mid, hmid⟩ := h.above
  have hfr : (U.setTop g).frames = (.java g :: mid) ++ below := by rw [State.frames_setTop' g h.top, hmid]; rfl
  obtain ⟨o, s₂, hsteps, -, hend, hq⟩ := Steps.callFree hM p X.admits X.cas X.clock (acts := []) hfr happ hPc trivial
  have hq' : vx_Q Qc XC mc ms free a (U.calling g mk a) o s₂ := hq
  rw [State.frames_setTop' g h.top] at hend
  obtain ⟨g₀, hg0⟩ := Option.isSome_iff_exists.mp h.top
  obtain ⟨r, hr⟩ := State.topJava?_eq_some.mp hg0
  have hr' : (({ U with heap := s₂.heap, slotsUsed := s₂.slotsUsed } : State).setVm s₂.vm).frames = .java g₀ :: r := hr
  rcases hq' with ⟨hqc, L, hfe, hL⟩ | ⟨q, rfl, E, ce, L, hx, hce, hcv, hcl, hW₂, hsm, hL⟩
  · obtain ⟨⟨v, rfl⟩, hW₂, e2, q2, q3, q4, q5, q6⟩ := id hfe
    have e3 : s₂ = ({ (U.calling g mk a).setFrames s₂.frames with heap := s₂.heap, slotsUsed := s₂.slotsUsed } : State).setVm s₂.vm := by
      have : s₂ = ({ s₂ with vm := (U.calling g mk a).vm } : State).setVm s₂.vm := rfl
      rw [e2] at this
      exact this
    obtain ⟨c₂, i₂, len₂, hc₂, hd₂, hf₂⟩ := hend
    have hW' : U.WarmedH s₂.vm := hW₂
    have hcc : c₂ = c := by
      have h1 : s₂.code? g.method = U.code? g.method := by
        rw [State.code?_eq, State.code?_eq, hW'.alike.method?]
      exact Option.some.inj (hc₂.symm.trans (h1.trans h.code))
    subst hcc
    have hlen : len₂ = len := by rw [hdg] at hd₂; cases hd₂; rfl
    subst hlen
    have hs₂ : s₂ = (({ U with heap := s₂.heap, slotsUsed := s₂.slotsUsed } : State).setVm s₂.vm).setTop { g with pc := g.pc + len₂, stack := v.toList ++ g.stack } := by
      refine e3.trans ?_
      rw [hf₂, State.calling_eq h.top, State.setFrames_setFrames, State.setTop_of_frames _ hr', hr]
      rfl
    have hsame : U.sameButNew ({ U with heap := s₂.heap, slotsUsed := s₂.slotsUsed } : State) L mc ms := by
      refine ⟨?_, q2, q3, q4, q5, q6⟩
      obtain ⟨t, ht, -⟩ := State.frames_cons hr
      show ({ U with heap := s₂.heap, slotsUsed := s₂.slotsUsed } : State) = { U.setFrames U.frames with heap := s₂.heap, slotsUsed := s₂.slotsUsed }
      rw [State.setFrames_self ht]
    subst hg
    refine Or.inl ⟨v, ⟨(({ U with heap := s₂.heap, slotsUsed := s₂.slotsUsed } : State).setVm s₂.vm), Ls ++ L, c0 + mc, s0 + ms⟩,
      ⟨X.admits, X.cas, X.clock, X.frames, X.room, X.hears, X.method, X.code, (X.here.setHeapUsed s₂.heap s₂.slotsUsed).setVm hW'.alike, X.tail, State.WarmedH.trans X.warmed hW', X.limits, X.bytes, X.same.trans (hsame.setVm s.vm)⟩,
      ⟨g, mk, s₂, L, rfl, rfl, hqc, rfl, hL, rfl, rfl⟩, ?_⟩
    show Steps p.tables e below _ ((({ U with heap := s₂.heap, slotsUsed := s₂.slotsUsed } : State).setVm s₂.vm).setTop { g with pc := g.pc + len₂, stack := v.toList ++ g.stack })
    rw [← hs₂]
    exact hsteps
  · obtain ⟨e2, q2, q3, q4, q5, q6⟩ := id hsm
    have e3 : s₂ = ({ (U.calling g mk a).setFrames s₂.frames with heap := s₂.heap, slotsUsed := s₂.slotsUsed } : State).setVm s₂.vm := by
      have : s₂ = ({ s₂ with vm := (U.calling g mk a).vm } : State).setVm s₂.vm := rfl
      rw [e2] at this
      exact this
    have hf₂ : s₂.frames = .throwing q :: .java g :: U.frames.tail := hend
    have hW' : U.WarmedH s₂.vm := hW₂
    have hs₂ : s₂ = ((({ U with heap := s₂.heap, slotsUsed := s₂.slotsUsed } : State).setVm s₂.vm).setTop g).pushFrame (.throwing q) := by
      refine e3.trans ?_
      rw [hf₂, State.calling_eq h.top, State.setFrames_setFrames, State.pushFrame, State.frames_setTop _ hr', State.setTop_of_frames _ hr', State.setFrames_setFrames, hr]
      rfl
    have hsame : U.sameButNew ({ U with heap := s₂.heap, slotsUsed := s₂.slotsUsed } : State) L mc ms := by
      refine ⟨?_, q2, q3, q4, q5, q6⟩
      obtain ⟨t, ht, -⟩ := State.frames_cons hr
      show ({ U with heap := s₂.heap, slotsUsed := s₂.slotsUsed } : State) = { U.setFrames U.frames with heap := s₂.heap, slotsUsed := s₂.slotsUsed }
      rw [State.setFrames_self ht]
    subst hg
    refine Or.inr ⟨q, ⟨(({ U with heap := s₂.heap, slotsUsed := s₂.slotsUsed } : State).setVm s₂.vm), Ls ++ L, c0 + mc, s0 + ms⟩,
      ⟨X.admits, X.cas, X.clock, X.frames, X.room, X.hears, X.method, X.code, (X.here.setHeapUsed s₂.heap s₂.slotsUsed).setVm hW'.alike, X.tail, State.WarmedH.trans X.warmed hW', X.limits, X.bytes, X.same.trans (hsame.setVm s.vm)⟩,
      ⟨g, mk, s₂, L, E, ce, rfl, rfl, hx, hce, hcv, hcl, rfl, hL, rfl, rfl⟩, ?_⟩
    show Steps p.tables e below _ (((({ U with heap := s₂.heap, slotsUsed := s₂.slotsUsed } : State).setVm s₂.vm).setTop g).pushFrame (.throwing q))
    rw [← hs₂]
    exact hsteps
end Payer
section Calls
variable {p : Program} {l : Launch} {e : Env} {R : Room} {s : State} {m : MethodId} {args : Array Value} {below : List Frame} {meth : Method} {c : Code} {T : State} {locs : List Loc} {cells slots : Nat}
theorem vx_callV (X : Stand p l e R s m args below meth c T locs cells slots) (hexec : p.tables.exec = Jvm.exec) {own C : String} {index : Nat} {y : MethodName} {bytes : ByteArray} {maxL : Nat} {ret : Option FieldType}
    (hown : s.vm.findClass own = some m.cls) (hlink : (Cond.methodLink own index y).before args s = true) (hinst : (Cond.instanceMethod y).before args s = true) (hsel : (Cond.selects C y y).before args s = true)
    (hcode : (Cond.code y bytes maxL ret).before args s = true) (hy : y.cls ≠ "java/lang/invoke/MethodHandle" ∧ y.cls ≠ "java/lang/invoke/VarHandle")
    {W9 : Nat} {Pre : Pt → Array Value → Prop} {Post : Pt → Array Value → Option Value → Pt → Prop} {PostX : Pt → Array Value → Addr → Pt → Prop} (hK : vx_Back l R p e below s args y 3 W9 Pre Post PostX)
    {b : Addr} {cellB : Cell} (hcell : T.heap[b]? = some cellB) (hobj : cellB.vm.isStatics = false) (hcls : s.vm.findClass C = some cellB.cls)
    {g : JFrame} (hg : g.method = m) (hsize : g.locals.size = c.maxLocals) {argsL rest : List Value} (hlen : ∀ sig, parseMethodDescriptor y.desc = some sig → argsL.length = sig.parameters.length)
    (hstack : g.stack = argsL.reverse ++ .ref b :: rest) (hW : 2 * g.monitorRoom + (rest.map fun v => v.category).sum ≤ W9) (hdg : decode c.code g.pc = .ok (.invokevirtual index, 3))
    (hpre : ∀ vm₁, s.WarmedH vm₁ → Pre ⟨T.setVm vm₁, locs, cells, slots⟩ (Value.ref b :: argsL).toArray) :
    (∃ (v : Option Value) (vm₁ : Vm) (B : Pt), s.WarmedH vm₁ ∧ Stand p l e R s m args below meth c B.U B.locs B.cells B.slots ∧ Post ⟨T.setVm vm₁, locs, cells, slots⟩ (Value.ref b :: argsL).toArray v B ∧
      ∀ target, Steps p.tables e below (B.U.setTop { g with pc := g.pc + 3, stack := v.toList ++ rest }) target → Steps p.tables e below (T.setTop g) target) ∨
    (∃ (q : Addr) (vm₁ : Vm) (B : Pt), s.WarmedH vm₁ ∧ Stand p l e R s m args below meth c B.U B.locs B.cells B.slots ∧ PostX ⟨T.setVm vm₁, locs, cells, slots⟩ (Value.ref b :: argsL).toArray q B ∧
      Steps p.tables e below (T.setTop g) ((B.U.setTop { g with stack := rest }).pushFrame (.throwing q))) := by
  obtain ⟨mk, methM, hnamed, hmethM, hstM, habM⟩ := Cond.instanceMethod_spec hinst
  obtain ⟨methM', cM, hmethM', -, -, -, -, -, -, hsigM⟩ := Cond.code_spec hnamed hcode
  cases hmethM.symm.trans hmethM'
  obtain ⟨c2, r2, m2, q1, q2, q3, q4, kP, hkP, hkPi⟩ := Cond.selects_spec hsel
  cases hcls.symm.trans q1
  cases (State.methodFound?_of_named hnamed hy).symm.trans q2
  cases hnamed.symm.trans q3
  have hselP : selectMethod e.platform s.vm cellB.cls mk = .method mk := by rw [Launch.admits_selectMethod X.admits]; exact q4
  obtain ⟨vm₁, X₁, hstep₁⟩ := X.invokevirtual hexec hown hlink hnamed hmethM hstM hkP hkPi hy (a := b) (cell := cellB) hcell
    (fun z h => by rw [h] at hobj; cases hobj) hselP hmethM habM hkP hkPi (g := g) hg (argsL := argsL) (rest := rest) (hlen _ hsigM) hstack hdg
  rcases hK m meth c ⟨T.setVm vm₁, locs, cells, slots⟩ { g with stack := rest } (.invokevirtual index) mk (Value.ref b :: argsL).toArray X₁ hg hsize hdg hW (X₁.named hnamed) (hpre vm₁ X₁.warmed) with ⟨v, B, X', hpost, hsteps⟩ | ⟨q, B, X', hpost, hsteps⟩
  · exact Or.inl ⟨v, vm₁, B, X₁.warmed, X', hpost, fun target h => hstep₁ _ fun acts => by rw [doInvoke_state]; exact hsteps.trans h⟩
  · exact Or.inr ⟨q, vm₁, B, X₁.warmed, X', hpost, hstep₁ _ fun acts => by rw [doInvoke_state]; exact hsteps⟩
theorem vx_callS (X : Stand p l e R s m args below meth c T locs cells slots) (hexec : p.tables.exec = Jvm.exec) {own : String} {index : Nat} {y : MethodName} {bytes : ByteArray} {maxL : Nat} {ret : Option FieldType}
    (hown : s.vm.findClass own = some m.cls) (hlink : (Cond.methodLink own index y).before args s = true) (hstat : (Cond.static y).before args s = true) (hinit : (Cond.initialized y.cls).before args s = true)
    (hcode : (Cond.code y bytes maxL ret).before args s = true) (hy : y.cls ≠ "java/lang/invoke/MethodHandle" ∧ y.cls ≠ "java/lang/invoke/VarHandle")
    {W9 : Nat} {Pre : Pt → Array Value → Prop} {Post : Pt → Array Value → Option Value → Pt → Prop} {PostX : Pt → Array Value → Addr → Pt → Prop} (hK : vx_Back l R p e below s args y 3 W9 Pre Post PostX)
    {g : JFrame} (hg : g.method = m) (hsize : g.locals.size = c.maxLocals) {argsL rest : List Value} (hlen : ∀ sig, parseMethodDescriptor y.desc = some sig → argsL.length = sig.parameters.length)
    (hstack : g.stack = argsL.reverse ++ rest) (hW : 2 * g.monitorRoom + (rest.map fun v => v.category).sum ≤ W9) (hdg : decode c.code g.pc = .ok (.invokestatic index, 3))
    (hpre : ∀ vm₁, s.WarmedH vm₁ → Pre ⟨T.setVm vm₁, locs, cells, slots⟩ argsL.toArray) :
    (∃ (v : Option Value) (vm₁ : Vm) (B : Pt), s.WarmedH vm₁ ∧ Stand p l e R s m args below meth c B.U B.locs B.cells B.slots ∧ Post ⟨T.setVm vm₁, locs, cells, slots⟩ argsL.toArray v B ∧
      ∀ target, Steps p.tables e below (B.U.setTop { g with pc := g.pc + 3, stack := v.toList ++ rest }) target → Steps p.tables e below (T.setTop g) target) ∨
    (∃ (q : Addr) (vm₁ : Vm) (B : Pt), s.WarmedH vm₁ ∧ Stand p l e R s m args below meth c B.U B.locs B.cells B.slots ∧ PostX ⟨T.setVm vm₁, locs, cells, slots⟩ argsL.toArray q B ∧
      Steps p.tables e below (T.setTop g) ((B.U.setTop { g with stack := rest }).pushFrame (.throwing q))) := by
  obtain ⟨mk, hnamed⟩ := Cond.code_named hcode
  obtain ⟨methM, cM, hmethM, -, -, -, -, -, -, hsigM⟩ := Cond.code_spec hnamed hcode
  have hstatic : methM.isStatic = true := Cond.static_spec hnamed hmethM hstat
  obtain ⟨kP, hkP, -⟩ := className_of_methodNamed hnamed
  have hinitP : kP.init = .initialized := Cond.initialized_spec (findClass_of_methodNamed hnamed) hkP hinit
  obtain ⟨vm₁, X₁, hstep₁⟩ := X.invokestatic hexec hown hlink hnamed hmethM hstatic hkP hinitP hy (g := g) hg (argsL := argsL) (rest := rest) (hlen _ hsigM) hstack hdg
  rcases hK m meth c ⟨T.setVm vm₁, locs, cells, slots⟩ { g with stack := rest } (.invokestatic index) mk argsL.toArray X₁ hg hsize hdg hW (X₁.named hnamed) (hpre vm₁ X₁.warmed) with ⟨v, B, X', hpost, hsteps⟩ | ⟨q, B, X', hpost, hsteps⟩
  · exact Or.inl ⟨v, vm₁, B, X₁.warmed, X', hpost, fun target h => hstep₁ _ fun acts => by rw [doInvoke_state]; exact hsteps.trans h⟩
  · exact Or.inr ⟨q, vm₁, B, X₁.warmed, X', hpost, hstep₁ _ fun acts => by rw [doInvoke_state]; exact hsteps⟩
end Calls
theorem vx_cls {s : State} {T : State} {vm₁ : Vm} {E : String} {k : ClassId} (hW : s.WarmedH vm₁) (h : (T.setVm vm₁).vm.findClass E = some k) : s.vm.findClass E = some k := by
  have h1 : vm₁.findClass E = some k := h
  rw [hW.alike.findClass] at h1
  exact h1
/-- the method's frame g, with q thrown over it -/
def vx_W (p : Program) (l : Launch) (e : Env) (R : Room) (s : State) (m : MethodId) (args : Array Value) (below : List Frame) (meth : Method) (c : Code) (H : Heap) (locs : List Loc) (cells slots : Nat) (Q : State → Prop) (g : JFrame) (q : Addr) : Prop :=
  ∀ T : State, T.heap = H → Stand p l e R s m args below meth c T locs cells slots → ∃ t, Steps p.tables e below ((T.setTop g).pushFrame (.throwing q)) t ∧ Q t
def vx_Run (p : Program) (l : Launch) (e : Env) (R : Room) (s : State) (m : MethodId) (args : Array Value) (below : List Frame) (meth : Method) (c : Code) (H : Heap) (locs : List Loc) (cells slots mc ms : Nat) (g : JFrame) (rest : List Value) (Qa : State → Outcome → State → Prop) (XC : String → State → State → Prop) (free : Addr → Prop) : Prop :=
  ∀ T : State, T.heap = H → Stand p l e R s m args below meth c T locs cells slots →
    (∃ (v : Option Value) (st₀ t T' : State) (L : List Loc), st₀.heap = H ∧ Stand p l e R s m args below meth c T' (locs ++ L) (cells + mc) (slots + ms) ∧ (∀ q ∈ L, free q.base) ∧ T'.heap = t.heap ∧ T'.vm = t.vm ∧ Qa st₀ (.returned v) t ∧
      Goes p e below T g T' { g with pc := g.pc + 3, stack := v.toList ++ rest }) ∨
    (∃ (q : Addr) (st₀ t T' : State) (L : List Loc) (E : String) (ce : Cell), st₀.heap = H ∧ Stand p l e R s m args below meth c T' (locs ++ L) (cells + mc) (slots + ms) ∧ (∀ z ∈ L, free z.base) ∧ T'.heap = t.heap ∧ T'.vm = t.vm ∧ XC E st₀ t ∧ t.heap[q]? = some ce ∧ ce.vm = .none ∧ s.vm.findClass E = some ce.cls ∧
      Steps p.tables e below (T.setTop g) ((T'.setTop { g with stack := rest }).pushFrame (.throwing q)))
def vx_X {S : Type} (px : S → Prop) (B : String → S → State → Prop) (A : Nat → Prop) : String → State → State → Prop := fun E st t => ∃ u : S, px u ∧ B E u t ∧ va_F A st t
section Runs
variable {p : Program} {l : Launch} {e : Env} {R : Room} {s : State} {m : MethodId} {args : Array Value} {below : List Frame} {meth : Method} {c : Code} {H : Heap} {locs : List Loc} {cells slots : Nat}
variable {y : MethodName} {bytes cc : ByteArray} {maxL nL mc ms n index : Nat} {ret : Option FieldType} {ws : List Cond} {rm : Room} {Pc : Array Value → State → Prop} {Qc : Array Value → State → Outcome → State → Prop} {XC : String → State → State → Prop} {free : Addr → Prop} {Ts : List Cond} {own C : String} {b : Addr} {As rest : List Value} {g : JFrame}
theorem vx_callBack (cb : CallB R s args own index y bytes maxL ret ws rm mc ms n) (hM : vx_Met l y ws rm Pc Qc XC mc ms free) (hbl : FrameBlind Pc) : vx_Back l R p e below s args y 3 8 (PreOf R mc ms Pc) (PostOf Qc mc ms free) (vx_Post XC mc ms free) := by
  obtain ⟨hrc, hrs, hfr, hlo, hws, hcw, -, hini, -⟩ := cb
  exact vx_back (bytes := bytes) (maxL := maxL) (ret := ret) hM hbl hrc hrs hfr hlo hws hcw (fun a' U hW => word_at hW (Or.inl (by first | rfl | simp [Cond.onTables, Cond.keeps, Cond.steady])) hini)
theorem vx_runV (S : CallFix p m c cc nL s args Ts own) (hM : vx_Met l y ws rm Pc Qc XC mc ms free) (cw : CallW R s args own C index y bytes maxL ret ws rm mc ms n) (hp : PreV s H C b Pc As)
    (hg : g.method = m) (hn : As.length = n) (hsize : g.locals.size = nL) (hstack : g.stack = As.reverse ++ .ref b :: rest) (hW : 2 * g.monitorRoom + (rest.map fun v => v.category).sum ≤ 8) (hdg : decode cc g.pc = .ok (.invokevirtual index, 3)) (hf : cells + mc ≤ R.cells ∧ slots + ms ≤ R.slots) :
    vx_Run p l e R s m args below meth c H locs cells slots mc ms g rest (Qc (Value.ref b :: As).toArray) XC free := by
  have hK : vx_Back l R p e below s args y 3 8 (PreOf R mc ms Pc) (PostOf Qc mc ms free) (vx_Post XC mc ms free) := vx_callBack cw.1 hM hp.1
  obtain ⟨⟨-, -, -, -, -, -, hcode, -, hy, hlen, hl⟩, hin, hse⟩ := cw
  obtain ⟨hx, hb, hml, ho, -⟩ := S
  obtain ⟨-, ⟨cellB, hcB, hoB, hclB⟩, hPc⟩ := hp
  intro T hT X
  rcases vx_callV X hx (C := C) (bytes := bytes) (maxL := maxL) (ret := ret) ho hl hin hse hcode hy hK (by rw [hT]; exact hcB) hoB hclB hg (hsize.trans hml.symm) (argsL := As) (rest := rest) (fun sig h => hn.trans (hlen sig h)) hstack hW (by rw [hb]; exact hdg)
    (fun vm₁ hW₁ => ⟨hf.1, hf.2, hPc (T.setVm vm₁) hT hW₁⟩) with ⟨v, vm₁, ⟨U', l2, c2, s2⟩, hW₁, X', ⟨g', mk, t, L, e1, e2, hq, h1, hL, h2, h3⟩, st⟩ | ⟨q, vm₁, ⟨U', l2, c2, s2⟩, hW₁, X', ⟨g', mk, t, L, E, ce, e1, e2, hq, hce, hcv, hcl, h1, hL, h2, h3⟩, st⟩
  · dsimp only [Pt.U, Pt.locs, Pt.cells, Pt.slots] at X' e1 e2 h1 h2 h3 st
    subst h1; subst h2; subst h3
    exact Or.inl ⟨v, (T.setVm vm₁).calling g' mk (Value.ref b :: As).toArray, t, U', L, hT, X', hL, e1, e2, hq, st⟩
  · dsimp only [Pt.U, Pt.locs, Pt.cells, Pt.slots] at X' e1 e2 h1 h2 h3 st hcl
    subst h1; subst h2; subst h3
    exact Or.inr ⟨q, (T.setVm vm₁).calling g' mk (Value.ref b :: As).toArray, t, U', L, E, ce, hT, X', hL, e1, e2, hq, hce, hcv, vx_cls hW₁ hcl, st⟩
theorem vx_runS (S : CallFix p m c cc nL s args Ts own) (hM : vx_Met l y ws rm Pc Qc XC mc ms free) (cw : CallB R s args own index y bytes maxL ret ws rm mc ms n ∧ (Cond.static y).before args s = true) (hp : PreS s H Pc As)
    (hg : g.method = m) (hn : As.length = n) (hsize : g.locals.size = nL) (hstack : g.stack = As.reverse ++ rest) (hW : 2 * g.monitorRoom + (rest.map fun v => v.category).sum ≤ 8) (hdg : decode cc g.pc = .ok (.invokestatic index, 3)) (hf : cells + mc ≤ R.cells ∧ slots + ms ≤ R.slots) :
    vx_Run p l e R s m args below meth c H locs cells slots mc ms g rest (Qc As.toArray) XC free := by
  have hK : vx_Back l R p e below s args y 3 8 (PreOf R mc ms Pc) (PostOf Qc mc ms free) (vx_Post XC mc ms free) := vx_callBack cw.1 hM hp.1
  obtain ⟨⟨-, -, -, -, -, -, hcode, hini, hy, hlen, hl⟩, hstt⟩ := cw
  obtain ⟨hx, hb, hml, ho, -⟩ := S
  intro T hT X
  rcases vx_callS X hx (bytes := bytes) (maxL := maxL) (ret := ret) ho hl hstt hini hcode hy hK hg (hsize.trans hml.symm) (argsL := As) (rest := rest) (fun sig h => hn.trans (hlen sig h)) hstack hW (by rw [hb]; exact hdg)
    (fun vm₁ hW₁ => ⟨hf.1, hf.2, hp.2 (T.setVm vm₁) hT hW₁⟩) with ⟨v, vm₁, ⟨U', l2, c2, s2⟩, hW₁, X', ⟨g', mk, t, L, e1, e2, hq, h1, hL, h2, h3⟩, st⟩ | ⟨q, vm₁, ⟨U', l2, c2, s2⟩, hW₁, X', ⟨g', mk, t, L, E, ce, e1, e2, hq, hce, hcv, hcl, h1, hL, h2, h3⟩, st⟩
  · dsimp only [Pt.U, Pt.locs, Pt.cells, Pt.slots] at X' e1 e2 h1 h2 h3 st
    subst h1; subst h2; subst h3
    exact Or.inl ⟨v, (T.setVm vm₁).calling g' mk As.toArray, t, U', L, hT, X', hL, e1, e2, hq, st⟩
  · dsimp only [Pt.U, Pt.locs, Pt.cells, Pt.slots] at X' e1 e2 h1 h2 h3 st hcl
    subst h1; subst h2; subst h3
    exact Or.inr ⟨q, (T.setVm vm₁).calling g' mk As.toArray, t, U', L, E, ce, hT, X', hL, e1, e2, hq, hce, hcv, vx_cls hW₁ hcl, st⟩
end Runs
section Rows
variable {p : Program} {l : Launch} {e : Env} {R : Room} {s : State} {m : MethodId} {args : Array Value} {below : List Frame} {meth : Method} {c : Code} {H : Heap} {locs : List Loc} {cells slots : Nat} {Q : State → Prop}
variable {mc ms : Nat} {free : Addr → Prop} {A0 A1 : Nat → Prop} {H0 : Heap} {a : Array Value} {pc : Nat} {ls : Array Slot} {st0 rest : List Value}
theorem vx_keep {st₀ t T' : State} {L : List Loc} (h0 : st₀.heap = H) (e1 : T'.heap = t.heap) (hS : va_S A0 H0 H locs) (hA : ∀ q, q < H.size → A1 q → A0 q) (hf : ∀ q, free q → A0 q) (hL : ∀ q ∈ L, free q.base) (hF : va_F A1 st₀ t) :
    H.size ≤ T'.heap.size ∧ (∀ q : Nat, q < H.size → ¬ A1 q → T'.heap[q]? = H[q]?) ∧ va_S A0 H0 T'.heap (locs ++ L) := by
  obtain ⟨hz, hk⟩ := hF
  rw [h0] at hz hk
  exact ⟨by rw [e1]; exact hz, fun q h1 h2 => by rw [e1]; exact hk q h1 h2,
    ⟨Nat.le_trans hS.1 (by rw [e1]; exact hz), fun q h1 h2 => by rw [e1, hk q (Nat.lt_of_lt_of_le h1 hS.1) (fun z => h2 (hA q (Nat.lt_of_lt_of_le h1 hS.1) z))]; exact hS.2.1 q h1 h2, fun q hq => by
      rcases List.mem_append.mp hq with h | h
      · exact hS.2.2 q h
      · exact hf _ (hL q h)⟩⟩
theorem vx_calli {S SX : Type} {post : Int32 → S → Prop} {px : SX → Prop} {B : S → State → Prop} {BX : String → SX → State → Prop} {AX : Nat → Prop} (hr : vx_Run p l e R s m args below meth c H locs cells slots mc ms (F0 m pc ls st0) rest (va_Qi post B A1 a) (vx_X px BX AX) free) (hS : va_S A0 H0 H locs) (hA : ∀ q, q < H.size → A1 q → A0 q) (hf : ∀ q, free q → A0 q) (hAX : ∀ q, q < H.size → AX q → A0 q)
    (kx : ∀ (E : String) (ce : Cell) (q9 : Addr) (u : SX) (t : State) (H1 : Heap) (locs1 : List Loc), t.heap = H1 → s.vm.Alike t.vm → px u → BX E u t → H.size ≤ H1.size → (∀ q : Nat, q < H.size → ¬ AX q → H1[q]? = H[q]?) → va_S A0 H0 H1 locs1 → H1[q9]? = some ce → ce.vm = .none → s.vm.findClass E = some ce.cls → vx_W p l e R s m args below meth c H1 locs1 (cells + mc) (slots + ms) Q (F0 m pc ls rest) q9)
    (kk : ∀ (r : Int32) (u : S) (t : State) (H1 : Heap) (locs1 : List Loc), t.heap = H1 → s.vm.Alike t.vm → post r u → B u t → H.size ≤ H1.size → (∀ q : Nat, q < H.size → ¬ A1 q → H1[q]? = H[q]?) → va_S A0 H0 H1 locs1 → W p l e R s m args below meth c H1 locs1 (cells + mc) (slots + ms) Q (F0 m (pc + 3) ls (.int r :: rest))) : W p l e R s m args below meth c H locs cells slots Q (F0 m pc ls st0) := by
  intro T hT X
  rcases hr T hT X with ⟨v, st₀, t, T', L, h0, X', hL, e1, e2, ⟨⟨r, u, hv, hp, hb⟩, hF⟩, st⟩ | ⟨q, st₀, t, T', L, E, ce, h0, X', hL, e1, e2, ⟨u, hp, hb, hF⟩, hce, hcv, hcl, st⟩
  · cases hv
    obtain ⟨k1, k2, k3⟩ := vx_keep h0 e1 hS hA hf hL hF
    obtain ⟨t2, a1, b1⟩ := kk r u t T'.heap (locs ++ L) e1.symm (by rw [← e2]; exact X'.warmed.alike) hp hb k1 k2 k3 T' rfl X'
    exact ⟨t2, st t2 a1, b1⟩
  · obtain ⟨k1, k2, k3⟩ := vx_keep h0 e1 hS hAX hf hL hF
    obtain ⟨t2, a1, b1⟩ := kx E ce q u t T'.heap (locs ++ L) e1.symm (by rw [← e2]; exact X'.warmed.alike) hp hb k1 k2 k3 (by rw [e1]; exact hce) hcv hcl T' rfl X'
    exact ⟨t2, st.trans a1, b1⟩
theorem vx_calll {S SX : Type} {post : Int64 → S → Prop} {px : SX → Prop} {B : S → State → Prop} {BX : String → SX → State → Prop} {AX : Nat → Prop} (hr : vx_Run p l e R s m args below meth c H locs cells slots mc ms (F0 m pc ls st0) rest (va_Ql post B A1 a) (vx_X px BX AX) free) (hS : va_S A0 H0 H locs) (hA : ∀ q, q < H.size → A1 q → A0 q) (hf : ∀ q, free q → A0 q) (hAX : ∀ q, q < H.size → AX q → A0 q)
    (kx : ∀ (E : String) (ce : Cell) (q9 : Addr) (u : SX) (t : State) (H1 : Heap) (locs1 : List Loc), t.heap = H1 → s.vm.Alike t.vm → px u → BX E u t → H.size ≤ H1.size → (∀ q : Nat, q < H.size → ¬ AX q → H1[q]? = H[q]?) → va_S A0 H0 H1 locs1 → H1[q9]? = some ce → ce.vm = .none → s.vm.findClass E = some ce.cls → vx_W p l e R s m args below meth c H1 locs1 (cells + mc) (slots + ms) Q (F0 m pc ls rest) q9)
    (kk : ∀ (r : Int64) (u : S) (t : State) (H1 : Heap) (locs1 : List Loc), t.heap = H1 → s.vm.Alike t.vm → post r u → B u t → H.size ≤ H1.size → (∀ q : Nat, q < H.size → ¬ A1 q → H1[q]? = H[q]?) → va_S A0 H0 H1 locs1 → W p l e R s m args below meth c H1 locs1 (cells + mc) (slots + ms) Q (F0 m (pc + 3) ls (.long r :: rest))) : W p l e R s m args below meth c H locs cells slots Q (F0 m pc ls st0) := by
  intro T hT X
  rcases hr T hT X with ⟨v, st₀, t, T', L, h0, X', hL, e1, e2, ⟨⟨r, u, hv, hp, hb⟩, hF⟩, st⟩ | ⟨q, st₀, t, T', L, E, ce, h0, X', hL, e1, e2, ⟨u, hp, hb, hF⟩, hce, hcv, hcl, st⟩
  · cases hv
    obtain ⟨k1, k2, k3⟩ := vx_keep h0 e1 hS hA hf hL hF
    obtain ⟨t2, a1, b1⟩ := kk r u t T'.heap (locs ++ L) e1.symm (by rw [← e2]; exact X'.warmed.alike) hp hb k1 k2 k3 T' rfl X'
    exact ⟨t2, st t2 a1, b1⟩
  · obtain ⟨k1, k2, k3⟩ := vx_keep h0 e1 hS hAX hf hL hF
    obtain ⟨t2, a1, b1⟩ := kx E ce q u t T'.heap (locs ++ L) e1.symm (by rw [← e2]; exact X'.warmed.alike) hp hb k1 k2 k3 (by rw [e1]; exact hce) hcv hcl T' rfl X'
    exact ⟨t2, st.trans a1, b1⟩
theorem vx_callf {S SX : Type} {post : UInt32 → S → Prop} {px : SX → Prop} {B : S → State → Prop} {BX : String → SX → State → Prop} {AX : Nat → Prop} (hr : vx_Run p l e R s m args below meth c H locs cells slots mc ms (F0 m pc ls st0) rest (va_Qf post B A1 a) (vx_X px BX AX) free) (hS : va_S A0 H0 H locs) (hA : ∀ q, q < H.size → A1 q → A0 q) (hf : ∀ q, free q → A0 q) (hAX : ∀ q, q < H.size → AX q → A0 q)
    (kx : ∀ (E : String) (ce : Cell) (q9 : Addr) (u : SX) (t : State) (H1 : Heap) (locs1 : List Loc), t.heap = H1 → s.vm.Alike t.vm → px u → BX E u t → H.size ≤ H1.size → (∀ q : Nat, q < H.size → ¬ AX q → H1[q]? = H[q]?) → va_S A0 H0 H1 locs1 → H1[q9]? = some ce → ce.vm = .none → s.vm.findClass E = some ce.cls → vx_W p l e R s m args below meth c H1 locs1 (cells + mc) (slots + ms) Q (F0 m pc ls rest) q9)
    (kk : ∀ (r : UInt32) (u : S) (t : State) (H1 : Heap) (locs1 : List Loc), t.heap = H1 → s.vm.Alike t.vm → post r u → B u t → H.size ≤ H1.size → (∀ q : Nat, q < H.size → ¬ A1 q → H1[q]? = H[q]?) → va_S A0 H0 H1 locs1 → W p l e R s m args below meth c H1 locs1 (cells + mc) (slots + ms) Q (F0 m (pc + 3) ls (.float r :: rest))) : W p l e R s m args below meth c H locs cells slots Q (F0 m pc ls st0) := by
  intro T hT X
  rcases hr T hT X with ⟨v, st₀, t, T', L, h0, X', hL, e1, e2, ⟨⟨r, u, hv, hp, hb⟩, hF⟩, st⟩ | ⟨q, st₀, t, T', L, E, ce, h0, X', hL, e1, e2, ⟨u, hp, hb, hF⟩, hce, hcv, hcl, st⟩
  · cases hv
    obtain ⟨k1, k2, k3⟩ := vx_keep h0 e1 hS hA hf hL hF
    obtain ⟨t2, a1, b1⟩ := kk r u t T'.heap (locs ++ L) e1.symm (by rw [← e2]; exact X'.warmed.alike) hp hb k1 k2 k3 T' rfl X'
    exact ⟨t2, st t2 a1, b1⟩
  · obtain ⟨k1, k2, k3⟩ := vx_keep h0 e1 hS hAX hf hL hF
    obtain ⟨t2, a1, b1⟩ := kx E ce q u t T'.heap (locs ++ L) e1.symm (by rw [← e2]; exact X'.warmed.alike) hp hb k1 k2 k3 (by rw [e1]; exact hce) hcv hcl T' rfl X'
    exact ⟨t2, st.trans a1, b1⟩
theorem vx_calld {S SX : Type} {post : UInt64 → S → Prop} {px : SX → Prop} {B : S → State → Prop} {BX : String → SX → State → Prop} {AX : Nat → Prop} (hr : vx_Run p l e R s m args below meth c H locs cells slots mc ms (F0 m pc ls st0) rest (va_Qd post B A1 a) (vx_X px BX AX) free) (hS : va_S A0 H0 H locs) (hA : ∀ q, q < H.size → A1 q → A0 q) (hf : ∀ q, free q → A0 q) (hAX : ∀ q, q < H.size → AX q → A0 q)
    (kx : ∀ (E : String) (ce : Cell) (q9 : Addr) (u : SX) (t : State) (H1 : Heap) (locs1 : List Loc), t.heap = H1 → s.vm.Alike t.vm → px u → BX E u t → H.size ≤ H1.size → (∀ q : Nat, q < H.size → ¬ AX q → H1[q]? = H[q]?) → va_S A0 H0 H1 locs1 → H1[q9]? = some ce → ce.vm = .none → s.vm.findClass E = some ce.cls → vx_W p l e R s m args below meth c H1 locs1 (cells + mc) (slots + ms) Q (F0 m pc ls rest) q9)
    (kk : ∀ (r : UInt64) (u : S) (t : State) (H1 : Heap) (locs1 : List Loc), t.heap = H1 → s.vm.Alike t.vm → post r u → B u t → H.size ≤ H1.size → (∀ q : Nat, q < H.size → ¬ A1 q → H1[q]? = H[q]?) → va_S A0 H0 H1 locs1 → W p l e R s m args below meth c H1 locs1 (cells + mc) (slots + ms) Q (F0 m (pc + 3) ls (.double r :: rest))) : W p l e R s m args below meth c H locs cells slots Q (F0 m pc ls st0) := by
  intro T hT X
  rcases hr T hT X with ⟨v, st₀, t, T', L, h0, X', hL, e1, e2, ⟨⟨r, u, hv, hp, hb⟩, hF⟩, st⟩ | ⟨q, st₀, t, T', L, E, ce, h0, X', hL, e1, e2, ⟨u, hp, hb, hF⟩, hce, hcv, hcl, st⟩
  · cases hv
    obtain ⟨k1, k2, k3⟩ := vx_keep h0 e1 hS hA hf hL hF
    obtain ⟨t2, a1, b1⟩ := kk r u t T'.heap (locs ++ L) e1.symm (by rw [← e2]; exact X'.warmed.alike) hp hb k1 k2 k3 T' rfl X'
    exact ⟨t2, st t2 a1, b1⟩
  · obtain ⟨k1, k2, k3⟩ := vx_keep h0 e1 hS hAX hf hL hF
    obtain ⟨t2, a1, b1⟩ := kx E ce q u t T'.heap (locs ++ L) e1.symm (by rw [← e2]; exact X'.warmed.alike) hp hb k1 k2 k3 (by rw [e1]; exact hce) hcv hcl T' rfl X'
    exact ⟨t2, st.trans a1, b1⟩
theorem vx_callv {S SX : Type} {post : S → Prop} {px : SX → Prop} {B : S → State → Prop} {BX : String → SX → State → Prop} {AX : Nat → Prop} (hr : vx_Run p l e R s m args below meth c H locs cells slots mc ms (F0 m pc ls st0) rest (va_Qv post B A1 a) (vx_X px BX AX) free) (hS : va_S A0 H0 H locs) (hA : ∀ q, q < H.size → A1 q → A0 q) (hf : ∀ q, free q → A0 q) (hAX : ∀ q, q < H.size → AX q → A0 q)
    (kx : ∀ (E : String) (ce : Cell) (q9 : Addr) (u : SX) (t : State) (H1 : Heap) (locs1 : List Loc), t.heap = H1 → s.vm.Alike t.vm → px u → BX E u t → H.size ≤ H1.size → (∀ q : Nat, q < H.size → ¬ AX q → H1[q]? = H[q]?) → va_S A0 H0 H1 locs1 → H1[q9]? = some ce → ce.vm = .none → s.vm.findClass E = some ce.cls → vx_W p l e R s m args below meth c H1 locs1 (cells + mc) (slots + ms) Q (F0 m pc ls rest) q9)
    (kk : ∀ (u : S) (t : State) (H1 : Heap) (locs1 : List Loc), t.heap = H1 → s.vm.Alike t.vm → post u → B u t → H.size ≤ H1.size → (∀ q : Nat, q < H.size → ¬ A1 q → H1[q]? = H[q]?) → va_S A0 H0 H1 locs1 → W p l e R s m args below meth c H1 locs1 (cells + mc) (slots + ms) Q (F0 m (pc + 3) ls (rest))) : W p l e R s m args below meth c H locs cells slots Q (F0 m pc ls st0) := by
  intro T hT X
  rcases hr T hT X with ⟨v, st₀, t, T', L, h0, X', hL, e1, e2, ⟨⟨u, hv, hp, hb⟩, hF⟩, st⟩ | ⟨q, st₀, t, T', L, E, ce, h0, X', hL, e1, e2, ⟨u, hp, hb, hF⟩, hce, hcv, hcl, st⟩
  · cases hv
    obtain ⟨k1, k2, k3⟩ := vx_keep h0 e1 hS hA hf hL hF
    obtain ⟨t2, a1, b1⟩ := kk u t T'.heap (locs ++ L) e1.symm (by rw [← e2]; exact X'.warmed.alike) hp hb k1 k2 k3 T' rfl X'
    exact ⟨t2, st t2 a1, b1⟩
  · obtain ⟨k1, k2, k3⟩ := vx_keep h0 e1 hS hAX hf hL hF
    obtain ⟨t2, a1, b1⟩ := kx E ce q u t T'.heap (locs ++ L) e1.symm (by rw [← e2]; exact X'.warmed.alike) hp hb k1 k2 k3 (by rw [e1]; exact hce) hcv hcl T' rfl X'
    exact ⟨t2, st.trans a1, b1⟩
/-- caught by the row x of this method's table; the rows ahead don't take it -/
theorem vx_catch {own name : String} {E : String} {ce : Cell} {q : Addr} (hown : s.vm.findClass own = some m.cls) (pre : List ExceptionTableEntry) (x : ExceptionTableEntry) (suf : List ExceptionTableEntry) (hsplit : c.exceptionTable.toList = pre ++ x :: suf)
    (hpass : ∀ z ∈ pre, covers z pc = false ∨ (z.catchType ≠ 0 ∧ ∃ nm : String, (Cond.classLink own z.catchType nm).before args s = true ∧ va_Nc E nm s)) (hx : covers x pc = true) (h0 : x.catchType ≠ 0)
    (hlink : (Cond.classLink own x.catchType name).before args s = true) (hcast : (Cond.castable E name).before args s = true) (hcell : H[q]? = some ce) (hv : ce.vm = .none) (hcl : s.vm.findClass E = some ce.cls)
    (kk : W p l e R s m args below meth c H locs cells slots Q (F0 m x.handlerPc ls [.ref q])) : vx_W p l e R s m args below meth c H locs cells slots Q (F0 m pc ls rest) q := by
  intro T hT X
  have hpl : e.platform.magicAccessors = ({} : Platform).magicAccessors := by rw [X.admits.platform]
  obtain ⟨c3, c4, hc3, hc4, hasg⟩ := Cond.castable_spec hcast
  cases Option.some.inj (hc3.symm.trans hcl)
  obtain ⟨c5, hc5, hcl5⟩ := Cond.classLink_spec hown hlink e.platform hpl
  cases Option.some.inj (hc4.symm.trans hc5)
  obtain ⟨vm', X', st⟩ := X.thenCaughtThrough q (g := F0 m pc ls rest) rfl (Steps.refl _) (by rw [hT]; exact hcell) (by rw [hv]; rfl) (by obtain ⟨k9, h9, -⟩ := Vm.findClass_spec hcl; exact ⟨k9, h9⟩) pre x suf hsplit
    (fun z hz => by
      rcases hpass z hz with h | ⟨hz0, nm, hl1, hn1⟩
      · exact Or.inl h
      · obtain ⟨c6, hc6, hcl6⟩ := Cond.classLink_spec hown hl1 e.platform hpl
        obtain ⟨a8, b8, h1, h2, h3⟩ := hn1
        cases Option.some.inj (h1.symm.trans hcl)
        cases Option.some.inj (h2.symm.trans hc6)
        exact Or.inr ⟨hz0, _, hcl6, h3⟩) hx (Or.inr ⟨h0, c4, hcl5, hasg⟩)
  obtain ⟨t, a1, b1⟩ := kk (T.setVm vm') hT X'
  exact ⟨t, st.trans a1, b1⟩
end Rows
section Ends
variable {p : Program} {l : Launch} {e : Env} {R : Room} {s : State} {m : MethodId} {args : Array Value} {below : List Frame} {meth : Method} {c : Code} {H : Heap} {locs : List Loc} {cells slots : Nat} {Q : State → Prop}
variable {mc ms : Nat} {free : Addr → Prop} {A0 A1 : Nat → Prop} {H0 : Heap} {a : Array Value} {ls : Array Slot} {st0 rest : List Value}
variable {Qc : Array Value → State → Outcome → State → Prop} {XC : String → State → State → Prop}
/-- what a body that may throw owes at its end -/
def vx_MQ (below : List Frame) (Qc : Array Value → State → Outcome → State → Prop) (XC : String → State → State → Prop) (a : Array Value) (s : State) (mc ms : Nat) (free : Addr → Prop) : State → Prop := fun t =>
  ∃ o, t.status = .running ∧ Ended t below o ∧ vx_Q Qc XC mc ms free a s o t
theorem vx_ret {g : JFrame} {mc ms : Nat} (k : W p l e R s m args below meth c H locs cells slots (MQ below Qc args s mc ms free) g) : W p l e R s m args below meth c H locs cells slots (vx_MQ below Qc XC args s mc ms free) g := by
  intro T hT X
  obtain ⟨t, a1, o, b1, b2, b3, b4⟩ := k T hT X
  exact ⟨t, a1, o, b1, b2, Or.inl ⟨b3, b4⟩⟩
/-- not caught here: it goes on to the caller -/
theorem vx_widen {g : JFrame} {q : Addr} {k n : Nat} (h1 : cells ≤ k) (h2 : slots ≤ n) (kk : vx_W p l e R s m args below meth c H locs k n Q g q) : vx_W p l e R s m args below meth c H locs cells slots Q g q := fun T hT X => kk T hT (stand_widen X h1 h2)
theorem vx_out {pc : Nat} {E : String} {ce : Cell} {q : Addr} {mc ms : Nat} (hout : ∀ x ∈ c.exceptionTable.toList, covers x pc = false) (hlocks : meth.locks = false) (hcell : H[q]? = some ce) (hv : ce.vm = .none) (hcl : s.vm.findClass E = some ce.cls)
    (hx : ∀ t : State, t.heap = H → s.vm.Alike t.vm → XC E s t) (hf : ∀ z ∈ locs, free z.base) (hc : cells ≤ mc) (hs : slots ≤ ms) :
    vx_W p l e R s m args below meth c H locs cells slots (vx_MQ below Qc XC args s mc ms free) (F0 m pc ls rest) q := by
  intro T hT X
  obtain ⟨st1, hrun, hend, hW, hsm⟩ := X.leaveThrown q (g := F0 m pc ls rest) rfl rfl rfl hout hlocks
  have hcell9 : (T.setFrames (.throwing q :: below)).heap[q]? = some ce := by
    show T.heap[q]? = some ce
    rw [hT]; exact hcell
  exact ⟨_, st1, .threw q, hrun, hend, Or.inr ⟨q, rfl, E, ce, locs, hx _ hT hW.alike, hcell9, hv, hcl, hW, hsm.mono hc hs, hf⟩⟩
theorem vx_frame {U : State} {k n : Nat} (h : s.sameButNew ({ U with vm := s.vm } : State) locs k n) : s.heap.size ≤ U.heap.size ∧ ∀ q : Nat, q < s.heap.size → (∀ z ∈ locs, z.base ≠ q) → U.heap[q]? = s.heap[q]? := by
  obtain ⟨-, h2, -, -, -, h6⟩ := h
  refine ⟨h2, fun q hq hz => ?_⟩
  obtain ⟨c9, e1, e2, e3, e4⟩ := h6 q _ (Array.getElem?_eq_getElem hq)
  have hs : c9.slots = (s.heap[q]).slots := Array.ext_getElem? fun i => e4 i fun hm => hz _ hm rfl
  have h9 : c9 = s.heap[q] := by
    rw [hs] at e2
    exact e2
  have e5 : U.heap[q]? = some c9 := e1
  rw [e5, h9, Array.getElem?_eq_getElem hq]
/-- the words of a throw but the four that speak of the heap -/
def vx_no (w : Cond) : Bool := decide (w ≠ .isRef (.static Bundle.tN "UNASSIGNED_STACK" Bundle.steD)) && decide (w ≠ .isRef (.static Bundle.tN "SUPPRESSED_SENTINEL" Bundle.listD)) && decide (w ≠ .laysStatic Bundle.tN "UNASSIGNED_STACK" Bundle.steD) && decide (w ≠ .laysStatic Bundle.tN "SUPPRESSED_SENTINEL" Bundle.listD)
def vx_at0 (own : String) (ic : Nat) (X : String) (names : List String) : List Cond := (Bundle.ownAtoms0 own ic X names).filter vx_no
def vx_atS (own : String) (ic : Nat) (X : String) (names : List String) : List Cond := (Bundle.ownAtoms own ic X names).filter vx_no
/-- a word that the tables alone decide, or a good one -/
def vx_ot (w : Cond) : Bool := w.onTables || goodWord w
theorem vx_ot_at {args a' : Array Value} {s U : State} {w : Cond} (hW : s.WarmedH U.vm) (hvm : s.vm = U.vm) (hg : vx_ot w = true) (h : w.before args s = true) : w.before a' U = true := by
  simp only [vx_ot, Bool.or_eq_true] at hg
  rcases hg with hg | hg
  · exact va_tabs hg hvm h
  · exact word_at hW (good_of_word hg) h
/-- a list's words: the good ones out of the method's own list, the others by premises of their own -/
theorem vx_hat {args : Array Value} {s : State} {L B : List Cond} (h1 : ∀ w ∈ L.filter goodWord, w.before args s = true) (h2 : ∀ w ∈ L.filter (fun w => !goodWord w), w ∈ B) (h3 : ∀ w ∈ B, w.before args s = true) : ∀ w ∈ L, w.before args s = true := by
  intro w hw
  by_cases g : goodWord w = true
  · exact h1 w (List.mem_filter.mpr ⟨hw, g⟩)
  · refine h3 w (h2 w (List.mem_filter.mpr ⟨hw, ?_⟩))
    show (!goodWord w) = true
    cases hgw : goodWord w
    · rfl
    · exact absurd hgw g
theorem vx_c {args : Array Value} {s : State} {w : Cond} {B : List Cond} (h : w.before args s = true) (t : ∀ w ∈ B, w.before args s = true) : ∀ w' ∈ w :: B, w'.before args s = true := fun w' h' => (List.mem_cons.mp h').elim (fun e => by rw [e]; exact h) (t w')
theorem vx_n {args : Array Value} {s : State} : ∀ w ∈ ([] : List Cond), w.before args s = true := fun _ h => nomatch h
theorem vx_own {args : Array Value} {s : State} {L : List Cond} (h1 : ∀ w ∈ L.filter vx_no, w.before args s = true)
    (hU : (Cond.isRef (.static Bundle.tN "UNASSIGNED_STACK" Bundle.steD)).before args s = true) (hN : (Cond.isRef (.static Bundle.tN "SUPPRESSED_SENTINEL" Bundle.listD)).before args s = true)
    (lU : (Cond.laysStatic Bundle.tN "UNASSIGNED_STACK" Bundle.steD).before args s = true) (lN : (Cond.laysStatic Bundle.tN "SUPPRESSED_SENTINEL" Bundle.listD).before args s = true) : ∀ w ∈ L, w.before args s = true := by
  intro w hw
  by_cases e1 : w = .isRef (.static Bundle.tN "UNASSIGNED_STACK" Bundle.steD)
  · rw [e1]; exact hU
  · by_cases e2 : w = .isRef (.static Bundle.tN "SUPPRESSED_SENTINEL" Bundle.listD)
    · rw [e2]; exact hN
    · by_cases e3 : w = .laysStatic Bundle.tN "UNASSIGNED_STACK" Bundle.steD
      · rw [e3]; exact lU
      · by_cases e4 : w = .laysStatic Bundle.tN "SUPPRESSED_SENTINEL" Bundle.listD
        · rw [e4]; exact lN
        · exact h1 w (List.mem_filter.mpr ⟨hw, by unfold vx_no; rw [decide_eq_true e1, decide_eq_true e2, decide_eq_true e3, decide_eq_true e4]; rfl⟩)
/-- where a static field lies, its class's statics cell in H -/
def vx_L (C n d : String) (A : Nat → Prop) (U : State) (H : Heap) : Prop := ∃ (c : ClassId) (k : Class) (i : Nat) (f : Field) (a : Nat) (cell : Cell), U.vm.findClass C = some c ∧ U.fieldFound? C n d = some (c, k, i, f) ∧ f.isStatic = true ∧ k.statics = some a ∧ H[a]? = some cell ∧ cell.vm.isStatics = true ∧ cell.cls = c ∧ f.slot < cell.slots.size ∧ k.staticTypes[f.slot]? = some f.type ∧ ¬ A a
theorem vx_L.moved {C n d : String} {A : Nat → Prop} {u U : State} {H : Heap} (hvm : u.vm.Alike U.vm) (h : vx_L C n d A u H) : vx_L C n d A U H := by
  obtain ⟨c, k, i, f, a, cell, h1, h2, h3, h4, h5, h6, h7, h8, h9, h10⟩ := h
  obtain ⟨k', hi', he⟩ := State.fieldFound?_setVm hvm h2
  exact ⟨c, k', i, f, a, cell, by rw [hvm.findClass]; exact h1, hi', h3, by rw [he]; exact h4, h5, h6, h7, h8, by rw [he]; exact h9, h10⟩
theorem vx_L.kept {C n d : String} {A : Nat → Prop} {U : State} {H H1 : Heap} (h : vx_L C n d A U H) (hq : ∀ a : Nat, a < H.size → ¬ A a → H1[a]? = H[a]?) : vx_L C n d A U H1 := by
  obtain ⟨c, k, i, f, a, cell, h1, h2, h3, h4, h5, h6, h7, h8, h9, h10⟩ := h
  exact ⟨c, k, i, f, a, cell, h1, h2, h3, h4, by rw [hq a (Array.getElem?_eq_some_iff.mp h5).1 h10]; exact h5, h6, h7, h8, h9, h10⟩
theorem vx_L.narrow {C n d : String} {A B : Nat → Prop} {U : State} {H : Heap} (h : vx_L C n d A U H) (hAB : ∀ q, B q → A q) : vx_L C n d B U H := by
  obtain ⟨c, k, i, f, a, cell, h1, h2, h3, h4, h5, h6, h7, h8, h9, h10⟩ := h
  exact ⟨c, k, i, f, a, cell, h1, h2, h3, h4, h5, h6, h7, h8, h9, fun z => h10 (hAB _ z)⟩
theorem vx_L.word {C n d : String} {A : Nat → Prop} {s : State} {args : Array Value} (h : vx_L C n d A s s.heap) : (Cond.laysStatic C n d).before args s = true := by
  obtain ⟨c, k, i, f, a, cell, h1, h2, h3, h4, h5, h6, h7, h8, h9, -⟩ := h
  show (Cond.laysStatic C n d).holds args s none s [] = true
  exact Cond.laysStatic_of h1 h2 h3 h4 h5 h6 h7 h8 h9
/-- .. and what it holds: null or some reference -/
def vx_Zq (C n d : String) (A : Nat → Prop) (U : State) (H : Heap) : Prop := va_Zq C n d A U H ∧ vx_L C n d A U H
theorem vx_Zq.moved {C n d : String} {A : Nat → Prop} {u U : State} {H : Heap} (hvm : u.vm.Alike U.vm) (h : vx_Zq C n d A u H) : vx_Zq C n d A U H := ⟨va_Zq.moved hvm h.1, vx_L.moved hvm h.2⟩
theorem vx_Zq.kept {C n d : String} {A : Nat → Prop} {U : State} {H H1 : Heap} (h : vx_Zq C n d A U H) (hq : ∀ a : Nat, a < H.size → ¬ A a → H1[a]? = H[a]?) : vx_Zq C n d A U H1 := ⟨va_Zq.kept h.1 hq, vx_L.kept h.2 hq⟩
theorem vx_Zq.narrow {C n d : String} {A B : Nat → Prop} {U : State} {H : Heap} (h : vx_Zq C n d A U H) (hAB : ∀ q, B q → A q) : vx_Zq C n d B U H := ⟨va_Zq.narrow h.1 hAB, vx_L.narrow h.2 hAB⟩
theorem vx_Zqof {args : Array Value} {s : State} {C n d : String} {A : Nat → Prop} (hl : (Cond.laysStatic C n d).before args s = true) (hini : (Cond.initialized C).before args s = true) (h : (Cond.isRef (.static C n d)).before args s = true) (hA : ∀ a : Nat, a < s.heap.size → ¬ A a) : vx_Zq C n d A s s.heap := by
  refine ⟨va_Zqof hl hini h hA, ?_⟩
  obtain ⟨c, k, i, f, a, cell, h1, h2, h3, h4, h5, h6, h7, h8, h9⟩ := Cond.laysStatic_spec hl
  exact ⟨c, k, i, f, a, cell, h1, h2, h3, h4, h5, h6, h7, h8, h9, hA a (Array.getElem?_eq_some_iff.mp h5).1⟩
theorem vx_isRef {C n d : String} {v : Value} {A : Nat → Prop} {s : State} {args : Array Value} (h : va_Z C n d v A s s.heap) (hv : v.isRef = true) : (Cond.isRef (.static C n d)).before args s = true := by
  obtain ⟨cf, kf, fi, f, a, cell, h1, h2, h3, h4, h5, h6, h7, -⟩ := h
  have he : (Term.static C n d).eval args s none [] s = some v := by
    simp [Term.eval, State.fieldNamed?, h1, h2, h4, h5, h6, h7]
  simp only [Cond.before, Cond.holds, Cond.value, he]
  cases v <;> simp_all [Value.isRef]
theorem vx_isRefq {C n d : String} {A : Nat → Prop} {s : State} {args : Array Value} (h : va_Zq C n d A s s.heap) : (Cond.isRef (.static C n d)).before args s = true := by
  rcases h with h | ⟨t, h⟩
  · exact vx_isRef h rfl
  · exact vx_isRef h rfl
/-- the same frame, seen from here: as if the method were called anew in this heap -/
theorem vx_rebase {T : State} (X : Stand p l e R s m args below meth c T locs cells slots) {R' : Room} (hf : R'.frames ≤ R.frames) (hl : R'.locals ≤ R.locals) (hc : cells + R'.cells ≤ R.cells) (hs : slots + R'.slots ≤ R.slots) :
    Stand p l e R' ((T.setVm s.vm).setFrames (.invoking m args :: below)) m args below meth c T [] 0 0 := by
  have htop : (T.setVm s.vm).topJava?.isSome := X.here.top
  have hF : ((T.setVm s.vm).setFrames (.invoking m args :: below)).frames = .invoking m args :: below := State.frames_setFrames _ (State.cur_lt_of_top htop)
  obtain ⟨g₀, hg0⟩ := Option.isSome_iff_exists.mp htop
  obtain ⟨r, hr⟩ := State.topJava?_eq_some.mp hg0
  have hl9 : e.platform.stackLimits (T.setVm s.vm).me = e.platform.stackLimits s.me := X.limits
  have hb9 : (T.setVm s.vm).me.stackBytes = s.me.stackBytes := X.bytes
  refine ⟨X.admits, X.cas, X.clock, hF, ?_, X.hears, X.method, X.code, X.here, X.tail, X.warmed, ?_, ?_, ?_⟩
  · have h := X.room
    have hU : ((T.setVm s.vm).setFrames (.invoking m args :: below)).localsInUse = s.localsInUse := by
      rw [State.localsInUse_invoking hF (meth := meth) (c := c) X.method X.code, State.localsInUse_invoking X.frames X.method X.code]
    simp only [State.hasRoom, Bool.and_eq_true, decide_eq_true_eq] at h ⊢
    obtain ⟨⟨⟨⟨h1, h2, h3, h4, h5, h6⟩, h7⟩, h8⟩, h9⟩ := h
    rw [X.frames, List.length_cons] at h2 h3
    have q1 := X.heapSize
    have q2 := X.used
    simp only [hF, hU, List.length_cons, State.stackLimits_setFrames, State.stackBytes_setFrames, hl9, hb9]
    refine ⟨⟨⟨⟨by omega, by omega, by omega, by omega, by omega, h6⟩, ?_⟩, ?_⟩, X.book⟩
    · show T.heap.size + R'.cells ≤ e.platform.maxCells
      omega
    · show T.slotsUsed + R'.slots ≤ e.platform.maxSlots
      omega
  · rw [State.stackLimits_setFrames]; rfl
  · rw [State.stackBytes_setFrames]; rfl
  · refine ⟨?_, Nat.le_refl _, Nat.le_refl _, ?_, ?_, fun a c9 h9 => ⟨c9, h9, rfl, rfl, fun _ _ => rfl⟩⟩
    · obtain ⟨t, ht, -⟩ := State.frames_cons hr
      show T.setVm s.vm = { ((T.setVm s.vm).setFrames (.invoking m args :: below)).setFrames (T.setVm s.vm).frames with heap := T.heap, slotsUsed := T.slotsUsed }
      rw [State.setFrames_setFrames, State.setFrames_self ht]
      rfl
    · show T.slotsUsed = T.slotsUsed + ((T.heap.toList.drop T.heap.size).map (·.slots.size)).sum
      rw [List.drop_eq_nil_of_le (Nat.le_of_eq Array.length_toList)]
      rfl
    · show ((T.heap.toList.drop T.heap.size).map (·.slots.size)).sum ≤ 0
      rw [List.drop_eq_nil_of_le (Nat.le_of_eq Array.length_toList)]
      exact Nat.le_refl _
/-- 'throw new E()': new; dup; invokespecial; athrow -/
theorem vx_throw0 {cc : ByteArray} {pc : Nat} (hexec : p.tables.exec = Jvm.exec) (hb : c.code = cc) (hl : l.stackTraces = false) {own cls : String} {names : List String} {ik ic mc ms : Nat} {A : Nat → Prop}
    (hown : s.vm.findClass own = some m.cls) (hcls : Bundle.fit cls = true) (hnames : ∀ n ∈ names, Bundle.fit n = true)
    (hk : (Cond.classLink own ik cls).before args s = true) (hini : (Cond.initialized cls).before args s = true) (hat : ∀ w ∈ vx_at0 own ic cls names, w.before args s = true)
    (hgood : ∀ w ∈ Cond.classLink own ik cls :: Cond.initialized cls :: vx_at0 own ic cls names, vx_ot w = true)
    (hU : vx_Zq Bundle.tN "UNASSIGNED_STACK" Bundle.steD A s s.heap) (hN : vx_Zq Bundle.tN "SUPPRESSED_SENTINEL" Bundle.listD A s s.heap) (hS : va_S A s.heap H locs) (hsize : ls.size = c.maxLocals)
    (d0 : decode cc pc = .ok (.new ik, 3)) (d3 : decode cc (pc + 3) = .ok (.dup, 1)) (d4 : decode cc (pc + 4) = .ok (.invokespecial ic, 3)) (d7 : decode cc (pc + 7) = .ok (.athrow, 1))
    (hout : ∀ x ∈ c.exceptionTable.toList, covers x (pc + 7) = false)
    (hRframes : names.length + 3 < R.frames) (hRlocals : (rest.map fun v => v.category).sum + (13 * (names.length + 1) + 42) ≤ R.locals) (hRcells : cells + 1 ≤ R.cells) (hRslots : slots + 6 ≤ R.slots) (hlocks : meth.locks = false)
    (hx : ∀ t : State, s.vm.Alike t.vm → H.size ≤ t.heap.size → (∀ q : Nat, q < H.size → t.heap[q]? = H[q]?) → XC cls s t)
    (hf : ∀ z ∈ locs, free z.base) (hc : cells + 1 ≤ mc) (hs : slots + 6 ≤ ms) :
    W p l e R s m args below meth c H locs cells slots (vx_MQ below Qc XC args s mc ms free) (F0 m pc ls rest) := by
  intro T hT X
  have htr : e.platform.stackTraces = false := (show e.platform.stackTraces = l.stackTraces by rw [X.admits.platform]).trans hl
  have Y := vx_rebase X (R' := { frames := R.frames, locals := R.locals, cells := 1, slots := 6 }) (Nat.le_refl _) (Nat.le_refl _) hRcells hRslots
  obtain ⟨s', hA⟩ : ∃ z, z = (T.setVm s.vm).setFrames (.invoking m args :: below) := ⟨_, rfl⟩
  rw [← hA] at Y
  have hvm : s'.vm = s.vm := by rw [hA]; rfl
  have hhp : s'.heap = H := by rw [hA]; exact hT
  have hW0 : s.WarmedH s'.vm := by rw [hvm]; exact State.WarmedH.refl s
  have hat' : ∀ w ∈ vx_at0 own ic cls names, w.before args s' = true := fun w hw => vx_ot_at hW0 hvm.symm (hgood w (List.mem_cons_of_mem _ (List.mem_cons_of_mem _ hw))) (hat w hw)
  have hk' : (Cond.classLink own ik cls).before args s' = true := vx_ot_at hW0 hvm.symm (hgood _ List.mem_cons_self) hk
  have hini' : (Cond.initialized cls).before args s' = true := vx_ot_at hW0 hvm.symm (hgood _ (List.mem_cons_of_mem _ List.mem_cons_self)) hini
  have hU' : vx_Zq Bundle.tN "UNASSIGNED_STACK" Bundle.steD A s' s'.heap := by rw [hhp]; exact vx_Zq.moved hW0.alike (hU.kept hS.2.1)
  have hN' : vx_Zq Bundle.tN "SUPPRESSED_SENTINEL" Bundle.listD A s' s'.heap := by rw [hhp]; exact vx_Zq.moved hW0.alike (hN.kept hS.2.1)
  have h : ∀ w ∈ Bundle.ownAtoms0 own ic cls names, w.before args s' = true := vx_own hat' (vx_isRefq hU'.1) (vx_isRefq hN'.1) hU'.2.word hN'.2.word
  have hown' : s'.vm.findClass own = some m.cls := by rw [hvm]; exact hown
  have hins : (Cond.instantiable cls 6).before args s' = true := h _ (by simp [Bundle.ownAtoms0])
  obtain ⟨vm₁, cX, kX, hfX, hkX, -, -, X₁, st1⟩ := Y.newCold hexec (own := own) (C := cls) (index := ik) (n := 6) hown' hk' hins hini'
    (g := F0 m pc ls rest) rfl (by rw [hb]; exact d0) (Nat.le_refl _) (Nat.le_refl _)
  generalize hT1 : (T.setVm vm₁).pushCell { cls := cX, slots := kX.instanceTypes.map defaultValue, vm := .none } = T1 at X₁ st1
  have hcat : (Value.ref T.heap.size).category = 1 := rfl
  have hcellA : T1.heap[T.heap.size]? = some (freshCell cX kX) := by rw [← hT1]; exact State.heap_pushCell_size _ _
  have d3' : decode c.code (pc + 3) = .ok (.dup, 1) := by rw [hb]; exact d3
  obtain ⟨U, hsteps, hrun, hend, hW, hsame, ce, hce, hO⟩ := X₁.ctorThrow0 hexec htr (own := own) (cls := cls) (names := names) (ic := ic) hown' hcls hnames h (fun x hx => nomatch hx) hfX hkX hcellA (by rw [hhp, hT]; exact Nat.le_refl _)
    (g := { method := m, pc := pc + 4, locals := ls, stack := .ref T.heap.size :: .ref T.heap.size :: rest, locked := none }) rfl hsize rfl rfl (rest := rest) rfl
    (by rw [hb]; exact d4) (by rw [hb]; exact d7) hout hRframes (by simp only [List.map_cons, List.sum_cons, hcat]; omega) hlocks
  obtain ⟨f1, f2⟩ := vx_frame hsame
  rw [hhp] at f1 f2
  have hWs : s.WarmedH U.vm := State.WarmedH.trans hW0 hW
  have hcl : s.vm.findClass cls = some ce.cls := by
    have h9 := hO.cls
    rw [hvm] at h9
    exact h9
  have hall : s.sameButNew ({ U with vm := s.vm } : State) locs mc ms := by
    subst hA
    obtain ⟨e1, e2⟩ := hsame
    rw [State.setFrames_setFrames] at e1
    have h2 : (T.setVm s.vm).sameButNew ({ U with vm := s.vm } : State) [] (0 + 1) (0 + 6) := ⟨e1, e2⟩
    have h3 := X.same.trans h2
    rw [List.append_nil] at h3
    exact h3.mono hc hs
  refine ⟨U, ?_, .threw T.heap.size, hrun, hend, Or.inr ⟨T.heap.size, rfl, cls, ce, locs, hx U hWs.alike f1 (fun q hq => f2 q hq (fun z hz => nomatch hz)), hce, hO.vm, hcl, hWs, hall, hf⟩⟩
  refine st1 _ ?_
  show Steps p.tables e below (T1.setTop { method := m, pc := pc + 3, locals := ls, stack := .ref T.heap.size :: rest, locked := none }) _
  jvm_step X₁.here [X₁.here.top, hexec, d3', Value.category]
  exact hsteps
/-- 'throw new E("text")': new; dup; ldc; invokespecial; athrow -/
theorem vx_throwS {cc : ByteArray} {pc : Nat} (hexec : p.tables.exec = Jvm.exec) (hb : c.code = cc) (hl : l.stackTraces = false) {own cls text : String} {names : List String} {ik is ic mc ms sa : Nat} {A : Nat → Prop}
    (hown : s.vm.findClass own = some m.cls) (hcls : Bundle.fit cls = true) (hnames : ∀ n ∈ names, Bundle.fit n = true)
    (hk : (Cond.classLink own ik cls).before args s = true) (hini : (Cond.initialized cls).before args s = true) (hstr : vk_R own is text sa s) (hat : ∀ w ∈ vx_atS own ic cls names, w.before args s = true)
    (hgood : ∀ w ∈ Cond.classLink own ik cls :: Cond.initialized cls :: vx_atS own ic cls names, vx_ot w = true)
    (hU : vx_Zq Bundle.tN "UNASSIGNED_STACK" Bundle.steD A s s.heap) (hN : vx_Zq Bundle.tN "SUPPRESSED_SENTINEL" Bundle.listD A s s.heap) (hS : va_S A s.heap H locs) (hsize : ls.size = c.maxLocals)
    (d0 : decode cc pc = .ok (.new ik, 3)) (d3 : decode cc (pc + 3) = .ok (.dup, 1)) (d4 : decode cc (pc + 4) = .ok (.ldc is, 2)) (d6 : decode cc (pc + 6) = .ok (.invokespecial ic, 3)) (d9 : decode cc (pc + 9) = .ok (.athrow, 1))
    (hout : ∀ x ∈ c.exceptionTable.toList, covers x (pc + 9) = false)
    (hRframes : names.length + 3 < R.frames) (hRlocals : (rest.map fun v => v.category).sum + (13 * (names.length + 1) + 43) ≤ R.locals) (hRcells : cells + 1 ≤ R.cells) (hRslots : slots + 6 ≤ R.slots) (hlocks : meth.locks = false)
    (hx : ∀ t : State, s.vm.Alike t.vm → H.size ≤ t.heap.size → (∀ q : Nat, q < H.size → t.heap[q]? = H[q]?) → XC cls s t)
    (hf : ∀ z ∈ locs, free z.base) (hc : cells + 1 ≤ mc) (hs : slots + 6 ≤ ms) :
    W p l e R s m args below meth c H locs cells slots (vx_MQ below Qc XC args s mc ms free) (F0 m pc ls rest) := by
  intro T hT X
  have htr : e.platform.stackTraces = false := (show e.platform.stackTraces = l.stackTraces by rw [X.admits.platform]).trans hl
  have Y := vx_rebase X (R' := { frames := R.frames, locals := R.locals, cells := 1, slots := 6 }) (Nat.le_refl _) (Nat.le_refl _) hRcells hRslots
  obtain ⟨s', hA⟩ : ∃ z, z = (T.setVm s.vm).setFrames (.invoking m args :: below) := ⟨_, rfl⟩
  rw [← hA] at Y
  have hvm : s'.vm = s.vm := by rw [hA]; rfl
  have hhp : s'.heap = H := by rw [hA]; exact hT
  have hW0 : s.WarmedH s'.vm := by rw [hvm]; exact State.WarmedH.refl s
  have hat' : ∀ w ∈ vx_atS own ic cls names, w.before args s' = true := fun w hw => vx_ot_at hW0 hvm.symm (hgood w (List.mem_cons_of_mem _ (List.mem_cons_of_mem _ hw))) (hat w hw)
  have hk' : (Cond.classLink own ik cls).before args s' = true := vx_ot_at hW0 hvm.symm (hgood _ List.mem_cons_self) hk
  have hini' : (Cond.initialized cls).before args s' = true := vx_ot_at hW0 hvm.symm (hgood _ (List.mem_cons_of_mem _ List.mem_cons_self)) hini
  have hU' : vx_Zq Bundle.tN "UNASSIGNED_STACK" Bundle.steD A s' s'.heap := by rw [hhp]; exact vx_Zq.moved hW0.alike (hU.kept hS.2.1)
  have hN' : vx_Zq Bundle.tN "SUPPRESSED_SENTINEL" Bundle.listD A s' s'.heap := by rw [hhp]; exact vx_Zq.moved hW0.alike (hN.kept hS.2.1)
  have h : ∀ w ∈ Bundle.ownAtoms own ic cls names, w.before args s' = true := vx_own hat' (vx_isRefq hU'.1) (vx_isRefq hN'.1) hU'.2.word hN'.2.word
  have hown' : s'.vm.findClass own = some m.cls := by rw [hvm]; exact hown
  have hins : (Cond.instantiable cls 6).before args s' = true := h _ (by simp [Bundle.ownAtoms])
  obtain ⟨vm₁, cX, kX, hfX, hkX, -, -, X₁, st1⟩ := Y.newCold hexec (own := own) (C := cls) (index := ik) (n := 6) hown' hk' hins hini'
    (g := F0 m pc ls rest) rfl (by rw [hb]; exact d0) (Nat.le_refl _) (Nat.le_refl _)
  generalize hT1 : (T.setVm vm₁).pushCell { cls := cX, slots := kX.instanceTypes.map defaultValue, vm := .none } = T1 at X₁ st1
  have hcat : (Value.ref T.heap.size).category = 1 := rfl
  have hcellA : T1.heap[T.heap.size]? = some (freshCell cX kX) := by rw [← hT1]; exact State.heap_pushCell_size _ _
  have d3' : decode c.code (pc + 3) = .ok (.dup, 1) := by rw [hb]; exact d3
  have d4' : decode c.code (pc + 4) = .ok (.ldc is, 2) := by rw [hb]; exact d4
  have hstr' : vk_R own is text sa s' := vk_R.warm hW0 hstr
  obtain ⟨U, hsteps, hrun, hend, hW, hsame, ce, hce, hO⟩ := X₁.ctorThrowS hexec htr (own := own) (cls := cls) (names := names) (ic := ic) hown' hcls hnames h (fun x hx => nomatch hx) hfX hkX hcellA (by rw [hhp, hT]; exact Nat.le_refl _) (msg := .ref sa) rfl
    (g := { method := m, pc := pc + 6, locals := ls, stack := .ref sa :: .ref T.heap.size :: .ref T.heap.size :: rest, locked := none }) rfl hsize rfl rfl (rest := rest) rfl
    (by rw [hb]; exact d6) (by rw [hb]; exact d9) hout hRframes (by simp only [List.map_cons, List.sum_cons, hcat]; omega) hlocks
  obtain ⟨f1, f2⟩ := vx_frame hsame
  rw [hhp] at f1 f2
  have hWs : s.WarmedH U.vm := State.WarmedH.trans hW0 hW
  have hcl : s.vm.findClass cls = some ce.cls := by
    have h9 := hO.cls
    rw [hvm] at h9
    exact h9
  have hall : s.sameButNew ({ U with vm := s.vm } : State) locs mc ms := by
    subst hA
    obtain ⟨e1, e2⟩ := hsame
    rw [State.setFrames_setFrames] at e1
    have h2 : (T.setVm s.vm).sameButNew ({ U with vm := s.vm } : State) [] (0 + 1) (0 + 6) := ⟨e1, e2⟩
    have h3 := X.same.trans h2
    rw [List.append_nil] at h3
    exact h3.mono hc hs
  refine ⟨U, ?_, .threw T.heap.size, hrun, hend, Or.inr ⟨T.heap.size, rfl, cls, ce, locs, hx U hWs.alike f1 (fun q hq => f2 q hq (fun z hz => nomatch hz)), hce, hO.vm, hcl, hWs, hall, hf⟩⟩
  refine st1 _ ?_
  show Steps p.tables e below (T1.setTop { method := m, pc := pc + 3, locals := ls, stack := .ref T.heap.size :: rest, locked := none }) _
  jvm_step X₁.here [X₁.here.top, hexec, d3', Value.category]
  exact X₁.ldcString hexec (own := own) (text := text) (index := is) (a := sa) hown' hstr'.1 hstr'.2
    (g := { method := m, pc := pc + 4, locals := ls, stack := .ref T.heap.size :: .ref T.heap.size :: rest, locked := none }) rfl d4' _ hsteps
/-- 'throw new E("text")', the text by a wide index -/
theorem vx_throwSW {cc : ByteArray} {pc : Nat} (hexec : p.tables.exec = Jvm.exec) (hb : c.code = cc) (hl : l.stackTraces = false) {own cls text : String} {names : List String} {ik is ic mc ms sa : Nat} {A : Nat → Prop}
    (hown : s.vm.findClass own = some m.cls) (hcls : Bundle.fit cls = true) (hnames : ∀ n ∈ names, Bundle.fit n = true)
    (hk : (Cond.classLink own ik cls).before args s = true) (hini : (Cond.initialized cls).before args s = true) (hstr : vk_R own is text sa s) (hat : ∀ w ∈ vx_atS own ic cls names, w.before args s = true)
    (hgood : ∀ w ∈ Cond.classLink own ik cls :: Cond.initialized cls :: vx_atS own ic cls names, vx_ot w = true)
    (hU : vx_Zq Bundle.tN "UNASSIGNED_STACK" Bundle.steD A s s.heap) (hN : vx_Zq Bundle.tN "SUPPRESSED_SENTINEL" Bundle.listD A s s.heap) (hS : va_S A s.heap H locs) (hsize : ls.size = c.maxLocals)
    (d0 : decode cc pc = .ok (.new ik, 3)) (d3 : decode cc (pc + 3) = .ok (.dup, 1)) (d4 : decode cc (pc + 4) = .ok (.ldc_w is, 3)) (d7 : decode cc (pc + 7) = .ok (.invokespecial ic, 3)) (d10 : decode cc (pc + 10) = .ok (.athrow, 1))
    (hout : ∀ x ∈ c.exceptionTable.toList, covers x (pc + 10) = false)
    (hRframes : names.length + 3 < R.frames) (hRlocals : (rest.map fun v => v.category).sum + (13 * (names.length + 1) + 43) ≤ R.locals) (hRcells : cells + 1 ≤ R.cells) (hRslots : slots + 6 ≤ R.slots) (hlocks : meth.locks = false)
    (hx : ∀ t : State, s.vm.Alike t.vm → H.size ≤ t.heap.size → (∀ q : Nat, q < H.size → t.heap[q]? = H[q]?) → XC cls s t)
    (hf : ∀ z ∈ locs, free z.base) (hc : cells + 1 ≤ mc) (hs : slots + 6 ≤ ms) :
    W p l e R s m args below meth c H locs cells slots (vx_MQ below Qc XC args s mc ms free) (F0 m pc ls rest) := by
  intro T hT X
  have htr : e.platform.stackTraces = false := (show e.platform.stackTraces = l.stackTraces by rw [X.admits.platform]).trans hl
  have Y := vx_rebase X (R' := { frames := R.frames, locals := R.locals, cells := 1, slots := 6 }) (Nat.le_refl _) (Nat.le_refl _) hRcells hRslots
  obtain ⟨s', hA⟩ : ∃ z, z = (T.setVm s.vm).setFrames (.invoking m args :: below) := ⟨_, rfl⟩
  rw [← hA] at Y
  have hvm : s'.vm = s.vm := by rw [hA]; rfl
  have hhp : s'.heap = H := by rw [hA]; exact hT
  have hW0 : s.WarmedH s'.vm := by rw [hvm]; exact State.WarmedH.refl s
  have hat' : ∀ w ∈ vx_atS own ic cls names, w.before args s' = true := fun w hw => vx_ot_at hW0 hvm.symm (hgood w (List.mem_cons_of_mem _ (List.mem_cons_of_mem _ hw))) (hat w hw)
  have hk' : (Cond.classLink own ik cls).before args s' = true := vx_ot_at hW0 hvm.symm (hgood _ List.mem_cons_self) hk
  have hini' : (Cond.initialized cls).before args s' = true := vx_ot_at hW0 hvm.symm (hgood _ (List.mem_cons_of_mem _ List.mem_cons_self)) hini
  have hU' : vx_Zq Bundle.tN "UNASSIGNED_STACK" Bundle.steD A s' s'.heap := by rw [hhp]; exact vx_Zq.moved hW0.alike (hU.kept hS.2.1)
  have hN' : vx_Zq Bundle.tN "SUPPRESSED_SENTINEL" Bundle.listD A s' s'.heap := by rw [hhp]; exact vx_Zq.moved hW0.alike (hN.kept hS.2.1)
  have h : ∀ w ∈ Bundle.ownAtoms own ic cls names, w.before args s' = true := vx_own hat' (vx_isRefq hU'.1) (vx_isRefq hN'.1) hU'.2.word hN'.2.word
  have hown' : s'.vm.findClass own = some m.cls := by rw [hvm]; exact hown
  have hins : (Cond.instantiable cls 6).before args s' = true := h _ (by simp [Bundle.ownAtoms])
  obtain ⟨vm₁, cX, kX, hfX, hkX, -, -, X₁, st1⟩ := Y.newCold hexec (own := own) (C := cls) (index := ik) (n := 6) hown' hk' hins hini'
    (g := F0 m pc ls rest) rfl (by rw [hb]; exact d0) (Nat.le_refl _) (Nat.le_refl _)
  generalize hT1 : (T.setVm vm₁).pushCell { cls := cX, slots := kX.instanceTypes.map defaultValue, vm := .none } = T1 at X₁ st1
  have hcat : (Value.ref T.heap.size).category = 1 := rfl
  have hcellA : T1.heap[T.heap.size]? = some (freshCell cX kX) := by rw [← hT1]; exact State.heap_pushCell_size _ _
  have d3' : decode c.code (pc + 3) = .ok (.dup, 1) := by rw [hb]; exact d3
  have d4' : decode c.code (pc + 4) = .ok (.ldc_w is, 3) := by rw [hb]; exact d4
  have hstr' : vk_R own is text sa s' := vk_R.warm hW0 hstr
  obtain ⟨U, hsteps, hrun, hend, hW, hsame, ce, hce, hO⟩ := X₁.ctorThrowS hexec htr (own := own) (cls := cls) (names := names) (ic := ic) hown' hcls hnames h (fun x hx => nomatch hx) hfX hkX hcellA (by rw [hhp, hT]; exact Nat.le_refl _) (msg := .ref sa) rfl
    (g := { method := m, pc := pc + 7, locals := ls, stack := .ref sa :: .ref T.heap.size :: .ref T.heap.size :: rest, locked := none }) rfl hsize rfl rfl (rest := rest) rfl
    (by rw [hb]; exact d7) (by rw [hb]; exact d10) hout hRframes (by simp only [List.map_cons, List.sum_cons, hcat]; omega) hlocks
  obtain ⟨f1, f2⟩ := vx_frame hsame
  rw [hhp] at f1 f2
  have hWs : s.WarmedH U.vm := State.WarmedH.trans hW0 hW
  have hcl : s.vm.findClass cls = some ce.cls := by
    have h9 := hO.cls
    rw [hvm] at h9
    exact h9
  have hall : s.sameButNew ({ U with vm := s.vm } : State) locs mc ms := by
    subst hA
    obtain ⟨e1, e2⟩ := hsame
    rw [State.setFrames_setFrames] at e1
    have h2 : (T.setVm s.vm).sameButNew ({ U with vm := s.vm } : State) [] (0 + 1) (0 + 6) := ⟨e1, e2⟩
    have h3 := X.same.trans h2
    rw [List.append_nil] at h3
    exact h3.mono hc hs
  refine ⟨U, ?_, .threw T.heap.size, hrun, hend, Or.inr ⟨T.heap.size, rfl, cls, ce, locs, hx U hWs.alike f1 (fun q hq => f2 q hq (fun z hz => nomatch hz)), hce, hO.vm, hcl, hWs, hall, hf⟩⟩
  refine st1 _ ?_
  show Steps p.tables e below (T1.setTop { method := m, pc := pc + 3, locals := ls, stack := .ref T.heap.size :: rest, locked := none }) _
  jvm_step X₁.here [X₁.here.top, hexec, d3', Value.category]
  exact X₁.ldcStringW hexec (own := own) (text := text) (index := is) (a := sa) hown' hstr'.1 hstr'.2
    (g := { method := m, pc := pc + 4, locals := ls, stack := .ref T.heap.size :: .ref T.heap.size :: rest, locked := none }) rfl d4' _ hsteps
end Ends
section Bodies
variable {l : Launch}
theorem vx_ofW {y : MethodName} {ws ws' : List Cond} {rm : Room} {Pc : Array Value → State → Prop} {Qc : Array Value → State → Outcome → State → Prop} {XC : String → State → State → Prop} {mc ms : Nat} {free : Addr → Prop} {cc : ByteArray} {maxL : Nat} {ret : Option FieldType}
    (hy : plainName y.cls = true) (hw : ws = Cond.code y cc maxL ret :: ws')
    (body : ∀ p e s m args below meth c s₁, BodyLoose p l y (headSpec ws rm) cc maxL ret e s m args below meth c s₁ → c.maxLocals = maxL → (∀ x ∈ c.exceptionTable.toList, False) → Pc args s →
      W p l e (headSpec ws rm).room s m args below meth c s.heap [] 0 0 (vx_MQ below Qc XC args s mc ms free) (entryFrame m args maxL)) : vx_Met l y ws rm Pc Qc XC mc ms free := by
  refine MetFree.of_bodyS (code := cc) (maxLocals := maxL) (ret := ret) hy ?_ ?_
  · intro args s m h hn
    obtain ⟨meth, c, h1, h2, h3, h4, h5, h6, -, -⟩ := Cond.code_spec hn (atoms_spec (ws := ws) h _ (by rw [hw]; exact List.mem_cons_self))
    exact ⟨meth, c, h1, h2, h3, h4, h5, h6⟩
  · intro p e s m args below meth c s₁ B hml hP _
    have hh0 : s₁.heap = s.heap := by rw [B.state]; rfl
    have ht : ∀ x ∈ c.exceptionTable.toList, False := by
      obtain ⟨meth9, c9, h1, h2, -, -, -, -, h7, -⟩ := Cond.code_spec B.named (atoms_spec (ws := ws) B.pre _ (by rw [hw]; exact List.mem_cons_self))
      cases Option.some.inj (h1.symm.trans B.method)
      cases Option.some.inj (h2.symm.trans (Stand.of_body B).code)
      intro x hx
      rw [Array.isEmpty_iff.mp h7] at hx
      cases hx
    obtain ⟨t, a1, o, b1, b2, b3⟩ := body p e s m args below meth c s₁ B hml ht hP s₁ hh0 (Stand.of_body B)
    exact ⟨t, o, a1, b1, b2, b3⟩
/-- the table of a body with handlers -/
theorem vx_table {p : Program} {x y : MethodName} {S : Spec} {cc bytes : ByteArray} {maxL maxL' : Nat} {ret ret' : Option FieldType} {e : Env} {s s₁ : State} {m : MethodId} {args : Array Value} {below : List Frame} {meth : Method} {c : Code} {hh : List (Nat × Nat × Nat × Nat)}
    (B : BodyLoose p l y S cc maxL ret e s m args below meth c s₁) (h : (Cond.codeWith y bytes maxL' ret' hh).before args s = true) : c.exceptionTable.toList = tableOf hh := by
  obtain ⟨m9, meth9, c9, hn9, h1, h2, -, -, h6, -⟩ := Cond.codeWith_spec h
  cases Option.some.inj (hn9.symm.trans B.named)
  cases Option.some.inj (h1.symm.trans B.method)
  cases Option.some.inj (h2.symm.trans (Stand.of_body B).code)
  rw [← h6, table_eq]
end Bodies
end VXA
/-! ===== END ===== -/
/-! ===== BEGIN a static call of a method with an exception table ===== -/
section VXS
variable {p : Program} {l : Launch} {e : Env} {R : Room} {s : State} {m : MethodId} {args : Array Value} {below : List Frame} {meth : Method} {c : Code} {T : State} {H : Heap} {locs : List Loc} {cells slots : Nat}
abbrev vx_CSW (R : Room) (s : State) (args : Array Value) (own : String) (index : Nat) (y : MethodName) (bytes : ByteArray) (maxL : Nat) (ret : Option FieldType) (hh : List (Nat × Nat × Nat × Nat)) (ws : List Cond) (rm : Room) (mc ms n : Nat) : Prop :=
  (rm.cells = mc ∧ rm.slots = ms ∧ rm.frames + 1 ≤ R.frames ∧ 8 + (maxL + 11) + rm.locals ≤ R.locals ∧ (∀ w ∈ ws, ∀ (a' : Array Value) (U : State), s.WarmedH U.vm → w.before a' U = true) ∧ Cond.codeWith y bytes maxL ret hh ∈ ws) ∧
  (Cond.codeWith y bytes maxL ret hh).before args s = true ∧ (Cond.initialized y.cls).before args s = true ∧ (y.cls ≠ "java/lang/invoke/MethodHandle" ∧ y.cls ≠ "java/lang/invoke/VarHandle") ∧
  (∀ sig, parseMethodDescriptor y.desc = some sig → n = sig.parameters.length) ∧ (Cond.methodLink own index y).before args s = true ∧ (Cond.static y).before args s = true
theorem vx_cwSW {own : String} {index maxL mc ms : Nat} {y : MethodName} {bytes : ByteArray} {ret : Option FieldType} {hh : List (Nat × Nat × Nat × Nat)} {Ts ws ws' : List Cond} {rm : Room} (n : Nat) (ht : ∀ w ∈ Ts, w.before args s = true) (hT : GoodIn Ts (va_wsS own index y ws)) (hw : ws = Cond.codeWith y bytes maxL ret hh :: ws') (hrc : rm.cells = mc) (hrs : rm.slots = ms)
    (hd : y.cls ≠ "java/lang/invoke/MethodHandle" ∧ y.cls ≠ "java/lang/invoke/VarHandle" ∧ (parseMethodDescriptor y.desc).map (fun d => d.parameters.length) = some n) (hR : rm.frames + 1 ≤ R.frames ∧ 8 + (maxL + 11) + rm.locals ≤ R.locals) :
    vx_CSW R s args own index y bytes maxL ret hh ws rm mc ms n := by
  have ok : ∀ w ∈ va_wsS own index y ws, w.before args s = true := fun w h => ht w (hT w h).1
  have hG : GoodIn Ts ws := fun w h => hT w (by unfold va_wsS; exact List.mem_append_right _ h)
  have hc : Cond.codeWith y bytes maxL ret hh ∈ ws := by rw [hw]; exact List.mem_cons_self
  refine ⟨⟨hrc, hrs, hR.1, hR.2, pay_in ht hG, hc⟩, ht _ (hG _ hc).1, ok _ (by simp [va_wsS]), ⟨hd.1, hd.2.1⟩, fun sig h => ?_, ok _ (by simp [va_wsS]), ok _ (by simp [va_wsS])⟩
  have h2 := hd.2.2
  rw [h] at h2
  exact (Option.some.inj h2).symm
theorem vx_callSW (X : Stand p l e R s m args below meth c T locs cells slots) (hexec : p.tables.exec = Jvm.exec) {own : String} {index : Nat} {y : MethodName} {bytes : ByteArray} {maxL : Nat} {ret : Option FieldType} {hh : List (Nat × Nat × Nat × Nat)}
    (hown : s.vm.findClass own = some m.cls) (hlink : (Cond.methodLink own index y).before args s = true) (hstat : (Cond.static y).before args s = true) (hinit : (Cond.initialized y.cls).before args s = true)
    (hcode : (Cond.codeWith y bytes maxL ret hh).before args s = true) (hy : y.cls ≠ "java/lang/invoke/MethodHandle" ∧ y.cls ≠ "java/lang/invoke/VarHandle")
    {W9 : Nat} {Pre : Pt → Array Value → Prop} {Post : Pt → Array Value → Option Value → Pt → Prop} (hK : Back l R p e below s args y 3 W9 Pre Post)
    {g : JFrame} (hg : g.method = m) (hsize : g.locals.size = c.maxLocals) {argsL rest : List Value} (hlen : ∀ sig, parseMethodDescriptor y.desc = some sig → argsL.length = sig.parameters.length)
    (hstack : g.stack = argsL.reverse ++ rest) (hW : 2 * g.monitorRoom + (rest.map fun v => v.category).sum ≤ W9) (hdg : decode c.code g.pc = .ok (.invokestatic index, 3))
    (hpre : ∀ vm₁, s.WarmedH vm₁ → Pre ⟨T.setVm vm₁, locs, cells, slots⟩ argsL.toArray) :
    ∃ (v : Option Value) (vm₁ : Vm) (B : Pt), s.WarmedH vm₁ ∧ Stand p l e R s m args below meth c B.U B.locs B.cells B.slots ∧ Post ⟨T.setVm vm₁, locs, cells, slots⟩ argsL.toArray v B ∧
      ∀ target, Steps p.tables e below (B.U.setTop { g with pc := g.pc + 3, stack := v.toList ++ rest }) target → Steps p.tables e below (T.setTop g) target := by
  obtain ⟨mk, methM, cM, hnamed, hmethM, -, -, -, -, -, -, hsigM⟩ := Cond.codeWith_spec hcode
  have hstatic : methM.isStatic = true := Cond.static_spec hnamed hmethM hstat
  obtain ⟨kP, hkP, -⟩ := className_of_methodNamed hnamed
  have hinitP : kP.init = .initialized := Cond.initialized_spec (findClass_of_methodNamed hnamed) hkP hinit
  obtain ⟨vm₁, X₁, hstep₁⟩ := X.invokestatic hexec hown hlink hnamed hmethM hstatic hkP hinitP hy (g := g) hg (argsL := argsL) (rest := rest) (hlen _ hsigM) hstack hdg
  obtain ⟨v, B, X', hpost, hsteps⟩ := hK m meth c ⟨T.setVm vm₁, locs, cells, slots⟩ { g with stack := rest } (.invokestatic index) mk argsL.toArray X₁ hg hsize hdg hW (X₁.named hnamed) (hpre vm₁ X₁.warmed)
  exact ⟨v, vm₁, B, X₁.warmed, X', hpost, fun target h => hstep₁ _ fun acts => by rw [doInvoke_state]; exact hsteps.trans h⟩
theorem vx_runSW {y : MethodName} {bytes cc : ByteArray} {maxL nL mc ms n index : Nat} {ret : Option FieldType} {hh : List (Nat × Nat × Nat × Nat)} {ws : List Cond} {rm : Room} {Pc : Array Value → State → Prop} {Qc : Array Value → State → Outcome → State → Prop} {free : Addr → Prop} {Ts : List Cond} {own : String} {As rest : List Value} {g : JFrame}
    (S : CallFix p m c cc nL s args Ts own) (hM : Met l y ws rm Pc Qc mc ms free) (cw : vx_CSW R s args own index y bytes maxL ret hh ws rm mc ms n) (hp : PreS s H Pc As)
    (hg : g.method = m) (hn : As.length = n) (hsize : g.locals.size = nL) (hstack : g.stack = As.reverse ++ rest) (hW : 2 * g.monitorRoom + (rest.map fun v => v.category).sum ≤ 8) (hdg : decode cc g.pc = .ok (.invokestatic index, 3)) (hf : cells + mc ≤ R.cells ∧ slots + ms ≤ R.slots) :
    va_Run p l e R s m args below meth c H locs cells slots mc ms g rest (Qc As.toArray) (free) := by
  obtain ⟨⟨hrc, hrs, hfr, hlo, hws, hcw⟩, hcode, hini, hy, hlen, hl, hstt⟩ := cw
  have hK : Back l R p e below s args y 3 8 (PreOf R mc ms Pc) (PostOf Qc mc ms free) := va_backW (hh := hh) (bytes := bytes) (maxL := maxL) (ret := ret) hM hp.1 hrc hrs hfr hlo hws hcw (fun a' U hW => word_at hW (Or.inl (by first | rfl | simp [Cond.onTables, Cond.keeps, Cond.steady])) hini)
  obtain ⟨hx, hb, hml, ho, -⟩ := S
  intro T hT X
  obtain ⟨v, vm₁, ⟨U', l2, c2, s2⟩, hW₁, X', ⟨g', mk, t, L, e1, e2, hq, h1, hL, h2, h3⟩, st⟩ := vx_callSW X hx (hh := hh) (bytes := bytes) (maxL := maxL) (ret := ret) ho hl hstt hini hcode hy hK hg (hsize.trans hml.symm) (argsL := As) (rest := rest) (fun sig h => hn.trans (hlen sig h)) hstack hW (by rw [hb]; exact hdg)
    (fun vm₁ hW₁ => ⟨hf.1, hf.2, hp.2 (T.setVm vm₁) hT hW₁⟩)
  dsimp only [Pt.U, Pt.locs, Pt.cells, Pt.slots] at X' e1 e2 h1 h2 h3 st
  subst h1; subst h2; subst h3
  exact ⟨v, (T.setVm vm₁).calling g' mk As.toArray, t, U', L, hT, X', hL, e1, e2, hq, st⟩
/-- not caught here, past rows that name other classes: it goes on to the caller -/
theorem vx_outP {p : Program} {l : Launch} {e : Env} {R : Room} {s : State} {m : MethodId} {args : Array Value} {below : List Frame} {meth : Method} {c : Code} {H : Heap} {locs : List Loc} {cells slots : Nat} {free : Addr → Prop} {ls : Array Slot} {rest : List Value} {Qc : Array Value → State → Outcome → State → Prop} {XC : String → State → State → Prop}
    {pc : Nat} {own E : String} {ce : Cell} {q : Addr} {mc ms : Nat} (hown : s.vm.findClass own = some m.cls) (hlocks : meth.locks = false)
    (hpass : ∀ z ∈ c.exceptionTable.toList, covers z pc = false ∨ (z.catchType ≠ 0 ∧ ∃ nm : String, (Cond.classLink own z.catchType nm).before args s = true ∧ va_Nc E nm s)) (hcell : H[q]? = some ce) (hv : ce.vm = .none) (hcl : s.vm.findClass E = some ce.cls)
    (hx : ∀ t : State, t.heap = H → s.vm.Alike t.vm → XC E s t) (hf : ∀ z ∈ locs, free z.base) (hc : cells ≤ mc) (hs : slots ≤ ms) :
    vx_W p l e R s m args below meth c H locs cells slots (vx_MQ below Qc XC args s mc ms free) (F0 m pc ls rest) q := by
  intro T hT X
  have hpl : e.platform.magicAccessors = ({} : Platform).magicAccessors := by rw [X.admits.platform]
  obtain ⟨vm', hW', X', st⟩ := X.outThrough hlocks q (g := F0 m pc ls rest) rfl rfl rfl (cell := ce) (by rw [hT]; exact hcell) (by rw [hv]; rfl)
    (by obtain ⟨k9, h9, -⟩ := Vm.findClass_spec hcl; exact ⟨k9, h9⟩) (fun z hz => by
      rcases hpass z hz with h | ⟨hz0, nm, hl1, hn1⟩
      · exact Or.inl h
      · obtain ⟨c6, hc6, hcl6⟩ := Cond.classLink_spec hown hl1 e.platform hpl
        obtain ⟨a8, b8, h1, h2, h3⟩ := hn1
        cases Option.some.inj (h1.symm.trans hcl)
        cases Option.some.inj (h2.symm.trans hc6)
        exact Or.inr ⟨hz0, _, hcl6, h3⟩)
  obtain ⟨g₀, hfr⟩ := X'.frames_eq
  have hcell9 : ((T.setVm vm').setFrames (.throwing q :: below)).heap[q]? = some ce := by
    show T.heap[q]? = some ce
    rw [hT]; exact hcell
  have hend : Ended ((T.setVm vm').setFrames (.throwing q :: below)) below (.threw q) := State.frames_setFrames _ (State.cur_lt_of_frames hfr)
  refine ⟨(T.setVm vm').setFrames (.throwing q :: below), ?_, .threw q, X'.here.running, hend, Or.inr ⟨q, rfl, E, ce, locs, hx _ hT (X'.ends _).1.alike, hcell9, hv, hcl, (X'.ends _).1, (X'.ends _).2.mono hc hs, hf⟩⟩
  rw [X.pushThrowing_eq]
  exact st
/-- a thing of a world lies in the heap -/
theorem vx_lt {D : va_G} {cl : List vw_C} {ws : va_W} {H1 : Heap} (h : va_P D cl ws H1) {k : Nat} {q : Nat × va_E} (hk : ws[k]? = some q) : q.1 < H1.size := (h k q hk).lt
end VXS
/-! ===== END ===== -/
/-! ===== BEGIN methods with a table of their own: called by a name, returning or throwing ===== -/
section VXH
/-! vx_backW, vx_callVX, vx_callSX, vx_callVW, vx_runVW, vx_runVX, vx_runSX, vx_ofWH follow the same proofs as their sisters above (Free/Laws.lean, Shelf42/LK1.lean); vx_outP calls Shelf42/NT130.lean (outThrough). -/
section
variable {l : Launch} {R : Room} {p : Program} {e : Env} {below : List Frame} {s : State} {sargs : Array Value} {y : MethodName} {len W9 : Nat}
theorem vx_backW {ws : List Cond} {rm : Room} {Pc : Array Value → State → Prop} {Qc : Array Value → State → Outcome → State → Prop} {XC : String → State → State → Prop} {mc ms : Nat} {free : Addr → Prop} {bytes : ByteArray} {maxL : Nat} {ret : Option FieldType} {hh : List (Nat × Nat × Nat × Nat)}
    (hM : vx_Met l y ws rm Pc Qc XC mc ms free) (hblind : FrameBlind Pc) (hrc : rm.cells = mc) (hrs : rm.slots = ms)
    (hframes : rm.frames + 1 ≤ R.frames) (hlocals : W9 + (maxL + 11) + rm.locals ≤ R.locals)
    (hws : ∀ w ∈ ws, ∀ a' U, s.WarmedH U.vm → w.before a' U = true) (hcode : Cond.codeWith y bytes maxL ret hh ∈ ws) (hinit : ∀ a' U, s.WarmedH U.vm → (Cond.initialized y.cls).before a' U = true) :
    vx_Back l R p e below s sargs y len W9 (PreOf R mc ms Pc) (PostOf Qc mc ms free) (vx_Post XC mc ms free) := by
  intro m meth c A g ig mk a X hg hsize hdg hW hn hp
  have h1 : (headSpec ws rm).pre.before a A.U = true := atoms_intro fun w hw => hws w hw _ _ X.warmed
  have h2 : (Cond.codeWith y bytes maxL ret hh).before a A.U = true := hws _ hcode _ _ X.warmed
  have h3 : (Cond.initialized y.cls).before a A.U = true := hinit _ _ X.warmed
  have h4 : A.cells + (headSpec ws rm).room.cells ≤ R.cells := by rw [show (headSpec ws rm).room.cells = mc from hrc]; exact hp.1
  have h5 : A.slots + (headSpec ws rm).room.slots ≤ R.slots := by rw [show (headSpec ws rm).room.slots = ms from hrs]; exact hp.2.1
  have hPc : Pc a (A.U.calling g mk a) := hblind _ _ _ _ hp.2.2
  obtain ⟨U, Ls, c0, s0⟩ := A
  dsimp only [Pt.U, Pt.locs, Pt.cells, Pt.slots] at h1 h2 h3 h4 h5 X hn hPc ⊢
  obtain ⟨m9, methY, cY, hn9, hmY, hcY, -, hlY, -⟩ := Cond.codeWith_spec h2
  cases Option.some.inj (hn9.symm.trans hn)
  obtain ⟨kY, hkY, -⟩ := className_of_methodNamed hn
  have hinitY : kY.init = .initialized := Cond.initialized_spec (findClass_of_methodNamed hn) hkY h3
  have h : At U g.method c below := by rw [hg]; exact X.here
  have hlocals9 : W9 + (maxL + 11) + (headSpec ws rm).room.locals ≤ R.locals := hlocals
  have happ : (headSpec ws rm).appliesLoose y e.platform (U.calling g mk a) = true :=
    Spec.appliesLoose_calling (g := g) h hdg hn hkY hinitY
      (X.room_calling (g := g) (R' := (headSpec ws rm).room) hsize hmY hcY hframes (by rw [hlY]; omega) h4 h5) h1
  obtain ⟨mid, hmid⟩ := h.above
  have hfr : (U.setTop g).frames = (.java g :: mid) ++ below := by rw [State.frames_setTop' g h.top, hmid]; rfl
  obtain ⟨o, s₂, hsteps, -, hend, hq⟩ := Steps.callFree hM p X.admits X.cas X.clock (acts := []) hfr happ hPc trivial
  have hq' : vx_Q Qc XC mc ms free a (U.calling g mk a) o s₂ := hq
  rw [State.frames_setTop' g h.top] at hend
  obtain ⟨g₀, hg0⟩ := Option.isSome_iff_exists.mp h.top
  obtain ⟨r, hr⟩ := State.topJava?_eq_some.mp hg0
  have hr' : (({ U with heap := s₂.heap, slotsUsed := s₂.slotsUsed } : State).setVm s₂.vm).frames = .java g₀ :: r := hr
  rcases hq' with ⟨hqc, L, hfe, hL⟩ | ⟨q, rfl, E, ce, L, hx, hce, hcv, hcl, hW₂, hsm, hL⟩
  · obtain ⟨⟨v, rfl⟩, hW₂, e2, q2, q3, q4, q5, q6⟩ := id hfe
    have e3 : s₂ = ({ (U.calling g mk a).setFrames s₂.frames with heap := s₂.heap, slotsUsed := s₂.slotsUsed } : State).setVm s₂.vm := by
      have : s₂ = ({ s₂ with vm := (U.calling g mk a).vm } : State).setVm s₂.vm := rfl
      rw [e2] at this
      exact this
    obtain ⟨c₂, i₂, len₂, hc₂, hd₂, hf₂⟩ := hend
    have hW' : U.WarmedH s₂.vm := hW₂
    have hcc : c₂ = c := by
      have h1 : s₂.code? g.method = U.code? g.method := by
        rw [State.code?_eq, State.code?_eq, hW'.alike.method?]
      exact Option.some.inj (hc₂.symm.trans (h1.trans h.code))
    subst hcc
    have hlen : len₂ = len := by rw [hdg] at hd₂; cases hd₂; rfl
    subst hlen
    have hs₂ : s₂ = (({ U with heap := s₂.heap, slotsUsed := s₂.slotsUsed } : State).setVm s₂.vm).setTop { g with pc := g.pc + len₂, stack := v.toList ++ g.stack } := by
      refine e3.trans ?_
      rw [hf₂, State.calling_eq h.top, State.setFrames_setFrames, State.setTop_of_frames _ hr', hr]
      rfl
    have hsame : U.sameButNew ({ U with heap := s₂.heap, slotsUsed := s₂.slotsUsed } : State) L mc ms := by
      refine ⟨?_, q2, q3, q4, q5, q6⟩
      obtain ⟨t, ht, -⟩ := State.frames_cons hr
      show ({ U with heap := s₂.heap, slotsUsed := s₂.slotsUsed } : State) = { U.setFrames U.frames with heap := s₂.heap, slotsUsed := s₂.slotsUsed }
      rw [State.setFrames_self ht]
    subst hg
    refine Or.inl ⟨v, ⟨(({ U with heap := s₂.heap, slotsUsed := s₂.slotsUsed } : State).setVm s₂.vm), Ls ++ L, c0 + mc, s0 + ms⟩,
      ⟨X.admits, X.cas, X.clock, X.frames, X.room, X.hears, X.method, X.code, (X.here.setHeapUsed s₂.heap s₂.slotsUsed).setVm hW'.alike, X.tail, State.WarmedH.trans X.warmed hW', X.limits, X.bytes, X.same.trans (hsame.setVm s.vm)⟩,
      ⟨g, mk, s₂, L, rfl, rfl, hqc, rfl, hL, rfl, rfl⟩, ?_⟩
    show Steps p.tables e below _ ((({ U with heap := s₂.heap, slotsUsed := s₂.slotsUsed } : State).setVm s₂.vm).setTop { g with pc := g.pc + len₂, stack := v.toList ++ g.stack })
    rw [← hs₂]
    exact hsteps
  · obtain ⟨e2, q2, q3, q4, q5, q6⟩ := id hsm
    have e3 : s₂ = ({ (U.calling g mk a).setFrames s₂.frames with heap := s₂.heap, slotsUsed := s₂.slotsUsed } : State).setVm s₂.vm := by
      have : s₂ = ({ s₂ with vm := (U.calling g mk a).vm } : State).setVm s₂.vm := rfl
      rw [e2] at this
      exact this
    have hf₂ : s₂.frames = .throwing q :: .java g :: U.frames.tail := hend
    have hW' : U.WarmedH s₂.vm := hW₂
    have hs₂ : s₂ = ((({ U with heap := s₂.heap, slotsUsed := s₂.slotsUsed } : State).setVm s₂.vm).setTop g).pushFrame (.throwing q) := by
      refine e3.trans ?_
      rw [hf₂, State.calling_eq h.top, State.setFrames_setFrames, State.pushFrame, State.frames_setTop _ hr', State.setTop_of_frames _ hr', State.setFrames_setFrames, hr]
      rfl
    have hsame : U.sameButNew ({ U with heap := s₂.heap, slotsUsed := s₂.slotsUsed } : State) L mc ms := by
      refine ⟨?_, q2, q3, q4, q5, q6⟩
      obtain ⟨t, ht, -⟩ := State.frames_cons hr
      show ({ U with heap := s₂.heap, slotsUsed := s₂.slotsUsed } : State) = { U.setFrames U.frames with heap := s₂.heap, slotsUsed := s₂.slotsUsed }
      rw [State.setFrames_self ht]
    subst hg
    refine Or.inr ⟨q, ⟨(({ U with heap := s₂.heap, slotsUsed := s₂.slotsUsed } : State).setVm s₂.vm), Ls ++ L, c0 + mc, s0 + ms⟩,
      ⟨X.admits, X.cas, X.clock, X.frames, X.room, X.hears, X.method, X.code, (X.here.setHeapUsed s₂.heap s₂.slotsUsed).setVm hW'.alike, X.tail, State.WarmedH.trans X.warmed hW', X.limits, X.bytes, X.same.trans (hsame.setVm s.vm)⟩,
      ⟨g, mk, s₂, L, E, ce, rfl, rfl, hx, hce, hcv, hcl, rfl, hL, rfl, rfl⟩, ?_⟩
    show Steps p.tables e below _ (((({ U with heap := s₂.heap, slotsUsed := s₂.slotsUsed } : State).setVm s₂.vm).setTop g).pushFrame (.throwing q))
    rw [← hs₂]
    exact hsteps
end
variable {p : Program} {l : Launch} {e : Env} {R : Room} {s : State} {m : MethodId} {args : Array Value} {below : List Frame} {meth : Method} {c : Code} {T : State} {H : Heap} {locs : List Loc} {cells slots : Nat}
theorem vx_callVX (X : Stand p l e R s m args below meth c T locs cells slots) (hexec : p.tables.exec = Jvm.exec) {own C : String} {index : Nat} {y : MethodName} {bytes : ByteArray} {maxL : Nat} {ret : Option FieldType} {hh : List (Nat × Nat × Nat × Nat)}
    (hown : s.vm.findClass own = some m.cls) (hlink : (Cond.methodLink own index y).before args s = true) (hinst : (Cond.instanceMethod y).before args s = true) (hsel : (Cond.selects C y y).before args s = true)
    (hcode : (Cond.codeWith y bytes maxL ret hh).before args s = true) (hy : y.cls ≠ "java/lang/invoke/MethodHandle" ∧ y.cls ≠ "java/lang/invoke/VarHandle")
    {W9 : Nat} {Pre : Pt → Array Value → Prop} {Post : Pt → Array Value → Option Value → Pt → Prop} {PostX : Pt → Array Value → Addr → Pt → Prop} (hK : vx_Back l R p e below s args y 3 W9 Pre Post PostX)
    {b : Addr} {cellB : Cell} (hcell : T.heap[b]? = some cellB) (hobj : cellB.vm.isStatics = false) (hcls : s.vm.findClass C = some cellB.cls)
    {g : JFrame} (hg : g.method = m) (hsize : g.locals.size = c.maxLocals) {argsL rest : List Value} (hlen : ∀ sig, parseMethodDescriptor y.desc = some sig → argsL.length = sig.parameters.length)
    (hstack : g.stack = argsL.reverse ++ .ref b :: rest) (hW : 2 * g.monitorRoom + (rest.map fun v => v.category).sum ≤ W9) (hdg : decode c.code g.pc = .ok (.invokevirtual index, 3))
    (hpre : ∀ vm₁, s.WarmedH vm₁ → Pre ⟨T.setVm vm₁, locs, cells, slots⟩ (Value.ref b :: argsL).toArray) :
    (∃ (v : Option Value) (vm₁ : Vm) (B : Pt), s.WarmedH vm₁ ∧ Stand p l e R s m args below meth c B.U B.locs B.cells B.slots ∧ Post ⟨T.setVm vm₁, locs, cells, slots⟩ (Value.ref b :: argsL).toArray v B ∧
      ∀ target, Steps p.tables e below (B.U.setTop { g with pc := g.pc + 3, stack := v.toList ++ rest }) target → Steps p.tables e below (T.setTop g) target) ∨
    (∃ (q : Addr) (vm₁ : Vm) (B : Pt), s.WarmedH vm₁ ∧ Stand p l e R s m args below meth c B.U B.locs B.cells B.slots ∧ PostX ⟨T.setVm vm₁, locs, cells, slots⟩ (Value.ref b :: argsL).toArray q B ∧
      Steps p.tables e below (T.setTop g) ((B.U.setTop { g with stack := rest }).pushFrame (.throwing q))) := by
  obtain ⟨mk, methM, hnamed, hmethM, hstM, habM⟩ := Cond.instanceMethod_spec hinst
  obtain ⟨m8, methM', cM, hn8, hmethM', -, -, -, -, -, -, hsigM⟩ := Cond.codeWith_spec hcode
  cases Option.some.inj (hn8.symm.trans hnamed)
  cases hmethM.symm.trans hmethM'
  obtain ⟨c2, r2, m2, q1, q2, q3, q4, kP, hkP, hkPi⟩ := Cond.selects_spec hsel
  cases hcls.symm.trans q1
  cases (State.methodFound?_of_named hnamed hy).symm.trans q2
  cases hnamed.symm.trans q3
  have hselP : selectMethod e.platform s.vm cellB.cls mk = .method mk := by rw [Launch.admits_selectMethod X.admits]; exact q4
  obtain ⟨vm₁, X₁, hstep₁⟩ := X.invokevirtual hexec hown hlink hnamed hmethM hstM hkP hkPi hy (a := b) (cell := cellB) hcell
    (fun z h => by rw [h] at hobj; cases hobj) hselP hmethM habM hkP hkPi (g := g) hg (argsL := argsL) (rest := rest) (hlen _ hsigM) hstack hdg
  rcases hK m meth c ⟨T.setVm vm₁, locs, cells, slots⟩ { g with stack := rest } (.invokevirtual index) mk (Value.ref b :: argsL).toArray X₁ hg hsize hdg hW (X₁.named hnamed) (hpre vm₁ X₁.warmed) with ⟨v, B, X', hpost, hsteps⟩ | ⟨q, B, X', hpost, hsteps⟩
  · exact Or.inl ⟨v, vm₁, B, X₁.warmed, X', hpost, fun target h => hstep₁ _ fun acts => by rw [doInvoke_state]; exact hsteps.trans h⟩
  · exact Or.inr ⟨q, vm₁, B, X₁.warmed, X', hpost, hstep₁ _ fun acts => by rw [doInvoke_state]; exact hsteps⟩
theorem vx_callSX (X : Stand p l e R s m args below meth c T locs cells slots) (hexec : p.tables.exec = Jvm.exec) {own : String} {index : Nat} {y : MethodName} {bytes : ByteArray} {maxL : Nat} {ret : Option FieldType} {hh : List (Nat × Nat × Nat × Nat)}
    (hown : s.vm.findClass own = some m.cls) (hlink : (Cond.methodLink own index y).before args s = true) (hstat : (Cond.static y).before args s = true) (hinit : (Cond.initialized y.cls).before args s = true)
    (hcode : (Cond.codeWith y bytes maxL ret hh).before args s = true) (hy : y.cls ≠ "java/lang/invoke/MethodHandle" ∧ y.cls ≠ "java/lang/invoke/VarHandle")
    {W9 : Nat} {Pre : Pt → Array Value → Prop} {Post : Pt → Array Value → Option Value → Pt → Prop} {PostX : Pt → Array Value → Addr → Pt → Prop} (hK : vx_Back l R p e below s args y 3 W9 Pre Post PostX)
    {g : JFrame} (hg : g.method = m) (hsize : g.locals.size = c.maxLocals) {argsL rest : List Value} (hlen : ∀ sig, parseMethodDescriptor y.desc = some sig → argsL.length = sig.parameters.length)
    (hstack : g.stack = argsL.reverse ++ rest) (hW : 2 * g.monitorRoom + (rest.map fun v => v.category).sum ≤ W9) (hdg : decode c.code g.pc = .ok (.invokestatic index, 3))
    (hpre : ∀ vm₁, s.WarmedH vm₁ → Pre ⟨T.setVm vm₁, locs, cells, slots⟩ argsL.toArray) :
    (∃ (v : Option Value) (vm₁ : Vm) (B : Pt), s.WarmedH vm₁ ∧ Stand p l e R s m args below meth c B.U B.locs B.cells B.slots ∧ Post ⟨T.setVm vm₁, locs, cells, slots⟩ argsL.toArray v B ∧
      ∀ target, Steps p.tables e below (B.U.setTop { g with pc := g.pc + 3, stack := v.toList ++ rest }) target → Steps p.tables e below (T.setTop g) target) ∨
    (∃ (q : Addr) (vm₁ : Vm) (B : Pt), s.WarmedH vm₁ ∧ Stand p l e R s m args below meth c B.U B.locs B.cells B.slots ∧ PostX ⟨T.setVm vm₁, locs, cells, slots⟩ argsL.toArray q B ∧
      Steps p.tables e below (T.setTop g) ((B.U.setTop { g with stack := rest }).pushFrame (.throwing q))) := by
  obtain ⟨mk, methM, cM, hnamed, hmethM, -, -, -, -, -, -, hsigM⟩ := Cond.codeWith_spec hcode
  have hstatic : methM.isStatic = true := Cond.static_spec hnamed hmethM hstat
  obtain ⟨kP, hkP, -⟩ := className_of_methodNamed hnamed
  have hinitP : kP.init = .initialized := Cond.initialized_spec (findClass_of_methodNamed hnamed) hkP hinit
  obtain ⟨vm₁, X₁, hstep₁⟩ := X.invokestatic hexec hown hlink hnamed hmethM hstatic hkP hinitP hy (g := g) hg (argsL := argsL) (rest := rest) (hlen _ hsigM) hstack hdg
  rcases hK m meth c ⟨T.setVm vm₁, locs, cells, slots⟩ { g with stack := rest } (.invokestatic index) mk argsL.toArray X₁ hg hsize hdg hW (X₁.named hnamed) (hpre vm₁ X₁.warmed) with ⟨v, B, X', hpost, hsteps⟩ | ⟨q, B, X', hpost, hsteps⟩
  · exact Or.inl ⟨v, vm₁, B, X₁.warmed, X', hpost, fun target h => hstep₁ _ fun acts => by rw [doInvoke_state]; exact hsteps.trans h⟩
  · exact Or.inr ⟨q, vm₁, B, X₁.warmed, X', hpost, hstep₁ _ fun acts => by rw [doInvoke_state]; exact hsteps⟩
theorem vx_callVW (X : Stand p l e R s m args below meth c T locs cells slots) (hexec : p.tables.exec = Jvm.exec) {own C : String} {index : Nat} {y : MethodName} {bytes : ByteArray} {maxL : Nat} {ret : Option FieldType} {hh : List (Nat × Nat × Nat × Nat)}
    (hown : s.vm.findClass own = some m.cls) (hlink : (Cond.methodLink own index y).before args s = true) (hinst : (Cond.instanceMethod y).before args s = true) (hsel : (Cond.selects C y y).before args s = true)
    (hcode : (Cond.codeWith y bytes maxL ret hh).before args s = true) (hy : y.cls ≠ "java/lang/invoke/MethodHandle" ∧ y.cls ≠ "java/lang/invoke/VarHandle")
    {W9 : Nat} {Pre : Pt → Array Value → Prop} {Post : Pt → Array Value → Option Value → Pt → Prop} (hK : Back l R p e below s args y 3 W9 Pre Post)
    {b : Addr} {cellB : Cell} (hcell : T.heap[b]? = some cellB) (hobj : cellB.vm.isStatics = false) (hcls : s.vm.findClass C = some cellB.cls)
    {g : JFrame} (hg : g.method = m) (hsize : g.locals.size = c.maxLocals) {argsL rest : List Value} (hlen : ∀ sig, parseMethodDescriptor y.desc = some sig → argsL.length = sig.parameters.length)
    (hstack : g.stack = argsL.reverse ++ .ref b :: rest) (hW : 2 * g.monitorRoom + (rest.map fun v => v.category).sum ≤ W9) (hdg : decode c.code g.pc = .ok (.invokevirtual index, 3))
    (hpre : ∀ vm₁, s.WarmedH vm₁ → Pre ⟨T.setVm vm₁, locs, cells, slots⟩ (Value.ref b :: argsL).toArray) :
    ∃ (v : Option Value) (vm₁ : Vm) (B : Pt), s.WarmedH vm₁ ∧ Stand p l e R s m args below meth c B.U B.locs B.cells B.slots ∧ Post ⟨T.setVm vm₁, locs, cells, slots⟩ (Value.ref b :: argsL).toArray v B ∧
      ∀ target, Steps p.tables e below (B.U.setTop { g with pc := g.pc + 3, stack := v.toList ++ rest }) target → Steps p.tables e below (T.setTop g) target := by
  obtain ⟨mk, methM, hnamed, hmethM, hstM, habM⟩ := Cond.instanceMethod_spec hinst
  obtain ⟨m8, methM', cM, hn8, hmethM', -, -, -, -, -, -, hsigM⟩ := Cond.codeWith_spec hcode
  cases Option.some.inj (hn8.symm.trans hnamed)
  cases hmethM.symm.trans hmethM'
  obtain ⟨c2, r2, m2, q1, q2, q3, q4, kP, hkP, hkPi⟩ := Cond.selects_spec hsel
  cases hcls.symm.trans q1
  cases (State.methodFound?_of_named hnamed hy).symm.trans q2
  cases hnamed.symm.trans q3
  have hselP : selectMethod e.platform s.vm cellB.cls mk = .method mk := by rw [Launch.admits_selectMethod X.admits]; exact q4
  obtain ⟨vm₁, X₁, hstep₁⟩ := X.invokevirtual hexec hown hlink hnamed hmethM hstM hkP hkPi hy (a := b) (cell := cellB) hcell
    (fun z h => by rw [h] at hobj; cases hobj) hselP hmethM habM hkP hkPi (g := g) hg (argsL := argsL) (rest := rest) (hlen _ hsigM) hstack hdg
  obtain ⟨v, B, X', hpost, hsteps⟩ := hK m meth c ⟨T.setVm vm₁, locs, cells, slots⟩ { g with stack := rest } (.invokevirtual index) mk (Value.ref b :: argsL).toArray X₁ hg hsize hdg hW (X₁.named hnamed) (hpre vm₁ X₁.warmed)
  exact ⟨v, vm₁, B, X₁.warmed, X', hpost, fun target h => hstep₁ _ fun acts => by rw [doInvoke_state]; exact hsteps.trans h⟩
abbrev vx_CVW (R : Room) (s : State) (args : Array Value) (own C : String) (index : Nat) (y : MethodName) (bytes : ByteArray) (maxL : Nat) (ret : Option FieldType) (hh : List (Nat × Nat × Nat × Nat)) (ws : List Cond) (rm : Room) (mc ms n : Nat) : Prop :=
  (rm.cells = mc ∧ rm.slots = ms ∧ rm.frames + 1 ≤ R.frames ∧ 8 + (maxL + 11) + rm.locals ≤ R.locals ∧ (∀ w ∈ ws, ∀ (a' : Array Value) (U : State), s.WarmedH U.vm → w.before a' U = true) ∧ Cond.codeWith y bytes maxL ret hh ∈ ws) ∧
  (Cond.codeWith y bytes maxL ret hh).before args s = true ∧ (Cond.initialized y.cls).before args s = true ∧ (y.cls ≠ "java/lang/invoke/MethodHandle" ∧ y.cls ≠ "java/lang/invoke/VarHandle") ∧
  (∀ sig, parseMethodDescriptor y.desc = some sig → n = sig.parameters.length) ∧ (Cond.methodLink own index y).before args s = true ∧ (Cond.instanceMethod y).before args s = true ∧ (Cond.selects C y y).before args s = true
theorem vx_cwVW {own C : String} {index maxL mc ms : Nat} {y : MethodName} {bytes : ByteArray} {ret : Option FieldType} {hh : List (Nat × Nat × Nat × Nat)} {Ts ws ws' : List Cond} {rm : Room} (n : Nat) (ht : ∀ w ∈ Ts, w.before args s = true) (hT : GoodIn Ts (wsV own index C y ws)) (hw : ws = Cond.codeWith y bytes maxL ret hh :: ws') (hrc : rm.cells = mc) (hrs : rm.slots = ms)
    (hd : y.cls = C ∧ y.cls ≠ "java/lang/invoke/MethodHandle" ∧ y.cls ≠ "java/lang/invoke/VarHandle" ∧ (parseMethodDescriptor y.desc).map (fun d => d.parameters.length) = some n) (hR : rm.frames + 1 ≤ R.frames ∧ 8 + (maxL + 11) + rm.locals ≤ R.locals) :
    vx_CVW R s args own C index y bytes maxL ret hh ws rm mc ms n := by
  obtain ⟨hC, hd⟩ := hd
  subst hC
  have ok : ∀ w ∈ wsV own index y.cls y ws, w.before args s = true := fun w h => ht w (hT w h).1
  have hG : GoodIn Ts ws := fun w h => hT w (by unfold wsV; exact List.mem_append_right _ h)
  have hc : Cond.codeWith y bytes maxL ret hh ∈ ws := by rw [hw]; exact List.mem_cons_self
  refine ⟨⟨hrc, hrs, hR.1, hR.2, pay_in ht hG, hc⟩, ht _ (hG _ hc).1, ok _ (by simp [wsV]), ⟨hd.1, hd.2.1⟩, fun sig h => ?_, ok _ (by simp [wsV]), ok _ (by simp [wsV]), ok _ (by simp [wsV])⟩
  have h2 := hd.2.2
  rw [h] at h2
  exact (Option.some.inj h2).symm
theorem vx_runVW {y : MethodName} {bytes cc : ByteArray} {maxL nL mc ms n index : Nat} {ret : Option FieldType} {hh : List (Nat × Nat × Nat × Nat)} {ws : List Cond} {rm : Room} {Pc : Array Value → State → Prop} {Qc : Array Value → State → Outcome → State → Prop} {free : Addr → Prop} {Ts : List Cond} {own C : String} {b : Addr} {As rest : List Value} {g : JFrame}
    (S : CallFix p m c cc nL s args Ts own) (hM : Met l y ws rm Pc Qc mc ms free) (cw : vx_CVW R s args own C index y bytes maxL ret hh ws rm mc ms n) (hp : PreV s H C b Pc As)
    (hg : g.method = m) (hn : As.length = n) (hsize : g.locals.size = nL) (hstack : g.stack = As.reverse ++ .ref b :: rest) (hW : 2 * g.monitorRoom + (rest.map fun v => v.category).sum ≤ 8) (hdg : decode cc g.pc = .ok (.invokevirtual index, 3)) (hf : cells + mc ≤ R.cells ∧ slots + ms ≤ R.slots) :
    va_Run p l e R s m args below meth c H locs cells slots mc ms g rest (Qc (Value.ref b :: As).toArray) free := by
  obtain ⟨⟨hrc, hrs, hfr, hlo, hws, hcw⟩, hcode, hini, hy, hlen, hl, hin, hse⟩ := cw
  have hK : Back l R p e below s args y 3 8 (PreOf R mc ms Pc) (PostOf Qc mc ms free) := va_backW (hh := hh) (bytes := bytes) (maxL := maxL) (ret := ret) hM hp.1 hrc hrs hfr hlo hws hcw (fun a' U hW => word_at hW (Or.inl (by first | rfl | simp [Cond.onTables, Cond.keeps, Cond.steady])) hini)
  obtain ⟨hx, hb, hml, ho, -⟩ := S
  obtain ⟨-, ⟨cellB, hcB, hoB, hclB⟩, hPc⟩ := hp
  intro T hT X
  obtain ⟨v, vm₁, ⟨U', l2, c2, s2⟩, hW₁, X', ⟨g', mk, t, L, e1, e2, hq, h1, hL, h2, h3⟩, st⟩ := vx_callVW X hx (C := C) (hh := hh) (bytes := bytes) (maxL := maxL) (ret := ret) ho hl hin hse hcode hy hK (by rw [hT]; exact hcB) hoB hclB hg (hsize.trans hml.symm) (argsL := As) (rest := rest) (fun sig h => hn.trans (hlen sig h)) hstack hW (by rw [hb]; exact hdg)
    (fun vm₁ hW₁ => ⟨hf.1, hf.2, hPc (T.setVm vm₁) hT hW₁⟩)
  dsimp only [Pt.U, Pt.locs, Pt.cells, Pt.slots] at X' e1 e2 h1 h2 h3 st
  subst h1; subst h2; subst h3
  exact ⟨v, (T.setVm vm₁).calling g' mk (Value.ref b :: As).toArray, t, U', L, hT, X', hL, e1, e2, hq, st⟩
section
variable {y : MethodName} {bytes cc : ByteArray} {maxL nL mc ms n index : Nat} {ret : Option FieldType} {ws : List Cond} {rm : Room} {Pc : Array Value → State → Prop} {Qc : Array Value → State → Outcome → State → Prop} {XC : String → State → State → Prop} {free : Addr → Prop} {Ts : List Cond} {own C : String} {b : Addr} {As rest : List Value} {g : JFrame}
theorem vx_runVX {hh : List (Nat × Nat × Nat × Nat)} (S : CallFix p m c cc nL s args Ts own) (hM : vx_Met l y ws rm Pc Qc XC mc ms free) (cw : vx_CVW R s args own C index y bytes maxL ret hh ws rm mc ms n) (hp : PreV s H C b Pc As)
    (hg : g.method = m) (hn : As.length = n) (hsize : g.locals.size = nL) (hstack : g.stack = As.reverse ++ .ref b :: rest) (hW : 2 * g.monitorRoom + (rest.map fun v => v.category).sum ≤ 8) (hdg : decode cc g.pc = .ok (.invokevirtual index, 3)) (hf : cells + mc ≤ R.cells ∧ slots + ms ≤ R.slots) :
    vx_Run p l e R s m args below meth c H locs cells slots mc ms g rest (Qc (Value.ref b :: As).toArray) XC free := by
  obtain ⟨⟨hrc, hrs, hfr, hlo, hws, hcw⟩, hcode, hini, hy, hlen, hl, hin, hse⟩ := cw
  have hK : vx_Back l R p e below s args y 3 8 (PreOf R mc ms Pc) (PostOf Qc mc ms free) (vx_Post XC mc ms free) := vx_backW (hh := hh) (bytes := bytes) (maxL := maxL) (ret := ret) hM hp.1 hrc hrs hfr hlo hws hcw (fun a' U hW => word_at hW (Or.inl (by first | rfl | simp [Cond.onTables, Cond.keeps, Cond.steady])) hini)
  obtain ⟨hx, hb, hml, ho, -⟩ := S
  obtain ⟨-, ⟨cellB, hcB, hoB, hclB⟩, hPc⟩ := hp
  intro T hT X
  rcases vx_callVX X hx (C := C) (hh := hh) (bytes := bytes) (maxL := maxL) (ret := ret) ho hl hin hse hcode hy hK (by rw [hT]; exact hcB) hoB hclB hg (hsize.trans hml.symm) (argsL := As) (rest := rest) (fun sig h => hn.trans (hlen sig h)) hstack hW (by rw [hb]; exact hdg)
    (fun vm₁ hW₁ => ⟨hf.1, hf.2, hPc (T.setVm vm₁) hT hW₁⟩) with ⟨v, vm₁, ⟨U', l2, c2, s2⟩, hW₁, X', ⟨g', mk, t, L, e1, e2, hq, h1, hL, h2, h3⟩, st⟩ | ⟨q, vm₁, ⟨U', l2, c2, s2⟩, hW₁, X', ⟨g', mk, t, L, E, ce, e1, e2, hq, hce, hcv, hcl, h1, hL, h2, h3⟩, st⟩
  · dsimp only [Pt.U, Pt.locs, Pt.cells, Pt.slots] at X' e1 e2 h1 h2 h3 st
    subst h1; subst h2; subst h3
    exact Or.inl ⟨v, (T.setVm vm₁).calling g' mk (Value.ref b :: As).toArray, t, U', L, hT, X', hL, e1, e2, hq, st⟩
  · dsimp only [Pt.U, Pt.locs, Pt.cells, Pt.slots] at X' e1 e2 h1 h2 h3 st hcl
    subst h1; subst h2; subst h3
    exact Or.inr ⟨q, (T.setVm vm₁).calling g' mk (Value.ref b :: As).toArray, t, U', L, E, ce, hT, X', hL, e1, e2, hq, hce, hcv, vx_cls hW₁ hcl, st⟩
theorem vx_runSX {hh : List (Nat × Nat × Nat × Nat)} (S : CallFix p m c cc nL s args Ts own) (hM : vx_Met l y ws rm Pc Qc XC mc ms free) (cw : vx_CSW R s args own index y bytes maxL ret hh ws rm mc ms n) (hp : PreS s H Pc As)
    (hg : g.method = m) (hn : As.length = n) (hsize : g.locals.size = nL) (hstack : g.stack = As.reverse ++ rest) (hW : 2 * g.monitorRoom + (rest.map fun v => v.category).sum ≤ 8) (hdg : decode cc g.pc = .ok (.invokestatic index, 3)) (hf : cells + mc ≤ R.cells ∧ slots + ms ≤ R.slots) :
    vx_Run p l e R s m args below meth c H locs cells slots mc ms g rest (Qc As.toArray) XC free := by
  obtain ⟨⟨hrc, hrs, hfr, hlo, hws, hcw⟩, hcode, hini, hy, hlen, hl, hstt⟩ := cw
  have hK : vx_Back l R p e below s args y 3 8 (PreOf R mc ms Pc) (PostOf Qc mc ms free) (vx_Post XC mc ms free) := vx_backW (hh := hh) (bytes := bytes) (maxL := maxL) (ret := ret) hM hp.1 hrc hrs hfr hlo hws hcw (fun a' U hW => word_at hW (Or.inl (by first | rfl | simp [Cond.onTables, Cond.keeps, Cond.steady])) hini)
  obtain ⟨hx, hb, hml, ho, -⟩ := S
  intro T hT X
  rcases vx_callSX X hx (hh := hh) (bytes := bytes) (maxL := maxL) (ret := ret) ho hl hstt hini hcode hy hK hg (hsize.trans hml.symm) (argsL := As) (rest := rest) (fun sig h => hn.trans (hlen sig h)) hstack hW (by rw [hb]; exact hdg)
    (fun vm₁ hW₁ => ⟨hf.1, hf.2, hp.2 (T.setVm vm₁) hT hW₁⟩) with ⟨v, vm₁, ⟨U', l2, c2, s2⟩, hW₁, X', ⟨g', mk, t, L, e1, e2, hq, h1, hL, h2, h3⟩, st⟩ | ⟨q, vm₁, ⟨U', l2, c2, s2⟩, hW₁, X', ⟨g', mk, t, L, E, ce, e1, e2, hq, hce, hcv, hcl, h1, hL, h2, h3⟩, st⟩
  · dsimp only [Pt.U, Pt.locs, Pt.cells, Pt.slots] at X' e1 e2 h1 h2 h3 st
    subst h1; subst h2; subst h3
    exact Or.inl ⟨v, (T.setVm vm₁).calling g' mk As.toArray, t, U', L, hT, X', hL, e1, e2, hq, st⟩
  · dsimp only [Pt.U, Pt.locs, Pt.cells, Pt.slots] at X' e1 e2 h1 h2 h3 st hcl
    subst h1; subst h2; subst h3
    exact Or.inr ⟨q, (T.setVm vm₁).calling g' mk As.toArray, t, U', L, E, ce, hT, X', hL, e1, e2, hq, hce, hcv, vx_cls hW₁ hcl, st⟩
end
end VXH
theorem vx_ofWH {l : Launch} {y : MethodName} {ws ws' : List Cond} {rm : Room} {Pc : Array Value → State → Prop} {Qc : Array Value → State → Outcome → State → Prop} {XC : String → State → State → Prop} {mc ms : Nat} {free : Addr → Prop} {cc : ByteArray} {maxL : Nat} {ret : Option FieldType} {hh : List (Nat × Nat × Nat × Nat)}
    (hy : plainName y.cls = true) (hw : ws = Cond.codeWith y cc maxL ret hh :: ws')
    (body : ∀ p e s m args below meth c s₁, BodyLoose p l y (headSpec ws rm) cc maxL ret e s m args below meth c s₁ → c.maxLocals = maxL → Pc args s →
      W p l e (headSpec ws rm).room s m args below meth c s.heap [] 0 0 (vx_MQ below Qc XC args s mc ms free) (entryFrame m args maxL)) : vx_Met l y ws rm Pc Qc XC mc ms free := by
  refine MetFree.of_bodyS (code := cc) (maxLocals := maxL) (ret := ret) hy ?_ ?_
  · intro args s m h hn
    obtain ⟨m9, meth, c, hn9, h1, h2, h3, h4, -, h5, h6, -⟩ := Cond.codeWith_spec (atoms_spec (ws := ws) h _ (by rw [hw]; exact List.mem_cons_self))
    cases hn.symm.trans hn9
    exact ⟨meth, c, h1, h2, h3, h4, h5, h6⟩
  · intro p e s m args below meth c s₁ B hml hP _
    have hh0 : s₁.heap = s.heap := by rw [B.state]; rfl
    obtain ⟨t, a1, o, b1, b2, b3⟩ := body p e s m args below meth c s₁ B hml hP s₁ hh0 (Stand.of_body B)
    exact ⟨t, o, a1, b1, b2, b3⟩
/-! ===== END ===== -/

def RX0 : String := "ClipBureau$Ledger"
def TX0 : u_T := fun k => match k with
  | 0 => ("ClipBureau$Ledger", "ages", "[I", true)
  | 1 => ("ClipBureau$Ledger", "coins", "[I", true)
  | 2 => ("ClipBureau$Ledger", "paid", "[I", true)
  | 3 => ("ClipBureau$Ledger", "sent", "[I", true)
  | _ => ("ClipBureau$Ledger", "rounds", "I", false)
def tyX0 : Nat → FieldType := fun k => match k with
  | 0 => .array .int
  | 1 => .array .int
  | 2 => .array .int
  | 3 => .array .int
  | _ => .int
abbrev wsX00 : List Cond := u_ws RX0 TX0 5
theorem nmX0 : ∀ a, a < 5 → ∀ b, b < 5 → a ≠ b → (TX0 a).2.1 ≠ (TX0 b).2.1 := by decide +kernel
theorem tyX0_ok : ∀ k, k < 5 → parseFieldDescriptor (TX0 k).2.2.1 = some (tyX0 k) := by decide +kernel
abbrev cX0_init : ByteArray := prog_2_method_1_code
def yX0_init : MethodName := ⟨RX0, "<init>", "()V"⟩
abbrev cX0_copyFrom : ByteArray := prog_2_method_2_code
def yX0_copyFrom : MethodName := ⟨RX0, "copyFrom", "(LClipBureau$Ledger;)V"⟩
abbrev cX0_wasSent : ByteArray := prog_2_method_3_code
def yX0_wasSent : MethodName := ⟨RX0, "wasSent", "(II)Z"⟩
abbrev cX0_book : ByteArray := prog_2_method_4_code
def yX0_book : MethodName := ⟨RX0, "book", "(III)V"⟩
abbrev cX0_growOlder : ByteArray := prog_2_method_5_code
def yX0_growOlder : MethodName := ⟨RX0, "growOlder", "(I)V"⟩
abbrev cX0_receivers : ByteArray := prog_2_method_6_code
def yX0_receivers : MethodName := ⟨RX0, "receivers", "(I)I"⟩
abbrev cX0_sentInAll : ByteArray := prog_2_method_7_code
def yX0_sentInAll : MethodName := ⟨RX0, "sentInAll", "()I"⟩
abbrev cX0_paidInAll : ByteArray := prog_2_method_8_code
def yX0_paidInAll : MethodName := ⟨RX0, "paidInAll", "()I"⟩
def RX1 : String := "ClipBureau$Orders"
def TX1 : u_T := fun k => match k with
  | 0 => ("ClipBureau$Orders", "wants", "[[I", true)
  | 1 => ("ClipBureau$Orders", "sizes", "[I", true)
  | 2 => ("ClipBureau$Orders", "bars", "[I", true)
  | _ => ("ClipBureau$Orders", "clients", "I", false)
def tyX1 : Nat → FieldType := fun k => match k with
  | 0 => .array (.array .int)
  | 1 => .array .int
  | 2 => .array .int
  | _ => .int
abbrev wsX10 : List Cond := u_ws RX1 TX1 4
theorem nmX1 : ∀ a, a < 4 → ∀ b, b < 4 → a ≠ b → (TX1 a).2.1 ≠ (TX1 b).2.1 := by decide +kernel
theorem tyX1_ok : ∀ k, k < 4 → parseFieldDescriptor (TX1 k).2.2.1 = some (tyX1 k) := by decide +kernel
abbrev cX1_init : ByteArray := prog_3_method_1_code
def yX1_init : MethodName := ⟨RX1, "<init>", "()V"⟩
abbrev cX1_placeOf : ByteArray := prog_3_method_2_code
def yX1_placeOf : MethodName := ⟨RX1, "placeOf", "(II)I"⟩
def RX2 : String := "ClipBureau$Press"
def TX2 : u_T := fun k => match k with
  | 0 => ("ClipBureau$Press", "stems", "[I", true)
  | 1 => ("ClipBureau$Press", "words", "[[I", true)
  | 2 => ("ClipBureau$Press", "lengths", "[I", true)
  | 3 => ("ClipBureau$Press", "times", "[[I", true)
  | 4 => ("ClipBureau$Press", "holders", "[I", true)
  | _ => ("ClipBureau$Press", "articles", "I", false)
def tyX2 : Nat → FieldType := fun k => match k with
  | 0 => .array .int
  | 1 => .array (.array .int)
  | 2 => .array .int
  | 3 => .array (.array .int)
  | 4 => .array .int
  | _ => .int
abbrev wsX20 : List Cond := u_ws RX2 TX2 6
theorem nmX2 : ∀ a, a < 6 → ∀ b, b < 6 → a ≠ b → (TX2 a).2.1 ≠ (TX2 b).2.1 := by decide +kernel
theorem tyX2_ok : ∀ k, k < 6 → parseFieldDescriptor (TX2 k).2.2.1 = some (tyX2 k) := by decide +kernel
abbrev cX2_init : ByteArray := prog_4_method_1_code
def yX2_init : MethodName := ⟨RX2, "<init>", "()V"⟩
abbrev cX2_recount : ByteArray := prog_4_method_2_code
def yX2_recount : MethodName := ⟨RX2, "recount", "()V"⟩
abbrev cX2_recountArticle : ByteArray := prog_4_method_3_code
def yX2_recountArticle : MethodName := ⟨RX2, "recountArticle", "(I)V"⟩
abbrev cX2_stemOfWord : ByteArray := prog_4_method_4_code
def yX2_stemOfWord : MethodName := ⟨RX2, "stemOfWord", "(I)I"⟩
abbrev cX2_rarityOf : ByteArray := prog_4_method_5_code
def yX2_rarityOf : MethodName := ⟨RX2, "rarityOf", "(I)I"⟩
abbrev cX2_timesOf : ByteArray := prog_4_method_6_code
def yX2_timesOf : MethodName := ⟨RX2, "timesOf", "(II)I"⟩
abbrev cX2_scoreOf : ByteArray := prog_4_method_7_code
def yX2_scoreOf : MethodName := ⟨RX2, "scoreOf", "(I[III)I"⟩
abbrev cX2_stemsOf : ByteArray := prog_4_method_8_code
def yX2_stemsOf : MethodName := ⟨RX2, "stemsOf", "(I)I"⟩
abbrev cX2_stemsInAll : ByteArray := prog_4_method_9_code
def yX2_stemsInAll : MethodName := ⟨RX2, "stemsInAll", "()I"⟩
abbrev cX2_wordsInAll : ByteArray := prog_4_method_10_code
def yX2_wordsInAll : MethodName := ⟨RX2, "wordsInAll", "()I"⟩
def RX3 : String := "ClipBureau"
def TX3 : u_T := fun k => match k with
  | 0 => ("ClipBureau", "press", "LClipBureau$Press;", true)
  | 1 => ("ClipBureau", "orders", "LClipBureau$Orders;", true)
  | 2 => ("ClipBureau", "now", "LClipBureau$Ledger;", true)
  | 3 => ("ClipBureau", "later", "LClipBureau$Ledger;", true)
  | _ => ("ClipBureau", "tryout", "[I", true)
def tyX3 : Nat → FieldType := fun k => match k with
  | 0 => .object "ClipBureau$Press"
  | 1 => .object "ClipBureau$Orders"
  | 2 => .object "ClipBureau$Ledger"
  | 3 => .object "ClipBureau$Ledger"
  | _ => .array .int
abbrev wsX30 : List Cond := u_ws RX3 TX3 5
theorem nmX3 : ∀ a, a < 5 → ∀ b, b < 5 → a ≠ b → (TX3 a).2.1 ≠ (TX3 b).2.1 := by decide +kernel
theorem tyX3_ok : ∀ k, k < 5 → parseFieldDescriptor (TX3 k).2.2.1 = some (tyX3 k) := by decide +kernel
abbrev cX3_init : ByteArray := prog_1_method_1_code
def yX3_init : MethodName := ⟨RX3, "<init>", "()V"⟩
abbrev cX3_setStem : ByteArray := prog_1_method_2_code
def yX3_setStem : MethodName := ⟨RX3, "setStem", "(II)I"⟩
abbrev cX3_print : ByteArray := prog_1_method_3_code
def yX3_print : MethodName := ⟨RX3, "print", "()I"⟩
abbrev cX3_write : ByteArray := prog_1_method_4_code
def yX3_write : MethodName := ⟨RX3, "write", "(II)I"⟩
abbrev cX3_strike : ByteArray := prog_1_method_5_code
def yX3_strike : MethodName := ⟨RX3, "strike", "(II)I"⟩
abbrev cX3_client : ByteArray := prog_1_method_6_code
def yX3_client : MethodName := ⟨RX3, "client", "(I)I"⟩
abbrev cX3_want : ByteArray := prog_1_method_7_code
def yX3_want : MethodName := ⟨RX3, "want", "(II)I"⟩
abbrev cX3_drop : ByteArray := prog_1_method_8_code
def yX3_drop : MethodName := ⟨RX3, "drop", "(II)I"⟩
abbrev cX3_setBar : ByteArray := prog_1_method_9_code
def yX3_setBar : MethodName := ⟨RX3, "setBar", "(II)I"⟩
abbrev cX3_pay : ByteArray := prog_1_method_10_code
def yX3_pay : MethodName := ⟨RX3, "pay", "(II)I"⟩
abbrev cX3_send : ByteArray := prog_1_method_11_code
def yX3_send : MethodName := ⟨RX3, "send", "(I)I"⟩
abbrev cX3_pass : ByteArray := prog_1_method_12_code
def yX3_pass : MethodName := ⟨RX3, "pass", "(I)I"⟩
abbrev cX3_told : ByteArray := prog_1_method_13_code
def yX3_told : MethodName := ⟨RX3, "told", "(II)I"⟩
abbrev cX3_word : ByteArray := prog_1_method_14_code
def yX3_word : MethodName := ⟨RX3, "word", "(II)I"⟩
abbrev cX3_about : ByteArray := prog_1_method_15_code
def yX3_about : MethodName := ⟨RX3, "about", "(II)I"⟩
abbrev cX3_stem : ByteArray := prog_1_method_16_code
def yX3_stem : MethodName := ⟨RX3, "stem", "(II)I"⟩
abbrev cX3_count : ByteArray := prog_1_method_17_code
def yX3_count : MethodName := ⟨RX3, "count", "(I)I"⟩
abbrev cX3_rarity : ByteArray := prog_1_method_18_code
def yX3_rarity : MethodName := ⟨RX3, "rarity", "(I)I"⟩
abbrev cX3_score : ByteArray := prog_1_method_19_code
def yX3_score : MethodName := ⟨RX3, "score", "(II)I"⟩
abbrev cX3_fit : ByteArray := prog_1_method_20_code
def yX3_fit : MethodName := ⟨RX3, "fit", "(II)I"⟩
abbrev cX3_until : ByteArray := prog_1_method_24_code
def yX3_until : MethodName := ⟨RX3, "until", "()I"⟩
abbrev cX3_mean : ByteArray := prog_1_method_25_code
def yX3_mean : MethodName := ⟨RX3, "mean", "()D"⟩
abbrev cX3_checkWord : ByteArray := prog_1_method_30_code
def yX3_checkWord : MethodName := ⟨RX3, "checkWord", "(I)V"⟩
abbrev cX3_checkStem : ByteArray := prog_1_method_31_code
def yX3_checkStem : MethodName := ⟨RX3, "checkStem", "(I)V"⟩
abbrev cX3_checkArticle : ByteArray := prog_1_method_32_code
def yX3_checkArticle : MethodName := ⟨RX3, "checkArticle", "(I)V"⟩
abbrev cX3_checkClient : ByteArray := prog_1_method_33_code
def yX3_checkClient : MethodName := ⟨RX3, "checkClient", "(I)V"⟩
abbrev cX3_checkPlace : ByteArray := prog_1_method_34_code
def yX3_checkPlace : MethodName := ⟨RX3, "checkPlace", "(II)V"⟩
abbrev cX3_checkWhat : ByteArray := prog_1_method_35_code
def yX3_checkWhat : MethodName := ⟨RX3, "checkWhat", "(II)V"⟩
abbrev cX3_checkRounds : ByteArray := prog_1_method_36_code
def yX3_checkRounds : MethodName := ⟨RX3, "checkRounds", "(I)V"⟩
abbrev cX3_tellOfArticle : ByteArray := prog_1_method_37_code
def yX3_tellOfArticle : MethodName := ⟨RX3, "tellOfArticle", "(II)I"⟩
abbrev cX3_tellOfClient : ByteArray := prog_1_method_38_code
def yX3_tellOfClient : MethodName := ⟨RX3, "tellOfClient", "(II)I"⟩
abbrev cX3_tellOfAll : ByteArray := prog_1_method_39_code
def yX3_tellOfAll : MethodName := ⟨RX3, "tellOfAll", "(I)I"⟩
abbrev cX3_scoreFor : ByteArray := prog_1_method_40_code
def yX3_scoreFor : MethodName := ⟨RX3, "scoreFor", "(LClipBureau$Ledger;II)I"⟩
abbrev cX3_isFit : ByteArray := prog_1_method_41_code
def yX3_isFit : MethodName := ⟨RX3, "isFit", "(LClipBureau$Ledger;III)Z"⟩
abbrev cX3_fitArticles : ByteArray := prog_1_method_42_code
def yX3_fitArticles : MethodName := ⟨RX3, "fitArticles", "(I)I"⟩
abbrev cX3_bestFit : ByteArray := prog_1_method_43_code
def yX3_bestFit : MethodName := ⟨RX3, "bestFit", "(LClipBureau$Ledger;I)I"⟩
abbrev cX3_fitArticleAt : ByteArray := prog_1_method_44_code
def yX3_fitArticleAt : MethodName := ⟨RX3, "fitArticleAt", "(II)I"⟩
abbrev cX3_fitArticlesAhead : ByteArray := prog_1_method_45_code
def yX3_fitArticlesAhead : MethodName := ⟨RX3, "fitArticlesAhead", "(III)I"⟩
abbrev cX3_priceFor : ByteArray := prog_1_method_47_code
def yX3_priceFor : MethodName := ⟨RX3, "priceFor", "(LClipBureau$Ledger;II)I"⟩
abbrev cX3_sendTo : ByteArray := prog_1_method_48_code
def yX3_sendTo : MethodName := ⟨RX3, "sendTo", "(LClipBureau$Ledger;I)I"⟩
abbrev cX3_playRounds : ByteArray := prog_1_method_49_code
def yX3_playRounds : MethodName := ⟨RX3, "playRounds", "(LClipBureau$Ledger;I)V"⟩
abbrev cX3_someoneIsShort : ByteArray := prog_1_method_50_code
def yX3_someoneIsShort : MethodName := ⟨RX3, "someoneIsShort", "(LClipBureau$Ledger;)Z"⟩
abbrev cX3_removeAt : ByteArray := prog_1_method_51_code
def yX3_removeAt : MethodName := ⟨RX3, "removeAt", "([III)I"⟩
def RX4 : String := "ClipBureauLaw$Client"
def TX4 : u_T := fun k => match k with
  | 0 => ("ClipBureauLaw$Client", "coins", "I", false)
  | 1 => ("ClipBureauLaw$Client", "bar", "I", false)
  | 2 => ("ClipBureauLaw$Client", "paid", "I", false)
  | 3 => ("ClipBureauLaw$Client", "wants", "[I", false)
  | _ => ("ClipBureauLaw$Client", "sent", "[Z", false)
def tyX4 : Nat → FieldType := fun k => match k with
  | 0 => .int
  | 1 => .int
  | 2 => .int
  | 3 => .array .int
  | _ => .array .boolean
abbrev wsX40 : List Cond := u_ws RX4 TX4 5
theorem nmX4 : ∀ a, a < 5 → ∀ b, b < 5 → a ≠ b → (TX4 a).2.1 ≠ (TX4 b).2.1 := by decide +kernel
theorem tyX4_ok : ∀ k, k < 5 → parseFieldDescriptor (TX4 k).2.2.1 = some (tyX4 k) := by decide +kernel
abbrev cX4_init : ByteArray := prog_6_method_1_code
def yX4_init : MethodName := ⟨RX4, "<init>", "()V"⟩
def RX5 : String := "ClipBureauLaw$Sim"
def TX5 : u_T := fun k => match k with
  | 0 => ("ClipBureauLaw$Sim", "stems", "[I", false)
  | 1 => ("ClipBureauLaw$Sim", "words", "[[I", false)
  | 2 => ("ClipBureauLaw$Sim", "ages", "[I", false)
  | 3 => ("ClipBureauLaw$Sim", "clients", "[LClipBureauLaw$Client;", false)
  | _ => ("ClipBureauLaw$Sim", "rounds", "I", false)
def tyX5 : Nat → FieldType := fun k => match k with
  | 0 => .array .int
  | 1 => .array (.array .int)
  | 2 => .array .int
  | 3 => .array (.object "ClipBureauLaw$Client")
  | _ => .int
abbrev wsX50 : List Cond := u_ws RX5 TX5 5
theorem nmX5 : ∀ a, a < 5 → ∀ b, b < 5 → a ≠ b → (TX5 a).2.1 ≠ (TX5 b).2.1 := by decide +kernel
theorem tyX5_ok : ∀ k, k < 5 → parseFieldDescriptor (TX5 k).2.2.1 = some (tyX5 k) := by decide +kernel
abbrev cX5_init : ByteArray := prog_7_method_1_code
def yX5_init : MethodName := ⟨RX5, "<init>", "()V"⟩
abbrev cX5_table : ByteArray := prog_7_method_3_code
def yX5_table : MethodName := ⟨RX5, "table", "(I)[I"⟩
abbrev cX5_rarities : ByteArray := prog_7_method_4_code
def yX5_rarities : MethodName := ⟨RX5, "rarities", "()[I"⟩
abbrev cX5_score : ByteArray := prog_7_method_5_code
def yX5_score : MethodName := ⟨RX5, "score", "(LClipBureauLaw$Client;[I[II)I"⟩
abbrev cX5_fits : ByteArray := prog_7_method_6_code
def yX5_fits : MethodName := ⟨RX5, "fits", "(LClipBureauLaw$Client;)[I"⟩
abbrev cX5_best : ByteArray := prog_7_method_7_code
def yX5_best : MethodName := ⟨RX5, "best", "([I)I"⟩
abbrev cX5_send : ByteArray := prog_7_method_8_code
def yX5_send : MethodName := ⟨RX5, "send", "(LClipBureauLaw$Client;)I"⟩
abbrev cX5_pass : ByteArray := prog_7_method_9_code
def yX5_pass : MethodName := ⟨RX5, "pass", "()I"⟩
abbrev cX5_isSame : ByteArray := prog_7_method_11_code
def yX5_isSame : MethodName := ⟨RX5, "isSame", "(LClipBureau;)Z"⟩
def RX6 : String := "ClipBureauModel"
def TX6 : u_T := fun k => match k with
  | _ => ("", "", "", false)
def tyX6 : Nat → FieldType := fun k => match k with
  | _ => .int
abbrev wsX60 : List Cond := u_ws RX6 TX6 0
theorem nmX6 : ∀ a, a < 0 → ∀ b, b < 0 → a ≠ b → (TX6 a).2.1 ≠ (TX6 b).2.1 := by decide +kernel
theorem tyX6_ok : ∀ k, k < 0 → parseFieldDescriptor (TX6 k).2.2.1 = some (tyX6 k) := by decide +kernel
def RJx145de : String := "java/io/Serializable"
def RJ6 : String := "java/lang/Integer"
abbrev cJ6_bitCount_0f7a4 : ByteArray := prog_13_method_49_code
def yJ6_bitCount_0f7a4 : MethodName := ⟨RJ6, "bitCount", "(I)I"⟩
def RJ9 : String := "java/lang/Math"
abbrev cJ9_max_7cf53 : ByteArray := prog_14_method_65_code
def yJ9_max_7cf53 : MethodName := ⟨RJ9, "max", "(II)I"⟩
abbrev cJ9_min_7cf53 : ByteArray := prog_14_method_69_code
def yJ9_min_7cf53 : MethodName := ⟨RJ9, "min", "(II)I"⟩
def RJ0 : String := "java/lang/String"
def RJ10 : String := "java/lang/System"
def RJ7 : String := "java/util/Arrays"
abbrev cJ7_fill_53178 : ByteArray := prog_19_method_103_code
def yJ7_fill_53178 : MethodName := ⟨RJ7, "fill", "([II)V"⟩
def RL : String := "ClipBureauLaw"
abbrev cL_below : ByteArray := method_2_code
def yL_below : MethodName := ⟨RL, "below", "(II)I"⟩
abbrev cL_cell : ByteArray := method_3_code
def yL_cell : MethodName := ⟨RL, "cell", "([II)I"⟩
abbrev cL_more : ByteArray := method_4_code
def yL_more : MethodName := ⟨RL, "more", "([II)[I"⟩
abbrev cL_less : ByteArray := method_5_code
def yL_less : MethodName := ⟨RL, "less", "([II)[I"⟩
abbrev cL_act : ByteArray := method_6_code
def yL_act : MethodName := ⟨RL, "act", "(LClipBureau;LClipBureauLaw$Sim;I)Z"⟩
abbrev cL_build : ByteArray := method_7_code
def yL_build : MethodName := ⟨RL, "build", "(LClipBureau;[I)LClipBureauLaw$Sim;"⟩
abbrev cL_law : ByteArray := code
def yL_law : MethodName := ⟨RL, "law", "([I)Z"⟩
abbrev vwCl : List vw_C := [(RX0, TX0, 5), (RX1, TX1, 4), (RX2, TX2, 6), (RX3, TX3, 5), (RX4, TX4, 5), (RX5, TX5, 5)]
end
section
-- printed by wip/whole/gen.py: methods, instructions, links
abbrev dp_I : Type := Nat × Jvm.ClassFile.Instr × Nat
def dp_t0 : List dp_I := [(0, .aload_n 1, 1), (1, .getfield 9, 3), (4, .iconst 0, 1), (5, .aload_n 0, 1), (6, .getfield 9, 3), (9, .iconst 0, 1), (10, .bipush 16, 2), (12, .invokestatic 24, 3), (15, .aload_n 1, 1), (16, .getfield 15, 3), (19, .iconst 0, 1), (20, .aload_n 0, 1), (21, .getfield 15, 3), (24, .iconst 0, 1), (25, .bipush 6, 2), (27, .invokestatic 24, 3), (30, .aload_n 1, 1), (31, .getfield 18, 3), (34, .iconst 0, 1), (35, .aload_n 0, 1), (36, .getfield 18, 3), (39, .iconst 0, 1), (40, .bipush 6, 2), (42, .invokestatic 24, 3), (45, .aload_n 1, 1), (46, .getfield 21, 3), (49, .iconst 0, 1), (50, .aload_n 0, 1), (51, .getfield 21, 3), (54, .iconst 0, 1), (55, .bipush 6, 2), (57, .invokestatic 24, 3), (60, .aload_n 0, 1), (61, .aload_n 1, 1), (62, .getfield 30, 3), (65, .putfield 30, 3), (68, .return_, 1)]
def dp_t1 : List dp_I := [(0, .aload_n 0, 1), (1, .getfield 21, 3), (4, .iload_n 1, 1), (5, .iaload, 1), (6, .iload_n 2, 1), (7, .ishr, 1), (8, .iconst 1, 1), (9, .iand, 1), (10, .iconst 1, 1), (11, .if_icmp .ne 7, 3), (14, .iconst 1, 1), (15, .goto 4, 3), (18, .iconst 0, 1), (19, .ireturn, 1)]
def dp_t2 : List dp_I := [(0, .aload_n 0, 1), (1, .getfield 15, 3), (4, .iload_n 1, 1), (5, .dup2, 1), (6, .iaload, 1), (7, .iload_n 3, 1), (8, .isub, 1), (9, .iastore, 1), (10, .aload_n 0, 1), (11, .getfield 18, 3), (14, .iload_n 1, 1), (15, .dup2, 1), (16, .iaload, 1), (17, .iload_n 3, 1), (18, .iadd, 1), (19, .iastore, 1), (20, .aload_n 0, 1), (21, .getfield 21, 3), (24, .iload_n 1, 1), (25, .dup2, 1), (26, .iaload, 1), (27, .iconst 1, 1), (28, .iload_n 2, 1), (29, .ishl, 1), (30, .ior, 1), (31, .iastore, 1), (32, .return_, 1)]
def dp_t3 : List dp_I := [(0, .iconst 0, 1), (1, .istore_n 2, 1), (2, .iload_n 2, 1), (3, .iload_n 1, 1), (4, .if_icmp .ge 19, 3), (7, .aload_n 0, 1), (8, .getfield 9, 3), (11, .iload_n 2, 1), (12, .dup2, 1), (13, .iaload, 1), (14, .iconst 1, 1), (15, .iadd, 1), (16, .iastore, 1), (17, .iinc 2 1, 3), (20, .goto (-18), 3), (23, .aload_n 0, 1), (24, .dup, 1), (25, .getfield 30, 3), (28, .iconst 1, 1), (29, .iadd, 1), (30, .putfield 30, 3), (33, .return_, 1)]
def dp_t4 : List dp_I := [(0, .iconst 0, 1), (1, .istore_n 2, 1), (2, .iconst 0, 1), (3, .istore_n 3, 1), (4, .iload_n 3, 1), (5, .bipush 6, 2), (7, .if_icmp .ge 21, 3), (10, .aload_n 0, 1), (11, .iload_n 3, 1), (12, .iload_n 1, 1), (13, .invokevirtual 34, 3), (16, .ifCond .eq 6, 3), (19, .iinc 2 1, 3), (22, .iinc 3 1, 3), (25, .goto (-21), 3), (28, .iload_n 2, 1), (29, .ireturn, 1)]
def dp_t5 : List dp_I := [(0, .iconst 0, 1), (1, .istore_n 1, 1), (2, .iconst 0, 1), (3, .istore_n 2, 1), (4, .iload_n 2, 1), (5, .bipush 6, 2), (7, .if_icmp .ge 21, 3), (10, .iload_n 1, 1), (11, .aload_n 0, 1), (12, .getfield 21, 3), (15, .iload_n 2, 1), (16, .iaload, 1), (17, .invokestatic 38, 3), (20, .iadd, 1), (21, .istore_n 1, 1), (22, .iinc 2 1, 3), (25, .goto (-21), 3), (28, .iload_n 1, 1), (29, .ireturn, 1)]
def dp_t6 : List dp_I := [(0, .iconst 0, 1), (1, .istore_n 1, 1), (2, .iconst 0, 1), (3, .istore_n 2, 1), (4, .iload_n 2, 1), (5, .bipush 6, 2), (7, .if_icmp .ge 18, 3), (10, .iload_n 1, 1), (11, .aload_n 0, 1), (12, .getfield 18, 3), (15, .iload_n 2, 1), (16, .iaload, 1), (17, .iadd, 1), (18, .istore_n 1, 1), (19, .iinc 2 1, 3), (22, .goto (-18), 3), (25, .iload_n 1, 1), (26, .ireturn, 1)]
def dp_t7 : List dp_I := [(0, .iconst 0, 1), (1, .istore_n 3, 1), (2, .iload_n 3, 1), (3, .aload_n 0, 1), (4, .getfield 16, 3), (7, .iload_n 1, 1), (8, .iaload, 1), (9, .if_icmp .ge 23, 3), (12, .aload_n 0, 1), (13, .getfield 11, 3), (16, .iload_n 1, 1), (17, .aaload, 1), (18, .iload_n 3, 1), (19, .iaload, 1), (20, .iload_n 2, 1), (21, .if_icmp .ne 5, 3), (24, .iload_n 3, 1), (25, .ireturn, 1), (26, .iinc 3 1, 3), (29, .goto (-27), 3), (32, .iconst (-1), 1), (33, .ireturn, 1)]
def dp_t8 : List dp_I := [(0, .aload_n 0, 1), (1, .getfield 26, 3), (4, .iconst 0, 1), (5, .invokestatic 29, 3), (8, .iconst 0, 1), (9, .istore_n 1, 1), (10, .iload_n 1, 1), (11, .aload_n 0, 1), (12, .getfield 35, 3), (15, .if_icmp .ge 14, 3), (18, .aload_n 0, 1), (19, .iload_n 1, 1), (20, .invokevirtual 39, 3), (23, .iinc 1 1, 3), (26, .goto (-16), 3), (29, .return_, 1)]
def dp_t9 : List dp_I := [(0, .aload_n 0, 1), (1, .getfield 23, 3), (4, .iload_n 1, 1), (5, .aaload, 1), (6, .astore_n 2, 1), (7, .aload_n 2, 1), (8, .iconst 0, 1), (9, .invokestatic 29, 3), (12, .iconst 0, 1), (13, .istore_n 3, 1), (14, .iload_n 3, 1), (15, .aload_n 0, 1), (16, .getfield 20, 3), (19, .iload_n 1, 1), (20, .iaload, 1), (21, .if_icmp .ge 43, 3), (24, .aload_n 0, 1), (25, .aload_n 0, 1), (26, .getfield 17, 3), (29, .iload_n 1, 1), (30, .aaload, 1), (31, .iload_n 3, 1), (32, .iaload, 1), (33, .invokevirtual 43, 3), (36, .istore 4, 2), (38, .iload 4, 2), (40, .ifCond .lt 18, 3), (43, .iload 4, 2), (45, .bipush 20, 2), (47, .if_icmp .ge 11, 3), (50, .aload_n 2, 1), (51, .iload 4, 2), (53, .dup2, 1), (54, .iaload, 1), (55, .iconst 1, 1), (56, .iadd, 1), (57, .iastore, 1), (58, .iinc 3 1, 3), (61, .goto (-47), 3), (64, .iconst 0, 1), (65, .istore_n 3, 1), (66, .iload_n 3, 1), (67, .bipush 20, 2), (69, .if_icmp .ge 25, 3), (72, .aload_n 2, 1), (73, .iload_n 3, 1), (74, .iaload, 1), (75, .ifCond .le 13, 3), (78, .aload_n 0, 1), (79, .getfield 26, 3), (82, .iload_n 3, 1), (83, .dup2, 1), (84, .iaload, 1), (85, .iconst 1, 1), (86, .iadd, 1), (87, .iastore, 1), (88, .iinc 3 1, 3), (91, .goto (-25), 3), (94, .return_, 1)]
def dp_t10 : List dp_I := [(0, .iload_n 1, 1), (1, .ifCond .lt 9, 3), (4, .iload_n 1, 1), (5, .bipush 40, 2), (7, .if_icmp .lt 7, 3), (10, .iconst (-1), 1), (11, .goto 9, 3), (14, .aload_n 0, 1), (15, .getfield 9, 3), (18, .iload_n 1, 1), (19, .iaload, 1), (20, .ireturn, 1)]
def dp_t11 : List dp_I := [(0, .iload_n 1, 1), (1, .ifCond .lt 9, 3), (4, .iload_n 1, 1), (5, .bipush 20, 2), (7, .if_icmp .lt 7, 3), (10, .iconst 0, 1), (11, .goto 9, 3), (14, .aload_n 0, 1), (15, .getfield 26, 3), (18, .iload_n 1, 1), (19, .iaload, 1), (20, .istore_n 2, 1), (21, .bipush 10, 2), (23, .aload_n 0, 1), (24, .getfield 35, 3), (27, .iconst 1, 1), (28, .iadd, 1), (29, .imul, 1), (30, .iload_n 2, 1), (31, .iconst 1, 1), (32, .iadd, 1), (33, .idiv, 1), (34, .ireturn, 1)]
def dp_t12 : List dp_I := [(0, .iload_n 2, 1), (1, .ifCond .lt 9, 3), (4, .iload_n 2, 1), (5, .bipush 20, 2), (7, .if_icmp .lt 7, 3), (10, .iconst 0, 1), (11, .goto 11, 3), (14, .aload_n 0, 1), (15, .getfield 23, 3), (18, .iload_n 1, 1), (19, .aaload, 1), (20, .iload_n 2, 1), (21, .iaload, 1), (22, .ireturn, 1)]
def dp_t13 : List dp_I := [(0, .iconst 0, 1), (1, .istore 5, 2), (3, .iconst 0, 1), (4, .istore 6, 2), (6, .iconst 0, 1), (7, .istore 7, 2), (9, .iload 7, 2), (11, .iload_n 3, 1), (12, .if_icmp .ge 48, 3), (15, .aload_n 0, 1), (16, .iload_n 1, 1), (17, .aload_n 2, 1), (18, .iload 7, 2), (20, .iaload, 1), (21, .invokevirtual 47, 3), (24, .istore 8, 2), (26, .iload 8, 2), (28, .ifCond .le 26, 3), (31, .iinc 6 1, 3), (34, .iload 5, 2), (36, .iload 8, 2), (38, .iconst 3, 1), (39, .invokestatic 51, 3), (42, .aload_n 0, 1), (43, .aload_n 2, 1), (44, .iload 7, 2), (46, .iaload, 1), (47, .invokevirtual 56, 3), (50, .imul, 1), (51, .iadd, 1), (52, .istore 5, 2), (54, .iinc 7 1, 3), (57, .goto (-48), 3), (60, .iload_n 3, 1), (61, .iconst 2, 1), (62, .if_icmp .lt 18, 3), (65, .iload 6, 2), (67, .iload_n 3, 1), (68, .if_icmp .ne 12, 3), (71, .iload 5, 2), (73, .iload 5, 2), (75, .iconst 2, 1), (76, .idiv, 1), (77, .iadd, 1), (78, .istore 5, 2), (80, .iload 5, 2), (82, .iconst 3, 1), (83, .iload 4, 2), (85, .imul, 1), (86, .isub, 1), (87, .iconst 0, 1), (88, .invokestatic 59, 3), (91, .ireturn, 1)]
def dp_t14 : List dp_I := [(0, .iconst 0, 1), (1, .istore_n 2, 1), (2, .iconst 0, 1), (3, .istore_n 3, 1), (4, .iload_n 3, 1), (5, .bipush 20, 2), (7, .if_icmp .ge 23, 3), (10, .aload_n 0, 1), (11, .getfield 23, 3), (14, .iload_n 1, 1), (15, .aaload, 1), (16, .iload_n 3, 1), (17, .iaload, 1), (18, .ifCond .le 6, 3), (21, .iinc 2 1, 3), (24, .iinc 3 1, 3), (27, .goto (-23), 3), (30, .iload_n 2, 1), (31, .ireturn, 1)]
def dp_t15 : List dp_I := [(0, .iconst 0, 1), (1, .istore_n 1, 1), (2, .iconst 0, 1), (3, .istore_n 2, 1), (4, .iload_n 2, 1), (5, .bipush 20, 2), (7, .if_icmp .ge 21, 3), (10, .aload_n 0, 1), (11, .getfield 26, 3), (14, .iload_n 2, 1), (15, .iaload, 1), (16, .ifCond .le 6, 3), (19, .iinc 1 1, 3), (22, .iinc 2 1, 3), (25, .goto (-21), 3), (28, .iload_n 1, 1), (29, .ireturn, 1)]
def dp_t16 : List dp_I := [(0, .iconst 0, 1), (1, .istore_n 1, 1), (2, .iconst 0, 1), (3, .istore_n 2, 1), (4, .iload_n 2, 1), (5, .aload_n 0, 1), (6, .getfield 35, 3), (9, .if_icmp .ge 18, 3), (12, .iload_n 1, 1), (13, .aload_n 0, 1), (14, .getfield 20, 3), (17, .iload_n 2, 1), (18, .iaload, 1), (19, .iadd, 1), (20, .istore_n 1, 1), (21, .iinc 2 1, 3), (24, .goto (-20), 3), (27, .iload_n 1, 1), (28, .ireturn, 1)]
def dp_t17 : List dp_I := [(0, .iload_n 1, 1), (1, .invokestatic 37, 3), (4, .iload_n 2, 1), (5, .invokestatic 41, 3), (8, .aload_n 0, 1), (9, .getfield 10, 3), (12, .getfield 44, 3), (15, .iload_n 1, 1), (16, .iaload, 1), (17, .istore_n 3, 1), (18, .aload_n 0, 1), (19, .getfield 10, 3), (22, .getfield 44, 3), (25, .iload_n 1, 1), (26, .iload_n 2, 1), (27, .iastore, 1), (28, .aload_n 0, 1), (29, .getfield 10, 3), (32, .invokevirtual 47, 3), (35, .iload_n 3, 1), (36, .ireturn, 1)]
def dp_t18 : List dp_I := [(0, .aload_n 0, 1), (1, .getfield 10, 3), (4, .getfield 50, 3), (7, .bipush 16, 2), (9, .if_icmp .lt 13, 3), (12, .new 54, 3), (15, .dup, 1), (16, .ldc 56, 2), (18, .invokespecial 58, 3), (21, .athrow, 1), (22, .aload_n 0, 1), (23, .getfield 10, 3), (26, .dup, 1), (27, .getfield 50, 3), (30, .iconst 1, 1), (31, .iadd, 1), (32, .putfield 50, 3), (35, .aload_n 0, 1), (36, .getfield 10, 3), (39, .getfield 50, 3), (42, .iconst 1, 1), (43, .isub, 1), (44, .ireturn, 1)]
def dp_t19 : List dp_I := [(0, .aload_n 0, 1), (1, .iload_n 1, 1), (2, .invokevirtual 61, 3), (5, .iload_n 2, 1), (6, .invokestatic 37, 3), (9, .aload_n 0, 1), (10, .getfield 10, 3), (13, .getfield 64, 3), (16, .iload_n 1, 1), (17, .iaload, 1), (18, .istore_n 3, 1), (19, .iload_n 3, 1), (20, .bipush 12, 2), (22, .if_icmp .lt 13, 3), (25, .new 54, 3), (28, .dup, 1), (29, .ldc 67, 2), (31, .invokespecial 58, 3), (34, .athrow, 1), (35, .aload_n 0, 1), (36, .getfield 10, 3), (39, .getfield 69, 3), (42, .iload_n 1, 1), (43, .aaload, 1), (44, .iload_n 3, 1), (45, .iload_n 2, 1), (46, .iastore, 1), (47, .aload_n 0, 1), (48, .getfield 10, 3), (51, .getfield 64, 3), (54, .iload_n 1, 1), (55, .iload_n 3, 1), (56, .iconst 1, 1), (57, .iadd, 1), (58, .iastore, 1), (59, .aload_n 0, 1), (60, .getfield 10, 3), (63, .invokevirtual 47, 3), (66, .iload_n 3, 1), (67, .iconst 1, 1), (68, .iadd, 1), (69, .ireturn, 1)]
def dp_t20 : List dp_I := [(0, .aload_n 0, 1), (1, .iload_n 1, 1), (2, .invokevirtual 61, 3), (5, .iload_n 2, 1), (6, .aload_n 0, 1), (7, .getfield 10, 3), (10, .getfield 64, 3), (13, .iload_n 1, 1), (14, .iaload, 1), (15, .invokestatic 73, 3), (18, .aload_n 0, 1), (19, .getfield 10, 3), (22, .getfield 69, 3), (25, .iload_n 1, 1), (26, .aaload, 1), (27, .iload_n 2, 1), (28, .iaload, 1), (29, .istore_n 3, 1), (30, .aload_n 0, 1), (31, .getfield 10, 3), (34, .getfield 64, 3), (37, .iload_n 1, 1), (38, .aload_n 0, 1), (39, .getfield 10, 3), (42, .getfield 69, 3), (45, .iload_n 1, 1), (46, .aaload, 1), (47, .aload_n 0, 1), (48, .getfield 10, 3), (51, .getfield 64, 3), (54, .iload_n 1, 1), (55, .iaload, 1), (56, .iload_n 2, 1), (57, .invokestatic 77, 3), (60, .iastore, 1), (61, .aload_n 0, 1), (62, .getfield 10, 3), (65, .invokevirtual 47, 3), (68, .iload_n 3, 1), (69, .ireturn, 1)]
def dp_t21 : List dp_I := [(0, .iload_n 1, 1), (1, .ifCond .lt 10, 3), (4, .iload_n 1, 1), (5, .sipush 999, 3), (8, .if_icmp .le 13, 3), (11, .new 81, 3), (14, .dup, 1), (15, .ldc 83, 2), (17, .invokespecial 85, 3), (20, .athrow, 1), (21, .aload_n 0, 1), (22, .getfield 19, 3), (25, .getfield 86, 3), (28, .istore_n 2, 1), (29, .iload_n 2, 1), (30, .bipush 6, 2), (32, .if_icmp .lt 13, 3), (35, .new 54, 3), (38, .dup, 1), (39, .ldc 89, 2), (41, .invokespecial 58, 3), (44, .athrow, 1), (45, .aload_n 0, 1), (46, .getfield 26, 3), (49, .getfield 91, 3), (52, .iload_n 2, 1), (53, .iload_n 1, 1), (54, .iastore, 1), (55, .aload_n 0, 1), (56, .getfield 19, 3), (59, .iload_n 2, 1), (60, .iconst 1, 1), (61, .iadd, 1), (62, .putfield 86, 3), (65, .iload_n 2, 1), (66, .ireturn, 1)]
def dp_t22 : List dp_I := [(0, .aload_n 0, 1), (1, .iload_n 1, 1), (2, .invokevirtual 94, 3), (5, .iload_n 2, 1), (6, .invokestatic 41, 3), (9, .aload_n 0, 1), (10, .getfield 19, 3), (13, .getfield 97, 3), (16, .iload_n 1, 1), (17, .iaload, 1), (18, .istore_n 3, 1), (19, .iload_n 3, 1), (20, .iconst 5, 1), (21, .if_icmp .lt 13, 3), (24, .new 54, 3), (27, .dup, 1), (28, .ldc 100, 2), (30, .invokespecial 58, 3), (33, .athrow, 1), (34, .aload_n 0, 1), (35, .getfield 19, 3), (38, .iload_n 1, 1), (39, .iload_n 2, 1), (40, .invokevirtual 102, 3), (43, .iconst (-1), 1), (44, .if_icmp .eq 13, 3), (47, .new 54, 3), (50, .dup, 1), (51, .ldc 106, 2), (53, .invokespecial 58, 3), (56, .athrow, 1), (57, .aload_n 0, 1), (58, .getfield 19, 3), (61, .getfield 108, 3), (64, .iload_n 1, 1), (65, .aaload, 1), (66, .iload_n 3, 1), (67, .iload_n 2, 1), (68, .iastore, 1), (69, .aload_n 0, 1), (70, .getfield 19, 3), (73, .getfield 97, 3), (76, .iload_n 1, 1), (77, .iload_n 3, 1), (78, .iconst 1, 1), (79, .iadd, 1), (80, .iastore, 1), (81, .iload_n 3, 1), (82, .iconst 1, 1), (83, .iadd, 1), (84, .ireturn, 1)]
def dp_t23 : List dp_I := [(0, .aload_n 0, 1), (1, .iload_n 1, 1), (2, .invokevirtual 94, 3), (5, .iload_n 2, 1), (6, .invokestatic 41, 3), (9, .aload_n 0, 1), (10, .getfield 19, 3), (13, .iload_n 1, 1), (14, .iload_n 2, 1), (15, .invokevirtual 102, 3), (18, .istore_n 3, 1), (19, .iload_n 3, 1), (20, .iconst (-1), 1), (21, .if_icmp .ne 13, 3), (24, .new 54, 3), (27, .dup, 1), (28, .ldc 111, 2), (30, .invokespecial 58, 3), (33, .athrow, 1), (34, .aload_n 0, 1), (35, .getfield 19, 3), (38, .getfield 97, 3), (41, .iload_n 1, 1), (42, .aload_n 0, 1), (43, .getfield 19, 3), (46, .getfield 108, 3), (49, .iload_n 1, 1), (50, .aaload, 1), (51, .aload_n 0, 1), (52, .getfield 19, 3), (55, .getfield 97, 3), (58, .iload_n 1, 1), (59, .iaload, 1), (60, .iload_n 3, 1), (61, .invokestatic 77, 3), (64, .iastore, 1), (65, .iload_n 3, 1), (66, .ireturn, 1)]
def dp_t24 : List dp_I := [(0, .aload_n 0, 1), (1, .iload_n 1, 1), (2, .invokevirtual 94, 3), (5, .iload_n 2, 1), (6, .ifCond .lt 10, 3), (9, .iload_n 2, 1), (10, .sipush 999, 3), (13, .if_icmp .le 13, 3), (16, .new 81, 3), (19, .dup, 1), (20, .ldc 113, 2), (22, .invokespecial 85, 3), (25, .athrow, 1), (26, .aload_n 0, 1), (27, .getfield 19, 3), (30, .getfield 115, 3), (33, .iload_n 1, 1), (34, .iaload, 1), (35, .istore_n 3, 1), (36, .aload_n 0, 1), (37, .getfield 19, 3), (40, .getfield 115, 3), (43, .iload_n 1, 1), (44, .iload_n 2, 1), (45, .iastore, 1), (46, .iload_n 3, 1), (47, .ireturn, 1)]
def dp_t25 : List dp_I := [(0, .aload_n 0, 1), (1, .iload_n 1, 1), (2, .invokevirtual 94, 3), (5, .iload_n 2, 1), (6, .iconst 1, 1), (7, .if_icmp .lt 10, 3), (10, .iload_n 2, 1), (11, .sipush 999, 3), (14, .if_icmp .le 13, 3), (17, .new 81, 3), (20, .dup, 1), (21, .ldc 118, 2), (23, .invokespecial 85, 3), (26, .athrow, 1), (27, .aload_n 0, 1), (28, .getfield 26, 3), (31, .getfield 91, 3), (34, .iload_n 1, 1), (35, .aload_n 0, 1), (36, .getfield 26, 3), (39, .getfield 91, 3), (42, .iload_n 1, 1), (43, .iaload, 1), (44, .iload_n 2, 1), (45, .iadd, 1), (46, .sipush 9999, 3), (49, .invokestatic 120, 3), (52, .iastore, 1), (53, .aload_n 0, 1), (54, .getfield 26, 3), (57, .getfield 91, 3), (60, .iload_n 1, 1), (61, .iaload, 1), (62, .ireturn, 1)]
def dp_t26 : List dp_I := [(0, .aload_n 0, 1), (1, .iload_n 1, 1), (2, .invokevirtual 94, 3), (5, .aload_n 0, 1), (6, .aload_n 0, 1), (7, .getfield 26, 3), (10, .iload_n 1, 1), (11, .invokevirtual 125, 3), (14, .ireturn, 1)]
def dp_t27 : List dp_I := [(0, .iload_n 1, 1), (1, .invokestatic 129, 3), (4, .aload_n 0, 1), (5, .getfield 26, 3), (8, .invokevirtual 132, 3), (11, .istore_n 2, 1), (12, .aload_n 0, 1), (13, .aload_n 0, 1), (14, .getfield 26, 3), (17, .iload_n 1, 1), (18, .invokevirtual 136, 3), (21, .aload_n 0, 1), (22, .getfield 26, 3), (25, .invokevirtual 132, 3), (28, .iload_n 2, 1), (29, .isub, 1), (30, .ireturn, 1)]
def dp_t28 : List dp_I := [(0, .aload_n 0, 1), (1, .iload_n 1, 1), (2, .invokevirtual 61, 3), (5, .iload_n 2, 1), (6, .iconst 4, 1), (7, .invokestatic 140, 3), (10, .aload_n 0, 1), (11, .iload_n 1, 1), (12, .iload_n 2, 1), (13, .invokevirtual 143, 3), (16, .ireturn, 1)]
def dp_t29 : List dp_I := [(0, .aload_n 0, 1), (1, .iload_n 1, 1), (2, .invokevirtual 61, 3), (5, .iload_n 2, 1), (6, .aload_n 0, 1), (7, .getfield 10, 3), (10, .getfield 64, 3), (13, .iload_n 1, 1), (14, .iaload, 1), (15, .invokestatic 73, 3), (18, .aload_n 0, 1), (19, .getfield 10, 3), (22, .getfield 69, 3), (25, .iload_n 1, 1), (26, .aaload, 1), (27, .iload_n 2, 1), (28, .iaload, 1), (29, .ireturn, 1)]
def dp_t30 : List dp_I := [(0, .aload_n 0, 1), (1, .iload_n 1, 1), (2, .invokevirtual 94, 3), (5, .iload_n 2, 1), (6, .bipush 6, 2), (8, .invokestatic 140, 3), (11, .aload_n 0, 1), (12, .iload_n 1, 1), (13, .iload_n 2, 1), (14, .invokevirtual 146, 3), (17, .ireturn, 1)]
def dp_t31 : List dp_I := [(0, .aload_n 0, 1), (1, .iload_n 1, 1), (2, .invokevirtual 94, 3), (5, .iload_n 2, 1), (6, .aload_n 0, 1), (7, .getfield 19, 3), (10, .getfield 97, 3), (13, .iload_n 1, 1), (14, .iaload, 1), (15, .invokestatic 73, 3), (18, .aload_n 0, 1), (19, .getfield 19, 3), (22, .getfield 108, 3), (25, .iload_n 1, 1), (26, .aaload, 1), (27, .iload_n 2, 1), (28, .iaload, 1), (29, .ireturn, 1)]
def dp_t32 : List dp_I := [(0, .iload_n 1, 1), (1, .bipush 7, 2), (3, .invokestatic 140, 3), (6, .aload_n 0, 1), (7, .iload_n 1, 1), (8, .invokevirtual 149, 3), (11, .ireturn, 1)]
def dp_t33 : List dp_I := [(0, .iload_n 1, 1), (1, .invokestatic 41, 3), (4, .aload_n 0, 1), (5, .getfield 10, 3), (8, .iload_n 1, 1), (9, .invokevirtual 153, 3), (12, .ireturn, 1)]
def dp_t34 : List dp_I := [(0, .aload_n 0, 1), (1, .iload_n 1, 1), (2, .invokevirtual 94, 3), (5, .aload_n 0, 1), (6, .iload_n 2, 1), (7, .invokevirtual 61, 3), (10, .aload_n 0, 1), (11, .aload_n 0, 1), (12, .getfield 26, 3), (15, .iload_n 1, 1), (16, .iload_n 2, 1), (17, .invokevirtual 156, 3), (20, .ireturn, 1)]
def dp_t35 : List dp_I := [(0, .aload_n 0, 1), (1, .iload_n 1, 1), (2, .invokevirtual 94, 3), (5, .iload_n 2, 1), (6, .aload_n 0, 1), (7, .iload_n 1, 1), (8, .invokevirtual 160, 3), (11, .invokestatic 73, 3), (14, .aload_n 0, 1), (15, .iload_n 1, 1), (16, .iload_n 2, 1), (17, .invokevirtual 163, 3), (20, .ireturn, 1)]
def dp_t36 : List dp_I := [(0, .aload_n 0, 1), (1, .getfield 30, 3), (4, .aload_n 0, 1), (5, .getfield 26, 3), (8, .invokevirtual 172, 3), (11, .iconst 0, 1), (12, .istore_n 1, 1), (13, .iload_n 1, 1), (14, .bipush 40, 2), (16, .if_icmp .ge 31, 3), (19, .aload_n 0, 1), (20, .aload_n 0, 1), (21, .getfield 30, 3), (24, .invokevirtual 176, 3), (27, .ifCond .eq 5, 3), (30, .iload_n 1, 1), (31, .ireturn, 1), (32, .aload_n 0, 1), (33, .aload_n 0, 1), (34, .getfield 30, 3), (37, .iconst 1, 1), (38, .invokevirtual 136, 3), (41, .iinc 1 1, 3), (44, .goto (-31), 3), (47, .aload_n 0, 1), (48, .aload_n 0, 1), (49, .getfield 30, 3), (52, .invokevirtual 176, 3), (55, .ifCond .eq 8, 3), (58, .bipush 40, 2), (60, .goto 4, 3), (63, .iconst (-1), 1), (64, .ireturn, 1)]
def dp_t37 : List dp_I := [(0, .aload_n 0, 1), (1, .getfield 26, 3), (4, .invokevirtual 132, 3), (7, .istore_n 1, 1), (8, .iload_n 1, 1), (9, .ifCond .gt 5, 3), (12, .dconst 0, 1), (13, .dreturn, 1), (14, .aload_n 0, 1), (15, .getfield 26, 3), (18, .invokevirtual 180, 3), (21, .i2d, 1), (22, .iload_n 1, 1), (23, .i2d, 1), (24, .ddiv, 1), (25, .dreturn, 1)]
def dp_t38 : List dp_I := [(0, .iload_n 0, 1), (1, .ifCond .lt 9, 3), (4, .iload_n 0, 1), (5, .bipush 40, 2), (7, .if_icmp .lt 13, 3), (10, .new 197, 3), (13, .dup, 1), (14, .ldc 199, 2), (16, .invokespecial 201, 3), (19, .athrow, 1), (20, .return_, 1)]
def dp_t39 : List dp_I := [(0, .iload_n 0, 1), (1, .ifCond .lt 9, 3), (4, .iload_n 0, 1), (5, .bipush 20, 2), (7, .if_icmp .lt 13, 3), (10, .new 197, 3), (13, .dup, 1), (14, .ldc 202, 2), (16, .invokespecial 201, 3), (19, .athrow, 1), (20, .return_, 1)]
def dp_t40 : List dp_I := [(0, .iload_n 1, 1), (1, .ifCond .lt 14, 3), (4, .iload_n 1, 1), (5, .aload_n 0, 1), (6, .getfield 10, 3), (9, .getfield 50, 3), (12, .if_icmp .lt 13, 3), (15, .new 197, 3), (18, .dup, 1), (19, .ldc 204, 2), (21, .invokespecial 201, 3), (24, .athrow, 1), (25, .return_, 1)]
def dp_t41 : List dp_I := [(0, .iload_n 1, 1), (1, .ifCond .lt 14, 3), (4, .iload_n 1, 1), (5, .aload_n 0, 1), (6, .getfield 19, 3), (9, .getfield 86, 3), (12, .if_icmp .lt 13, 3), (15, .new 197, 3), (18, .dup, 1), (19, .ldc 206, 2), (21, .invokespecial 201, 3), (24, .athrow, 1), (25, .return_, 1)]
def dp_t42 : List dp_I := [(0, .iload_n 0, 1), (1, .ifCond .lt 8, 3), (4, .iload_n 0, 1), (5, .iload_n 1, 1), (6, .if_icmp .lt 13, 3), (9, .new 197, 3), (12, .dup, 1), (13, .ldc 208, 2), (15, .invokespecial 201, 3), (18, .athrow, 1), (19, .return_, 1)]
def dp_t43 : List dp_I := [(0, .iload_n 0, 1), (1, .ifCond .lt 8, 3), (4, .iload_n 0, 1), (5, .iload_n 1, 1), (6, .if_icmp .lt 13, 3), (9, .new 197, 3), (12, .dup, 1), (13, .ldc 210, 2), (15, .invokespecial 201, 3), (18, .athrow, 1), (19, .return_, 1)]
def dp_t44 : List dp_I := [(0, .iload_n 0, 1), (1, .iconst 1, 1), (2, .if_icmp .lt 9, 3), (5, .iload_n 0, 1), (6, .bipush 30, 2), (8, .if_icmp .le 13, 3), (11, .new 81, 3), (14, .dup, 1), (15, .ldc 212, 2), (17, .invokespecial 85, 3), (20, .athrow, 1), (21, .return_, 1)]
def dp_t45 : List dp_I := [(0, .iload_n 2, 1), (1, .tableswitch 56 0 2 #[27, 37, 46], 27), (28, .aload_n 0, 1), (29, .getfield 10, 3), (32, .getfield 64, 3), (35, .iload_n 1, 1), (36, .iaload, 1), (37, .ireturn, 1), (38, .aload_n 0, 1), (39, .getfield 10, 3), (42, .iload_n 1, 1), (43, .invokevirtual 214, 3), (46, .ireturn, 1), (47, .aload_n 0, 1), (48, .getfield 26, 3), (51, .getfield 217, 3), (54, .iload_n 1, 1), (55, .iaload, 1), (56, .ireturn, 1), (57, .aload_n 0, 1), (58, .getfield 26, 3), (61, .iload_n 1, 1), (62, .invokevirtual 220, 3), (65, .ireturn, 1)]
def dp_t46 : List dp_I := [(0, .iload_n 2, 1), (1, .tableswitch 88 0 4 #[35, 45, 55, 65, 78], 35), (36, .aload_n 0, 1), (37, .getfield 26, 3), (40, .getfield 91, 3), (43, .iload_n 1, 1), (44, .iaload, 1), (45, .ireturn, 1), (46, .aload_n 0, 1), (47, .getfield 19, 3), (50, .getfield 97, 3), (53, .iload_n 1, 1), (54, .iaload, 1), (55, .ireturn, 1), (56, .aload_n 0, 1), (57, .getfield 19, 3), (60, .getfield 115, 3), (63, .iload_n 1, 1), (64, .iaload, 1), (65, .ireturn, 1), (66, .aload_n 0, 1), (67, .getfield 26, 3), (70, .getfield 223, 3), (73, .iload_n 1, 1), (74, .iaload, 1), (75, .invokestatic 226, 3), (78, .ireturn, 1), (79, .aload_n 0, 1), (80, .getfield 26, 3), (83, .getfield 231, 3), (86, .iload_n 1, 1), (87, .iaload, 1), (88, .ireturn, 1), (89, .aload_n 0, 1), (90, .iload_n 1, 1), (91, .invokevirtual 160, 3), (94, .ireturn, 1)]
def dp_t47 : List dp_I := [(0, .iload_n 1, 1), (1, .tableswitch 87 0 5 #[39, 47, 55, 63, 71, 79], 39), (40, .aload_n 0, 1), (41, .getfield 10, 3), (44, .getfield 50, 3), (47, .ireturn, 1), (48, .aload_n 0, 1), (49, .getfield 19, 3), (52, .getfield 86, 3), (55, .ireturn, 1), (56, .aload_n 0, 1), (57, .getfield 10, 3), (60, .invokevirtual 234, 3), (63, .ireturn, 1), (64, .aload_n 0, 1), (65, .getfield 10, 3), (68, .invokevirtual 237, 3), (71, .ireturn, 1), (72, .aload_n 0, 1), (73, .getfield 26, 3), (76, .getfield 240, 3), (79, .ireturn, 1), (80, .aload_n 0, 1), (81, .getfield 26, 3), (84, .invokevirtual 132, 3), (87, .ireturn, 1), (88, .aload_n 0, 1), (89, .getfield 26, 3), (92, .invokevirtual 180, 3), (95, .ireturn, 1)]
def dp_t48 : List dp_I := [(0, .aload_n 0, 1), (1, .getfield 10, 3), (4, .iload_n 3, 1), (5, .aload_n 0, 1), (6, .getfield 19, 3), (9, .getfield 108, 3), (12, .iload_n 2, 1), (13, .aaload, 1), (14, .aload_n 0, 1), (15, .getfield 19, 3), (18, .getfield 97, 3), (21, .iload_n 2, 1), (22, .iaload, 1), (23, .aload_n 1, 1), (24, .getfield 217, 3), (27, .iload_n 3, 1), (28, .iaload, 1), (29, .invokevirtual 243, 3), (32, .ireturn, 1)]
def dp_t49 : List dp_I := [(0, .iload 4, 2), (2, .aload_n 0, 1), (3, .getfield 19, 3), (6, .getfield 115, 3), (9, .iload_n 2, 1), (10, .iaload, 1), (11, .if_icmp .lt 16, 3), (14, .aload_n 1, 1), (15, .iload_n 2, 1), (16, .iload_n 3, 1), (17, .invokevirtual 247, 3), (20, .ifCond .ne 7, 3), (23, .iconst 1, 1), (24, .goto 4, 3), (27, .iconst 0, 1), (28, .ireturn, 1)]
def dp_t50 : List dp_I := [(0, .iconst 0, 1), (1, .istore_n 2, 1), (2, .iconst 0, 1), (3, .istore_n 3, 1), (4, .iload_n 3, 1), (5, .aload_n 0, 1), (6, .getfield 10, 3), (9, .getfield 50, 3), (12, .if_icmp .ge 39, 3), (15, .aload_n 0, 1), (16, .aload_n 0, 1), (17, .getfield 26, 3), (20, .iload_n 1, 1), (21, .iload_n 3, 1), (22, .invokevirtual 156, 3), (25, .istore 4, 2), (27, .aload_n 0, 1), (28, .aload_n 0, 1), (29, .getfield 26, 3), (32, .iload_n 1, 1), (33, .iload_n 3, 1), (34, .iload 4, 2), (36, .invokevirtual 251, 3), (39, .ifCond .eq 6, 3), (42, .iinc 2 1, 3), (45, .iinc 3 1, 3), (48, .goto (-44), 3), (51, .iload_n 2, 1), (52, .ireturn, 1)]
def dp_t51 : List dp_I := [(0, .iconst (-1), 1), (1, .istore_n 3, 1), (2, .iconst (-1), 1), (3, .istore 4, 2), (5, .iconst 0, 1), (6, .istore 5, 2), (8, .iload 5, 2), (10, .aload_n 0, 1), (11, .getfield 10, 3), (14, .getfield 50, 3), (17, .if_icmp .ge 46, 3), (20, .aload_n 0, 1), (21, .aload_n 1, 1), (22, .iload_n 2, 1), (23, .iload 5, 2), (25, .invokevirtual 156, 3), (28, .istore 6, 2), (30, .iload 6, 2), (32, .iload 4, 2), (34, .if_icmp .le 23, 3), (37, .aload_n 0, 1), (38, .aload_n 1, 1), (39, .iload_n 2, 1), (40, .iload 5, 2), (42, .iload 6, 2), (44, .invokevirtual 251, 3), (47, .ifCond .eq 10, 3), (50, .iload 6, 2), (52, .istore 4, 2), (54, .iload 5, 2), (56, .istore_n 3, 1), (57, .iinc 5 1, 3), (60, .goto (-52), 3), (63, .iload_n 3, 1), (64, .ireturn, 1)]
def dp_t52 : List dp_I := [(0, .iconst 0, 1), (1, .istore_n 3, 1), (2, .iload_n 3, 1), (3, .aload_n 0, 1), (4, .getfield 10, 3), (7, .getfield 50, 3), (10, .if_icmp .ge 50, 3), (13, .aload_n 0, 1), (14, .aload_n 0, 1), (15, .getfield 26, 3), (18, .iload_n 1, 1), (19, .iload_n 3, 1), (20, .invokevirtual 156, 3), (23, .istore 4, 2), (25, .aload_n 0, 1), (26, .aload_n 0, 1), (27, .getfield 26, 3), (30, .iload_n 1, 1), (31, .iload_n 3, 1), (32, .iload 4, 2), (34, .invokevirtual 251, 3), (37, .ifCond .eq 17, 3), (40, .aload_n 0, 1), (41, .iload_n 1, 1), (42, .iload_n 3, 1), (43, .iload 4, 2), (45, .invokevirtual 255, 3), (48, .iload_n 2, 1), (49, .if_icmp .ne 5, 3), (52, .iload_n 3, 1), (53, .ireturn, 1), (54, .iinc 3 1, 3), (57, .goto (-55), 3), (60, .iconst (-1), 1), (61, .ireturn, 1)]
def dp_t53 : List dp_I := [(0, .iconst 0, 1), (1, .istore 4, 2), (3, .iconst 0, 1), (4, .istore 5, 2), (6, .iload 5, 2), (8, .aload_n 0, 1), (9, .getfield 10, 3), (12, .getfield 50, 3), (15, .if_icmp .ge 71, 3), (18, .aload_n 0, 1), (19, .aload_n 0, 1), (20, .getfield 26, 3), (23, .iload_n 1, 1), (24, .iload 5, 2), (26, .invokevirtual 156, 3), (29, .istore 6, 2), (31, .iload 6, 2), (33, .iload_n 3, 1), (34, .if_icmp .gt 15, 3), (37, .iload 6, 2), (39, .iload_n 3, 1), (40, .if_icmp .ne 13, 3), (43, .iload 5, 2), (45, .iload_n 2, 1), (46, .if_icmp .ge 7, 3), (49, .iconst 1, 1), (50, .goto 4, 3), (53, .iconst 0, 1), (54, .istore 7, 2), (56, .iload 7, 2), (58, .ifCond .eq 22, 3), (61, .aload_n 0, 1), (62, .aload_n 0, 1), (63, .getfield 26, 3), (66, .iload_n 1, 1), (67, .iload 5, 2), (69, .iload 6, 2), (71, .invokevirtual 251, 3), (74, .ifCond .eq 6, 3), (77, .iinc 4 1, 3), (80, .iinc 5 1, 3), (83, .goto (-77), 3), (86, .iload 4, 2), (88, .ireturn, 1)]
def dp_t54 : List dp_I := [(0, .iconst 2, 1), (1, .aload_n 0, 1), (2, .aload_n 1, 1), (3, .iload_n 2, 1), (4, .iload_n 3, 1), (5, .invokevirtual 156, 3), (8, .bipush 20, 2), (10, .idiv, 1), (11, .iadd, 1), (12, .ireturn, 1)]
def dp_t55 : List dp_I := [(0, .aload_n 0, 1), (1, .aload_n 1, 1), (2, .iload_n 2, 1), (3, .invokevirtual 268, 3), (6, .istore_n 3, 1), (7, .iload_n 3, 1), (8, .iconst (-1), 1), (9, .if_icmp .ne 5, 3), (12, .iconst (-1), 1), (13, .ireturn, 1), (14, .aload_n 0, 1), (15, .aload_n 1, 1), (16, .iload_n 2, 1), (17, .iload_n 3, 1), (18, .invokevirtual 271, 3), (21, .istore 4, 2), (23, .aload_n 1, 1), (24, .getfield 91, 3), (27, .iload_n 2, 1), (28, .iaload, 1), (29, .iload 4, 2), (31, .if_icmp .ge 5, 3), (34, .iconst (-1), 1), (35, .ireturn, 1), (36, .aload_n 1, 1), (37, .iload_n 2, 1), (38, .iload_n 3, 1), (39, .iload 4, 2), (41, .invokevirtual 274, 3), (44, .iload_n 3, 1), (45, .ireturn, 1)]
def dp_t56 : List dp_I := [(0, .iconst 0, 1), (1, .istore_n 3, 1), (2, .iload_n 3, 1), (3, .iload_n 2, 1), (4, .if_icmp .ge 57, 3), (7, .iconst 0, 1), (8, .istore 4, 2), (10, .iload 4, 2), (12, .aload_n 0, 1), (13, .getfield 19, 3), (16, .getfield 86, 3), (19, .if_icmp .ge 25, 3), (22, .aload_n 0, 1), (23, .aload_n 1, 1), (24, .iload 4, 2), (26, .invokevirtual 125, 3), (29, .pop, 1), (30, .aload_n 0, 1), (31, .aload_n 1, 1), (32, .iload 4, 2), (34, .invokevirtual 125, 3), (37, .pop, 1), (38, .iinc 4 1, 3), (41, .goto (-31), 3), (44, .aload_n 1, 1), (45, .aload_n 0, 1), (46, .getfield 10, 3), (49, .getfield 50, 3), (52, .invokevirtual 278, 3), (55, .iinc 3 1, 3), (58, .goto (-56), 3), (61, .return_, 1)]
def dp_t57 : List dp_I := [(0, .iconst 0, 1), (1, .istore_n 2, 1), (2, .iload_n 2, 1), (3, .aload_n 0, 1), (4, .getfield 19, 3), (7, .getfield 86, 3), (10, .if_icmp .ge 39, 3), (13, .aload_n 0, 1), (14, .aload_n 1, 1), (15, .iload_n 2, 1), (16, .invokevirtual 268, 3), (19, .istore_n 3, 1), (20, .iload_n 3, 1), (21, .iconst (-1), 1), (22, .if_icmp .eq 21, 3), (25, .aload_n 0, 1), (26, .aload_n 1, 1), (27, .iload_n 2, 1), (28, .iload_n 3, 1), (29, .invokevirtual 271, 3), (32, .aload_n 1, 1), (33, .getfield 91, 3), (36, .iload_n 2, 1), (37, .iaload, 1), (38, .if_icmp .le 5, 3), (41, .iconst 1, 1), (42, .ireturn, 1), (43, .iinc 2 1, 3), (46, .goto (-44), 3), (49, .iconst 0, 1), (50, .ireturn, 1)]
def dp_t58 : List dp_I := [(0, .iload_n 2, 1), (1, .istore_n 3, 1), (2, .iload_n 3, 1), (3, .iconst 1, 1), (4, .iadd, 1), (5, .iload_n 1, 1), (6, .if_icmp .ge 17, 3), (9, .aload_n 0, 1), (10, .iload_n 3, 1), (11, .aload_n 0, 1), (12, .iload_n 3, 1), (13, .iconst 1, 1), (14, .iadd, 1), (15, .iaload, 1), (16, .iastore, 1), (17, .iinc 3 1, 3), (20, .goto (-18), 3), (23, .iload_n 1, 1), (24, .iconst 1, 1), (25, .isub, 1), (26, .ireturn, 1)]
def dp_t59 : List dp_I := [(0, .aload_n 0, 1), (1, .invokespecial 1, 3), (4, .aload_n 0, 1), (5, .bipush 20, 2), (7, .putfield 7, 3), (10, .aload_n 0, 1), (11, .iconst 0, 1), (12, .newarray .int, 2), (14, .putfield 13, 3), (17, .aload_n 0, 1), (18, .bipush 16, 2), (20, .newarray .boolean, 2), (22, .putfield 17, 3), (25, .return_, 1)]
def dp_t60 : List dp_I := [(0, .aload_n 0, 1), (1, .invokespecial 1, 3), (4, .aload_n 0, 1), (5, .bipush 40, 2), (7, .newarray .int, 2), (9, .putfield 7, 3), (12, .aload_n 0, 1), (13, .iconst 0, 1), (14, .anewarray 13, 3), (17, .putfield 14, 3), (20, .aload_n 0, 1), (21, .bipush 16, 2), (23, .newarray .int, 2), (25, .putfield 18, 3), (28, .aload_n 0, 1), (29, .iconst 0, 1), (30, .anewarray 21, 3), (33, .putfield 23, 3), (36, .iconst 0, 1), (37, .istore_n 1, 1), (38, .iload_n 1, 1), (39, .bipush 40, 2), (41, .if_icmp .ge 18, 3), (44, .aload_n 0, 1), (45, .getfield 7, 3), (48, .iload_n 1, 1), (49, .iload_n 1, 1), (50, .iconst 2, 1), (51, .idiv, 1), (52, .iastore, 1), (53, .iinc 1 1, 3), (56, .goto (-18), 3), (59, .return_, 1)]
def dp_t61 : List dp_I := [(0, .bipush 20, 2), (2, .newarray .int, 2), (4, .astore_n 2, 1), (5, .aload_n 0, 1), (6, .getfield 14, 3), (9, .iload_n 1, 1), (10, .aaload, 1), (11, .astore_n 3, 1), (12, .aload_n 3, 1), (13, .arraylength, 1), (14, .istore 4, 2), (16, .iconst 0, 1), (17, .istore 5, 2), (19, .iload 5, 2), (21, .iload 4, 2), (23, .if_icmp .ge 28, 3), (26, .aload_n 3, 1), (27, .iload 5, 2), (29, .iaload, 1), (30, .istore 6, 2), (32, .aload_n 2, 1), (33, .aload_n 0, 1), (34, .getfield 7, 3), (37, .iload 6, 2), (39, .iaload, 1), (40, .dup2, 1), (41, .iaload, 1), (42, .iconst 1, 1), (43, .iadd, 1), (44, .iastore, 1), (45, .iinc 5 1, 3), (48, .goto (-29), 3), (51, .aload_n 2, 1), (52, .areturn, 1)]
def dp_t62 : List dp_I := [(0, .bipush 20, 2), (2, .newarray .int, 2), (4, .astore_n 1, 1), (5, .iconst 0, 1), (6, .istore_n 2, 1), (7, .iload_n 2, 1), (8, .aload_n 0, 1), (9, .getfield 14, 3), (12, .arraylength, 1), (13, .if_icmp .ge 50, 3), (16, .aload_n 0, 1), (17, .iload_n 2, 1), (18, .invokevirtual 40, 3), (21, .astore_n 3, 1), (22, .iconst 0, 1), (23, .istore 4, 2), (25, .iload 4, 2), (27, .bipush 20, 2), (29, .if_icmp .ge 28, 3), (32, .aload_n 1, 1), (33, .iload 4, 2), (35, .dup2, 1), (36, .iaload, 1), (37, .aload_n 3, 1), (38, .iload 4, 2), (40, .iaload, 1), (41, .ifCond .le 7, 3), (44, .iconst 1, 1), (45, .goto 4, 3), (48, .iconst 0, 1), (49, .iadd, 1), (50, .iastore, 1), (51, .iinc 4 1, 3), (54, .goto (-29), 3), (57, .iinc 2 1, 3), (60, .goto (-53), 3), (63, .iconst 0, 1), (64, .istore_n 2, 1), (65, .iload_n 2, 1), (66, .bipush 20, 2), (68, .if_icmp .ge 29, 3), (71, .aload_n 1, 1), (72, .iload_n 2, 1), (73, .bipush 10, 2), (75, .aload_n 0, 1), (76, .getfield 14, 3), (79, .arraylength, 1), (80, .imul, 1), (81, .bipush 10, 2), (83, .iadd, 1), (84, .aload_n 1, 1), (85, .iload_n 2, 1), (86, .iaload, 1), (87, .iconst 1, 1), (88, .iadd, 1), (89, .idiv, 1), (90, .iastore, 1), (91, .iinc 2 1, 3), (94, .goto (-29), 3), (97, .aload_n 1, 1), (98, .areturn, 1)]
def dp_t63 : List dp_I := [(0, .iconst 0, 1), (1, .istore 5, 2), (3, .aload_n 1, 1), (4, .getfield 44, 3), (7, .arraylength, 1), (8, .iconst 1, 1), (9, .if_icmp .le 7, 3), (12, .iconst 1, 1), (13, .goto 4, 3), (16, .iconst 0, 1), (17, .istore 6, 2), (19, .aload_n 1, 1), (20, .getfield 44, 3), (23, .astore 7, 2), (25, .aload 7, 2), (27, .arraylength, 1), (28, .istore 8, 2), (30, .iconst 0, 1), (31, .istore 9, 2), (33, .iload 9, 2), (35, .iload 8, 2), (37, .if_icmp .ge 61, 3), (40, .aload 7, 2), (42, .iload 9, 2), (44, .iaload, 1), (45, .istore 10, 2), (47, .iload 6, 2), (49, .ifCond .eq 14, 3), (52, .aload_n 2, 1), (53, .iload 10, 2), (55, .iaload, 1), (56, .ifCond .le 7, 3), (59, .iconst 1, 1), (60, .goto 4, 3), (63, .iconst 0, 1), (64, .istore 6, 2), (66, .iload 5, 2), (68, .aload_n 3, 1), (69, .iload 10, 2), (71, .iaload, 1), (72, .aload_n 2, 1), (73, .iload 10, 2), (75, .iaload, 1), (76, .iconst 3, 1), (77, .if_icmp .le 7, 3), (80, .iconst 3, 1), (81, .goto 7, 3), (84, .aload_n 2, 1), (85, .iload 10, 2), (87, .iaload, 1), (88, .imul, 1), (89, .iadd, 1), (90, .istore 5, 2), (92, .iinc 9 1, 3), (95, .goto (-62), 3), (98, .iload 6, 2), (100, .ifCond .eq 13, 3), (103, .iload 5, 2), (105, .iload 5, 2), (107, .iconst 2, 1), (108, .idiv, 1), (109, .iadd, 1), (110, .goto 5, 3), (113, .iload 5, 2), (115, .iconst 3, 1), (116, .iload 4, 2), (118, .imul, 1), (119, .isub, 1), (120, .istore 5, 2), (122, .iload 5, 2), (124, .ifCond .ge 7, 3), (127, .iconst 0, 1), (128, .goto 5, 3), (131, .iload 5, 2), (133, .ireturn, 1)]
def dp_t64 : List dp_I := [(0, .aload_n 0, 1), (1, .invokevirtual 47, 3), (4, .astore_n 2, 1), (5, .aload_n 0, 1), (6, .getfield 14, 3), (9, .arraylength, 1), (10, .newarray .int, 2), (12, .astore_n 3, 1), (13, .iconst 0, 1), (14, .istore 4, 2), (16, .iload 4, 2), (18, .aload_n 3, 1), (19, .arraylength, 1), (20, .if_icmp .ge 59, 3), (23, .aload_n 0, 1), (24, .aload_n 1, 1), (25, .aload_n 0, 1), (26, .iload 4, 2), (28, .invokevirtual 40, 3), (31, .aload_n 2, 1), (32, .aload_n 0, 1), (33, .getfield 18, 3), (36, .iload 4, 2), (38, .iaload, 1), (39, .invokevirtual 51, 3), (42, .istore 5, 2), (44, .aload_n 3, 1), (45, .iload 4, 2), (47, .aload_n 1, 1), (48, .getfield 55, 3), (51, .iload 4, 2), (53, .baload, 1), (54, .ifCond .ne 12, 3), (57, .iload 5, 2), (59, .aload_n 1, 1), (60, .getfield 59, 3), (63, .if_icmp .ge 7, 3), (66, .iconst (-1), 1), (67, .goto 5, 3), (70, .iload 5, 2), (72, .iastore, 1), (73, .iinc 4 1, 3), (76, .goto (-60), 3), (79, .aload_n 3, 1), (80, .areturn, 1)]
def dp_t65 : List dp_I := [(0, .iconst (-1), 1), (1, .istore_n 1, 1), (2, .aload_n 0, 1), (3, .arraylength, 1), (4, .iconst 1, 1), (5, .isub, 1), (6, .istore_n 2, 1), (7, .iload_n 2, 1), (8, .ifCond .lt 30, 3), (11, .aload_n 0, 1), (12, .iload_n 2, 1), (13, .iaload, 1), (14, .ifCond .lt 18, 3), (17, .iload_n 1, 1), (18, .ifCond .lt 12, 3), (21, .aload_n 0, 1), (22, .iload_n 2, 1), (23, .iaload, 1), (24, .aload_n 0, 1), (25, .iload_n 1, 1), (26, .iaload, 1), (27, .if_icmp .lt 5, 3), (30, .iload_n 2, 1), (31, .istore_n 1, 1), (32, .iinc 2 (-1), 3), (35, .goto (-28), 3), (38, .iload_n 1, 1), (39, .ireturn, 1)]
def dp_t66 : List dp_I := [(0, .aload_n 0, 1), (1, .aload_n 1, 1), (2, .invokevirtual 62, 3), (5, .astore_n 2, 1), (6, .aload_n 2, 1), (7, .invokestatic 66, 3), (10, .istore_n 3, 1), (11, .iload_n 3, 1), (12, .ifCond .ge 5, 3), (15, .iconst (-1), 1), (16, .ireturn, 1), (17, .aload_n 2, 1), (18, .iload_n 3, 1), (19, .iaload, 1), (20, .bipush 20, 2), (22, .idiv, 1), (23, .iconst 2, 1), (24, .iadd, 1), (25, .istore 4, 2), (27, .aload_n 1, 1), (28, .getfield 70, 3), (31, .iload 4, 2), (33, .if_icmp .ge 5, 3), (36, .iconst (-1), 1), (37, .ireturn, 1), (38, .aload_n 1, 1), (39, .dup, 1), (40, .getfield 70, 3), (43, .iload 4, 2), (45, .isub, 1), (46, .putfield 70, 3), (49, .aload_n 1, 1), (50, .dup, 1), (51, .getfield 73, 3), (54, .iload 4, 2), (56, .iadd, 1), (57, .putfield 73, 3), (60, .aload_n 1, 1), (61, .getfield 55, 3), (64, .iload_n 3, 1), (65, .iconst 1, 1), (66, .bastore, 1), (67, .iload_n 3, 1), (68, .ireturn, 1)]
def dp_t67 : List dp_I := [(0, .iconst 0, 1), (1, .istore_n 1, 1), (2, .aload_n 0, 1), (3, .getfield 23, 3), (6, .astore_n 2, 1), (7, .aload_n 2, 1), (8, .arraylength, 1), (9, .istore_n 3, 1), (10, .iconst 0, 1), (11, .istore 4, 2), (13, .iload 4, 2), (15, .iload_n 3, 1), (16, .if_icmp .ge 49, 3), (19, .aload_n 2, 1), (20, .iload 4, 2), (22, .aaload, 1), (23, .astore 5, 2), (25, .iload_n 1, 1), (26, .aload_n 0, 1), (27, .aload 5, 2), (29, .invokevirtual 76, 3), (32, .ifCond .ge 7, 3), (35, .iconst 0, 1), (36, .goto 4, 3), (39, .iconst 1, 1), (40, .iadd, 1), (41, .istore_n 1, 1), (42, .iload_n 1, 1), (43, .aload_n 0, 1), (44, .aload 5, 2), (46, .invokevirtual 76, 3), (49, .ifCond .ge 7, 3), (52, .iconst 0, 1), (53, .goto 4, 3), (56, .iconst 1, 1), (57, .iadd, 1), (58, .istore_n 1, 1), (59, .iinc 4 1, 3), (62, .goto (-49), 3), (65, .iconst 0, 1), (66, .istore_n 2, 1), (67, .iload_n 2, 1), (68, .aload_n 0, 1), (69, .getfield 14, 3), (72, .arraylength, 1), (73, .if_icmp .ge 19, 3), (76, .aload_n 0, 1), (77, .getfield 18, 3), (80, .iload_n 2, 1), (81, .dup2, 1), (82, .iaload, 1), (83, .iconst 1, 1), (84, .iadd, 1), (85, .iastore, 1), (86, .iinc 2 1, 3), (89, .goto (-22), 3), (92, .aload_n 0, 1), (93, .dup, 1), (94, .getfield 36, 3), (97, .iconst 1, 1), (98, .iadd, 1), (99, .putfield 36, 3), (102, .iload_n 1, 1), (103, .ireturn, 1)]
def dp_t68 : List dp_I := [(0, .aload_n 0, 1), (1, .invokevirtual 47, 3), (4, .astore_n 2, 1), (5, .bipush 20, 2), (7, .newarray .int, 2), (9, .astore_n 3, 1), (10, .iconst 0, 1), (11, .istore 4, 2), (13, .iconst 0, 1), (14, .istore 5, 2), (16, .iload 5, 2), (18, .bipush 20, 2), (20, .if_icmp .ge 24, 3), (23, .aload_n 1, 1), (24, .iload 5, 2), (26, .invokevirtual 80, 3), (29, .aload_n 2, 1), (30, .iload 5, 2), (32, .iaload, 1), (33, .if_icmp .eq 5, 3), (36, .iconst 0, 1), (37, .ireturn, 1), (38, .iinc 5 1, 3), (41, .goto (-25), 3), (44, .iconst 0, 1), (45, .istore 5, 2), (47, .iload 5, 2), (49, .aload_n 0, 1), (50, .getfield 14, 3), (53, .arraylength, 1), (54, .if_icmp .ge 251, 3), (57, .aload_n 0, 1), (58, .iload 5, 2), (60, .invokevirtual 40, 3), (63, .astore 6, 2), (65, .iconst 0, 1), (66, .istore 7, 2), (68, .iconst 0, 1), (69, .istore 8, 2), (71, .iconst 0, 1), (72, .istore 9, 2), (74, .iload 9, 2), (76, .bipush 20, 2), (78, .if_icmp .ge 39, 3), (81, .iload 7, 2), (83, .aload 6, 2), (85, .iload 9, 2), (87, .iaload, 1), (88, .ifCond .le 7, 3), (91, .iconst 1, 1), (92, .goto 4, 3), (95, .iconst 0, 1), (96, .iadd, 1), (97, .istore 7, 2), (99, .aload_n 3, 1), (100, .iload 9, 2), (102, .dup2, 1), (103, .iaload, 1), (104, .aload 6, 2), (106, .iload 9, 2), (108, .iaload, 1), (109, .iadd, 1), (110, .iastore, 1), (111, .iinc 9 1, 3), (114, .goto (-40), 3), (117, .aload_n 0, 1), (118, .getfield 23, 3), (121, .astore 9, 2), (123, .aload 9, 2), (125, .arraylength, 1), (126, .istore 10, 2), (128, .iconst 0, 1), (129, .istore 11, 2), (131, .iload 11, 2), (133, .iload 10, 2), (135, .if_icmp .ge 37, 3), (138, .aload 9, 2), (140, .iload 11, 2), (142, .aaload, 1), (143, .astore 12, 2), (145, .iload 8, 2), (147, .aload 12, 2), (149, .getfield 55, 3), (152, .iload 5, 2), (154, .baload, 1), (155, .ifCond .eq 7, 3), (158, .iconst 1, 1), (159, .goto 4, 3), (162, .iconst 0, 1), (163, .iadd, 1), (164, .istore 8, 2), (166, .iinc 11 1, 3), (169, .goto (-38), 3), (172, .iconst 4, 1), (173, .newarray .int, 2), (175, .dup, 1), (176, .iconst 0, 1), (177, .aload_n 0, 1), (178, .getfield 14, 3), (181, .iload 5, 2), (183, .aaload, 1), (184, .arraylength, 1), (185, .iastore, 1), (186, .dup, 1), (187, .iconst 1, 1), (188, .iload 7, 2), (190, .iastore, 1), (191, .dup, 1), (192, .iconst 2, 1), (193, .aload_n 0, 1), (194, .getfield 18, 3), (197, .iload 5, 2), (199, .iaload, 1), (200, .iastore, 1), (201, .dup, 1), (202, .iconst 3, 1), (203, .iload 8, 2), (205, .iastore, 1), (206, .astore 9, 2), (208, .iconst 0, 1), (209, .istore 10, 2), (211, .iload 10, 2), (213, .iconst 4, 1), (214, .if_icmp .ge 27, 3), (217, .aload_n 1, 1), (218, .iload 5, 2), (220, .iload 10, 2), (222, .invokevirtual 86, 3), (225, .aload 9, 2), (227, .iload 10, 2), (229, .iaload, 1), (230, .if_icmp .eq 5, 3), (233, .iconst 0, 1), (234, .ireturn, 1), (235, .iinc 10 1, 3), (238, .goto (-27), 3), (241, .iconst 0, 1), (242, .istore 10, 2), (244, .iload 10, 2), (246, .aload_n 0, 1), (247, .getfield 14, 3), (250, .iload 5, 2), (252, .aaload, 1), (253, .arraylength, 1), (254, .if_icmp .ge 32, 3), (257, .aload_n 1, 1), (258, .iload 5, 2), (260, .iload 10, 2), (262, .invokevirtual 90, 3), (265, .aload_n 0, 1), (266, .getfield 14, 3), (269, .iload 5, 2), (271, .aaload, 1), (272, .iload 10, 2), (274, .iaload, 1), (275, .if_icmp .eq 5, 3), (278, .iconst 0, 1), (279, .ireturn, 1), (280, .iinc 10 1, 3), (283, .goto (-39), 3), (286, .iload 4, 2), (288, .aload_n 0, 1), (289, .getfield 14, 3), (292, .iload 5, 2), (294, .aaload, 1), (295, .arraylength, 1), (296, .iadd, 1), (297, .istore 4, 2), (299, .iinc 5 1, 3), (302, .goto (-255), 3), (305, .iconst 0, 1), (306, .istore 5, 2), (308, .iconst 0, 1), (309, .istore 6, 2), (311, .iconst 0, 1), (312, .istore 7, 2), (314, .iload 7, 2), (316, .aload_n 0, 1), (317, .getfield 23, 3), (320, .arraylength, 1), (321, .if_icmp .ge 308, 3), (324, .aload_n 0, 1), (325, .getfield 23, 3), (328, .iload 7, 2), (330, .aaload, 1), (331, .astore 8, 2), (333, .aload_n 0, 1), (334, .aload 8, 2), (336, .invokevirtual 62, 3), (339, .astore 9, 2), (341, .iconst 0, 1), (342, .istore 10, 2), (344, .iconst 0, 1), (345, .istore 11, 2), (347, .iconst 0, 1), (348, .istore 12, 2), (350, .iload 12, 2), (352, .aload_n 0, 1), (353, .getfield 14, 3), (356, .arraylength, 1), (357, .if_icmp .ge 81, 3), (360, .iload 10, 2), (362, .aload 8, 2), (364, .getfield 55, 3), (367, .iload 12, 2), (369, .baload, 1), (370, .ifCond .eq 7, 3), (373, .iconst 1, 1), (374, .goto 4, 3), (377, .iconst 0, 1), (378, .iadd, 1), (379, .istore 10, 2), (381, .iload 11, 2), (383, .aload 9, 2), (385, .iload 12, 2), (387, .iaload, 1), (388, .ifCond .lt 7, 3), (391, .iconst 1, 1), (392, .goto 4, 3), (395, .iconst 0, 1), (396, .iadd, 1), (397, .istore 11, 2), (399, .aload_n 1, 1), (400, .iload 7, 2), (402, .iload 12, 2), (404, .invokevirtual 93, 3), (407, .aload_n 0, 1), (408, .aload 8, 2), (410, .aload_n 0, 1), (411, .iload 12, 2), (413, .invokevirtual 40, 3), (416, .aload_n 2, 1), (417, .aload_n 0, 1), (418, .getfield 18, 3), (421, .iload 12, 2), (423, .iaload, 1), (424, .invokevirtual 51, 3), (427, .if_icmp .eq 5, 3), (430, .iconst 0, 1), (431, .ireturn, 1), (432, .iinc 12 1, 3), (435, .goto (-85), 3), (438, .bipush 6, 2), (440, .newarray .int, 2), (442, .dup, 1), (443, .iconst 0, 1), (444, .aload 8, 2), (446, .getfield 70, 3), (449, .iastore, 1), (450, .dup, 1), (451, .iconst 1, 1), (452, .aload 8, 2), (454, .getfield 44, 3), (457, .arraylength, 1), (458, .iastore, 1), (459, .dup, 1), (460, .iconst 2, 1), (461, .aload 8, 2), (463, .getfield 59, 3), (466, .iastore, 1), (467, .dup, 1), (468, .iconst 3, 1), (469, .iload 10, 2), (471, .iastore, 1), (472, .dup, 1), (473, .iconst 4, 1), (474, .aload 8, 2), (476, .getfield 73, 3), (479, .iastore, 1), (480, .dup, 1), (481, .iconst 5, 1), (482, .iload 11, 2), (484, .iastore, 1), (485, .astore 12, 2), (487, .iconst 0, 1), (488, .istore 13, 2), (490, .iload 13, 2), (492, .bipush 6, 2), (494, .if_icmp .ge 27, 3), (497, .aload_n 1, 1), (498, .iload 7, 2), (500, .iload 13, 2), (502, .invokevirtual 95, 3), (505, .aload 12, 2), (507, .iload 13, 2), (509, .iaload, 1), (510, .if_icmp .eq 5, 3), (513, .iconst 0, 1), (514, .ireturn, 1), (515, .iinc 13 1, 3), (518, .goto (-28), 3), (521, .iconst 0, 1), (522, .istore 13, 2), (524, .iload 13, 2), (526, .aload 8, 2), (528, .getfield 44, 3), (531, .arraylength, 1), (532, .if_icmp .ge 30, 3), (535, .aload_n 1, 1), (536, .iload 7, 2), (538, .iload 13, 2), (540, .invokevirtual 98, 3), (543, .aload 8, 2), (545, .getfield 44, 3), (548, .iload 13, 2), (550, .iaload, 1), (551, .if_icmp .eq 5, 3), (554, .iconst 0, 1), (555, .ireturn, 1), (556, .iinc 13 1, 3), (559, .goto (-35), 3), (562, .iconst 0, 1), (563, .istore 13, 2), (565, .iload 13, 2), (567, .iload 11, 2), (569, .if_icmp .ge 37, 3), (572, .aload 9, 2), (574, .invokestatic 66, 3), (577, .istore 14, 2), (579, .aload_n 1, 1), (580, .iload 7, 2), (582, .iload 13, 2), (584, .invokevirtual 101, 3), (587, .iload 14, 2), (589, .if_icmp .eq 5, 3), (592, .iconst 0, 1), (593, .ireturn, 1), (594, .aload 9, 2), (596, .iload 14, 2), (598, .iconst (-1), 1), (599, .iastore, 1), (600, .iinc 13 1, 3), (603, .goto (-38), 3), (606, .iload 5, 2), (608, .iload 10, 2), (610, .iadd, 1), (611, .istore 5, 2), (613, .iload 6, 2), (615, .aload 8, 2), (617, .getfield 73, 3), (620, .iadd, 1), (621, .istore 6, 2), (623, .iinc 7 1, 3), (626, .goto (-312), 3), (629, .iconst 0, 1), (630, .istore 7, 2), (632, .aload_n 3, 1), (633, .astore 8, 2), (635, .aload 8, 2), (637, .arraylength, 1), (638, .istore 9, 2), (640, .iconst 0, 1), (641, .istore 10, 2), (643, .iload 10, 2), (645, .iload 9, 2), (647, .if_icmp .ge 31, 3), (650, .aload 8, 2), (652, .iload 10, 2), (654, .iaload, 1), (655, .istore 11, 2), (657, .iload 7, 2), (659, .iload 11, 2), (661, .ifCond .le 7, 3), (664, .iconst 1, 1), (665, .goto 4, 3), (668, .iconst 0, 1), (669, .iadd, 1), (670, .istore 7, 2), (672, .iinc 10 1, 3), (675, .goto (-32), 3), (678, .bipush 7, 2), (680, .newarray .int, 2), (682, .dup, 1), (683, .iconst 0, 1), (684, .aload_n 0, 1), (685, .getfield 14, 3), (688, .arraylength, 1), (689, .iastore, 1), (690, .dup, 1), (691, .iconst 1, 1), (692, .aload_n 0, 1), (693, .getfield 23, 3), (696, .arraylength, 1), (697, .iastore, 1), (698, .dup, 1), (699, .iconst 2, 1), (700, .iload 4, 2), (702, .iastore, 1), (703, .dup, 1), (704, .iconst 3, 1), (705, .iload 7, 2), (707, .iastore, 1), (708, .dup, 1), (709, .iconst 4, 1), (710, .aload_n 0, 1), (711, .getfield 36, 3), (714, .iastore, 1), (715, .dup, 1), (716, .iconst 5, 1), (717, .iload 5, 2), (719, .iastore, 1), (720, .dup, 1), (721, .bipush 6, 2), (723, .iload 6, 2), (725, .iastore, 1), (726, .astore 8, 2), (728, .iconst 0, 1), (729, .istore 9, 2), (731, .iload 9, 2), (733, .bipush 7, 2), (735, .if_icmp .ge 25, 3), (738, .aload_n 1, 1), (739, .iload 9, 2), (741, .invokevirtual 104, 3), (744, .aload 8, 2), (746, .iload 9, 2), (748, .iaload, 1), (749, .if_icmp .eq 5, 3), (752, .iconst 0, 1), (753, .ireturn, 1), (754, .iinc 9 1, 3), (757, .goto (-26), 3), (760, .aload_n 1, 1), (761, .invokevirtual 107, 3), (764, .iload 5, 2), (766, .ifCond .ne 7, 3), (769, .dconst 0, 1), (770, .goto 10, 3), (773, .iload 6, 2), (775, .i2d, 1), (776, .iload 5, 2), (778, .i2d, 1), (779, .ddiv, 1), (780, .dcmp .l, 1), (781, .ifCond .ne 7, 3), (784, .iconst 1, 1), (785, .goto 4, 3), (788, .iconst 0, 1), (789, .ireturn, 1)]
def dp_t69 : List dp_I := [(0, .iload_n 0, 1), (1, .iload_n 0, 1), (2, .iconst 1, 1), (3, .iushr, 1), (4, .ldc_w 265, 3), (7, .iand, 1), (8, .isub, 1), (9, .istore_n 0, 1), (10, .iload_n 0, 1), (11, .ldc_w 266, 3), (14, .iand, 1), (15, .iload_n 0, 1), (16, .iconst 2, 1), (17, .iushr, 1), (18, .ldc_w 266, 3), (21, .iand, 1), (22, .iadd, 1), (23, .istore_n 0, 1), (24, .iload_n 0, 1), (25, .iload_n 0, 1), (26, .iconst 4, 1), (27, .iushr, 1), (28, .iadd, 1), (29, .ldc_w 267, 3), (32, .iand, 1), (33, .istore_n 0, 1), (34, .iload_n 0, 1), (35, .iload_n 0, 1), (36, .bipush 8, 2), (38, .iushr, 1), (39, .iadd, 1), (40, .istore_n 0, 1), (41, .iload_n 0, 1), (42, .iload_n 0, 1), (43, .bipush 16, 2), (45, .iushr, 1), (46, .iadd, 1), (47, .istore_n 0, 1), (48, .iload_n 0, 1), (49, .bipush 63, 2), (51, .iand, 1), (52, .ireturn, 1)]
def dp_t70 : List dp_I := [(0, .iconst 0, 1), (1, .istore_n 2, 1), (2, .aload_n 0, 1), (3, .arraylength, 1), (4, .istore_n 3, 1), (5, .iload_n 2, 1), (6, .iload_n 3, 1), (7, .if_icmp .ge 13, 3), (10, .aload_n 0, 1), (11, .iload_n 2, 1), (12, .iload_n 1, 1), (13, .iastore, 1), (14, .iinc 2 1, 3), (17, .goto (-12), 3), (20, .return_, 1)]
def dp_t71 : List dp_I := [(0, .iload_n 0, 1), (1, .ldc 7, 2), (3, .iand, 1), (4, .iload_n 1, 1), (5, .irem, 1), (6, .ireturn, 1)]
def dp_t72 : List dp_I := [(0, .iload_n 1, 1), (1, .aload_n 0, 1), (2, .arraylength, 1), (3, .if_icmp .ge 9, 3), (6, .aload_n 0, 1), (7, .iload_n 1, 1), (8, .iaload, 1), (9, .goto 9, 3), (12, .ldc 8, 2), (14, .iload_n 1, 1), (15, .iconst 3, 1), (16, .iadd, 1), (17, .imul, 1), (18, .ireturn, 1)]
def dp_t73 : List dp_I := [(0, .aload_n 0, 1), (1, .arraylength, 1), (2, .iconst 1, 1), (3, .iadd, 1), (4, .newarray .int, 2), (6, .astore_n 2, 1), (7, .iconst 0, 1), (8, .istore_n 3, 1), (9, .iload_n 3, 1), (10, .aload_n 0, 1), (11, .arraylength, 1), (12, .if_icmp .ge 15, 3), (15, .aload_n 2, 1), (16, .iload_n 3, 1), (17, .aload_n 0, 1), (18, .iload_n 3, 1), (19, .iaload, 1), (20, .iastore, 1), (21, .iinc 3 1, 3), (24, .goto (-15), 3), (27, .aload_n 2, 1), (28, .aload_n 0, 1), (29, .arraylength, 1), (30, .iload_n 1, 1), (31, .iastore, 1), (32, .aload_n 2, 1), (33, .areturn, 1)]
def dp_t74 : List dp_I := [(0, .aload_n 0, 1), (1, .arraylength, 1), (2, .iconst 1, 1), (3, .isub, 1), (4, .newarray .int, 2), (6, .astore_n 2, 1), (7, .iconst 0, 1), (8, .istore_n 3, 1), (9, .iload_n 3, 1), (10, .aload_n 2, 1), (11, .arraylength, 1), (12, .if_icmp .ge 26, 3), (15, .aload_n 2, 1), (16, .iload_n 3, 1), (17, .aload_n 0, 1), (18, .iload_n 3, 1), (19, .iload_n 1, 1), (20, .if_icmp .ge 7, 3), (23, .iload_n 3, 1), (24, .goto 6, 3), (27, .iload_n 3, 1), (28, .iconst 1, 1), (29, .iadd, 1), (30, .iaload, 1), (31, .iastore, 1), (32, .iinc 3 1, 3), (35, .goto (-26), 3), (38, .aload_n 2, 1), (39, .areturn, 1)]
def dp_t75 : List dp_I := [(0, .aload_n 1, 1), (1, .getfield 9, 3), (4, .arraylength, 1), (5, .istore_n 3, 1), (6, .aload_n 1, 1), (7, .getfield 15, 3), (10, .arraylength, 1), (11, .istore 4, 2), (13, .iload_n 3, 1), (14, .ifCond .ne 7, 3), (17, .iconst 0, 1), (18, .goto 8, 3), (21, .iload_n 2, 1), (22, .iload_n 3, 1), (23, .invokestatic 19, 3), (26, .istore 5, 2), (28, .iload 4, 2), (30, .ifCond .ne 7, 3), (33, .iconst 0, 1), (34, .goto 11, 3), (37, .iload_n 2, 1), (38, .iconst 2, 1), (39, .ishr, 1), (40, .iload 4, 2), (42, .invokestatic 19, 3), (45, .istore 6, 2), (47, .iload_n 2, 1), (48, .iconst 3, 1), (49, .ishr, 1), (50, .iload_n 2, 1), (51, .bipush 7, 2), (53, .ishr, 1), (54, .iconst 3, 1), (55, .invokestatic 19, 3), (58, .ifCond .ne 8, 3), (61, .bipush 40, 2), (63, .goto 5, 3), (66, .bipush 12, 2), (68, .invokestatic 19, 3), (71, .istore 7, 2), (73, .iload_n 2, 1), (74, .iconst 4, 1), (75, .ishr, 1), (76, .iload_n 2, 1), (77, .bipush 7, 2), (79, .ishr, 1), (80, .iconst 3, 1), (81, .invokestatic 19, 3), (84, .ifCond .ne 8, 3), (87, .bipush 20, 2), (89, .goto 5, 3), (92, .bipush 7, 2), (94, .invokestatic 19, 3), (97, .istore 8, 2), (99, .iload_n 2, 1), (100, .bipush 9, 2), (102, .ishr, 1), (103, .bipush 24, 2), (105, .invokestatic 19, 3), (108, .tableswitch 813 0 14 #[76, 113, 113, 183, 266, 266, 386, 386, 386, 386, 510, 609, 690, 782, 782], 76), (184, .aload_n 1, 1), (185, .getfield 25, 3), (188, .iload 7, 2), (190, .iaload, 1), (191, .istore 9, 2), (193, .aload_n 1, 1), (194, .getfield 25, 3), (197, .iload 7, 2), (199, .iload 8, 2), (201, .iastore, 1), (202, .aload_n 0, 1), (203, .iload 7, 2), (205, .iload 8, 2), (207, .invokevirtual 29, 3), (210, .iload 9, 2), (212, .if_icmp .ne 7, 3), (215, .iconst 1, 1), (216, .goto 4, 3), (219, .iconst 0, 1), (220, .ireturn, 1), (221, .iload_n 3, 1), (222, .bipush 16, 2), (224, .if_icmp .ne 5, 3), (227, .iconst 1, 1), (228, .ireturn, 1), (229, .iload_n 3, 1), (230, .iconst 1, 1), (231, .iadd, 1), (232, .anewarray 34, 3), (235, .astore 10, 2), (237, .iconst 0, 1), (238, .istore 11, 2), (240, .iload 11, 2), (242, .iload_n 3, 1), (243, .if_icmp .ge 21, 3), (246, .aload 10, 2), (248, .iload 11, 2), (250, .aload_n 1, 1), (251, .getfield 9, 3), (254, .iload 11, 2), (256, .aaload, 1), (257, .aastore, 1), (258, .iinc 11 1, 3), (261, .goto (-21), 3), (264, .aload 10, 2), (266, .iload_n 3, 1), (267, .iconst 0, 1), (268, .newarray .int, 2), (270, .aastore, 1), (271, .aload_n 1, 1), (272, .aload 10, 2), (274, .putfield 9, 3), (277, .aload_n 0, 1), (278, .invokevirtual 35, 3), (281, .iload_n 3, 1), (282, .if_icmp .ne 7, 3), (285, .iconst 1, 1), (286, .goto 4, 3), (289, .iconst 0, 1), (290, .ireturn, 1), (291, .iload_n 3, 1), (292, .ifCond .eq 14, 3), (295, .aload_n 1, 1), (296, .getfield 9, 3), (299, .iload 5, 2), (301, .aaload, 1), (302, .arraylength, 1), (303, .ifCond .ne 5, 3), (306, .iconst 1, 1), (307, .ireturn, 1), (308, .iload_n 2, 1), (309, .iconst 1, 1), (310, .ishr, 1), (311, .aload_n 1, 1), (312, .getfield 9, 3), (315, .iload 5, 2), (317, .aaload, 1), (318, .arraylength, 1), (319, .invokestatic 19, 3), (322, .istore 11, 2), (324, .aload_n 1, 1), (325, .getfield 9, 3), (328, .iload 5, 2), (330, .aaload, 1), (331, .iload 11, 2), (333, .iaload, 1), (334, .istore 12, 2), (336, .aload_n 1, 1), (337, .getfield 9, 3), (340, .iload 5, 2), (342, .aload_n 1, 1), (343, .getfield 9, 3), (346, .iload 5, 2), (348, .aaload, 1), (349, .iload 11, 2), (351, .invokestatic 39, 3), (354, .aastore, 1), (355, .aload_n 0, 1), (356, .iload 5, 2), (358, .iload 11, 2), (360, .invokevirtual 43, 3), (363, .iload 12, 2), (365, .if_icmp .ne 7, 3), (368, .iconst 1, 1), (369, .goto 4, 3), (372, .iconst 0, 1), (373, .ireturn, 1), (374, .iload 4, 2), (376, .bipush 6, 2), (378, .if_icmp .ne 5, 3), (381, .iconst 1, 1), (382, .ireturn, 1), (383, .iload 4, 2), (385, .iconst 1, 1), (386, .iadd, 1), (387, .anewarray 46, 3), (390, .astore 13, 2), (392, .iconst 0, 1), (393, .istore 14, 2), (395, .iload 14, 2), (397, .iload 4, 2), (399, .if_icmp .ge 21, 3), (402, .aload 13, 2), (404, .iload 14, 2), (406, .aload_n 1, 1), (407, .getfield 15, 3), (410, .iload 14, 2), (412, .aaload, 1), (413, .aastore, 1), (414, .iinc 14 1, 3), (417, .goto (-22), 3), (420, .aload 13, 2), (422, .iload 4, 2), (424, .new 46, 3), (427, .dup, 1), (428, .invokespecial 48, 3), (431, .aastore, 1), (432, .aload 13, 2), (434, .iload 4, 2), (436, .aaload, 1), (437, .iload_n 2, 1), (438, .iconst 1, 1), (439, .ishr, 1), (440, .iload_n 2, 1), (441, .bipush 6, 2), (443, .ishr, 1), (444, .iconst 2, 1), (445, .invokestatic 19, 3), (448, .ifCond .ne 9, 3), (451, .sipush 1000, 3), (454, .goto 5, 3), (457, .bipush 40, 2), (459, .invokestatic 19, 3), (462, .putfield 49, 3), (465, .aload_n 1, 1), (466, .aload 13, 2), (468, .putfield 15, 3), (471, .aload_n 0, 1), (472, .aload 13, 2), (474, .iload 4, 2), (476, .aaload, 1), (477, .getfield 49, 3), (480, .invokevirtual 53, 3), (483, .iload 4, 2), (485, .if_icmp .ne 7, 3), (488, .iconst 1, 1), (489, .goto 4, 3), (492, .iconst 0, 1), (493, .ireturn, 1), (494, .iload 4, 2), (496, .ifCond .eq 18, 3), (499, .aload_n 1, 1), (500, .getfield 15, 3), (503, .iload 6, 2), (505, .aaload, 1), (506, .getfield 57, 3), (509, .arraylength, 1), (510, .iconst 5, 1), (511, .if_icmp .ne 5, 3), (514, .iconst 1, 1), (515, .ireturn, 1), (516, .aload_n 1, 1), (517, .getfield 15, 3), (520, .iload 6, 2), (522, .aaload, 1), (523, .getfield 57, 3), (526, .astore 14, 2), (528, .aload 14, 2), (530, .arraylength, 1), (531, .istore 15, 2), (533, .iconst 0, 1), (534, .istore 16, 2), (536, .iload 16, 2), (538, .iload 15, 2), (540, .if_icmp .ge 25, 3), (543, .aload 14, 2), (545, .iload 16, 2), (547, .iaload, 1), (548, .istore 17, 2), (550, .iload 17, 2), (552, .iload 8, 2), (554, .if_icmp .ne 5, 3), (557, .iconst 1, 1), (558, .ireturn, 1), (559, .iinc 16 1, 3), (562, .goto (-26), 3), (565, .aload_n 1, 1), (566, .getfield 15, 3), (569, .iload 6, 2), (571, .aaload, 1), (572, .aload_n 1, 1), (573, .getfield 15, 3), (576, .iload 6, 2), (578, .aaload, 1), (579, .getfield 57, 3), (582, .iload 8, 2), (584, .invokestatic 60, 3), (587, .putfield 57, 3), (590, .aload_n 0, 1), (591, .iload 6, 2), (593, .iload 8, 2), (595, .invokevirtual 63, 3), (598, .aload_n 1, 1), (599, .getfield 15, 3), (602, .iload 6, 2), (604, .aaload, 1), (605, .getfield 57, 3), (608, .arraylength, 1), (609, .if_icmp .ne 7, 3), (612, .iconst 1, 1), (613, .goto 4, 3), (616, .iconst 0, 1), (617, .ireturn, 1), (618, .iload 4, 2), (620, .ifCond .ne 5, 3), (623, .iconst 1, 1), (624, .ireturn, 1), (625, .iconst 0, 1), (626, .istore 14, 2), (628, .iload 14, 2), (630, .aload_n 1, 1), (631, .getfield 15, 3), (634, .iload 6, 2), (636, .aaload, 1), (637, .getfield 57, 3), (640, .arraylength, 1), (641, .if_icmp .ge 74, 3), (644, .aload_n 1, 1), (645, .getfield 15, 3), (648, .iload 6, 2), (650, .aaload, 1), (651, .getfield 57, 3), (654, .iload 14, 2), (656, .iaload, 1), (657, .iload 8, 2), (659, .if_icmp .eq 6, 3), (662, .goto 47, 3), (665, .aload_n 1, 1), (666, .getfield 15, 3), (669, .iload 6, 2), (671, .aaload, 1), (672, .aload_n 1, 1), (673, .getfield 15, 3), (676, .iload 6, 2), (678, .aaload, 1), (679, .getfield 57, 3), (682, .iload 14, 2), (684, .invokestatic 39, 3), (687, .putfield 57, 3), (690, .aload_n 0, 1), (691, .iload 6, 2), (693, .iload 8, 2), (695, .invokevirtual 66, 3), (698, .iload 14, 2), (700, .if_icmp .ne 7, 3), (703, .iconst 1, 1), (704, .goto 4, 3), (707, .iconst 0, 1), (708, .ireturn, 1), (709, .iinc 14 1, 3), (712, .goto (-84), 3), (715, .iconst 1, 1), (716, .ireturn, 1), (717, .iload 4, 2), (719, .ifCond .ne 5, 3), (722, .iconst 1, 1), (723, .ireturn, 1), (724, .aload_n 1, 1), (725, .getfield 15, 3), (728, .iload 6, 2), (730, .aaload, 1), (731, .getfield 69, 3), (734, .istore 14, 2), (736, .aload_n 1, 1), (737, .getfield 15, 3), (740, .iload 6, 2), (742, .aaload, 1), (743, .iload_n 2, 1), (744, .iconst 1, 1), (745, .ishr, 1), (746, .iload_n 2, 1), (747, .bipush 6, 2), (749, .ishr, 1), (750, .iconst 3, 1), (751, .invokestatic 19, 3), (754, .ifCond .ne 9, 3), (757, .sipush 1000, 3), (760, .goto 5, 3), (763, .bipush 60, 2), (765, .invokestatic 19, 3), (768, .putfield 69, 3), (771, .aload_n 0, 1), (772, .iload 6, 2), (774, .aload_n 1, 1), (775, .getfield 15, 3), (778, .iload 6, 2), (780, .aaload, 1), (781, .getfield 69, 3), (784, .invokevirtual 72, 3), (787, .iload 14, 2), (789, .if_icmp .ne 7, 3), (792, .iconst 1, 1), (793, .goto 4, 3), (796, .iconst 0, 1), (797, .ireturn, 1), (798, .iload 4, 2), (800, .ifCond .ne 5, 3), (803, .iconst 1, 1), (804, .ireturn, 1), (805, .iconst 1, 1), (806, .iload_n 2, 1), (807, .iconst 1, 1), (808, .ishr, 1), (809, .iload_n 2, 1), (810, .bipush 6, 2), (812, .ishr, 1), (813, .iconst 2, 1), (814, .invokestatic 19, 3), (817, .ifCond .ne 9, 3), (820, .sipush 999, 3), (823, .goto 5, 3), (826, .bipush 30, 2), (828, .invokestatic 19, 3), (831, .iadd, 1), (832, .istore 15, 2), (834, .aload_n 1, 1), (835, .getfield 15, 3), (838, .iload 6, 2), (840, .aaload, 1), (841, .sipush 9999, 3), (844, .aload_n 1, 1), (845, .getfield 15, 3), (848, .iload 6, 2), (850, .aaload, 1), (851, .getfield 49, 3), (854, .iload 15, 2), (856, .iadd, 1), (857, .invokestatic 75, 3), (860, .putfield 49, 3), (863, .aload_n 0, 1), (864, .iload 6, 2), (866, .iload 15, 2), (868, .invokevirtual 80, 3), (871, .aload_n 1, 1), (872, .getfield 15, 3), (875, .iload 6, 2), (877, .aaload, 1), (878, .getfield 49, 3), (881, .if_icmp .ne 7, 3), (884, .iconst 1, 1), (885, .goto 4, 3), (888, .iconst 0, 1), (889, .ireturn, 1), (890, .iload 4, 2), (892, .ifCond .eq 23, 3), (895, .aload_n 0, 1), (896, .iload 6, 2), (898, .invokevirtual 83, 3), (901, .aload_n 1, 1), (902, .aload_n 1, 1), (903, .getfield 15, 3), (906, .iload 6, 2), (908, .aaload, 1), (909, .invokevirtual 86, 3), (912, .if_icmp .ne 7, 3), (915, .iconst 1, 1), (916, .goto 4, 3), (919, .iconst 0, 1), (920, .ireturn, 1), (921, .iload_n 3, 1), (922, .ifCond .eq 16, 3), (925, .aload_n 1, 1), (926, .getfield 9, 3), (929, .iload 5, 2), (931, .aaload, 1), (932, .arraylength, 1), (933, .bipush 12, 2), (935, .if_icmp .ne 5, 3), (938, .iconst 1, 1), (939, .ireturn, 1), (940, .aload_n 1, 1), (941, .getfield 9, 3), (944, .iload 5, 2), (946, .aload_n 1, 1), (947, .getfield 9, 3), (950, .iload 5, 2), (952, .aaload, 1), (953, .iload 7, 2), (955, .invokestatic 60, 3), (958, .aastore, 1), (959, .aload_n 0, 1), (960, .iload 5, 2), (962, .iload 7, 2), (964, .invokevirtual 89, 3), (967, .aload_n 1, 1), (968, .getfield 9, 3), (971, .iload 5, 2), (973, .aaload, 1), (974, .arraylength, 1), (975, .if_icmp .ne 7, 3), (978, .iconst 1, 1), (979, .goto 4, 3), (982, .iconst 0, 1), (983, .ireturn, 1)]
def dp_t76 : List dp_I := [(0, .new 10, 3), (3, .dup, 1), (4, .invokespecial 92, 3), (7, .astore_n 2, 1), (8, .iconst 0, 1), (9, .istore_n 3, 1), (10, .iload_n 3, 1), (11, .bipush 64, 2), (13, .if_icmp .ge 58, 3), (16, .aload_n 0, 1), (17, .aload_n 2, 1), (18, .aload_n 1, 1), (19, .iload_n 3, 1), (20, .bipush 16, 2), (22, .irem, 1), (23, .invokestatic 93, 3), (26, .iload_n 3, 1), (27, .bipush 16, 2), (29, .idiv, 1), (30, .iconst 3, 1), (31, .imul, 1), (32, .ishr, 1), (33, .sipush 307, 3), (36, .iload_n 3, 1), (37, .imul, 1), (38, .iadd, 1), (39, .iload_n 3, 1), (40, .bipush 8, 2), (42, .if_icmp .ge 13, 3), (45, .sipush 512, 3), (48, .iload_n 3, 1), (49, .iconst 4, 1), (50, .irem, 1), (51, .imul, 1), (52, .goto 4, 3), (55, .iconst 0, 1), (56, .iadd, 1), (57, .invokestatic 97, 3), (60, .ifCond .ne 5, 3), (63, .aconst_null, 1), (64, .areturn, 1), (65, .iinc 3 1, 3), (68, .goto (-58), 3), (71, .aload_n 2, 1), (72, .areturn, 1)]
def dp_t77 : List dp_I := [(0, .new 30, 3), (3, .dup, 1), (4, .invokespecial 101, 3), (7, .astore_n 1, 1), (8, .aload_n 1, 1), (9, .aload_n 0, 1), (10, .invokestatic 102, 3), (13, .astore_n 2, 1), (14, .aload_n 2, 1), (15, .ifnonnull 5, 3), (18, .iconst 0, 1), (19, .ireturn, 1), (20, .iconst 0, 1), (21, .istore_n 3, 1), (22, .iload_n 3, 1), (23, .bipush 24, 2), (25, .if_icmp .ge 820, 3), (28, .aload_n 0, 1), (29, .iload_n 3, 1), (30, .bipush 16, 2), (32, .irem, 1), (33, .invokestatic 93, 3), (36, .iload_n 3, 1), (37, .bipush 16, 2), (39, .idiv, 1), (40, .iconst 3, 1), (41, .imul, 1), (42, .ishr, 1), (43, .sipush 307, 3), (46, .iload_n 3, 1), (47, .imul, 1), (48, .iadd, 1), (49, .istore 4, 2), (51, .iconst 0, 1), (52, .istore 5, 2), (54, .iload 5, 2), (56, .iconst 2, 1), (57, .if_icmp .ge 33, 3), (60, .aload_n 1, 1), (61, .aload_n 2, 1), (62, .iload 4, 2), (64, .iconst 2, 1), (65, .iload 5, 2), (67, .imul, 1), (68, .ishr, 1), (69, .sipush 223, 3), (72, .iload 5, 2), (74, .imul, 1), (75, .iadd, 1), (76, .invokestatic 97, 3), (79, .ifCond .ne 5, 3), (82, .iconst 0, 1), (83, .ireturn, 1), (84, .iinc 5 1, 3), (87, .goto (-33), 3), (90, .aload_n 1, 1), (91, .iconst 0, 1), (92, .invokevirtual 106, 3), (95, .istore 5, 2), (97, .aload_n 1, 1), (98, .iconst 1, 1), (99, .invokevirtual 106, 3), (102, .istore 6, 2), (104, .aload_n 1, 1), (105, .iconst 5, 1), (106, .invokevirtual 106, 3), (109, .istore 7, 2), (111, .aload_n 1, 1), (112, .bipush 6, 2), (114, .invokevirtual 106, 3), (117, .istore 8, 2), (119, .iload 6, 2), (121, .ifCond .le 307, 3), (124, .iload_n 3, 1), (125, .iconst 2, 1), (126, .irem, 1), (127, .ifCond .ne 301, 3), (130, .iload 4, 2), (132, .iconst 3, 1), (133, .ishr, 1), (134, .iload 6, 2), (136, .invokestatic 19, 3), (139, .istore 9, 2), (141, .aload_n 1, 1), (142, .iload 9, 2), (144, .iconst 5, 1), (145, .invokevirtual 109, 3), (148, .ifCond .ne 7, 3), (151, .iconst (-1), 1), (152, .goto 10, 3), (155, .aload_n 1, 1), (156, .iload 9, 2), (158, .iconst 0, 1), (159, .invokevirtual 112, 3), (162, .istore 10, 2), (164, .iload 10, 2), (166, .ifCond .ge 7, 3), (169, .iconst 0, 1), (170, .goto 16, 3), (173, .iconst 2, 1), (174, .aload_n 1, 1), (175, .iload 9, 2), (177, .iload 10, 2), (179, .invokevirtual 115, 3), (182, .bipush 20, 2), (184, .idiv, 1), (185, .iadd, 1), (186, .istore 11, 2), (188, .aload_n 1, 1), (189, .iload 9, 2), (191, .iconst 0, 1), (192, .invokevirtual 109, 3), (195, .istore 12, 2), (197, .aload_n 1, 1), (198, .iload 9, 2), (200, .iconst 4, 1), (201, .invokevirtual 109, 3), (204, .istore 13, 2), (206, .aload_n 1, 1), (207, .iload 9, 2), (209, .iconst 5, 1), (210, .invokevirtual 109, 3), (213, .istore 14, 2), (215, .iload 10, 2), (217, .ifCond .lt 14, 3), (220, .iload 12, 2), (222, .iload 11, 2), (224, .if_icmp .lt 7, 3), (227, .iconst 1, 1), (228, .goto 4, 3), (231, .iconst 0, 1), (232, .istore 15, 2), (234, .aload_n 1, 1), (235, .iload 9, 2), (237, .invokevirtual 83, 3), (240, .iload 15, 2), (242, .ifCond .eq 8, 3), (245, .iload 10, 2), (247, .goto 4, 3), (250, .iconst (-1), 1), (251, .if_icmp .ne 28, 3), (254, .aload_n 2, 1), (255, .aload_n 2, 1), (256, .getfield 15, 3), (259, .iload 9, 2), (261, .aaload, 1), (262, .invokevirtual 86, 3), (265, .iload 15, 2), (267, .ifCond .eq 8, 3), (270, .iload 10, 2), (272, .goto 4, 3), (275, .iconst (-1), 1), (276, .if_icmp .eq 5, 3), (279, .iconst 0, 1), (280, .ireturn, 1), (281, .iload 15, 2), (283, .ifCond .eq 8, 3), (286, .iload 11, 2), (288, .goto 4, 3), (291, .iconst 0, 1), (292, .istore 16, 2), (294, .aload_n 1, 1), (295, .iload 9, 2), (297, .iconst 0, 1), (298, .invokevirtual 109, 3), (301, .iload 12, 2), (303, .iload 16, 2), (305, .isub, 1), (306, .if_icmp .ne 76, 3), (309, .aload_n 1, 1), (310, .iload 9, 2), (312, .iconst 4, 1), (313, .invokevirtual 109, 3), (316, .iload 13, 2), (318, .iload 16, 2), (320, .iadd, 1), (321, .if_icmp .ne 61, 3), (324, .aload_n 1, 1), (325, .iload 9, 2), (327, .iconst 5, 1), (328, .invokevirtual 109, 3), (331, .iload 14, 2), (333, .iload 15, 2), (335, .ifCond .eq 7, 3), (338, .iconst 1, 1), (339, .goto 4, 3), (342, .iconst 0, 1), (343, .isub, 1), (344, .if_icmp .ne 38, 3), (347, .aload_n 1, 1), (348, .iconst 5, 1), (349, .invokevirtual 106, 3), (352, .iload 7, 2), (354, .iload 15, 2), (356, .ifCond .eq 7, 3), (359, .iconst 1, 1), (360, .goto 4, 3), (363, .iconst 0, 1), (364, .iadd, 1), (365, .if_icmp .ne 17, 3), (368, .aload_n 1, 1), (369, .bipush 6, 2), (371, .invokevirtual 106, 3), (374, .iload 8, 2), (376, .iload 16, 2), (378, .iadd, 1), (379, .if_icmp .eq 5, 3), (382, .iconst 0, 1), (383, .ireturn, 1), (384, .iload 15, 2), (386, .ifCond .eq 39, 3), (389, .iconst 0, 1), (390, .istore 17, 2), (392, .iload 17, 2), (394, .aload_n 1, 1), (395, .iload 9, 2), (397, .iconst 5, 1), (398, .invokevirtual 109, 3), (401, .if_icmp .ge 24, 3), (404, .aload_n 1, 1), (405, .iload 9, 2), (407, .iload 17, 2), (409, .invokevirtual 112, 3), (412, .iload 10, 2), (414, .if_icmp .ne 5, 3), (417, .iconst 0, 1), (418, .ireturn, 1), (419, .iinc 17 1, 3), (422, .goto (-30), 3), (425, .goto 341, 3), (428, .iload 6, 2), (430, .newarray .int, 2), (432, .astore 9, 2), (434, .iload 6, 2), (436, .newarray .int, 2), (438, .astore 10, 2), (440, .iload 5, 2), (442, .newarray .int, 2), (444, .astore 11, 2), (446, .iconst 0, 1), (447, .istore 12, 2), (449, .iload 12, 2), (451, .iload 6, 2), (453, .if_icmp .ge 33, 3), (456, .aload 9, 2), (458, .iload 12, 2), (460, .aload_n 1, 1), (461, .iload 12, 2), (463, .iconst 0, 1), (464, .invokevirtual 109, 3), (467, .iastore, 1), (468, .aload 10, 2), (470, .iload 12, 2), (472, .aload_n 1, 1), (473, .iload 12, 2), (475, .iconst 3, 1), (476, .invokevirtual 109, 3), (479, .iastore, 1), (480, .iinc 12 1, 3), (483, .goto (-34), 3), (486, .iconst 0, 1), (487, .istore 12, 2), (489, .iload 12, 2), (491, .iload 5, 2), (493, .if_icmp .ge 21, 3), (496, .aload 11, 2), (498, .iload 12, 2), (500, .aload_n 1, 1), (501, .iload 12, 2), (503, .iconst 2, 1), (504, .invokevirtual 118, 3), (507, .iastore, 1), (508, .iinc 12 1, 3), (511, .goto (-22), 3), (514, .aload_n 1, 1), (515, .iconst 4, 1), (516, .invokevirtual 106, 3), (519, .istore 12, 2), (521, .aload_n 1, 1), (522, .invokevirtual 121, 3), (525, .istore 13, 2), (527, .aload_n 1, 1), (528, .iconst 1, 1), (529, .invokevirtual 124, 3), (532, .istore 14, 2), (534, .aload_n 2, 1), (535, .invokevirtual 127, 3), (538, .pop, 1), (539, .iconst 0, 1), (540, .istore 15, 2), (542, .iconst 0, 1), (543, .istore 16, 2), (545, .iconst 0, 1), (546, .istore 17, 2), (548, .iload 17, 2), (550, .iload 6, 2), (552, .if_icmp .ge 113, 3), (555, .iload 15, 2), (557, .aload 9, 2), (559, .iload 17, 2), (561, .iaload, 1), (562, .aload_n 1, 1), (563, .iload 17, 2), (565, .iconst 0, 1), (566, .invokevirtual 109, 3), (569, .isub, 1), (570, .iadd, 1), (571, .istore 15, 2), (573, .iload 16, 2), (575, .aload_n 1, 1), (576, .iload 17, 2), (578, .iconst 3, 1), (579, .invokevirtual 109, 3), (582, .aload 10, 2), (584, .iload 17, 2), (586, .iaload, 1), (587, .isub, 1), (588, .iadd, 1), (589, .istore 16, 2), (591, .aload_n 1, 1), (592, .iload 17, 2), (594, .iconst 3, 1), (595, .invokevirtual 109, 3), (598, .aload 10, 2), (600, .iload 17, 2), (602, .iaload, 1), (603, .isub, 1), (604, .istore 18, 2), (606, .iload 18, 2), (608, .ifCond .lt 49, 3), (611, .iload 18, 2), (613, .iconst 2, 1), (614, .if_icmp .gt 43, 3), (617, .aload 9, 2), (619, .iload 17, 2), (621, .iaload, 1), (622, .aload_n 1, 1), (623, .iload 17, 2), (625, .iconst 0, 1), (626, .invokevirtual 109, 3), (629, .isub, 1), (630, .iconst 2, 1), (631, .iload 18, 2), (633, .imul, 1), (634, .if_icmp .lt 23, 3), (637, .iload 18, 2), (639, .ifCond .ne 20, 3), (642, .aload 9, 2), (644, .iload 17, 2), (646, .iaload, 1), (647, .aload_n 1, 1), (648, .iload 17, 2), (650, .iconst 0, 1), (651, .invokevirtual 109, 3), (654, .if_icmp .eq 5, 3), (657, .iconst 0, 1), (658, .ireturn, 1), (659, .iinc 17 1, 3), (662, .goto (-114), 3), (665, .iload 14, 2), (667, .iload 16, 2), (669, .if_icmp .ne 42, 3), (672, .aload_n 1, 1), (673, .iconst 5, 1), (674, .invokevirtual 106, 3), (677, .iload 7, 2), (679, .iload 14, 2), (681, .iadd, 1), (682, .if_icmp .ne 29, 3), (685, .aload_n 1, 1), (686, .bipush 6, 2), (688, .invokevirtual 106, 3), (691, .iload 8, 2), (693, .iload 15, 2), (695, .iadd, 1), (696, .if_icmp .ne 15, 3), (699, .aload_n 1, 1), (700, .iconst 4, 1), (701, .invokevirtual 106, 3), (704, .iload 12, 2), (706, .iconst 1, 1), (707, .iadd, 1), (708, .if_icmp .eq 5, 3), (711, .iconst 0, 1), (712, .ireturn, 1), (713, .iconst 0, 1), (714, .istore 17, 2), (716, .iload 17, 2), (718, .iload 5, 2), (720, .if_icmp .ge 28, 3), (723, .aload_n 1, 1), (724, .iload 17, 2), (726, .iconst 2, 1), (727, .invokevirtual 118, 3), (730, .aload 11, 2), (732, .iload 17, 2), (734, .iaload, 1), (735, .iconst 1, 1), (736, .iadd, 1), (737, .if_icmp .eq 5, 3), (740, .iconst 0, 1), (741, .ireturn, 1), (742, .iinc 17 1, 3), (745, .goto (-29), 3), (748, .iload 13, 2), (750, .ifCond .le 16, 3), (753, .aload_n 1, 1), (754, .invokevirtual 121, 3), (757, .iload 13, 2), (759, .iconst 1, 1), (760, .isub, 1), (761, .if_icmp .eq 5, 3), (764, .iconst 0, 1), (765, .ireturn, 1), (766, .iconst 0, 1), (767, .istore 9, 2), (769, .iconst 0, 1), (770, .istore 10, 2), (772, .iload 10, 2), (774, .iload 6, 2), (776, .if_icmp .ge 50, 3), (779, .iload 9, 2), (781, .aload_n 1, 1), (782, .iload 10, 2), (784, .iconst 4, 1), (785, .invokevirtual 109, 3), (788, .iadd, 1), (789, .istore 9, 2), (791, .iconst 0, 1), (792, .istore 11, 2), (794, .iload 11, 2), (796, .iload 5, 2), (798, .if_icmp .ge 22, 3), (801, .aload_n 1, 1), (802, .iload 10, 2), (804, .iload 11, 2), (806, .invokevirtual 115, 3), (809, .ifCond .ge 5, 3), (812, .iconst 0, 1), (813, .ireturn, 1), (814, .iinc 11 1, 3), (817, .goto (-23), 3), (820, .iinc 10 1, 3), (823, .goto (-51), 3), (826, .iload 9, 2), (828, .aload_n 1, 1), (829, .bipush 6, 2), (831, .invokevirtual 106, 3), (834, .if_icmp .eq 5, 3), (837, .iconst 0, 1), (838, .ireturn, 1), (839, .iinc 3 1, 3), (842, .goto (-820), 3), (845, .aload_n 2, 1), (846, .aload_n 1, 1), (847, .invokevirtual 129, 3), (850, .ireturn, 1)]
abbrev dp_E : Type := MethodName × ByteArray × Nat × Nat × Nat × Nat × Bool × List (Nat × Nat × Nat × Nat) × List dp_I × Nat × Nat
def dp_e0 : dp_E := (⟨"", "", ""⟩, ⟨#[]⟩, 0, 0, 0, 0, false, [], [], 0, 0)
def dp_mt0 : List dp_E := [(yX0_copyFrom, cX0_copyFrom, 2, 0, 0, 2, false, [], dp_t0, 0, 0),
  (yX0_wasSent, cX0_wasSent, 3, 0, 4, 3, false, [], dp_t1, 0, 0),
  (yX0_book, cX0_book, 4, 0, 0, 4, false, [], dp_t2, 0, 0),
  (yX0_growOlder, cX0_growOlder, 3, 0, 0, 2, false, [], dp_t3, 0, 0),
  (yX0_receivers, cX0_receivers, 4, 0, 1, 2, false, [], dp_t4, 0, 0),
  (yX0_sentInAll, cX0_sentInAll, 3, 0, 1, 1, false, [], dp_t5, 0, 0),
  (yX0_paidInAll, cX0_paidInAll, 3, 0, 1, 1, false, [], dp_t6, 0, 0),
  (yX1_placeOf, cX1_placeOf, 4, 1, 1, 3, false, [], dp_t7, 0, 0),
  (yX2_recount, cX2_recount, 2, 2, 0, 1, false, [], dp_t8, 0, 0),
  (yX2_recountArticle, cX2_recountArticle, 5, 2, 0, 2, false, [], dp_t9, 0, 0),
  (yX2_stemOfWord, cX2_stemOfWord, 2, 2, 1, 2, false, [], dp_t10, 0, 0),
  (yX2_rarityOf, cX2_rarityOf, 3, 2, 1, 2, false, [], dp_t11, 0, 0),
  (yX2_timesOf, cX2_timesOf, 3, 2, 1, 3, false, [], dp_t12, 0, 0),
  (yX2_scoreOf, cX2_scoreOf, 9, 2, 1, 5, false, [], dp_t13, 0, 0),
  (yX2_stemsOf, cX2_stemsOf, 4, 2, 1, 2, false, [], dp_t14, 0, 0),
  (yX2_stemsInAll, cX2_stemsInAll, 3, 2, 1, 1, false, [], dp_t15, 0, 0),
  (yX2_wordsInAll, cX2_wordsInAll, 3, 2, 1, 1, false, [], dp_t16, 0, 0),
  (yX3_setStem, cX3_setStem, 4, 3, 1, 3, false, [], dp_t17, 2, 12),
  (yX3_print, cX3_print, 1, 3, 1, 1, false, [], dp_t18, 1, 6),
  (yX3_write, cX3_write, 4, 3, 1, 3, false, [], dp_t19, 3, 18),
  (yX3_strike, cX3_strike, 4, 3, 1, 3, false, [], dp_t20, 2, 12),
  (yX3_client, cX3_client, 3, 3, 1, 2, false, [], dp_t21, 2, 12),
  (yX3_want, cX3_want, 4, 3, 1, 3, false, [], dp_t22, 4, 24),
  (yX3_drop, cX3_drop, 4, 3, 1, 3, false, [], dp_t23, 3, 18),
  (yX3_setBar, cX3_setBar, 4, 3, 1, 3, false, [], dp_t24, 2, 12),
  (yX3_pay, cX3_pay, 3, 3, 1, 3, false, [], dp_t25, 2, 12),
  (yX3_send, cX3_send, 2, 3, 1, 2, false, [], dp_t26, 1, 6),
  (yX3_pass, cX3_pass, 3, 3, 1, 2, false, [], dp_t27, 1, 6),
  (yX3_told, cX3_told, 3, 3, 1, 3, false, [], dp_t28, 2, 12),
  (yX3_word, cX3_word, 3, 3, 1, 3, false, [], dp_t29, 2, 12)]
def dp_mt1 : List dp_E := [(yX3_about, cX3_about, 3, 3, 1, 3, false, [], dp_t30, 2, 12),
  (yX3_stem, cX3_stem, 3, 3, 1, 3, false, [], dp_t31, 2, 12),
  (yX3_count, cX3_count, 2, 3, 1, 2, false, [], dp_t32, 1, 6),
  (yX3_rarity, cX3_rarity, 2, 3, 1, 2, false, [], dp_t33, 1, 6),
  (yX3_score, cX3_score, 3, 3, 1, 3, false, [], dp_t34, 2, 12),
  (yX3_fit, cX3_fit, 3, 3, 1, 3, false, [], dp_t35, 2, 12),
  (yX3_until, cX3_until, 2, 3, 1, 1, false, [], dp_t36, 0, 0),
  (yX3_mean, cX3_mean, 2, 3, 3, 1, false, [], dp_t37, 0, 0),
  (yX3_checkWord, cX3_checkWord, 1, 3, 0, 1, true, [], dp_t38, 1, 6),
  (yX3_checkStem, cX3_checkStem, 1, 3, 0, 1, true, [], dp_t39, 1, 6),
  (yX3_checkArticle, cX3_checkArticle, 2, 3, 0, 2, false, [], dp_t40, 1, 6),
  (yX3_checkClient, cX3_checkClient, 2, 3, 0, 2, false, [], dp_t41, 1, 6),
  (yX3_checkPlace, cX3_checkPlace, 2, 3, 0, 2, true, [], dp_t42, 1, 6),
  (yX3_checkWhat, cX3_checkWhat, 2, 3, 0, 2, true, [], dp_t43, 1, 6),
  (yX3_checkRounds, cX3_checkRounds, 1, 3, 0, 1, true, [], dp_t44, 1, 6),
  (yX3_tellOfArticle, cX3_tellOfArticle, 3, 3, 1, 3, false, [], dp_t45, 0, 0),
  (yX3_tellOfClient, cX3_tellOfClient, 3, 3, 1, 3, false, [], dp_t46, 0, 0),
  (yX3_tellOfAll, cX3_tellOfAll, 2, 3, 1, 2, false, [], dp_t47, 0, 0),
  (yX3_scoreFor, cX3_scoreFor, 4, 3, 1, 4, false, [], dp_t48, 0, 0),
  (yX3_isFit, cX3_isFit, 5, 3, 4, 5, false, [], dp_t49, 0, 0),
  (yX3_fitArticles, cX3_fitArticles, 5, 3, 1, 2, false, [], dp_t50, 0, 0),
  (yX3_bestFit, cX3_bestFit, 7, 3, 1, 3, false, [], dp_t51, 0, 0),
  (yX3_fitArticleAt, cX3_fitArticleAt, 5, 3, 1, 3, false, [], dp_t52, 0, 0),
  (yX3_fitArticlesAhead, cX3_fitArticlesAhead, 8, 3, 1, 4, false, [], dp_t53, 0, 0),
  (yX3_priceFor, cX3_priceFor, 4, 3, 1, 4, false, [], dp_t54, 0, 0),
  (yX3_sendTo, cX3_sendTo, 5, 3, 1, 3, false, [], dp_t55, 0, 0),
  (yX3_playRounds, cX3_playRounds, 5, 3, 0, 3, false, [], dp_t56, 0, 0),
  (yX3_someoneIsShort, cX3_someoneIsShort, 4, 3, 4, 2, false, [], dp_t57, 0, 0),
  (yX3_removeAt, cX3_removeAt, 4, 3, 1, 3, true, [], dp_t58, 0, 0),
  (yX4_init, cX4_init, 1, 4, 0, 1, false, [], dp_t59, 2, 16)]
def dp_mt2 : List dp_E := [(yX5_init, cX5_init, 2, 5, 0, 1, false, [], dp_t60, 4, 56),
  (yX5_table, cX5_table, 7, 5, 5, 2, false, [], dp_t61, 1, 20),
  (yX5_rarities, cX5_rarities, 5, 5, 5, 1, false, [], dp_t62, 17, 340),
  (yX5_score, cX5_score, 11, 5, 1, 5, false, [], dp_t63, 0, 0),
  (yX5_fits, cX5_fits, 6, 5, 5, 2, false, [], dp_t64, 34, 676),
  (yX5_best, cX5_best, 3, 5, 1, 1, true, [], dp_t65, 0, 0),
  (yX5_send, cX5_send, 5, 5, 1, 2, false, [], dp_t66, 34, 676),
  (yX5_pass, cX5_pass, 6, 5, 1, 1, false, [], dp_t67, 408, 8112),
  (yX5_isSame, cX5_isSame, 15, 5, 4, 2, false, [], dp_t68, 4000, 40000),
  (yJ6_bitCount_0f7a4, cJ6_bitCount_0f7a4, 1, 7, 1, 1, true, [], dp_t69, 0, 0),
  (yJ7_fill_53178, cJ7_fill_53178, 4, 8, 0, 2, true, [], dp_t70, 0, 0),
  (yL_below, cL_below, 2, 6, 1, 2, true, [], dp_t71, 0, 0),
  (yL_cell, cL_cell, 2, 6, 1, 2, true, [], dp_t72, 0, 0),
  (yL_more, cL_more, 4, 6, 5, 2, true, [], dp_t73, 1, 16),
  (yL_less, cL_less, 4, 6, 5, 2, true, [], dp_t74, 1, 16),
  (yL_act, cL_act, 18, 6, 4, 3, true, [], dp_t75, 200, 3000),
  (yL_build, cL_build, 4, 6, 6, 2, true, [], dp_t76, 13000, 200000),
  (yL_law, cL_law, 19, 6, 4, 1, true, [], dp_t77, 600172, 7300668)]
def dp_mt : List dp_E := dp_mt0 ++ (dp_mt1 ++ (dp_mt2))
def dp_owns : List String := [RX0, RX1, RX2, RX3, RX4, RX5, RL, RJ6, RJ7]
def dp_fl : List (Nat × Nat × Nat × Nat) := [(2, 9, 2, 0), (3, 44, 2, 0), (2, 17, 2, 1), (3, 69, 2, 1), (2, 20, 2, 2), (3, 64, 2, 2), (2, 23, 2, 3), (2, 26, 2, 4), (2, 35, 2, 5), (3, 50, 2, 5), (1, 11, 1, 0), (3, 108, 1, 0), (1, 16, 1, 1), (3, 97, 1, 1), (1, 20, 1, 2), (3, 115, 1, 2), (3, 86, 1, 3), (0, 9, 0, 0), (3, 217, 0, 0), (0, 15, 0, 1), (3, 91, 0, 1), (0, 18, 0, 2), (3, 231, 0, 2), (0, 21, 0, 3), (3, 223, 0, 3), (0, 30, 0, 4), (3, 240, 0, 4), (3, 10, 3, 0), (3, 19, 3, 1), (3, 26, 3, 2), (3, 30, 3, 3), (3, 33, 3, 4), (6, 49, 4, 0), (5, 70, 4, 0), (4, 7, 4, 1), (5, 59, 4, 1), (6, 69, 4, 1), (5, 73, 4, 2), (4, 13, 4, 3), (5, 44, 4, 3), (6, 57, 4, 3), (4, 17, 4, 4), (5, 55, 4, 4), (5, 7, 5, 0), (6, 25, 5, 0), (5, 14, 5, 1), (6, 9, 5, 1), (5, 18, 5, 2), (5, 23, 5, 3), (6, 15, 5, 3), (5, 36, 5, 4)]
def dp_ml : List (Nat × Nat × Nat) := [(1, 23, 70), (6, 83, 26), (3, 94, 41), (3, 125, 55), (3, 268, 51), (3, 156, 48), (3, 243, 13), (2, 47, 12), (2, 56, 11), (3, 251, 49), (3, 247, 1), (3, 271, 54), (3, 274, 2), (6, 124, 27), (3, 129, 44), (3, 132, 5), (0, 38, 69), (3, 136, 56), (3, 278, 3), (6, 118, 28), (3, 61, 40), (3, 140, 43), (3, 143, 45), (3, 214, 14), (3, 220, 4), (0, 34, 1), (6, 109, 30), (3, 146, 46), (3, 226, 69), (3, 160, 50), (6, 106, 32), (3, 149, 47), (3, 234, 16), (3, 237, 15), (3, 180, 6), (6, 115, 34), (6, 112, 35), (3, 73, 42), (3, 163, 52), (3, 255, 53), (6, 121, 36), (3, 172, 0), (3, 176, 57), (6, 86, 66), (5, 62, 64), (5, 47, 62), (5, 40, 61), (5, 51, 63), (5, 66, 65), (6, 127, 67), (5, 76, 66), (6, 129, 68), (5, 80, 33), (3, 41, 39), (3, 153, 11), (5, 86, 28), (5, 90, 29), (5, 93, 34), (5, 95, 30), (5, 98, 31), (5, 101, 35), (5, 104, 32), (5, 107, 37), (6, 19, 71), (6, 93, 72), (6, 97, 75), (6, 29, 17), (3, 37, 38), (3, 47, 8), (2, 29, 70), (2, 39, 9), (2, 43, 10), (6, 35, 18), (6, 39, 74), (6, 43, 20), (3, 77, 58), (6, 53, 21), (6, 60, 73), (6, 63, 22), (3, 102, 7), (6, 66, 23), (6, 72, 24), (6, 80, 25), (6, 89, 19), (6, 102, 76), (6, 92, 60)]
def dp_nl : List (Nat × Nat × Nat) := [(3, 1, 210), (2, 3, 210), (1, 3, 210), (0, 3, 210), (2, 51, 200), (2, 59, 201), (0, 24, 202), (4, 1, 210), (6, 75, 200), (3, 120, 200), (5, 1, 210)]
def dp_cl : List (Nat × Nat × Int64) := []
def dp_ci : List (Nat × Nat × Int32) := [(7, 265, 1431655765), (7, 266, 858993459), (7, 267, 252645135), (6, 7, 2147483647), (6, 8, 790386105)]
def dp_st : List (Nat × Nat × String) := [(3, 206, "no such client"), (3, 212, "rounds are 1 to 30"), (3, 204, "no such article"), (3, 210, "nothing is told under this number"), (3, 208, "no such place"), (3, 202, "stems are 0 to 19"), (3, 199, "words are 0 to 39"), (3, 56, "there are 16 articles"), (3, 83, "coins are 0 to 999"), (3, 89, "there are 6 clients"), (3, 100, "the client wants 5 stems"), (3, 106, "the client wants this stem already"), (3, 111, "the client does not want this stem"), (3, 113, "a bar is 0 to 999"), (3, 118, "coins to pay are 1 to 999"), (3, 67, "the article has 12 words")]
def dp_x0 : List Cond := [.static Lib.Math.min.name, .initialized "java/lang/Math", .code Lib.Math.min.name Lib.Math.min.code 2 (some .int), .static Lib.Math.max.name, .code Lib.Math.max.name Lib.Math.max.code 2 (some .int), .native arraycopyName, .static arraycopyName, .initialized "java/lang/System", .instanceMethod Lib.objectInit, .code Lib.objectInit ⟨#[0xb1]⟩ 1 none, .classLink RL 10 RX5, .instantiable RX5 5, .classLink RL 46 RX4, .instantiable RX4 5, .classLink RL 34 "[I", .classLink RX5 13 "[I", .classLink RX5 21 RX4, .arrayClass .int, .arrayClass .boolean]
def dp_x1 : List Cond := [.classLink RX3 197 "java/lang/IndexOutOfBoundsException", .initialized "java/lang/IndexOutOfBoundsException", .classLink RX3 54 "java/lang/IllegalStateException", .initialized "java/lang/IllegalStateException", .classLink RX3 81 "java/lang/IllegalArgumentException", .initialized "java/lang/IllegalArgumentException"]
def dp_nam : List String := ["java/lang/RuntimeException", "java/lang/Exception"]
def dp_exn : Nat → String
  | 0 => "java/lang/IndexOutOfBoundsException"
  | 1 => "java/lang/IllegalStateException"
  | _ => "java/lang/IllegalArgumentException"
def dp_exk : Nat → Nat
  | 0 => 197
  | 1 => 54
  | _ => 81
def dp_exc : Nat → Nat
  | 0 => 201
  | 1 => 58
  | _ => 85
def dp_x2 : List Cond := ((vx_atS RX3 (dp_exc 0) (dp_exn 0) dp_nam).filter goodWord) ++ (((vx_atS RX3 (dp_exc 1) (dp_exn 1) dp_nam).filter goodWord) ++ ((vx_atS RX3 (dp_exc 2) (dp_exn 2) dp_nam).filter goodWord))
def dp_o (k : Nat) : String := dp_owns.getD k ""
def dp_e (y : Nat) : dp_E := dp_mt.getD y dp_e0
def dp_nm (y : Nat) : MethodName := (dp_e y).1
def dp_by (y : Nat) : ByteArray := (dp_e y).2.1
def dp_mL (y : Nat) : Nat := (dp_e y).2.2.1
def dp_ow (y : Nat) : Nat := (dp_e y).2.2.2.1
def dp_rk (y : Nat) : Nat := (dp_e y).2.2.2.2.1
def dp_na (y : Nat) : Nat := (dp_e y).2.2.2.2.2.1
def dp_sta (y : Nat) : Bool := (dp_e y).2.2.2.2.2.2.1
def dp_hh (y : Nat) : List (Nat × Nat × Nat × Nat) := (dp_e y).2.2.2.2.2.2.2.1
def dp_tl (y : Nat) : List dp_I := (dp_e y).2.2.2.2.2.2.2.2.1
def dp_mc (y : Nat) : Nat := (dp_e y).2.2.2.2.2.2.2.2.2.1
def dp_ms (y : Nat) : Nat := (dp_e y).2.2.2.2.2.2.2.2.2.2
def dp_rt (y : Nat) : Option FieldType := match dp_rk y with
  | 0 => none
  | 1 => some .int
  | 2 => some .long
  | 3 => some .double
  | 4 => some .boolean
  | 5 => some (.array .int)
  | _ => some (.object "ClipBureauLaw$Sim")
def dp_lk : List dp_I → Nat → Jvm.ClassFile.Instr × Nat
  | [], _ => (.nop, 0)
  | (a, i) :: t, pc => if a = pc then i else dp_lk t pc
def dp_tab (y pc : Nat) : Jvm.ClassFile.Instr × Nat := dp_lk (dp_tl y) pc
def dp_TT (ci k : Nat) : String × String × String × Bool := (vwCl.getD ci (RX0, TX0, 5)).2.1 k
def dp_codeW (y : Nat) : Cond := if (dp_hh y).isEmpty then .code (dp_nm y) (dp_by y) (dp_mL y) (dp_rt y) else .codeWith (dp_nm y) (dp_by y) (dp_mL y) (dp_rt y) (dp_hh y)
def dp_kindW (y : Nat) : Cond := if dp_sta y then .static (dp_nm y) else .instanceMethod (dp_nm y)
def dp_selW (y : Nat) : Cond := .selects (dp_nm y).cls (dp_nm y) (dp_nm y)
def dp_linkW (e : Nat × Nat × Nat) : Cond := .methodLink (dp_o e.1) e.2.1 (dp_nm e.2.2)
def dp_natN : Nat → MethodName
  | 200 => Lib.Math.min.name
  | 201 => Lib.Math.max.name
  | 202 => arraycopyName
  | _ => Lib.objectInit
def dp_linkN (e : Nat × Nat × Nat) : Cond := .methodLink (dp_o e.1) e.2.1 (dp_natN e.2.2)
def dp_fieldW (e : Nat × Nat × Nat × Nat) : Cond := .fieldLink (dp_o e.1) e.2.1 (dp_TT e.2.2.1 e.2.2.2).1 (dp_TT e.2.2.1 e.2.2.2).2.1 (dp_TT e.2.2.1 e.2.2.2).2.2.1
def dp_ids : List Nat := List.range 77
def dp_vids : List Nat := [0, 1, 2, 3, 4, 5, 6, 7, 8, 9, 10, 11, 12, 13, 14, 15, 16, 17, 18, 19, 20, 21, 22, 23, 24, 25, 26, 27, 28, 29, 30, 31, 32, 33, 34, 35, 36, 37, 40, 41, 45, 46, 47, 48, 49, 50, 51, 52, 53, 54, 55, 56, 57, 61, 62, 63, 64, 66, 67, 68]
def dp_n1 : List Cond := dp_ids.map dp_kindW ++ (dp_ml.map dp_linkW ++ dp_nl.map dp_linkN)
def dp_n2 : List Cond := dp_fl.map dp_fieldW ++ (dp_vids.map dp_selW ++ (dp_owns.map Cond.initialized ++ (wsX00 ++ (wsX10 ++ (wsX20 ++ (wsX30 ++ (wsX40 ++ wsX50)))))))
def dp_n3 : List Cond := dp_cl.map (fun e => Cond.constantLong (dp_o e.1) e.2.1 e.2.2) ++ (dp_ci.map (fun e => Cond.constant (dp_o e.1) e.2.1 e.2.2) ++ (dp_x0 ++ dp_x1))
def dp_cw0 : List Cond := [.code yX0_copyFrom cX0_copyFrom 2 none, .code yX0_wasSent cX0_wasSent 3 (some .boolean), .code yX0_book cX0_book 4 none, .code yX0_growOlder cX0_growOlder 3 none, .code yX0_receivers cX0_receivers 4 (some .int), .code yX0_sentInAll cX0_sentInAll 3 (some .int), .code yX0_paidInAll cX0_paidInAll 3 (some .int), .code yX1_placeOf cX1_placeOf 4 (some .int), .code yX2_recount cX2_recount 2 none, .code yX2_recountArticle cX2_recountArticle 5 none, .code yX2_stemOfWord cX2_stemOfWord 2 (some .int), .code yX2_rarityOf cX2_rarityOf 3 (some .int), .code yX2_timesOf cX2_timesOf 3 (some .int), .code yX2_scoreOf cX2_scoreOf 9 (some .int), .code yX2_stemsOf cX2_stemsOf 4 (some .int), .code yX2_stemsInAll cX2_stemsInAll 3 (some .int), .code yX2_wordsInAll cX2_wordsInAll 3 (some .int), .code yX3_setStem cX3_setStem 4 (some .int), .code yX3_print cX3_print 1 (some .int), .code yX3_write cX3_write 4 (some .int), .code yX3_strike cX3_strike 4 (some .int), .code yX3_client cX3_client 3 (some .int), .code yX3_want cX3_want 4 (some .int), .code yX3_drop cX3_drop 4 (some .int), .code yX3_setBar cX3_setBar 4 (some .int)]
set_option maxRecDepth 100000 in
set_option maxHeartbeats 4000000 in
theorem dp_cw0_in : dp_cw0 = ([393, 257, 265, 306, 331, 292, 365, 569, 481, 486, 490, 246, 239, 235, 327, 361, 357, 473, 495, 591, 518, 555, 564, 574, 579] : List Nat).filterMap (fun i => lw_tbl[i]?) := rfl
set_option maxRecDepth 100000 in
set_option maxHeartbeats 4000000 in
theorem dp_cw0_is : (List.range' 0 25).map dp_codeW = dp_cw0 := rfl
set_option maxRecDepth 100000 in
theorem dp_cw0_good : dp_cw0.all goodWord = true := by decide +kernel
def dp_cw1 : List Cond := [.code yX3_pay cX3_pay 3 (some .int), .code yX3_send cX3_send 2 (some .int), .code yX3_pass cX3_pass 3 (some .int), .code yX3_told cX3_told 3 (some .int), .code yX3_word cX3_word 3 (some .int), .code yX3_about cX3_about 3 (some .int), .code yX3_stem cX3_stem 3 (some .int), .code yX3_count cX3_count 2 (some .int), .code yX3_rarity cX3_rarity 2 (some .int), .code yX3_score cX3_score 3 (some .int), .code yX3_fit cX3_fit 3 (some .int), .code yX3_until cX3_until 2 (some .int), .code yX3_mean cX3_mean 2 (some .double), .code yX3_checkWord cX3_checkWord 1 none, .code yX3_checkStem cX3_checkStem 1 none, .code yX3_checkArticle cX3_checkArticle 2 none, .code yX3_checkClient cX3_checkClient 2 none, .code yX3_checkPlace cX3_checkPlace 2 none, .code yX3_checkWhat cX3_checkWhat 2 none, .code yX3_checkRounds cX3_checkRounds 1 none, .code yX3_tellOfArticle cX3_tellOfArticle 3 (some .int), .code yX3_tellOfClient cX3_tellOfClient 3 (some .int), .code yX3_tellOfAll cX3_tellOfAll 2 (some .int), .code yX3_scoreFor cX3_scoreFor 4 (some .int), .code yX3_isFit cX3_isFit 5 (some .boolean)]
set_option maxRecDepth 100000 in
set_option maxHeartbeats 4000000 in
theorem dp_cw1_in : dp_cw1 = ([585, 147, 269, 310, 446, 336, 452, 349, 436, 369, 373, 389, 458, 476, 439, 314, 151, 376, 318, 272, 323, 340, 353, 231, 253] : List Nat).filterMap (fun i => lw_tbl[i]?) := rfl
set_option maxRecDepth 100000 in
set_option maxHeartbeats 4000000 in
theorem dp_cw1_is : (List.range' 25 25).map dp_codeW = dp_cw1 := rfl
set_option maxRecDepth 100000 in
theorem dp_cw1_good : dp_cw1.all goodWord = true := by decide +kernel
def dp_cw2 : List Cond := [.code yX3_fitArticles cX3_fitArticles 5 (some .int), .code yX3_bestFit cX3_bestFit 7 (some .int), .code yX3_fitArticleAt cX3_fitArticleAt 5 (some .int), .code yX3_fitArticlesAhead cX3_fitArticlesAhead 8 (some .int), .code yX3_priceFor cX3_priceFor 4 (some .int), .code yX3_sendTo cX3_sendTo 5 (some .int), .code yX3_playRounds cX3_playRounds 5 none, .code yX3_someoneIsShort cX3_someoneIsShort 4 (some .boolean), .code yX3_removeAt cX3_removeAt 4 (some .int), .code yX4_init cX4_init 1 none, .code yX5_init cX5_init 2 none, .code yX5_table cX5_table 7 (some (.array .int)), .code yX5_rarities cX5_rarities 5 (some (.array .int)), .code yX5_score cX5_score 11 (some .int), .code yX5_fits cX5_fits 6 (some (.array .int)), .code yX5_best cX5_best 3 (some .int), .code yX5_send cX5_send 5 (some .int), .code yX5_pass cX5_pass 6 (some .int), .code yX5_isSame cX5_isSame 15 (some .boolean), .code yJ6_bitCount_0f7a4 cJ6_bitCount_0f7a4 1 (some .int), .code yJ7_fill_53178 cJ7_fill_53178 4 none, .code yL_below cL_below 2 (some .int), .code yL_cell cL_cell 2 (some .int), .code yL_more cL_more 4 (some (.array .int)), .code yL_less cL_less 4 (some (.array .int))]
set_option maxRecDepth 100000 in
set_option maxHeartbeats 4000000 in
theorem dp_cw2_in : dp_cw2 = ([345, 227, 381, 385, 261, 223, 302, 400, 521, 527, 600, 416, 412, 420, 408, 423, 404, 427, 432, 295, 84, 461, 465, 560, 514] : List Nat).filterMap (fun i => lw_tbl[i]?) := rfl
set_option maxRecDepth 100000 in
set_option maxHeartbeats 4000000 in
theorem dp_cw2_is : (List.range' 50 25).map dp_codeW = dp_cw2 := rfl
set_option maxRecDepth 100000 in
theorem dp_cw2_good : dp_cw2.all goodWord = true := by decide +kernel
def dp_cw3 : List Cond := [.code yL_act cL_act 18 (some .boolean), .code yL_build cL_build 4 (some (.object "ClipBureauLaw$Sim"))]
set_option maxRecDepth 100000 in
set_option maxHeartbeats 4000000 in
theorem dp_cw3_in : dp_cw3 = ([469, 595] : List Nat).filterMap (fun i => lw_tbl[i]?) := rfl
set_option maxRecDepth 100000 in
set_option maxHeartbeats 4000000 in
theorem dp_cw3_is : (List.range' 75 2).map dp_codeW = dp_cw3 := rfl
set_option maxRecDepth 100000 in
theorem dp_cw3_good : dp_cw3.all goodWord = true := by decide +kernel
set_option maxRecDepth 100000 in
set_option maxHeartbeats 4000000 in
theorem dp_n1_in : dp_n1 = ([391, 255, 263, 304, 329, 290, 363, 567, 479, 485, 489, 244, 237, 233, 325, 359, 355, 471, 493, 589, 516, 553, 562, 572, 577, 583, 145, 267, 308, 444, 334, 450, 347, 434, 367, 371, 387, 456, 475, 438, 313, 150, 375, 317, 271, 322, 339, 352, 230, 252, 344, 226, 380, 384, 260, 222, 301, 399, 520, 526, 599, 414, 410, 418, 406, 422, 402, 425, 430, 294, 83, 460, 464, 559, 513, 468, 594, 82, 144, 148, 220, 224, 228, 232, 236, 243, 250, 254, 258, 262, 266, 270, 289, 293, 299, 303, 307, 311, 316, 320, 324, 328, 332, 333, 337, 341, 342, 346, 350, 354, 358, 362, 366, 370, 374, 378, 382, 386, 390, 397, 401, 405, 409, 413, 417, 421, 424, 428, 429, 433, 437, 441, 442, 443, 447, 448, 449, 453, 454, 455, 459, 463, 467, 470, 474, 478, 482, 483, 487, 492, 512, 515, 519, 552, 558, 561, 566, 571, 576, 582, 588, 593, 598, 40, 48, 80, 106, 240, 247, 394, 528, 581, 587, 601] : List Nat).filterMap (fun i => lw_tbl[i]?) := by decide +kernel
set_option maxRecDepth 100000 in
theorem dp_n1_good : dp_n1.all goodWord = true := by decide +kernel
set_option maxRecDepth 100000 in
set_option maxHeartbeats 4000000 in
theorem dp_n2_in : dp_n2 = ([51, 52, 53, 54, 55, 56, 57, 58, 59, 60, 85, 86, 87, 88, 89, 90, 91, 107, 108, 109, 110, 111, 112, 113, 114, 115, 116, 128, 129, 130, 131, 132, 529, 530, 531, 532, 533, 534, 535, 536, 537, 538, 539, 604, 605, 606, 607, 608, 609, 610, 611, 392, 256, 264, 305, 330, 291, 364, 568, 480, 16, 17, 245, 238, 234, 326, 360, 356, 472, 494, 590, 517, 554, 563, 573, 578, 584, 146, 268, 309, 445, 335, 451, 348, 435, 368, 372, 388, 457, 8, 0, 9, 10, 12, 4, 5, 11, 3, 13, 14, 6, 2, 7, 15, 415, 411, 419, 407, 403, 426, 431, 23, 21, 20, 19, 30, 24, 18, 33, 22, 117, 119, 121, 123, 125, 92, 94, 96, 98, 61, 63, 65, 67, 69, 71, 133, 135, 137, 139, 141, 540, 542, 544, 546, 548, 612, 614, 616, 618, 620] : List Nat).filterMap (fun i => lw_tbl[i]?) := by decide +kernel
set_option maxRecDepth 100000 in
theorem dp_n2_good : dp_n2.all goodWord = true := by decide +kernel
set_option maxRecDepth 100000 in
set_option maxHeartbeats 4000000 in
theorem dp_n3_in : dp_n3 = ([296, 297, 298, 462, 466, 241, 32, 242, 248, 249, 396, 395, 34, 41, 42, 596, 597, 522, 524, 491, 602, 603, 74, 551, 152, 28, 496, 29, 273, 31] : List Nat).filterMap (fun i => lw_tbl[i]?) := rfl
set_option maxRecDepth 100000 in
theorem dp_n3_good : dp_n3.all goodWord = true := by decide +kernel
set_option maxRecDepth 100000 in
set_option maxHeartbeats 4000000 in
theorem dp_x2_in : dp_x2 = ([25, 174, 183, 187, 190, 192, 175, 176, 41, 42, 177, 182, 188, 208, 164, 209, 166, 210, 168, 178, 180, 170, 204, 205, 207, 170, 195, 196, 197, 198, 198, 199, 200, 201, 201, 202, 203, 204, 194, 153, 161, 162, 163, 165, 167, 169, 173, 172, 171, 25, 174, 183, 187, 190, 192, 175, 176, 41, 42, 177, 182, 188, 208, 164, 209, 166, 210, 168, 178, 180, 170, 204, 205, 207, 170, 507, 508, 509, 198, 198, 199, 200, 201, 201, 202, 203, 204, 506, 497, 499, 186, 500, 501, 502, 503, 173, 172, 504, 25, 174, 183, 187, 190, 192, 175, 176, 41, 42, 177, 182, 188, 208, 164, 209, 166, 210, 168, 178, 180, 170, 204, 205, 207, 170, 284, 285, 286, 198, 198, 199, 200, 201, 201, 202, 203, 204, 283, 274, 276, 185, 277, 278, 279, 280, 173, 172, 281] : List Nat).filterMap (fun i => lw_tbl[i]?) := rfl
set_option maxRecDepth 100000 in
theorem dp_x2_good : dp_x2.all goodWord = true := by decide +kernel
end
section
/-! What the tables say of the code, by the kernel. -/
def dp_il : Jvm.ClassFile.Instr → Nat
  | .aload _ | .iload _ | .lload _ | .dload _ | .istore _ | .astore _ | .lstore _ | .dstore _ | .bipush _ | .ldc _ | .newarray _ => 2
  | .sipush _ | .ldc_w _ | .ldc2_w _ | .iinc _ _ | .ifCond _ _ | .if_icmp _ _ | .goto _ | .getfield _ | .putfield _ | .invokevirtual _ | .invokestatic _ | .invokespecial _ | .new _ | .checkcast _ | .anewarray _ | .ifnonnull _ | .ifnull _ => 3
  | _ => 1
def dp_ec : Nat → Nat
  | 197 => 0
  | 54 => 1
  | 81 => 2
  | _ => 99
def dp_npat (tl : List dp_I) (pc i : Nat) : Bool :=
  decide (dp_lk tl (pc + 3) = (.dup, 1)) && (match dp_lk tl (pc + 4) with
    | (.ldc is, 2) => dp_st.any (fun e => e.1 == 3 && e.2.1 == is)
    | _ => false) && decide (dp_lk tl (pc + 6) = (.invokespecial (dp_exc (dp_ec i)), 3)) && decide (dp_lk tl (pc + 9) = (.athrow, 1))
def dp_jok (tl : List dp_I) (mL pc : Nat) : Jvm.ClassFile.Instr → Bool
  | .goto off => decide (0 ≤ (pc : Int) + off)
  | .ifnonnull off => decide (0 ≤ (pc : Int) + off)
  | .ifCond _ off => decide (0 ≤ (pc : Int) + off)
  | .if_icmp _ off => decide (0 ≤ (pc : Int) + off)
  | .tableswitch d lo hi offs => decide (0 ≤ (pc : Int) + d) && offs.toList.all (fun o => decide (0 ≤ (pc : Int) + o)) && decide (hi + 1 = lo + (offs.toList.length : Int))
  | .istore k => decide (k < mL)
  | .astore k => decide (k < mL)
  | .iinc k _ => decide (k < mL)
  | .istore_n k => decide (k.val < mL)
  | .astore_n k => decide (k.val < mL)
  | .lstore k => decide (k + 1 < mL)
  | .dstore k => decide (k + 1 < mL)
  | .lstore_n k => decide (k.val + 1 < mL)
  | .new i => dp_ec i == 99 || dp_npat tl pc i
  | _ => true
def dp_isT : Jvm.ClassFile.Instr → Bool
  | .tableswitch .. => true
  | _ => false
def dp_cke (y : Nat) (e : dp_I) : Bool := decide (decode (dp_by y) e.1 = .ok e.2) && (dp_isT e.2.1 || e.2.2 == dp_il e.2.1) && dp_jok (dp_tl y) (dp_mL y) e.1 e.2.1
def dp_chk (y : Nat) : Bool := (dp_tl y).all (dp_cke y)
set_option maxRecDepth 100000 in
set_option maxHeartbeats 4000000 in
theorem dp_chk_0 : (List.range' 0 25).all dp_chk = true := by decide +kernel
set_option maxRecDepth 100000 in
set_option maxHeartbeats 4000000 in
theorem dp_chk_1 : (List.range' 25 25).all dp_chk = true := by decide +kernel
set_option maxRecDepth 100000 in
set_option maxHeartbeats 4000000 in
theorem dp_chk_2 : (List.range' 50 18).all dp_chk = true := by decide +kernel
set_option maxRecDepth 100000 in
set_option maxHeartbeats 4000000 in
theorem dp_chk_3 : (List.range' 69 6).all dp_chk = true := by decide +kernel
set_option maxRecDepth 100000 in
set_option maxHeartbeats 4000000 in
theorem dp_chk_4 : (List.range' 76 1).all dp_chk = true := by decide +kernel
theorem dp_chl_t {y : Nat} {l : List dp_I} {k : Nat} (h : (l.take k).all (dp_cke y) = true) (h2 : (l.drop k).all (dp_cke y) = true) : l.all (dp_cke y) = true := by
  rw [← List.take_append_drop k l, List.all_append, h, h2]; rfl
theorem dp_chl_d {y : Nat} {l : List dp_I} {a b : Nat} (h : ((l.drop a).take b).all (dp_cke y) = true) (h2 : (l.drop (a + b)).all (dp_cke y) = true) : (l.drop a).all (dp_cke y) = true :=
  dp_chl_t (k := b) h (by rw [List.drop_drop]; exact h2)
set_option maxRecDepth 100000 in
set_option maxHeartbeats 4000000 in
theorem dp_chl_68_0 : (((dp_tl 68).drop 0).take 75).all (dp_cke 68) = true := by decide +kernel
set_option maxRecDepth 100000 in
set_option maxHeartbeats 4000000 in
theorem dp_chl_68_75 : (((dp_tl 68).drop 75).take 75).all (dp_cke 68) = true := by decide +kernel
set_option maxRecDepth 100000 in
set_option maxHeartbeats 4000000 in
theorem dp_chl_68_150 : (((dp_tl 68).drop 150).take 75).all (dp_cke 68) = true := by decide +kernel
set_option maxRecDepth 100000 in
set_option maxHeartbeats 4000000 in
theorem dp_chl_68_225 : (((dp_tl 68).drop 225).take 75).all (dp_cke 68) = true := by decide +kernel
set_option maxRecDepth 100000 in
set_option maxHeartbeats 4000000 in
theorem dp_chl_68_300 : (((dp_tl 68).drop 300).take 75).all (dp_cke 68) = true := by decide +kernel
set_option maxRecDepth 100000 in
set_option maxHeartbeats 4000000 in
theorem dp_chl_68_375 : (((dp_tl 68).drop 375).take 75).all (dp_cke 68) = true := by decide +kernel
set_option maxRecDepth 100000 in
set_option maxHeartbeats 4000000 in
theorem dp_chl_68_e : ((dp_tl 68).drop 450).all (dp_cke 68) = true := by decide +kernel
theorem dp_chkb_68 : dp_chk 68 = true := by
  have h := (dp_chl_d (a := 0) (b := 75) dp_chl_68_0 (dp_chl_d (a := 75) (b := 75) dp_chl_68_75 (dp_chl_d (a := 150) (b := 75) dp_chl_68_150 (dp_chl_d (a := 225) (b := 75) dp_chl_68_225 (dp_chl_d (a := 300) (b := 75) dp_chl_68_300 (dp_chl_d (a := 375) (b := 75) dp_chl_68_375 dp_chl_68_e))))))
  rw [List.drop_zero] at h
  exact h
set_option maxRecDepth 100000 in
set_option maxHeartbeats 4000000 in
theorem dp_chl_75_0 : (((dp_tl 75).drop 0).take 75).all (dp_cke 75) = true := by decide +kernel
set_option maxRecDepth 100000 in
set_option maxHeartbeats 4000000 in
theorem dp_chl_75_75 : (((dp_tl 75).drop 75).take 75).all (dp_cke 75) = true := by decide +kernel
set_option maxRecDepth 100000 in
set_option maxHeartbeats 4000000 in
theorem dp_chl_75_150 : (((dp_tl 75).drop 150).take 75).all (dp_cke 75) = true := by decide +kernel
set_option maxRecDepth 100000 in
set_option maxHeartbeats 4000000 in
theorem dp_chl_75_225 : (((dp_tl 75).drop 225).take 75).all (dp_cke 75) = true := by decide +kernel
set_option maxRecDepth 100000 in
set_option maxHeartbeats 4000000 in
theorem dp_chl_75_300 : (((dp_tl 75).drop 300).take 75).all (dp_cke 75) = true := by decide +kernel
set_option maxRecDepth 100000 in
set_option maxHeartbeats 4000000 in
theorem dp_chl_75_375 : (((dp_tl 75).drop 375).take 75).all (dp_cke 75) = true := by decide +kernel
set_option maxRecDepth 100000 in
set_option maxHeartbeats 4000000 in
theorem dp_chl_75_450 : (((dp_tl 75).drop 450).take 75).all (dp_cke 75) = true := by decide +kernel
set_option maxRecDepth 100000 in
set_option maxHeartbeats 4000000 in
theorem dp_chl_75_e : ((dp_tl 75).drop 525).all (dp_cke 75) = true := by decide +kernel
theorem dp_chkb_75 : dp_chk 75 = true := by
  have h := (dp_chl_d (a := 0) (b := 75) dp_chl_75_0 (dp_chl_d (a := 75) (b := 75) dp_chl_75_75 (dp_chl_d (a := 150) (b := 75) dp_chl_75_150 (dp_chl_d (a := 225) (b := 75) dp_chl_75_225 (dp_chl_d (a := 300) (b := 75) dp_chl_75_300 (dp_chl_d (a := 375) (b := 75) dp_chl_75_375 (dp_chl_d (a := 450) (b := 75) dp_chl_75_450 dp_chl_75_e)))))))
  rw [List.drop_zero] at h
  exact h
set_option maxRecDepth 100000 in
set_option maxHeartbeats 4000000 in
theorem dp_chl_77_0 : (((dp_tl 77).drop 0).take 75).all (dp_cke 77) = true := by decide +kernel
set_option maxRecDepth 100000 in
set_option maxHeartbeats 4000000 in
theorem dp_chl_77_75 : (((dp_tl 77).drop 75).take 75).all (dp_cke 77) = true := by decide +kernel
set_option maxRecDepth 100000 in
set_option maxHeartbeats 4000000 in
theorem dp_chl_77_150 : (((dp_tl 77).drop 150).take 75).all (dp_cke 77) = true := by decide +kernel
set_option maxRecDepth 100000 in
set_option maxHeartbeats 4000000 in
theorem dp_chl_77_225 : (((dp_tl 77).drop 225).take 75).all (dp_cke 77) = true := by decide +kernel
set_option maxRecDepth 100000 in
set_option maxHeartbeats 4000000 in
theorem dp_chl_77_300 : (((dp_tl 77).drop 300).take 75).all (dp_cke 77) = true := by decide +kernel
set_option maxRecDepth 100000 in
set_option maxHeartbeats 4000000 in
theorem dp_chl_77_375 : (((dp_tl 77).drop 375).take 75).all (dp_cke 77) = true := by decide +kernel
set_option maxRecDepth 100000 in
set_option maxHeartbeats 4000000 in
theorem dp_chl_77_450 : (((dp_tl 77).drop 450).take 75).all (dp_cke 77) = true := by decide +kernel
set_option maxRecDepth 100000 in
set_option maxHeartbeats 4000000 in
theorem dp_chl_77_e : ((dp_tl 77).drop 525).all (dp_cke 77) = true := by decide +kernel
theorem dp_chkb_77 : dp_chk 77 = true := by
  have h := (dp_chl_d (a := 0) (b := 75) dp_chl_77_0 (dp_chl_d (a := 75) (b := 75) dp_chl_77_75 (dp_chl_d (a := 150) (b := 75) dp_chl_77_150 (dp_chl_d (a := 225) (b := 75) dp_chl_77_225 (dp_chl_d (a := 300) (b := 75) dp_chl_77_300 (dp_chl_d (a := 375) (b := 75) dp_chl_77_375 (dp_chl_d (a := 450) (b := 75) dp_chl_77_450 dp_chl_77_e)))))))
  rw [List.drop_zero] at h
  exact h
theorem dp_chk_ok {y : Nat} (hy : y < 78) : dp_chk y = true := by
  rcases Nat.lt_or_ge y 25 with h0 | h0
  · exact List.all_eq_true.mp dp_chk_0 y (List.mem_range'_1.mpr (by omega))
  rcases Nat.lt_or_ge y 50 with h1 | h1
  · exact List.all_eq_true.mp dp_chk_1 y (List.mem_range'_1.mpr (by omega))
  rcases Nat.lt_or_ge y 68 with h2 | h2
  · exact List.all_eq_true.mp dp_chk_2 y (List.mem_range'_1.mpr (by omega))
  rcases Nat.lt_or_ge y 69 with h3 | h3
  · rw [show y = 68 by omega]; exact dp_chkb_68
  rcases Nat.lt_or_ge y 75 with h4 | h4
  · exact List.all_eq_true.mp dp_chk_3 y (List.mem_range'_1.mpr (by omega))
  rcases Nat.lt_or_ge y 76 with h5 | h5
  · rw [show y = 75 by omega]; exact dp_chkb_75
  rcases Nat.lt_or_ge y 77 with h6 | h6
  · exact List.all_eq_true.mp dp_chk_4 y (List.mem_range'_1.mpr (by omega))
  · rw [show y = 77 by omega]; exact dp_chkb_77
theorem dp_lk_or : ∀ (tl : List dp_I) (pc : Nat), dp_lk tl pc = (.nop, 0) ∨ (pc, dp_lk tl pc) ∈ tl
  | [], _ => Or.inl rfl
  | (a, i) :: t, pc => by
    unfold dp_lk
    by_cases h : a = pc
    · rw [if_pos h, h]
      exact Or.inr List.mem_cons_self
    · rw [if_neg h]
      rcases dp_lk_or t pc with h | h
      · exact Or.inl h
      · exact Or.inr (List.mem_cons_of_mem _ h)
theorem dp_dec {y : Nat} (hy : y < 78) (pc : Nat) : dp_tab y pc = (.nop, 0) ∨ (decode (dp_by y) pc = .ok (dp_tab y pc) ∧ (dp_isT (dp_tab y pc).1 = true ∨ (dp_tab y pc).2 = dp_il (dp_tab y pc).1) ∧ dp_jok (dp_tl y) (dp_mL y) pc (dp_tab y pc).1 = true) := by
  rcases dp_lk_or (dp_tl y) pc with h | h
  · exact Or.inl h
  · have h1 := List.all_eq_true.mp (dp_chk_ok hy) _ h
    simp only [dp_cke, Bool.and_eq_true, decide_eq_true_eq, Bool.or_eq_true, beq_iff_eq] at h1
    exact Or.inr ⟨h1.1.1, h1.1.2, h1.2⟩
end
section
/-! A deep semantics of the claim's own methods over a memory of ints by handles: what a method does, as a predicate transformer, with no machine in it. Part 04 shows it sound over the machine. -/
abbrev dp_M : Type := Nat → Nat → Int32
abbrev dp_L : Type := List (Option Value)
abbrev dp_R : Type := Option Value ⊕ Nat
/-- what is made while it runs: an object (kind, fields), an array of ints (or, where the sign is true, of truth values), an array of references (to int arrays; true: to clients) -/
abbrev dp_Ce : Type := (Nat × List Value) ⊕ (Bool × Nat × (Nat → Int32)) ⊕ (Bool × Nat × (Nat → Option Nat))
/-- the cells made, by handle; a handle is 10000 and the address -/
abbrev dp_O : Type := Nat → Option dp_Ce
abbrev dp_Q : Type := dp_R → dp_M → dp_O → Prop
abbrev dp_K : Type := Nat → dp_L → List Value → Nat → Nat → Nat → dp_M → dp_O → Prop
abbrev dp_X : Type := Nat × (Nat → Int32)
abbrev dp_C : Type := Nat → List Value → Nat → dp_M → dp_O → dp_Q → Prop
def dp_up (M : dp_M) (h k : Nat) (x : Int32) : dp_M := fun a j => if a = h ∧ j = k then x else M a j
def dp_ou (o : dp_O) (h : Nat) (c : dp_Ce) : dp_O := fun a => if a = h then some c else o a
def dp_row (M : dp_M) (h : Nat) (f : Nat → Int32) : dp_M := fun a j => if a = h then f j else M a j
/-- the objects: their kind (by vwCl) and fields -/
def dp_obj (M : dp_M) : Nat → Option (Nat × List Value)
  | 0 => some (3, [.ref 1, .ref 2, .ref 3, .ref 4, .ref 5])
  | 1 => some (2, [.ref 6, .ref 7, .ref 8, .ref 9, .ref 10, .int (M 1 5)])
  | 2 => some (1, [.ref 11, .ref 12, .ref 13, .int (M 2 3)])
  | 3 => some (0, [.ref 14, .ref 15, .ref 16, .ref 17, .int (M 3 4)])
  | 4 => some (0, [.ref 18, .ref 19, .ref 20, .ref 21, .int (M 4 4)])
  | _ => none
def dp_isA (h : Nat) : Bool := !(h == 0 || h == 1 || h == 2 || h == 3 || h == 4 || h == 22 || h == 7 || h == 9 || h == 11 || h == 26 || h == 23 || h == 24 || h == 25)
def dp_len (h : Nat) : Nat :=
  if h < 27 then (if h = 5 then 5 else if h = 6 ∨ h = 23 then 40 else if h = 8 ∨ h = 14 ∨ h = 18 then 16 else if h = 10 then 20 else if h = 24 then 224 else if h = 25 then 60 else 6)
  else if h < 43 then 12 else if h < 59 then 20 else if h < 65 then 5 else if h = 65 then 224 else 60
-- readers of stacks and locals
def dp_p1 (st : List Value) (f : Value → List Value → Prop) : Prop := match st with
  | v :: r => f v r
  | _ => False
def dp_pi (st : List Value) (f : Int32 → List Value → Prop) : Prop := match st with
  | .int x :: r => f x r
  | _ => False
def dp_pj (st : List Value) (f : Int64 → List Value → Prop) : Prop := match st with
  | .long x :: r => f x r
  | _ => False
def dp_pd (st : List Value) (f : UInt64 → List Value → Prop) : Prop := match st with
  | .double x :: r => f x r
  | _ => False
def dp_pr (st : List Value) (f : Nat → List Value → Prop) : Prop := match st with
  | .ref x :: r => f x r
  | _ => False
def dp_gt : dp_L → Nat → Option Value
  | [], _ => none
  | a :: _, 0 => a
  | _ :: t, i + 1 => dp_gt t i
def dp_li (L : dp_L) (i : Nat) (f : Int32 → Prop) : Prop := match dp_gt L i with
  | some (.int x) => f x
  | _ => False
def dp_lj (L : dp_L) (i : Nat) (f : Int64 → Prop) : Prop := match dp_gt L i with
  | some (.long x) => f x
  | _ => False
def dp_ld (L : dp_L) (i : Nat) (f : UInt64 → Prop) : Prop := match dp_gt L i with
  | some (.double x) => f x
  | _ => False
def dp_lr (L : dp_L) (i : Nat) (f : Nat → Prop) : Prop := match dp_gt L i with
  | some (.ref x) => f x
  | _ => False
def dp_c2 : Option Value → Option Value
  | some (.long _) => none
  | some (.double _) => none
  | a => a
/-- store a value of one slot -/
def dp_s1 : dp_L → Nat → Value → dp_L
  | [], _, _ => []
  | _ :: t, 0, v => some v :: t
  | a :: t, 1, v => dp_c2 a :: dp_s1 t 0 v
  | a :: t, i + 2, v => a :: dp_s1 t (i + 1) v
/-- store a value of two slots -/
def dp_h0 : dp_L → dp_L
  | [] => []
  | _ :: t => none :: t
def dp_s2 : dp_L → Nat → Value → dp_L
  | [], _, _ => []
  | _ :: t, 0, v => some v :: dp_h0 t
  | a :: t, 1, v => dp_c2 a :: dp_s2 t 0 v
  | a :: t, i + 2, v => a :: dp_s2 t (i + 1) v
def dp_msk : List Bool → dp_L → dp_L
  | _, [] => []
  | [], t => t
  | b :: bs, a :: t => (if b then a else none) :: dp_msk bs t
def dp_f4 (k : Fin 4) : Nat := k.val
def dp_kI (n : Int) : Int32 := Int32.ofInt n
def dp_kB (n : Int) : Int32 := (Int8.ofInt n).toInt32
def dp_kS (n : Int) : Int32 := (Int16.ofInt n).toInt32
def dp_jt (pc : Nat) (off : Int) : Nat := ((pc : Int) + off).toNat
def dp_br (p A B : Prop) : Prop := (p → A) ∧ (¬ p → B)
def dp_lo {α : Type} : List (Nat × Nat × α) → Nat → Nat → Option α
  | [], _, _ => none
  | (a, b, x) :: t, o, i => if a = o ∧ b = i then some x else dp_lo t o i
def dp_fld (o i : Nat) : Option (Nat × Nat) := dp_lo (dp_fl.map fun e => (e.1, e.2.1, e.2.2)) o i
def dp_iv (o i : Nat) : Option (Nat × Nat × Nat × Nat × Bool × Nat × Nat) := (dp_lo dp_ml o i).map fun z => (z, dp_na z, dp_mc z, dp_ms z, dp_sta z, dp_ow z, dp_mL z)
/-- the slots of arguments -/
def dp_asz : List Value → Nat
  | [] => 0
  | .long _ :: t => dp_asz t + 2
  | .double _ :: t => dp_asz t + 2
  | _ :: t => dp_asz t + 1
def dp_nat (o i : Nat) : Option Nat := dp_lo dp_nl o i
def dp_gtv : List Value → Nat → Option Value
  | [], _ => none
  | a :: _, 0 => some a
  | _ :: t, i + 1 => dp_gtv t i
def dp_get (M : dp_M) (h : Nat) (e : Option (Nat × Nat)) (f : Value → Prop) : Prop := match e with
  | some (ci, k) => (match dp_obj M h with
    | some q => q.1 = ci ∧ (match dp_gtv q.2 k with
      | some v => f v
      | none => False)
    | none => False)
  | none => False
def dp_put (M : dp_M) (h : Nat) (e : Option (Nat × Nat)) (f : Nat → Prop) : Prop := match e with
  | some (ci, k) => (match dp_obj M h with
    | some q => q.1 = ci ∧ (match dp_gtv q.2 k with
      | some (.int _) => f k
      | _ => False)
    | none => False)
  | none => False
def dp_ald (X : dp_X) (n : Nat) (M : dp_M) (o : dp_O) (h : Nat) (i : Int32) (f : Int32 → Prop) : Prop := (h = 1000 ∧ vp_in i X.1 ∧ f (X.2 i.toNatClampNeg)) ∨ (h ≠ 1000 ∧ dp_isA h = true ∧ h < n ∧ vp_in i (dp_len h) ∧ f (M h i.toNatClampNeg)) ∨ (∃ m g, o h = some (.inr (.inl (false, m, g))) ∧ vp_in i m ∧ f (g i.toNatClampNeg))
def dp_cln' : dp_Ce → Option Nat
  | .inl _ => none
  | .inr (.inl (_, m, _)) => some m
  | .inr (.inr (_, m, _)) => some m
def dp_aln (X : dp_X) (n : Nat) (o : dp_O) (h : Nat) (f : Nat → Prop) : Prop := (h = 1000 ∧ f X.1) ∨ (h ≠ 1000 ∧ dp_isA h = true ∧ h < n ∧ f (dp_len h)) ∨ (∃ c m, o h = some c ∧ dp_cln' c = some m ∧ f m)
def dp_aal (h : Nat) (i : Int32) (f : Nat → Prop) : Prop := match h with
  | 7 => vp_in i 16 ∧ f (27 + i.toNatClampNeg)
  | 9 => vp_in i 16 ∧ f (43 + i.toNatClampNeg)
  | 11 => vp_in i 6 ∧ f (59 + i.toNatClampNeg)
  | _ => False
def dp_take : Nat → List Value → List Value → (List Value → List Value → Prop) → Prop
  | 0, st, acc, f => f acc st
  | _ + 1, [], _, _ => False
  | k + 1, v :: st, acc, f => dp_take k st (v :: acc) f
def dp_hdl (y : Nat) (Q : dp_Q) (E c q : Nat) (M : dp_M) (o : dp_O) : Prop := Q (.inr E) M o ∧ c ≤ dp_mc y ∧ q ≤ dp_ms y
/-- behind a call -/
def dp_aft (y : Nat) (Q : dp_Q) (K : dp_K) (pc : Nat) (L : dp_L) (r : List Value) (n c q : Nat) : dp_Q := fun res M o => match res with
  | .inl none => K (pc + 3) L r n c q M o
  | .inl (some v) => K (pc + 3) L (v :: r) n c q M o
  | .inr E => dp_hdl y Q E c q M o
/-- the receiver of a call -/
def dp_rcv (n : Nat) (M : dp_M) (o : dp_O) (as : List Value) (w : Nat) : Prop := match as with
  | .ref h :: _ => (h < n ∧ (match dp_obj M h with
    | some q => q.1 = w
    | none => False)) ∨ (∃ fs, o h = some (.inl (w, fs)))
  | _ => False
/-- locals of the methods with many -/
def dp_xl (y : Nat) : Nat := if y = 77 then 38 else if y = 76 then 7 else 0
def dp_inv (call : dp_C) (y : Nat) (Q : dp_Q) (K : dp_K) (pc : Nat) (L : dp_L) (st : List Value) (n c q : Nat) (M : dp_M) (o : dp_O) (s : Bool) : Option (Nat × Nat × Nat × Nat × Bool × Nat × Nat) → Prop
  | some (z, na, mc, ms, sta, ow, mL) => dp_take na st [] fun as r => sta = s ∧ n = 65 ∧ dp_asz as ≤ mL ∧ mL + dp_xl z ≤ 11 + dp_xl y ∧ r.length ≤ 4 ∧ c + mc ≤ dp_mc y ∧ q + ms ≤ dp_ms y ∧ (s = true ∨ dp_rcv n M o as ow) ∧ call z as n M o (dp_aft y Q K pc L r n (c + mc) (q + ms))
  | none => False
/-- a constructor's call -/
def dp_ins (call : dp_C) (y : Nat) (Q : dp_Q) (K : dp_K) (pc : Nat) (L : dp_L) (st : List Value) (n c q : Nat) (M : dp_M) (o : dp_O) : Option (Nat × Nat × Nat × Nat × Bool × Nat × Nat) → Prop
  | some (z, na, mc, ms, _, ow, mL) => dp_take na st [] fun as r => (z = 59 ∨ z = 60) ∧ n = 65 ∧ dp_asz as ≤ mL ∧ mL + dp_xl z ≤ 11 + dp_xl y ∧ r.length ≤ 4 ∧ c + mc ≤ dp_mc y ∧ q + ms ≤ dp_ms y ∧ dp_rcv n M o as ow ∧ call z as n M o (dp_aft y Q K pc L r n (c + mc) (q + ms))
  | none => False
/-- the call of a nest mate's private constructor -/
def dp_ivN (o i : Nat) : Option (Nat × Nat × Nat × Nat × Bool × Nat × Nat) := if o = 6 ∧ i = 48 then some (59, dp_na 59, dp_mc 59, dp_ms 59, dp_sta 59, dp_ow 59, dp_mL 59) else none
def dp_cpyr (n : Nat) (M : dp_M) (h1 h2 : Nat) (sp dp k : Int32) (P : Prop) : Prop := dp_isA h1 = true ∧ dp_isA h2 = true ∧ h1 < n ∧ h2 < n ∧ ¬ sp < 0 ∧ ¬ dp < 0 ∧ ¬ k < 0 ∧ sp.toNatClampNeg + k.toNatClampNeg ≤ dp_len h1 ∧ dp.toNatClampNeg + k.toNatClampNeg ≤ dp_len h2 ∧ P
def dp_natw (y : Nat) (K : dp_K) (pc : Nat) (L : dp_L) (st : List Value) (n c q : Nat) (M : dp_M) (o : dp_O) : Option Nat → Prop
  | some 200 => dp_pi st fun b r => dp_pi r fun a r => r.length ≤ 4 ∧ c ≤ dp_mc y ∧ q ≤ dp_ms y ∧ K (pc + 3) L (.int (if b < a then b else a) :: r) n c q M o
  | some 201 => dp_pi st fun b r => dp_pi r fun a r => r.length ≤ 4 ∧ c ≤ dp_mc y ∧ q ≤ dp_ms y ∧ K (pc + 3) L (.int (if a < b then b else a) :: r) n c q M o
  | some 202 => dp_pi st fun k r => dp_pi r fun dp r => dp_pr r fun h2 r => dp_pi r fun sp r => dp_pr r fun h1 r => r.length ≤ 4 ∧ dp_cpyr n M h1 h2 sp dp k (K (pc + 3) L r n c q (dp_row M h2 (va_cpy (M h1) (M h2) sp.toNatClampNeg dp.toNatClampNeg k.toNatClampNeg)) o)
  | _ => False
def dp_ts (x : Int32) : Int → List Int → (Int → Prop) → Prop
  | _, [], _ => True
  | lo, o :: t, F => (x.toInt = lo → F o) ∧ dp_ts x (lo + 1) t F
def dp_thr (d y : Nat) (Q : dp_Q) (st : List Value) (c q : Nat) (M : dp_M) (o : dp_O) (E : Nat) : Prop := 6 ≤ d ∧ st.length ≤ 4 ∧ c + 1 ≤ dp_mc y ∧ q + 6 ≤ dp_ms y ∧ Q (.inr E) M o
def dp_new (i : Nat) (f : Nat → Prop) : Prop := match i with
  | 197 => f 0
  | 54 => f 1
  | 81 => f 2
  | _ => False
/-- classes made by the law: kind, by owner and index -/
def dp_nw (o i : Nat) : Option Nat := if o = 6 ∧ i = 10 then some 5 else if o = 6 ∧ i = 46 then some 4 else none
def dp_df : Nat → List Value
  | 4 => [.int 0, .int 0, .int 0, .null, .null]
  | _ => [.null, .null, .null, .null, .int 0]
/-- arrays of references made: false of int arrays, true of clients -/
def dp_an (o i : Nat) : Option Bool := if o = 6 ∧ i = 34 then some false else if o = 6 ∧ i = 46 then some true else if o = 5 ∧ i = 13 then some false else if o = 5 ∧ i = 21 then some true else none
/-- fields of ints -/
def dp_ft : Nat → Nat → Bool
  | 4, k => decide (k < 3)
  | _, k => decide (k = 4)
def dp_fv (b : Bool) (v : Value) : Prop := match v with
  | .int _ => b = true
  | .ref _ => b = false
  | _ => False
def dp_nty (t : ArrayType) : Option Bool := match t with
  | .int => some false
  | .boolean => some true
  | _ => none
/-- what may stand in an array of references -/
def dp_el (o : dp_O) (b : Bool) (v : Nat) : Prop := (b = false ∧ ∃ m g, o v = some (.inr (.inl (false, m, g)))) ∨ (b = true ∧ ∃ fs, o v = some (.inl (4, fs)))
def dp_rz (k : Nat) (x : Int32) : Prop := match k with
  | 1 => True
  | 4 => x = 0 ∨ x = 1
  | _ => False
def dp_opt {α : Type} (e : Option α) (f : α → Prop) : Prop := match e with
  | some v => f v
  | none => False
/-- one instruction -/
def dp_wp (X : dp_X) (call : dp_C) (d y : Nat) (Q : dp_Q) (K : dp_K) (pc : Nat) (L : dp_L) (st : List Value) (n c q : Nat) (M : dp_M) (o : dp_O) : Jvm.ClassFile.Instr → Prop
  | .aload_n k => dp_lr L (dp_f4 k) fun h => K (pc + 1) L (.ref h :: st) n c q M o
  | .aload k => dp_lr L k fun h => K (pc + 2) L (.ref h :: st) n c q M o
  | .iload_n k => dp_li L (dp_f4 k) fun x => K (pc + 1) L (.int x :: st) n c q M o
  | .iload k => dp_li L k fun x => K (pc + 2) L (.int x :: st) n c q M o
  | .lload_n k => dp_lj L (dp_f4 k) fun x => K (pc + 1) L (.long x :: st) n c q M o
  | .lload k => dp_lj L k fun x => K (pc + 2) L (.long x :: st) n c q M o
  | .dload k => dp_ld L k fun x => K (pc + 2) L (.double x :: st) n c q M o
  | .iconst v => K (pc + 1) L (.int (dp_kI v) :: st) n c q M o
  | .bipush v => K (pc + 2) L (.int (dp_kB v) :: st) n c q M o
  | .sipush v => K (pc + 3) L (.int (dp_kS v) :: st) n c q M o
  | .ldc i => dp_opt (dp_lo dp_ci (dp_ow y) i) fun v => K (pc + 2) L (.int v :: st) n c q M o
  | .ldc_w i => dp_opt (dp_lo dp_ci (dp_ow y) i) fun v => K (pc + 3) L (.int v :: st) n c q M o
  | .ldc2_w i => dp_opt (dp_lo dp_cl (dp_ow y) i) fun v => K (pc + 3) L (.long v :: st) n c q M o
  | .dconst v => v = 0 ∧ K (pc + 1) L (.double FP.dconst0 :: st) n c q M o
  | .istore_n k => dp_pi st fun x r => K (pc + 1) (dp_s1 L (dp_f4 k) (.int x)) r n c q M o
  | .istore k => dp_pi st fun x r => K (pc + 2) (dp_s1 L k (.int x)) r n c q M o
  | .lstore_n k => dp_pj st fun x r => K (pc + 1) (dp_s2 L (dp_f4 k) (.long x)) r n c q M o
  | .lstore k => dp_pj st fun x r => K (pc + 2) (dp_s2 L k (.long x)) r n c q M o
  | .dstore k => dp_pd st fun x r => K (pc + 2) (dp_s2 L k (.double x)) r n c q M o
  | .astore_n k => dp_pr st fun x r => K (pc + 1) (dp_s1 L (dp_f4 k) (.ref x)) r n c q M o
  | .astore k => dp_pr st fun x r => K (pc + 2) (dp_s1 L k (.ref x)) r n c q M o
  | .iinc i v => dp_li L i fun x => K (pc + 3) (dp_s1 L i (.int (x + dp_kI v))) st n c q M o
  | .iadd => dp_pi st fun b r => dp_pi r fun a r => K (pc + 1) L (.int (a + b) :: r) n c q M o
  | .isub => dp_pi st fun b r => dp_pi r fun a r => K (pc + 1) L (.int (a - b) :: r) n c q M o
  | .irem => dp_pi st fun b r => dp_pi r fun a r => ¬ b = 0 ∧ K (pc + 1) L (.int (a - a / b * b) :: r) n c q M o
  | .imul => dp_pi st fun b r => dp_pi r fun a r => K (pc + 1) L (.int (a * b) :: r) n c q M o
  | .idiv => dp_pi st fun b r => dp_pi r fun a r => ¬ b = 0 ∧ K (pc + 1) L (.int (a / b) :: r) n c q M o
  | .iand => dp_pi st fun b r => dp_pi r fun a r => K (pc + 1) L (.int (a &&& b) :: r) n c q M o
  | .ior => dp_pi st fun b r => dp_pi r fun a r => K (pc + 1) L (.int (a ||| b) :: r) n c q M o
  | .ishl => dp_pi st fun b r => dp_pi r fun a r => K (pc + 1) L (.int (a <<< (b &&& 31)) :: r) n c q M o
  | .ishr => dp_pi st fun b r => dp_pi r fun a r => K (pc + 1) L (.int (a >>> (b &&& 31)) :: r) n c q M o
  | .iushr => dp_pi st fun b r => dp_pi r fun a r => K (pc + 1) L (.int (a.toUInt32 >>> (b.toUInt32 &&& Int32.toUInt32 31)).toInt32 :: r) n c q M o
  | .i2l => dp_pi st fun a r => K (pc + 1) L (.long a.toInt64 :: r) n c q M o
  | .i2d => dp_pi st fun a r => K (pc + 1) L (.double (FP.i2d a) :: r) n c q M o
  | .ladd => dp_pj st fun b r => dp_pj r fun a r => K (pc + 1) L (.long (a + b) :: r) n c q M o
  | .lmul => dp_pj st fun b r => dp_pj r fun a r => K (pc + 1) L (.long (a * b) :: r) n c q M o
  | .lcmp => dp_pj st fun b r => dp_pj r fun a r => K (pc + 1) L (.int (lg_cmp a b) :: r) n c q M o
  | .ddiv => dp_pd st fun b r => dp_pd r fun a r => vf_n64 (FP.ddiv a b) ∧ K (pc + 1) L (.double (FP.ddiv a b) :: r) n c q M o
  | .dcmp e => dp_pd st fun b r => dp_pd r fun a r => K (pc + 1) L (.int (Op.cmpValue (FP.dcmp a b) e) :: r) n c q M o
  | .ifCond .eq off => dp_pi st fun x r => dp_br (x = 0) (K (dp_jt pc off) L r n c q M o) (K (pc + 3) L r n c q M o)
  | .ifCond .ne off => dp_pi st fun x r => dp_br (x = 0) (K (pc + 3) L r n c q M o) (K (dp_jt pc off) L r n c q M o)
  | .ifCond .lt off => dp_pi st fun x r => dp_br (x < 0) (K (dp_jt pc off) L r n c q M o) (K (pc + 3) L r n c q M o)
  | .ifCond .ge off => dp_pi st fun x r => dp_br (x < 0) (K (pc + 3) L r n c q M o) (K (dp_jt pc off) L r n c q M o)
  | .ifCond .gt off => dp_pi st fun x r => dp_br (0 < x) (K (dp_jt pc off) L r n c q M o) (K (pc + 3) L r n c q M o)
  | .ifCond .le off => dp_pi st fun x r => dp_br (0 < x) (K (pc + 3) L r n c q M o) (K (dp_jt pc off) L r n c q M o)
  | .if_icmp .eq off => dp_pi st fun b r => dp_pi r fun a r => dp_br (a = b) (K (dp_jt pc off) L r n c q M o) (K (pc + 3) L r n c q M o)
  | .if_icmp .ne off => dp_pi st fun b r => dp_pi r fun a r => dp_br (a = b) (K (pc + 3) L r n c q M o) (K (dp_jt pc off) L r n c q M o)
  | .if_icmp .lt off => dp_pi st fun b r => dp_pi r fun a r => dp_br (a < b) (K (dp_jt pc off) L r n c q M o) (K (pc + 3) L r n c q M o)
  | .if_icmp .ge off => dp_pi st fun b r => dp_pi r fun a r => dp_br (a < b) (K (pc + 3) L r n c q M o) (K (dp_jt pc off) L r n c q M o)
  | .if_icmp .gt off => dp_pi st fun b r => dp_pi r fun a r => dp_br (b < a) (K (dp_jt pc off) L r n c q M o) (K (pc + 3) L r n c q M o)
  | .if_icmp .le off => dp_pi st fun b r => dp_pi r fun a r => dp_br (b < a) (K (pc + 3) L r n c q M o) (K (dp_jt pc off) L r n c q M o)
  | .goto off => K (dp_jt pc off) L st n c q M o
  | .tableswitch dflt lo hi offs => dp_pi st fun x r => (x.toInt < lo ∨ hi < x.toInt → K (dp_jt pc dflt) L r n c q M o) ∧ dp_ts x lo offs.toList fun off => K (dp_jt pc off) L r n c q M o
  | .getfield i => dp_pr st fun h r => (h < n ∧ dp_get M h (dp_fld (dp_ow y) i) fun v => K (pc + 3) L (v :: r) n c q M o) ∨ (∃ ci k fs v, dp_fld (dp_ow y) i = some (ci, k) ∧ o h = some (.inl (ci, fs)) ∧ dp_gtv fs k = some v ∧ K (pc + 3) L (v :: r) n c q M o)
  | .putfield i => (dp_pi st fun x r => dp_pr r fun h r => h < n ∧ dp_put M h (dp_fld (dp_ow y) i) fun k => K (pc + 3) L r n c q (dp_up M h k x) o) ∨ (dp_p1 st fun v r => dp_pr r fun h r => ∃ ci k fs, dp_fld (dp_ow y) i = some (ci, k) ∧ (ci = 4 ∨ ci = 5) ∧ o h = some (.inl (ci, fs)) ∧ k < fs.length ∧ dp_fv (dp_ft ci k) v ∧ K (pc + 3) L r n c q M (dp_ou o h (.inl (ci, fs.set k v))))
  | .iaload => dp_pi st fun i r => dp_pr r fun h r => dp_ald X n M o h i fun x => K (pc + 1) L (.int x :: r) n c q M o
  | .iastore => dp_pi st fun x r => dp_pi r fun i r => dp_pr r fun h r => (dp_isA h = true ∧ h < n ∧ vp_in i (dp_len h) ∧ K (pc + 1) L r n c q (dp_up M h i.toNatClampNeg x) o) ∨ (∃ m g, o h = some (.inr (.inl (false, m, g))) ∧ vp_in i m ∧ K (pc + 1) L r n c q M (dp_ou o h (.inr (.inl (false, m, upd g i.toNatClampNeg x)))))
  | .baload => dp_pi st fun i r => dp_pr r fun h r => ∃ m g, o h = some (.inr (.inl (true, m, g))) ∧ vp_in i m ∧ K (pc + 1) L (.int (g i.toNatClampNeg) :: r) n c q M o
  | .bastore => dp_pi st fun x r => dp_pi r fun i r => dp_pr r fun h r => ∃ m g, o h = some (.inr (.inl (true, m, g))) ∧ vp_in i m ∧ K (pc + 1) L r n c q M (dp_ou o h (.inr (.inl (true, m, upd g i.toNatClampNeg (vp_nar .boolean x)))))
  | .aastore => dp_pr st fun v r => dp_pi r fun i r => dp_pr r fun h r => ∃ b m g, o h = some (.inr (.inr (b, m, g))) ∧ vp_in i m ∧ dp_el o b v ∧ K (pc + 1) L r n c q M (dp_ou o h (.inr (.inr (b, m, fun j => if j = i.toNatClampNeg then some v else g j))))
  | .newarray ty => dp_pi st fun k r => dp_opt (dp_nty ty) fun b => ¬ k < 0 ∧ k.toNatClampNeg ≤ 1000 ∧ c + 1 ≤ dp_mc y ∧ q + k.toNatClampNeg ≤ dp_ms y ∧ ∀ a : Nat, o (10000 + a) = none → K (pc + 2) L (.ref (10000 + a) :: r) n (c + 1) (q + k.toNatClampNeg) M (dp_ou o (10000 + a) (.inr (.inl (b, k.toNatClampNeg, fun _ => 0))))
  | .anewarray i => dp_pi st fun k r => dp_opt (dp_an (dp_ow y) i) fun b => ¬ k < 0 ∧ k.toNatClampNeg ≤ 1000 ∧ c + 1 ≤ dp_mc y ∧ q + k.toNatClampNeg ≤ dp_ms y ∧ ∀ a : Nat, o (10000 + a) = none → K (pc + 3) L (.ref (10000 + a) :: r) n (c + 1) (q + k.toNatClampNeg) M (dp_ou o (10000 + a) (.inr (.inr (b, k.toNatClampNeg, fun _ => none))))
  | .ifnonnull off => dp_pr st fun _ r => K (dp_jt pc off) L r n c q M o
  | .areturn => dp_pr st fun h r => r = [] ∧ (dp_rk y = 5 ∨ dp_rk y = 6) ∧ c ≤ dp_mc y ∧ q ≤ dp_ms y ∧ Q (.inl (some (.ref h))) M o
  | .invokespecial i => dp_ins call y Q K pc L st n c q M o (dp_iv (dp_ow y) i) ∨ dp_ins call y Q K pc L st n c q M o (dp_ivN (dp_ow y) i) ∨ (dp_nat (dp_ow y) i = some 210 ∧ dp_pr st fun _ r => r.length ≤ 4 ∧ K (pc + 3) L r n c q M o)
  | .aaload => dp_pi st fun i r => dp_pr r fun h r => (h < n ∧ dp_aal h i fun a => K (pc + 1) L (.ref a :: r) n c q M o) ∨ (∃ b m g a, o h = some (.inr (.inr (b, m, g))) ∧ vp_in i m ∧ g i.toNatClampNeg = some a ∧ K (pc + 1) L (.ref a :: r) n c q M o)
  | .arraylength => dp_pr st fun h r => dp_aln X n o h fun k => K (pc + 1) L (.int (nI k) :: r) n c q M o
  | .dup => dp_p1 st fun v r => v.category = 1 ∧ K (pc + 1) L (v :: v :: r) n c q M o
  | .dup2 => dp_p1 st fun v r => dp_p1 r fun w r => v.category = 1 ∧ w.category = 1 ∧ K (pc + 1) L (v :: w :: v :: w :: r) n c q M o
  | .pop => dp_p1 st fun v r => v.category = 1 ∧ K (pc + 1) L r n c q M o
  | .return_ => st = [] ∧ dp_rk y = 0 ∧ c ≤ dp_mc y ∧ q ≤ dp_ms y ∧ Q (.inl none) M o
  | .ireturn => dp_pi st fun x r => r = [] ∧ dp_rz (dp_rk y) x ∧ c ≤ dp_mc y ∧ q ≤ dp_ms y ∧ Q (.inl (some (.int x))) M o
  | .lreturn => dp_pj st fun x r => r = [] ∧ dp_rk y = 2 ∧ c ≤ dp_mc y ∧ q ≤ dp_ms y ∧ Q (.inl (some (.long x))) M o
  | .dreturn => dp_pd st fun x r => r = [] ∧ dp_rk y = 3 ∧ c ≤ dp_mc y ∧ q ≤ dp_ms y ∧ Q (.inl (some (.double x))) M o
  | .invokevirtual i => dp_inv call y Q K pc L st n c q M o false (dp_iv (dp_ow y) i)
  | .invokestatic i => dp_inv call y Q K pc L st n c q M o true (dp_iv (dp_ow y) i) ∨ dp_natw y K pc L st n c q M o (dp_nat (dp_ow y) i)
  | .new i => (dp_ow y = 3 ∧ dp_new i fun E => dp_thr d y Q st c q M o E) ∨ dp_opt (dp_nw (dp_ow y) i) fun ci => c + 1 ≤ dp_mc y ∧ q + 5 ≤ dp_ms y ∧ ∀ a : Nat, o (10000 + a) = none → K (pc + 3) L (.ref (10000 + a) :: st) n (c + 1) (q + 5) M (dp_ou o (10000 + a) (.inl (ci, dp_df ci)))
  | _ => False
/-- K is closed under a method's instructions, and under forgetting of locals -/
def dp_clo (X : dp_X) (call : dp_C) (d y : Nat) (Q : dp_Q) (K : dp_K) : Prop :=
  (∀ pc L st n c q M o, dp_wp X call d y Q K pc L st n c q M o (dp_tab y pc).1 → K pc L st n c q M o) ∧ (∀ b pc L st n c q M o, K pc (dp_msk b L) st n c q M o → K pc L st n c q M o) ∧ (∀ pc L st n c q c' q' M o, c ≤ c' → q ≤ q' → K pc L st n c' q' M o → K pc L st n c q M o)
def dp_args : Nat → List Value → dp_L
  | m, [] => List.replicate m none
  | m, .long x :: t => some (.long x) :: none :: dp_args (m - 2) t
  | m, .double x :: t => some (.double x) :: none :: dp_args (m - 2) t
  | m, v :: t => some v :: dp_args (m - 1) t
/-- what a method does, with calls at most d deep -/
def dp_run (X : dp_X) : Nat → dp_C
  | 0 => fun _ _ _ _ _ _ => False
  | d + 1 => fun y as n M o Q => ∀ K : dp_K, dp_clo X (dp_run X d) (d + 1) y Q K → K 0 (dp_args (dp_mL y) as) [] n 0 0 M o
end
section
/-! The world: the claim's cells by handles, over the heap; and what is fixed around it. -/
abbrev dp_G : Type := va_G × ClassId × ClassId × ClassId × ClassId
abbrev T3 (g : dp_G) : List (ClassId × FieldType) := [(g.2.1, .int), (g.2.2.1, .boolean), (g.2.2.2.1, .array .int), (g.2.2.2.2, .object RX4)]
def dp_cv (ad : Nat → Nat) : Value → Value
  | .ref k => .ref (ad k)
  | v => v
theorem dp_cv_cat (ad : Nat → Nat) (v : Value) : (dp_cv ad v).category = v.category := by cases v <;> rfl
def dp_out (ad : Nat → Nat) (k N : Nat) : Nat → Option Nat := fun j => if j < N then some (ad (k + j)) else none
/-- a cell of the class -/
def dp_cel (g : dp_G) (ad : Nat → Nat) (M : dp_M) (h : Nat) : va_E := match dp_obj M h with
  | some q => .inr (q.1, q.2.map (dp_cv ad))
  | none => if h = 7 then .inl (g.2.2.2.1, 16, .inr (.inr (.inr (.inr (dp_out ad 27 16))))) else if h = 9 then .inl (g.2.2.2.1, 16, .inr (.inr (.inr (.inr (dp_out ad 43 16)))))
    else if h = 11 then .inl (g.2.2.2.1, 6, .inr (.inr (.inr (.inr (dp_out ad 59 6))))) else .inl (g.2.1, dp_len h, .inl (M h))
/-- a cell made -/
def dp_cec (g : dp_G) (ad : Nat → Nat) : dp_Ce → va_E
  | .inl q => .inr (q.1, q.2.map (dp_cv ad))
  | .inr (.inl q) => .inl (if q.1 then g.2.2.1 else g.2.1, q.2.1, .inl q.2.2)
  | .inr (.inr q) => .inl (if q.1 then g.2.2.2.2 else g.2.2.2.1, q.2.1, .inr (.inr (.inr (.inr fun j => (q.2.2 j).map ad))))
def dp_hs : List Nat := List.range 22 ++ List.range' 27 38
def dp_pos (h : Nat) : Nat := if h < 22 then h else h - 5
def dp_wl (g : dp_G) (ad : Nat → Nat) (M : dp_M) : va_W := dp_hs.map fun h => (ad h, dp_cel g ad M h)
abbrev dp_D : Type := List (Nat × dp_Ce)
def dp_dl (g : dp_G) (ad : Nat → Nat) (ds : dp_D) : va_W := ds.map fun p => (p.1 - 10000, dp_cec g ad p.2)
def dp_ww (g : dp_G) (ad : Nat → Nat) (M : dp_M) (ds : dp_D) : va_W := dp_wl g ad M ++ dp_dl g ad ds
/-- what is known of the cells made stands in the list -/
def dp_rep (o : dp_O) (ds : dp_D) : Prop := ∀ (h : Nat) (c : dp_Ce), o h = some c → 10000 ≤ h ∧ ∃ k : Nat, ds[k]? = some (h, c)
def dp_adk (ad : Nat → Nat) (b : Nat) : Prop := ad 1000 = b ∧ ∀ a, ad (10000 + a) = a
theorem dp_adk.of {ad : Nat → Nat} {b h : Nat} (hk : dp_adk ad b) (h1 : 10000 ≤ h) : ad h = h - 10000 := by
  have := hk.2 (h - 10000)
  rwa [show 10000 + (h - 10000) = h by omega] at this
theorem dp_isA_or (h : Nat) : dp_isA h = true ∨ h = 0 ∨ h = 1 ∨ h = 2 ∨ h = 3 ∨ h = 4 ∨ h = 7 ∨ h = 9 ∨ h = 11 ∨ (22 ≤ h ∧ h < 27) := by
  simp only [dp_isA, Bool.not_eq_true', Bool.or_eq_false_iff, beq_eq_false_iff_ne]
  omega
theorem dp_obj_A {M : dp_M} {h : Nat} (hA : dp_isA h = true) : dp_obj M h = none := by
  unfold dp_obj
  split <;> first | rfl | (exfalso; revert hA; decide)
theorem dp_cel_A {g : dp_G} {ad : Nat → Nat} {M : dp_M} {h : Nat} (hA : dp_isA h = true) : dp_cel g ad M h = .inl (g.2.1, dp_len h, .inl (M h)) := by
  have hn : h ≠ 7 ∧ h ≠ 9 ∧ h ≠ 11 := by
    refine ⟨?_, ?_, ?_⟩ <;> (intro e; subst e; revert hA; decide)
  unfold dp_cel
  rw [dp_obj_A hA]
  simp only [hn.1, hn.2.1, hn.2.2, if_false]
theorem dp_obj_m {M : dp_M} {h : Nat} (h1 : 22 ≤ h) : dp_obj M h = none := by
  unfold dp_obj
  split <;> first | rfl | (exfalso; omega)
theorem dp_cel_ext {g : dp_G} {ad : Nat → Nat} {M M' : dp_M} {h : Nat} (e : ∀ j, M h j = M' h j) : dp_cel g ad M h = dp_cel g ad M' h := by
  rcases dp_isA_or h with hA | rfl | rfl | rfl | rfl | rfl | rfl | rfl | rfl | ⟨h1, h2⟩
  · rw [dp_cel_A hA, dp_cel_A hA, show M h = M' h from funext e]
  · rfl
  · simp only [dp_cel, dp_obj, e 5]
  · simp only [dp_cel, dp_obj, e 3]
  · simp only [dp_cel, dp_obj, e 4]
  · simp only [dp_cel, dp_obj, e 4]
  · rfl
  · rfl
  · rfl
  · unfold dp_cel
    rw [dp_obj_m h1, dp_obj_m h1, show M h = M' h from funext e]
theorem dp_wl_len {g : dp_G} {ad : Nat → Nat} {M : dp_M} : (dp_wl g ad M).length = 60 := by simp [dp_wl, dp_hs]
theorem dp_hs_at : ∀ h, h < 65 → (h < 22 ∨ 27 ≤ h) → dp_hs[dp_pos h]? = some h ∧ dp_pos h < 60 := by decide +kernel
theorem dp_hs_pos : ∀ k, k < 60 → ∃ h, h < 65 ∧ dp_hs[k]? = some h ∧ dp_pos h = k ∧ (h < 22 ∨ 27 ≤ h) := by decide +kernel
theorem dp_wl_at {g : dp_G} {ad : Nat → Nat} {M : dp_M} {ds : dp_D} {h : Nat} (hh : h < 65) (hk : h < 22 ∨ 27 ≤ h) : (dp_ww g ad M ds)[dp_pos h]? = some (ad h, dp_cel g ad M h) := by
  obtain ⟨h1, h2⟩ := dp_hs_at h hh hk
  unfold dp_ww
  rw [List.getElem?_append_left (by rw [dp_wl_len]; exact h2)]
  unfold dp_wl
  rw [List.getElem?_map, h1]
  rfl
theorem dp_isA_k {h : Nat} (hA : dp_isA h = true) : h < 22 ∨ 27 ≤ h := by
  simp only [dp_isA, Bool.not_eq_true', Bool.or_eq_false_iff, beq_eq_false_iff_ne] at hA
  omega
theorem dp_obj_k {M : dp_M} {h : Nat} {q : Nat × List Value} (hq : dp_obj M h = some q) : h < 22 ∨ 27 ≤ h := by
  rcases Nat.lt_or_ge h 22 with h1 | h1
  · exact Or.inl h1
  · rw [dp_obj_m h1] at hq
    cases hq
theorem dp_wl_A {g : dp_G} {ad : Nat → Nat} {M : dp_M} {ds : dp_D} {h : Nat} (hh : h < 65) (hA : dp_isA h = true) : (dp_ww g ad M ds)[dp_pos h]? = some (ad h, .inl (g.2.1, dp_len h, .inl (M h))) := by
  rw [dp_wl_at hh (dp_isA_k hA), dp_cel_A hA]
theorem dp_dl_at {g : dp_G} {ad : Nat → Nat} {M : dp_M} {ds : dp_D} {k h : Nat} {c : dp_Ce} (hk : ds[k]? = some (h, c)) : (dp_ww g ad M ds)[60 + k]? = some (h - 10000, dp_cec g ad c) := by
  unfold dp_ww
  rw [List.getElem?_append_right (by rw [dp_wl_len]; omega), dp_wl_len, Nat.add_sub_cancel_left]
  unfold dp_dl
  rw [List.getElem?_map, hk]
  rfl
theorem dp_set {g : dp_G} {ad : Nat → Nat} {M M' : dp_M} {ds : dp_D} {h : Nat} {e : va_E} (hh : h < 65) (hk0 : h < 22 ∨ 27 ≤ h) (he : e = dp_cel g ad M' h) (hk : ∀ j, j ≠ h → dp_cel g ad M j = dp_cel g ad M' j) : (dp_ww g ad M ds).set (dp_pos h) (ad h, e) = dp_ww g ad M' ds := by
  obtain ⟨h1, h2⟩ := dp_hs_at h hh hk0
  unfold dp_ww
  rw [List.set_append_left _ _ (by rw [dp_wl_len]; exact h2)]
  congr 1
  apply List.ext_getElem?
  intro j
  by_cases hj : j < 60
  · obtain ⟨h', g3, g1, g2, g4⟩ := dp_hs_pos j hj
    have e1 : ∀ N : dp_M, (dp_wl g ad N)[j]? = some (ad h', dp_cel g ad N h') := fun N => by
      unfold dp_wl
      rw [List.getElem?_map, g1]
      rfl
    by_cases hjh : h' = h
    · subst hjh
      rw [g2, List.getElem?_set_self (by rw [dp_wl_len]; exact hj), e1, he]
    · have hne : dp_pos h ≠ j := fun z => hjh (by
        rw [z] at h1
        rw [h1] at g1
        exact (Option.some.inj g1).symm)
      rw [List.getElem?_set_ne hne, e1, e1, hk h' hjh]
  · rw [List.getElem?_eq_none (by rw [List.length_set, dp_wl_len]; omega), List.getElem?_eq_none (by rw [dp_wl_len]; omega)]
theorem dp_row_s (M : dp_M) (h : Nat) (f : Nat → Int32) : dp_row M h f h = f := by funext j; simp [dp_row]
theorem dp_row_n (M : dp_M) {h a : Nat} (f : Nat → Int32) (ha : a ≠ h) : dp_row M h f a = M a := by funext j; simp [dp_row, ha]
theorem dp_set_A {g : dp_G} {ad : Nat → Nat} {M : dp_M} {ds : dp_D} {h : Nat} {f : Nat → Int32} (hh : h < 65) (hA : dp_isA h = true) : (dp_ww g ad M ds).set (dp_pos h) (ad h, .inl (g.2.1, dp_len h, .inl f)) = dp_ww g ad (dp_row M h f) ds :=
  dp_set hh (dp_isA_k hA) (by rw [dp_cel_A hA, dp_row_s]) (fun j hj => dp_cel_ext (fun i => by rw [dp_row_n M f hj]))
theorem dp_up_row (M : dp_M) (h k : Nat) (x : Int32) : dp_row M h (upd (M h) k x) = dp_up M h k x := by
  funext a j
  unfold dp_row dp_up upd
  by_cases ha : a = h
  · subst ha
    by_cases hj : j = k <;> simp [hj]
  · simp [ha]
theorem dp_gtv_get : ∀ (l : List Value) (k : Nat) (v : Value), dp_gtv l k = some v → l[k]? = some v
  | [], _, _, h => by cases h
  | a :: t, 0, v, h => by simpa [dp_gtv] using h
  | a :: t, k + 1, v, h => by
    rw [List.getElem?_cons_succ]
    exact dp_gtv_get t k v h
/-- a field of an object is set -/
theorem dp_set_F {g : dp_G} {ad : Nat → Nat} {M : dp_M} {ds : dp_D} {h k : Nat} {q : Nat × List Value} {x w : Int32} (hh : h < 65) (hq : dp_obj M h = some q) (hk : dp_gtv q.2 k = some (.int w)) : (dp_ww g ad M ds).set (dp_pos h) (ad h, .inr (q.1, (q.2.map (dp_cv ad)).set k (.int x))) = dp_ww g ad (dp_up M h k x) ds := by
  refine dp_set hh (dp_obj_k hq) ?_ (fun j hj => dp_cel_ext (fun i => by unfold dp_up; rw [if_neg (fun z => hj z.1)]))
  rcases dp_isA_or h with hA | rfl | rfl | rfl | rfl | rfl | rfl | rfl | rfl | ⟨h1, h2⟩
  · rw [dp_obj_A hA] at hq; cases hq
  · cases hq
    match k, hk with
    | 0, hk => cases hk
    | 1, hk => cases hk
    | 2, hk => cases hk
    | 3, hk => cases hk
    | 4, hk => cases hk
    | k + 5, hk => cases hk
  · cases hq
    match k, hk with
    | 0, hk => cases hk
    | 1, hk => cases hk
    | 2, hk => cases hk
    | 3, hk => cases hk
    | 4, hk => cases hk
    | 5, hk => rfl
    | k + 6, hk => cases hk
  · cases hq
    match k, hk with
    | 0, hk => cases hk
    | 1, hk => cases hk
    | 2, hk => cases hk
    | 3, hk => rfl
    | k + 4, hk => cases hk
  · cases hq
    match k, hk with
    | 0, hk => cases hk
    | 1, hk => cases hk
    | 2, hk => cases hk
    | 3, hk => cases hk
    | 4, hk => rfl
    | k + 5, hk => cases hk
  · cases hq
    match k, hk with
    | 0, hk => cases hk
    | 1, hk => cases hk
    | 2, hk => cases hk
    | 3, hk => cases hk
    | 4, hk => rfl
    | k + 5, hk => cases hk
  · cases hq
  · cases hq
  · cases hq
  · rw [dp_obj_m h1] at hq; cases hq
/-- a cell made is set -/
theorem dp_dset {g : dp_G} {ad : Nat → Nat} {M : dp_M} {ds : dp_D} {h k : Nat} {c : dp_Ce} : (dp_ww g ad M ds).set (60 + k) (h - 10000, dp_cec g ad c) = dp_ww g ad M (ds.set k (h, c)) := by
  unfold dp_ww
  rw [List.set_append_right _ _ (by rw [dp_wl_len]; omega), dp_wl_len, Nat.add_sub_cancel_left]
  congr 1
  unfold dp_dl
  rw [List.map_set]
theorem dp_rset {o : dp_O} {ds : dp_D} {h k : Nat} {c c0 : dp_Ce} (hr : dp_rep o ds) (hk : ds[k]? = some (h, c0)) (h1 : 10000 ≤ h) : dp_rep (dp_ou o h c) (ds.set k (h, c)) := by
  intro a d hd
  unfold dp_ou at hd
  have hl := (List.getElem?_eq_some_iff.mp hk).1
  by_cases ha : a = h
  · subst ha
    rw [if_pos rfl] at hd
    cases hd
    exact ⟨h1, k, by rw [List.getElem?_set_self hl]⟩
  · rw [if_neg ha] at hd
    obtain ⟨g1, k', g2⟩ := hr a d hd
    refine ⟨g1, k', ?_⟩
    rw [List.getElem?_set_ne (fun z => ha (by
      rw [z] at hk
      rw [hk] at g2
      cases g2
      rfl)), g2]
/-- a cell more -/
theorem dp_dpush {g : dp_G} {ad : Nat → Nat} {M : dp_M} {ds : dp_D} {q : Nat} {c : dp_Ce} : dp_ww g ad M ds ++ [(q, dp_cec g ad c)] = dp_ww g ad M (ds ++ [(10000 + q, c)]) := by
  unfold dp_ww
  rw [List.append_assoc]
  congr 1
  unfold dp_dl
  rw [List.map_append]
  simp only [List.map_cons, List.map_nil, Nat.add_sub_cancel_left]
theorem dp_rpush {o : dp_O} {ds : dp_D} {q : Nat} {c : dp_Ce} (hr : dp_rep o ds) : dp_rep (dp_ou o (10000 + q) c) (ds ++ [(10000 + q, c)]) := by
  intro a d hd
  unfold dp_ou at hd
  by_cases ha : a = 10000 + q
  · subst ha
    rw [if_pos rfl] at hd
    cases hd
    exact ⟨by omega, ds.length, by simp⟩
  · rw [if_neg ha] at hd
    obtain ⟨g1, k', g2⟩ := hr a d hd
    exact ⟨g1, k', by rw [List.getElem?_append_left (List.getElem?_eq_some_iff.mp g2).1, g2]⟩
theorem dp_fresh {g : dp_G} {ad : Nat → Nat} {M : dp_M} {o : dp_O} {ds : dp_D} {A : Nat → Prop} {q : Nat} {e : va_E} (hr : dp_rep o ds) (hD : va_D A (dp_ww g ad M ds ++ [(q, e)])) : o (10000 + q) = none := by
  cases h : o (10000 + q) with
  | none => rfl
  | some c =>
    exfalso
    obtain ⟨-, k, hk⟩ := hr _ _ h
    have h1 := dp_dl_at (g := g) (ad := ad) (M := M) hk
    rw [Nat.add_sub_cancel_left] at h1
    have hl := (List.getElem?_eq_some_iff.mp h1).1
    have h2 : (dp_ww g ad M ds ++ [(q, e)])[60 + k]? = some (q, dp_cec g ad c) := by rw [List.getElem?_append_left hl]; exact h1
    have h3 : (dp_ww g ad M ds ++ [(q, e)])[(dp_ww g ad M ds).length]? = some (q, e) := by simp
    have := hD.1 _ _ _ _ h2 h3 rfl
    omega
/-- the cell at a handle -/
theorem dp_dyn {g : dp_G} {ad : Nat → Nat} {b : Nat} {M : dp_M} {o : dp_O} {ds : dp_D} {h : Nat} {c : dp_Ce} (hr : dp_rep o ds) (ha : dp_adk ad b) (hc : o h = some c) : 10000 ≤ h ∧ ∃ k, ds[k]? = some (h, c) ∧ (dp_ww g ad M ds)[60 + k]? = some (ad h, dp_cec g ad c) := by
  obtain ⟨h1, k, hk⟩ := hr h c hc
  exact ⟨h1, k, hk, by rw [ha.of h1]; exact dp_dl_at hk⟩
-- locals
def dp_LH (ls : Array Slot) (nL : Nat) (ad : Nat → Nat) (L : dp_L) : Prop := ls.size = nL ∧ lv_wf ls ∧ ∀ (i : Nat) (v : Value), dp_gt L i = some v → ls[i]? = some (.val (dp_cv ad v))
def dp_as (ad : Nat → Nat) : Nat → dp_L → List (Nat × Value)
  | _, [] => []
  | i, some v :: t => (i, dp_cv ad v) :: dp_as ad (i + 1) t
  | i, none :: t => dp_as ad (i + 1) t
theorem dp_as_in (ad : Nat → Nat) : ∀ (L : dp_L) (i j : Nat) (v : Value), dp_gt L j = some v → (i + j, dp_cv ad v) ∈ dp_as ad i L
  | [], _, _, _, h => by cases h
  | some w :: t, i, 0, v, h => by
    cases h
    exact List.mem_cons_self
  | none :: t, i, 0, v, h => by cases h
  | some w :: t, i, j + 1, v, h => by
    have := dp_as_in ad t (i + 1) j v h
    rw [show i + (j + 1) = i + 1 + j by omega]
    exact List.mem_cons_of_mem _ this
  | none :: t, i, j + 1, v, h => by
    have := dp_as_in ad t (i + 1) j v h
    rw [show i + (j + 1) = i + 1 + j by omega]
    exact this
theorem dp_as_out (ad : Nat → Nat) : ∀ (L : dp_L) (i : Nat) (p : Nat × Value), p ∈ dp_as ad i L → ∃ j v, dp_gt L j = some v ∧ p = (i + j, dp_cv ad v)
  | [], _, _, h => by cases h
  | some w :: t, i, p, h => by
    rcases List.mem_cons.mp h with rfl | h
    · exact ⟨0, w, rfl, rfl⟩
    · obtain ⟨j, v, h1, h2⟩ := dp_as_out ad t (i + 1) p h
      exact ⟨j + 1, v, h1, by rw [h2, show i + 1 + j = i + (j + 1) by omega]⟩
  | none :: t, i, p, h => by
    obtain ⟨j, v, h1, h2⟩ := dp_as_out ad t (i + 1) p h
    exact ⟨j + 1, v, h1, by rw [h2, show i + 1 + j = i + (j + 1) by omega]⟩
theorem dp_LH.has {ls : Array Slot} {nL : Nat} {ad : Nat → Nat} {L : dp_L} (h : dp_LH ls nL ad L) : lv_has ls nL (dp_as ad 0 L) := by
  refine ⟨h.1, h.2.1, fun p hp => ?_⟩
  obtain ⟨j, v, h1, rfl⟩ := dp_as_out ad L 0 p hp
  have := h.2.2 j v h1
  simpa using this
theorem dp_LH.of {ls : Array Slot} {nL : Nat} {ad : Nat → Nat} {L : dp_L} {l : List (Nat × Value)} (h : lv_has ls nL l) (hl : ∀ j v, dp_gt L j = some v → (j, dp_cv ad v) ∈ l) : dp_LH ls nL ad L :=
  ⟨h.1, h.2.1, fun i v hi => h.2.2 _ (hl i v hi)⟩
theorem dp_s1_gt : ∀ (L : dp_L) (i : Nat) (v : Value) (j : Nat) (w : Value), dp_gt (dp_s1 L i v) j = some w → (j = i ∧ w = v) ∨ (j ≠ i ∧ dp_gt L j = some w ∧ ¬ (j + 1 = i ∧ w.category = 2))
  | [], _, _, _, _, h => by cases h
  | a :: t, 0, v, 0, w, h => by cases h; exact Or.inl ⟨rfl, rfl⟩
  | a :: t, 0, v, j + 1, w, h => Or.inr ⟨by omega, h, by omega⟩
  | a :: t, 1, v, 0, w, h => by
    refine Or.inr ⟨by omega, ?_, ?_⟩
    · have h : dp_c2 a = some w := h
      unfold dp_c2 at h
      split at h <;> first | (cases h; done) | exact h
    · have h : dp_c2 a = some w := h
      unfold dp_c2 at h
      rintro ⟨-, h2⟩
      split at h
      · cases h
      · cases h
      · rename_i n1 n2
        cases w <;> first | (cases h2; done) | exact n1 _ h | exact n2 _ h
  | a :: t, 1, v, j + 1, w, h => by
    have h : dp_gt (dp_s1 t 0 v) j = some w := h
    rcases dp_s1_gt t 0 v j w h with ⟨h1, h2⟩ | ⟨h1, h2, h3⟩
    · exact Or.inl ⟨by omega, h2⟩
    · exact Or.inr ⟨by omega, h2, by omega⟩
  | a :: t, i + 2, v, 0, w, h => Or.inr ⟨by omega, h, by omega⟩
  | a :: t, i + 2, v, j + 1, w, h => by
    have h : dp_gt (dp_s1 t (i + 1) v) j = some w := h
    rcases dp_s1_gt t (i + 1) v j w h with ⟨h1, h2⟩ | ⟨h1, h2, h3⟩
    · exact Or.inl ⟨by omega, h2⟩
    · exact Or.inr ⟨by omega, h2, fun z => h3 ⟨by omega, z.2⟩⟩
theorem dp_s2_gt : ∀ (L : dp_L) (i : Nat) (v : Value) (j : Nat) (w : Value), dp_gt (dp_s2 L i v) j = some w → (j = i ∧ w = v) ∨ (j ≠ i ∧ j ≠ i + 1 ∧ dp_gt L j = some w ∧ ¬ (j + 1 = i ∧ w.category = 2))
  | [], _, _, _, _, h => by cases h
  | a :: t, 0, v, 0, w, h => by cases h; exact Or.inl ⟨rfl, rfl⟩
  | [a], 0, v, j + 1, w, h => by cases h
  | a :: b :: t, 0, v, 1, w, h => by cases h
  | a :: b :: t, 0, v, j + 2, w, h => Or.inr ⟨by omega, by omega, h, by omega⟩
  | a :: t, 1, v, 0, w, h => by
    refine Or.inr ⟨by omega, by omega, ?_, ?_⟩
    · have h : dp_c2 a = some w := h
      unfold dp_c2 at h
      split at h <;> first | (cases h; done) | exact h
    · have h : dp_c2 a = some w := h
      unfold dp_c2 at h
      rintro ⟨-, h2⟩
      split at h
      · cases h
      · cases h
      · rename_i n1 n2
        cases w <;> first | (cases h2; done) | exact n1 _ h | exact n2 _ h
  | a :: t, 1, v, j + 1, w, h => by
    have h : dp_gt (dp_s2 t 0 v) j = some w := h
    rcases dp_s2_gt t 0 v j w h with ⟨h1, h2⟩ | ⟨h1, h1', h2, h3⟩
    · exact Or.inl ⟨by omega, h2⟩
    · exact Or.inr ⟨by omega, by omega, h2, by omega⟩
  | a :: t, i + 2, v, 0, w, h => Or.inr ⟨by omega, by omega, h, by omega⟩
  | a :: t, i + 2, v, j + 1, w, h => by
    have h : dp_gt (dp_s2 t (i + 1) v) j = some w := h
    rcases dp_s2_gt t (i + 1) v j w h with ⟨h1, h2⟩ | ⟨h1, h1', h2, h3⟩
    · exact Or.inl ⟨by omega, h2⟩
    · exact Or.inr ⟨by omega, by omega, h2, fun z => h3 ⟨by omega, z.2⟩⟩
theorem dp_LH.s1 {ls' : Array Slot} {nL : Nat} {ad : Nat → Nat} {L : dp_L} {i : Nat} {v v' : Value} (hv : v' = dp_cv ad v) (h' : lv_has ls' nL ((i, v') :: (dp_as ad 0 L).filter (fun q => !(q.1 == i) && !(q.1 + 1 == i && q.2.category == 2)))) : dp_LH ls' nL ad (dp_s1 L i v) := by
  subst hv
  refine dp_LH.of h' fun j w hw => ?_
  rcases dp_s1_gt L i v j w hw with ⟨rfl, rfl⟩ | ⟨h1, h2, h3⟩
  · exact List.mem_cons_self
  · refine List.mem_cons_of_mem _ (List.mem_filter.mpr ⟨by simpa using dp_as_in ad L 0 j w h2, ?_⟩)
    simp only [dp_cv_cat, Bool.and_eq_true, Bool.not_eq_true', beq_eq_false_iff_ne, Bool.and_eq_false_iff]
    refine ⟨h1, ?_⟩
    by_cases hj : j + 1 = i
    · exact Or.inr (fun z => h3 ⟨hj, z⟩)
    · exact Or.inl hj
theorem dp_LH.s2 {ls' : Array Slot} {nL : Nat} {ad : Nat → Nat} {L : dp_L} {i : Nat} {v v' : Value} (hv : v' = dp_cv ad v) (h' : lv_has ls' nL ((i, v') :: (dp_as ad 0 L).filter (fun q => !(q.1 == i) && (!(q.1 == i + 1) && !(q.1 + 1 == i && q.2.category == 2))))) : dp_LH ls' nL ad (dp_s2 L i v) := by
  subst hv
  refine dp_LH.of h' fun j w hw => ?_
  rcases dp_s2_gt L i v j w hw with ⟨rfl, rfl⟩ | ⟨h1, h1', h2, h3⟩
  · exact List.mem_cons_self
  · refine List.mem_cons_of_mem _ (List.mem_filter.mpr ⟨by simpa using dp_as_in ad L 0 j w h2, ?_⟩)
    simp only [dp_cv_cat, Bool.and_eq_true, Bool.not_eq_true', beq_eq_false_iff_ne, Bool.and_eq_false_iff]
    refine ⟨h1, h1', ?_⟩
    by_cases hj : j + 1 = i
    · exact Or.inr (fun z => h3 ⟨hj, z⟩)
    · exact Or.inl hj
theorem dp_msk_gt : ∀ (b : List Bool) (L : dp_L) (i : Nat) (v : Value), dp_gt (dp_msk b L) i = some v → dp_gt L i = some v
  | [], [], _, _, h => h
  | [], _ :: _, _, _, h => h
  | _ :: _, [], _, _, h => h
  | true :: bs, a :: t, 0, v, h => h
  | false :: bs, a :: t, 0, v, h => by cases h
  | c :: bs, a :: t, i + 1, v, h => dp_msk_gt bs t i v h
theorem dp_none_gt : ∀ (L : dp_L) (i : Nat), dp_gt (L.map fun _ => none) i = none
  | [], _ => rfl
  | _ :: _, 0 => rfl
  | _ :: t, i + 1 => dp_none_gt t i
/-- the tables' row of the arrays of int arrays, by its parts -/
theorem ct_aoas {U : State} (h : va_AOA .int U) :
    ∃ comp c k, U.vm.findClass (FieldType.array .int).toString = some comp ∧ (U.vm.classes.findIdx? fun x => match x.kind with | .array component _ => component == comp | _ => false) = some c ∧ U.vm.classes[c]? = some k ∧ k.kind = .array comp (.array .int) ∧ U.vm.findClass ("[" ++ (FieldType.array .int).toString) = some c := by
  have h : (Cond.arrayOver (.array .int)).before #[] U = true := h
  simp only [Cond.before, Cond.holds, Cond.value, beq_iff_eq] at h
  cases hc : U.vm.findClass (FieldType.array .int).toString with
  | none => simp [hc] at h
  | some comp =>
    simp only [hc, Option.bind_some, Option.bind_eq_some_iff, Option.map_eq_some_iff] at h
    obtain ⟨c, hi, k, hk, hb⟩ := h
    obtain ⟨hlt, hp, -⟩ := Array.findIdx?_eq_some_iff_getElem.mp hi
    have hkk : U.vm.classes[c] = k := (Array.getElem?_eq_some_iff.mp hk).2
    rw [hkk] at hp
    cases hkind : k.kind with
    | array component ty =>
      rw [hkind] at hb hp
      simp at hb hp
      exact ⟨comp, c, k, rfl, hi, hk, by rw [hkind, hp, hb.1], hb.2⟩
    | _ => rw [hkind] at hb; simp at hb
theorem ct_aoa {u U : State} (hal : u.vm.Alike U.vm) (h : va_AOA .int u) : va_AOA .int U := by
  obtain ⟨comp, c, k, hcomp, hidx, hk, hkind, hname⟩ := ct_aoas h
  obtain ⟨k', hk', hek'⟩ := hal.2.2 _ _ hk
  have hkind' : k'.kind = .array comp (.array .int) := by rw [hek']; exact hkind
  have hname' : U.vm.findClass ("[" ++ (FieldType.array .int).toString) = some c := by rw [hal.findClass]; exact hname
  have hcomp' : U.vm.findClass (FieldType.array .int).toString = some comp := by rw [hal.findClass]; exact hcomp
  show (Cond.arrayOver (.array .int)).before #[] U = true
  simp only [Cond.before, Cond.holds, Cond.value, hcomp', Option.bind_some, beq_iff_eq]
  rw [Option.bind_eq_some_iff]
  refine ⟨c, (hal.findIdx?_eqK _ (fun _ => rfl)).trans hidx, ?_⟩
  simp [hk', hkind', hname']
-- what is fixed around the world
def dp_bw : List Cond := [.declares (Bundle.initS "java/lang/RuntimeException"), .declares (Bundle.initS "java/lang/Exception"), .declares (Bundle.initS "java/lang/Throwable"), .castable (dp_exn 0) (dp_exn 0), .castable (dp_exn 1) (dp_exn 1), .castable (dp_exn 2) (dp_exn 2)]
def dp_nest : Cond := .methodLinkNest RL 48 (dp_nm 59) RL
def dp_nc : List (String × String) := [(dp_exn 0, dp_exn 1), (dp_exn 0, dp_exn 2), (dp_exn 1, dp_exn 0), (dp_exn 1, dp_exn 2), (dp_exn 2, dp_exn 0), (dp_exn 2, dp_exn 1)]
def dp_GF (g : dp_G) (X : dp_X) (b : Nat) (A : Nat → Prop) (U : State) : Prop :=
  va_K g.1 vwCl (T3 g) U ∧ vx_Zq Bundle.tN "UNASSIGNED_STACK" Bundle.steD A U U.heap ∧ vx_Zq Bundle.tN "SUPPRESSED_SENTINEL" Bundle.listD A U U.heap ∧
  va_X b X.1 X.2 U U.heap ∧ b < U.heap.size ∧ ¬ A b ∧ (∀ w ∈ dp_bw, va_Nw w U) ∧ (∀ e ∈ dp_nc, va_Nc e.1 e.2 U) ∧ (∀ e ∈ dp_st, ∃ a, vk_R (dp_o e.1) e.2.1 e.2.2 a U) ∧ (∀ q, U.heap.size ≤ q → A q) ∧ va_AOA .int U ∧ va_AO RX4 U ∧ va_Nw dp_nest U
theorem dp_bw_warm {s U : State} (hW : s.WarmedH U.vm) (h : ∀ w ∈ dp_bw, va_Nw w s) : ∀ w ∈ dp_bw, va_Nw w U := by
  intro w hw
  have h1 := h w hw
  simp only [dp_bw, List.mem_cons, List.not_mem_nil, or_false] at hw
  rcases hw with rfl | rfl | rfl | rfl | rfl | rfl
  · exact va_Nw.warmD hW h1
  · exact va_Nw.warmD hW h1
  · exact va_Nw.warmD hW h1
  · exact va_Nw.warmC hW h1
  · exact va_Nw.warmC hW h1
  · exact va_Nw.warmC hW h1
theorem dp_GF.go {g : dp_G} {X : dp_X} {b : Nat} {A : Nat → Prop} {s U : State} {H : Heap} {locs : List Loc} (h : dp_GF g X b A s) (hW : s.WarmedH U.vm) (hU : U.heap = H) (hS : va_S A s.heap H locs) : dp_GF g X b A U := by
  obtain ⟨h1, h2, h3, h4, h5, h6, h7, h8, h9, h10, h11, h12, h13⟩ := h
  have hk : ∀ a : Nat, a < s.heap.size → ¬ A a → U.heap[a]? = s.heap[a]? := fun a ha hn => by rw [hU]; exact hS.2.1 a ha hn
  refine ⟨va_K.moved hW.alike h1, (vx_Zq.moved hW.alike h2).kept hk, (vx_Zq.moved hW.alike h3).kept hk, va_X.moved hW.alike (h4.kept (hk b h5 h6)), by rw [hU]; exact Nat.lt_of_lt_of_le h5 hS.1, h6, dp_bw_warm hW h7, fun e he => va_Nc.moved hW.alike (h8 e he), fun e he => ?_, fun q hq => h10 q (Nat.le_trans hS.1 (by rw [← hU]; exact hq)), ct_aoa hW.alike h11, va_AO.moved hW.alike h12, va_Nw.warmM hW h13⟩
  obtain ⟨a, ha⟩ := h9 e he
  exact ⟨a, vk_R.warm hW ha⟩
/-- a call begins -/
theorem dp_GF.call {g : dp_G} {X : dp_X} {b : Nat} {A : Nat → Prop} {U : State} {f : JFrame} {mk : MethodId} {a : Array Value} (h : dp_GF g X b A U) : dp_GF g X b A (U.calling f mk a) := by
  obtain ⟨h1, h2, h3, h4, h5, h6, h7, h8, h9, h10, h11, h12, h13⟩ := h
  refine ⟨va_K.moved (u := U) (U := U.calling f mk a) (Vm.Alike.refl U.vm) h1, vx_Zq.moved (u := U) (U := U.calling f mk a) (Vm.Alike.refl U.vm) h2, vx_Zq.moved (u := U) (U := U.calling f mk a) (Vm.Alike.refl U.vm) h3, va_X.moved (u := U) (U := U.calling f mk a) (Vm.Alike.refl U.vm) h4, h5, h6, fun w hw => va_Nw.same (u := U) (List.all_eq_true.mp (show dp_bw.all Cond.onTables = true by decide +kernel) w hw) rfl (h7 w hw), fun e he => va_Nc.moved (u := U) (U := U.calling f mk a) (Vm.Alike.refl U.vm) (h8 e he), fun e he => ?_, h10, ct_aoa (u := U) (U := U.calling f mk a) (Vm.Alike.refl U.vm) h11, va_AO.moved (u := U) (U := U.calling f mk a) (Vm.Alike.refl U.vm) h12, va_Nw.same (u := U) (U := U.calling f mk a) rfl rfl h13⟩
  obtain ⟨q, hq⟩ := h9 e he
  exact ⟨q, vk_R.same (u := U) rfl hq⟩
end
section
-- the kit's rows for constructors (starting text, kit/laws)
/-! ===== BEGIN a constructor that throws (launches without stack traces) ===== -/
section VXIA
variable {p : Program} {l : Launch} {e : Env} {R : Room} {s : State} {m : MethodId} {args : Array Value} {below : List Frame} {meth : Method} {c : Code} {T : State} {locs : List Loc} {cells slots : Nat}
theorem vx_callI (X : Stand p l e R s m args below meth c T locs cells slots) (hexec : p.tables.exec = Jvm.exec) {own : String} {index : Nat} {y : MethodName} {bytes : ByteArray} {maxL : Nat}
    (hown : s.vm.findClass own = some m.cls) (hy1 : y.name = "<init>") (hlink : (Cond.methodLink own index y).before args s = true) (hinst : (Cond.instanceMethod y).before args s = true)
    (hcode : (Cond.code y bytes maxL none).before args s = true) (hy : y.cls ≠ "java/lang/invoke/MethodHandle" ∧ y.cls ≠ "java/lang/invoke/VarHandle")
    {W9 : Nat} {Pre : Pt → Array Value → Prop} {Post : Pt → Array Value → Option Value → Pt → Prop} {PostX : Pt → Array Value → Addr → Pt → Prop} (hK : vx_Back l R p e below s args y 3 W9 Pre Post PostX)
    {g : JFrame} (hg : g.method = m) (hsize : g.locals.size = c.maxLocals) {a : Addr} {argsL rest : List Value} (hlen : ∀ sig, parseMethodDescriptor y.desc = some sig → argsL.length = sig.parameters.length)
    (hstack : g.stack = argsL.reverse ++ .ref a :: rest) (hW : 2 * g.monitorRoom + (rest.map fun v => v.category).sum ≤ W9) (hdg : decode c.code g.pc = .ok (.invokespecial index, 3))
    (hpre : ∀ vm₁, s.WarmedH vm₁ → Pre ⟨T.setVm vm₁, locs, cells, slots⟩ (Value.ref a :: argsL).toArray) :
    (∃ (v : Option Value) (vm₁ : Vm) (B : Pt), s.WarmedH vm₁ ∧ Stand p l e R s m args below meth c B.U B.locs B.cells B.slots ∧ Post ⟨T.setVm vm₁, locs, cells, slots⟩ (Value.ref a :: argsL).toArray v B ∧
      ∀ target, Steps p.tables e below (B.U.setTop { g with pc := g.pc + 3, stack := v.toList ++ rest }) target → Steps p.tables e below (T.setTop g) target) ∨
    (∃ (q : Addr) (vm₁ : Vm) (B : Pt), s.WarmedH vm₁ ∧ Stand p l e R s m args below meth c B.U B.locs B.cells B.slots ∧ PostX ⟨T.setVm vm₁, locs, cells, slots⟩ (Value.ref a :: argsL).toArray q B ∧
      Steps p.tables e below (T.setTop g) ((B.U.setTop { g with stack := rest }).pushFrame (.throwing q))) := by
  subst hg
  have hpl : e.platform.magicAccessors = ({} : Platform).magicAccessors := by rw [X.admits.platform]
  obtain ⟨mk, methM, cM, kP, vm₁, hnamed, hmethM, hcodeM, -, hlocalsM, -, hkP, -, hW₁, hstep₁⟩ := Steps.initColdArgs (e := e) X.here hexec X.warmed hpl hown hy1 hy hlink hinst hcode (f := g) rfl hlen hstack hdg
  have X₁ := X.noted hW₁
  rcases hK g.method meth c ⟨T.setVm vm₁, locs, cells, slots⟩ { g with stack := rest } (.invokespecial index) mk (Value.ref a :: argsL).toArray X₁ rfl hsize hdg hW (X₁.named hnamed) (hpre vm₁ X₁.warmed) with ⟨v, B, X', hpost, hsteps⟩ | ⟨q, B, X', hpost, hsteps⟩
  · exact Or.inl ⟨v, vm₁, B, X₁.warmed, X', hpost, fun target h => hstep₁ _ fun acts => by rw [doInvoke_state]; exact hsteps.trans h⟩
  · exact Or.inr ⟨q, vm₁, B, X₁.warmed, X', hpost, hstep₁ _ fun acts => by rw [doInvoke_state]; exact hsteps⟩
end VXIA
section VXIB
variable {p : Program} {l : Launch} {e : Env} {R : Room} {s : State} {m : MethodId} {args : Array Value} {below : List Frame} {meth : Method} {c : Code} {H : Heap} {locs : List Loc} {cells slots : Nat}
variable {y : MethodName} {bytes cc : ByteArray} {maxL nL mc ms n index : Nat} {ret : Option FieldType} {ws : List Cond} {rm : Room} {Pc : Array Value → State → Prop} {Qc : Array Value → State → Outcome → State → Prop} {XC : String → State → State → Prop} {free : Addr → Prop} {Ts : List Cond} {own C : String} {b : Addr} {As rest : List Value} {g : JFrame}
theorem vx_runI (S : CallFix p m c cc nL s args Ts own) (hM : vx_Met l y ws rm Pc Qc XC mc ms free) (cw : CallB R s args own index y bytes maxL none ws rm mc ms n ∧ y.name = "<init>" ∧ (Cond.instanceMethod y).before args s = true) (hp : PreS s H Pc (.ref b :: As))
    (hg : g.method = m) (hn : As.length = n) (hsize : g.locals.size = nL) (hstack : g.stack = As.reverse ++ .ref b :: rest) (hW : 2 * g.monitorRoom + (rest.map fun v => v.category).sum ≤ 8) (hdg : decode cc g.pc = .ok (.invokespecial index, 3)) (hf : cells + mc ≤ R.cells ∧ slots + ms ≤ R.slots) :
    vx_Run p l e R s m args below meth c H locs cells slots mc ms g rest (Qc (Value.ref b :: As).toArray) XC free := by
  have hK : vx_Back l R p e below s args y 3 8 (PreOf R mc ms Pc) (PostOf Qc mc ms free) (vx_Post XC mc ms free) := vx_callBack cw.1 hM hp.1
  obtain ⟨⟨-, -, -, -, -, -, hcode, -, hy, hlen, hl⟩, hy1, hin⟩ := cw
  obtain ⟨hx, hb, hml, ho, -⟩ := S
  have hPc := hp.2
  intro T hT X
  rcases vx_callI X hx (bytes := bytes) (maxL := maxL) ho hy1 hl hin hcode hy hK hg (hsize.trans hml.symm) (a := b) (argsL := As) (rest := rest) (fun sig h => hn.trans (hlen sig h)) hstack hW (by rw [hb]; exact hdg)
    (fun vm₁ hW₁ => ⟨hf.1, hf.2, hPc (T.setVm vm₁) hT hW₁⟩) with ⟨v, vm₁, ⟨U', l2, c2, s2⟩, hW₁, X', ⟨g', mk, t, L, e1, e2, hq, h1, hL, h2, h3⟩, st⟩ | ⟨q, vm₁, ⟨U', l2, c2, s2⟩, hW₁, X', ⟨g', mk, t, L, E, ce, e1, e2, hq, hce, hcv, hcl, h1, hL, h2, h3⟩, st⟩
  · dsimp only [Pt.U, Pt.locs, Pt.cells, Pt.slots] at X' e1 e2 h1 h2 h3 st
    subst h1; subst h2; subst h3
    exact Or.inl ⟨v, (T.setVm vm₁).calling g' mk (Value.ref b :: As).toArray, t, U', L, hT, X', hL, e1, e2, hq, st⟩
  · dsimp only [Pt.U, Pt.locs, Pt.cells, Pt.slots] at X' e1 e2 h1 h2 h3 st hcl
    subst h1; subst h2; subst h3
    exact Or.inr ⟨q, (T.setVm vm₁).calling g' mk (Value.ref b :: As).toArray, t, U', L, E, ce, hT, X', hL, e1, e2, hq, hce, hcv, vx_cls hW₁ hcl, st⟩
end VXIB
/-! ===== END ===== -/
/-! ===== BEGIN a private constructor of a nest mate that throws ===== -/
section VXIC
variable {p : Program} {l : Launch} {e : Env} {R : Room} {s : State} {m : MethodId} {args : Array Value} {below : List Frame} {meth : Method} {c : Code} {T : State} {locs : List Loc} {cells slots : Nat}
theorem vx_callIN (X : Stand p l e R s m args below meth c T locs cells slots) (hexec : p.tables.exec = Jvm.exec) {own : String} {index : Nat} {host : String} {y : MethodName} {bytes : ByteArray} {maxL : Nat}
    (hown : s.vm.findClass own = some m.cls) (hy1 : y.name = "<init>") (hlink : (Cond.methodLinkNest own index y host).before args s = true) (hinst : (Cond.instanceMethod y).before args s = true)
    (hcode : (Cond.code y bytes maxL none).before args s = true) (hy : y.cls ≠ "java/lang/invoke/MethodHandle" ∧ y.cls ≠ "java/lang/invoke/VarHandle")
    {W9 : Nat} {Pre : Pt → Array Value → Prop} {Post : Pt → Array Value → Option Value → Pt → Prop} {PostX : Pt → Array Value → Addr → Pt → Prop} (hK : vx_Back l R p e below s args y 3 W9 Pre Post PostX)
    {g : JFrame} (hg : g.method = m) (hsize : g.locals.size = c.maxLocals) {a : Addr} {argsL rest : List Value} (hlen : ∀ sig, parseMethodDescriptor y.desc = some sig → argsL.length = sig.parameters.length)
    (hstack : g.stack = argsL.reverse ++ .ref a :: rest) (hW : 2 * g.monitorRoom + (rest.map fun v => v.category).sum ≤ W9) (hdg : decode c.code g.pc = .ok (.invokespecial index, 3))
    (hpre : ∀ vm₁, s.WarmedH vm₁ → Pre ⟨T.setVm vm₁, locs, cells, slots⟩ (Value.ref a :: argsL).toArray) :
    (∃ (v : Option Value) (vm₁ : Vm) (B : Pt), s.WarmedH vm₁ ∧ Stand p l e R s m args below meth c B.U B.locs B.cells B.slots ∧ Post ⟨T.setVm vm₁, locs, cells, slots⟩ (Value.ref a :: argsL).toArray v B ∧
      ∀ target, Steps p.tables e below (B.U.setTop { g with pc := g.pc + 3, stack := v.toList ++ rest }) target → Steps p.tables e below (T.setTop g) target) ∨
    (∃ (q : Addr) (vm₁ : Vm) (B : Pt), s.WarmedH vm₁ ∧ Stand p l e R s m args below meth c B.U B.locs B.cells B.slots ∧ PostX ⟨T.setVm vm₁, locs, cells, slots⟩ (Value.ref a :: argsL).toArray q B ∧
      Steps p.tables e below (T.setTop g) ((B.U.setTop { g with stack := rest }).pushFrame (.throwing q))) := by
  subst hg
  have hpl : e.platform.magicAccessors = ({} : Platform).magicAccessors := by rw [X.admits.platform]
  obtain ⟨mk, methM, cM, kP, vm₁, hnamed, hmethM, hcodeM, -, hlocalsM, -, hkP, -, hW₁, hstep₁⟩ := Steps.initColdArgsNest (e := e) X.here hexec X.warmed hpl hown hy1 hy hlink hinst hcode (f := g) rfl hlen hstack hdg
  have X₁ := X.noted hW₁
  rcases hK g.method meth c ⟨T.setVm vm₁, locs, cells, slots⟩ { g with stack := rest } (.invokespecial index) mk (Value.ref a :: argsL).toArray X₁ rfl hsize hdg hW (X₁.named hnamed) (hpre vm₁ X₁.warmed) with ⟨v, B, X', hpost, hsteps⟩ | ⟨q, B, X', hpost, hsteps⟩
  · exact Or.inl ⟨v, vm₁, B, X₁.warmed, X', hpost, fun target h => hstep₁ _ fun acts => by rw [doInvoke_state]; exact hsteps.trans h⟩
  · exact Or.inr ⟨q, vm₁, B, X₁.warmed, X', hpost, hstep₁ _ fun acts => by rw [doInvoke_state]; exact hsteps⟩
end VXIC
section VXID
variable {p : Program} {l : Launch} {e : Env} {R : Room} {s : State} {m : MethodId} {args : Array Value} {below : List Frame} {meth : Method} {c : Code} {H : Heap} {locs : List Loc} {cells slots : Nat}
theorem vx_runIN {y : MethodName} {bytes cc : ByteArray} {maxL nL mc ms n index : Nat} {ws : List Cond} {rm : Room} {Pc : Array Value → State → Prop} {Qc : Array Value → State → Outcome → State → Prop} {XC : String → State → State → Prop} {free : Addr → Prop} {Ts : List Cond} {own host : String} {b : Addr} {As rest : List Value} {g : JFrame}
    (S : CallFix p m c cc nL s args Ts own) (hM : vx_Met l y ws rm Pc Qc XC mc ms free) (cw : va_CN R s args own index y host bytes maxL none ws rm mc ms n ∧ y.name = "<init>" ∧ (Cond.instanceMethod y).before args s = true) (hp : PreS s H Pc (.ref b :: As))
    (hg : g.method = m) (hn : As.length = n) (hsize : g.locals.size = nL) (hstack : g.stack = As.reverse ++ .ref b :: rest) (hW : 2 * g.monitorRoom + (rest.map fun v => v.category).sum ≤ 8) (hdg : decode cc g.pc = .ok (.invokespecial index, 3)) (hf : cells + mc ≤ R.cells ∧ slots + ms ≤ R.slots) :
    vx_Run p l e R s m args below meth c H locs cells slots mc ms g rest (Qc (Value.ref b :: As).toArray) XC free := by
  obtain ⟨⟨⟨hrc, hrs, hfr, hlo, hws, hcw⟩, hcode, hini, hy, hlen, hl⟩, hx1, hx2⟩ := cw
  have hK : vx_Back l R p e below s args y 3 8 (PreOf R mc ms Pc) (PostOf Qc mc ms free) (vx_Post XC mc ms free) := vx_back (bytes := bytes) (maxL := maxL) (ret := none) hM hp.1 hrc hrs hfr hlo hws hcw (fun a' U hW => word_at hW (Or.inl (by first | rfl | simp [Cond.onTables, Cond.keeps, Cond.steady])) hini)
  obtain ⟨hx, hb, hml, ho, -⟩ := S
  have hPc := hp.2
  intro T hT X
  rcases vx_callIN X hx (bytes := bytes) (maxL := maxL) ho hx1 hl hx2 hcode hy hK hg (hsize.trans hml.symm) (a := b) (argsL := As) (rest := rest) (fun sig h => hn.trans (hlen sig h)) hstack hW (by rw [hb]; exact hdg)
    (fun vm₁ hW₁ => ⟨hf.1, hf.2, hPc (T.setVm vm₁) hT hW₁⟩) with ⟨v, vm₁, ⟨U', l2, c2, s2⟩, hW₁, X', ⟨g', mk, t, L, e1, e2, hq, h1, hL, h2, h3⟩, st⟩ | ⟨q, vm₁, ⟨U', l2, c2, s2⟩, hW₁, X', ⟨g', mk, t, L, E, ce, e1, e2, hq, hce, hcv, hcl, h1, hL, h2, h3⟩, st⟩
  · dsimp only [Pt.U, Pt.locs, Pt.cells, Pt.slots] at X' e1 e2 h1 h2 h3 st
    subst h1; subst h2; subst h3
    exact Or.inl ⟨v, (T.setVm vm₁).calling g' mk (Value.ref b :: As).toArray, t, U', L, hT, X', hL, e1, e2, hq, st⟩
  · dsimp only [Pt.U, Pt.locs, Pt.cells, Pt.slots] at X' e1 e2 h1 h2 h3 st hcl
    subst h1; subst h2; subst h3
    exact Or.inr ⟨q, (T.setVm vm₁).calling g' mk (Value.ref b :: As).toArray, t, U', L, E, ce, hT, X', hL, e1, e2, hq, hce, hcv, vx_cls hW₁ hcl, st⟩
end VXID
/-! ===== END ===== -/
end
section
/-! the words that the methods need, and their facts -/
-- words
def dp_wc : List Cond := dp_cw0 ++ (dp_cw1 ++ (dp_cw2 ++ dp_cw3))
def dp_wd : List Cond := dp_wc ++ (dp_n1 ++ (dp_n2 ++ (dp_n3 ++ dp_x2)))
def dp_gw (w : Cond) : Prop := w ∈ lw_tbl ∧ ((w.onTables && w.keeps) = true ∨ ∃ ty, w = .arrayClass ty)
theorem dp_gw_of {l : List Cond} {ix : List Nat} (h1 : l = ix.filterMap (fun i => lw_tbl[i]?)) (h2 : l.all goodWord = true) : ∀ w ∈ l, dp_gw w := by
  intro w hw
  refine ⟨?_, good_of_word (List.all_eq_true.mp h2 w hw)⟩
  rw [h1] at hw
  obtain ⟨i, -, hi⟩ := List.mem_filterMap.mp hw
  exact List.mem_of_getElem? hi
theorem dp_wd_good : ∀ w ∈ dp_wd, dp_gw w := by
  intro w hw
  simp only [dp_wd, dp_wc, List.mem_append] at hw
  rcases hw with (h | h | h | h) | h | h | h | h
  · exact dp_gw_of dp_cw0_in dp_cw0_good w h
  · exact dp_gw_of dp_cw1_in dp_cw1_good w h
  · exact dp_gw_of dp_cw2_in dp_cw2_good w h
  · exact dp_gw_of dp_cw3_in dp_cw3_good w h
  · exact dp_gw_of dp_n1_in dp_n1_good w h
  · exact dp_gw_of dp_n2_in dp_n2_good w h
  · exact dp_gw_of dp_n3_in dp_n3_good w h
  · exact dp_gw_of dp_x2_in dp_x2_good w h
theorem dp_wd_code {z : Nat} (hz : z < 77) : dp_codeW z ∈ dp_wd := by
  have key : ∀ {a k : Nat} {l : List Cond}, (List.range' a k).map dp_codeW = l → a ≤ z → z < a + k → dp_codeW z ∈ l := fun e h1 h2 => by
    rw [← e]; exact List.mem_map.mpr ⟨z, List.mem_range'_1.mpr ⟨h1, h2⟩, rfl⟩
  simp only [dp_wd, dp_wc, List.mem_append]
  rcases Nat.lt_or_ge z 25 with h | h
  · exact Or.inl (Or.inl (key dp_cw0_is (by omega) (by omega)))
  rcases Nat.lt_or_ge z 50 with h | h
  · exact Or.inl (Or.inr (Or.inl (key dp_cw1_is (by omega) (by omega))))
  rcases Nat.lt_or_ge z 75 with h | h
  · exact Or.inl (Or.inr (Or.inr (Or.inl (key dp_cw2_is (by omega) (by omega)))))
  · exact Or.inl (Or.inr (Or.inr (Or.inr (key dp_cw3_is (by omega) (by omega)))))
theorem dp_wd_kind {z : Nat} (hz : z < 77) : dp_kindW z ∈ dp_wd := by
  simp only [dp_wd, dp_n1, List.mem_append]
  exact Or.inr (Or.inl (Or.inl (List.mem_map.mpr ⟨z, List.mem_range.mpr hz, rfl⟩)))
theorem dp_wd_link {e : Nat × Nat × Nat} (he : e ∈ dp_ml) : dp_linkW e ∈ dp_wd := by
  simp only [dp_wd, dp_n1, List.mem_append]
  exact Or.inr (Or.inl (Or.inr (Or.inl (List.mem_map.mpr ⟨e, he, rfl⟩))))
theorem dp_wd_nat {e : Nat × Nat × Nat} (he : e ∈ dp_nl) : dp_linkN e ∈ dp_wd := by
  simp only [dp_wd, dp_n1, List.mem_append]
  exact Or.inr (Or.inl (Or.inr (Or.inr (List.mem_map.mpr ⟨e, he, rfl⟩))))
theorem dp_wd_field {e : Nat × Nat × Nat × Nat} (he : e ∈ dp_fl) : dp_fieldW e ∈ dp_wd := by
  simp only [dp_wd, dp_n2, List.mem_append]
  exact Or.inr (Or.inr (Or.inl (Or.inl (List.mem_map.mpr ⟨e, he, rfl⟩))))
theorem dp_wd_sel {z : Nat} (he : z ∈ dp_vids) : dp_selW z ∈ dp_wd := by
  simp only [dp_wd, dp_n2, List.mem_append]
  exact Or.inr (Or.inr (Or.inl (Or.inr (Or.inl (List.mem_map.mpr ⟨z, he, rfl⟩)))))
theorem dp_wd_init {k : Nat} (hk : k < 9) : Cond.initialized (dp_o k) ∈ dp_wd := by
  simp only [dp_wd, dp_n2, List.mem_append]
  refine Or.inr (Or.inr (Or.inl (Or.inr (Or.inr (Or.inl (List.mem_map.mpr ⟨dp_o k, ?_, rfl⟩))))))
  unfold dp_o
  rw [List.getD_eq_getElem?_getD, List.getElem?_eq_getElem (show k < dp_owns.length from hk)]
  exact List.getElem_mem _
theorem dp_wd_lays {c : Nat} {q : vw_C} (hc : vwCl[c]? = some q) : ∀ w ∈ u_ws q.1 q.2.1 q.2.2, w ∈ dp_wd := by
  intro w hw
  simp only [dp_wd, dp_n2, List.mem_append]
  refine Or.inr (Or.inr (Or.inl (Or.inr (Or.inr (Or.inr ?_)))))
  match c, hc with
  | 0, hc => cases hc; exact Or.inl hw
  | 1, hc => cases hc; exact Or.inr (Or.inl hw)
  | 2, hc => cases hc; exact Or.inr (Or.inr (Or.inl hw))
  | 3, hc => cases hc; exact Or.inr (Or.inr (Or.inr (Or.inl hw)))
  | 4, hc => cases hc; exact Or.inr (Or.inr (Or.inr (Or.inr (Or.inl hw))))
  | 5, hc => cases hc; exact Or.inr (Or.inr (Or.inr (Or.inr (Or.inr hw))))
  | c + 6, hc => simp [vwCl] at hc
theorem dp_wd_cl {e : Nat × Nat × Int64} (he : e ∈ dp_cl) : Cond.constantLong (dp_o e.1) e.2.1 e.2.2 ∈ dp_wd := by
  simp only [dp_wd, dp_n3, List.mem_append]
  exact Or.inr (Or.inr (Or.inr (Or.inl (Or.inl (List.mem_map.mpr ⟨e, he, rfl⟩)))))
theorem dp_wd_ci {e : Nat × Nat × Int32} (he : e ∈ dp_ci) : Cond.constant (dp_o e.1) e.2.1 e.2.2 ∈ dp_wd := by
  simp only [dp_wd, dp_n3, List.mem_append]
  exact Or.inr (Or.inr (Or.inr (Or.inl (Or.inr (Or.inl (List.mem_map.mpr ⟨e, he, rfl⟩))))))
theorem dp_wd_x0 {w : Cond} (k : Nat) (h : dp_x0[k]? = some w) : w ∈ dp_wd := by
  simp only [dp_wd, dp_n3, List.mem_append]
  exact Or.inr (Or.inr (Or.inr (Or.inl (Or.inr (Or.inr (Or.inl (List.mem_of_getElem? h)))))))
theorem dp_wd_x1 {w : Cond} (k : Nat) (h : dp_x1[k]? = some w) : w ∈ dp_wd := by
  simp only [dp_wd, dp_n3, List.mem_append]
  exact Or.inr (Or.inr (Or.inr (Or.inl (Or.inr (Or.inr (Or.inr (List.mem_of_getElem? h)))))))
theorem dp_wd_x2 {w : Cond} (h : w ∈ dp_x2) : w ∈ dp_wd := by
  simp only [dp_wd, List.mem_append]
  exact Or.inr (Or.inr (Or.inr (Or.inr h)))
theorem dp_lo_in {α : Type} : ∀ (l : List (Nat × Nat × α)) (o i : Nat) (x : α), dp_lo l o i = some x → (o, i, x) ∈ l
  | [], _, _, _, h => by cases h
  | (a, b, y) :: t, o, i, x, h => by
    unfold dp_lo at h
    by_cases hc : a = o ∧ b = i
    · rw [if_pos hc] at h
      cases h
      rw [hc.1, hc.2]
      exact List.mem_cons_self
    · rw [if_neg hc] at h
      exact List.mem_cons_of_mem _ (dp_lo_in t o i x h)
theorem dp_fld_in {o i ci k : Nat} (h : dp_fld o i = some (ci, k)) : (o, i, ci, k) ∈ dp_fl := by
  have h1 := dp_lo_in _ o i _ h
  obtain ⟨⟨a, b, c, d⟩, he, h2⟩ := List.mem_map.mp h1
  cases h2
  exact he
-- methods
def dp_zok (z : Nat) : Bool := decide ((dp_nm z).cls ≠ "java/lang/invoke/MethodHandle") && decide ((dp_nm z).cls ≠ "java/lang/invoke/VarHandle") && plainName (dp_nm z).cls && decide ((dp_nm z).cls = dp_o (dp_ow z)) &&
  decide ((parseMethodDescriptor (dp_nm z).desc).map (fun d => d.parameters.length) = some (dp_na z - (if dp_sta z then 0 else 1))) && (dp_hh z).isEmpty && decide (dp_ow z < 9) && (dp_sta z || (decide (z ∈ dp_vids ∨ z = 59 ∨ z = 60) && decide (1 ≤ dp_na z)))
set_option maxRecDepth 100000 in
set_option maxHeartbeats 4000000 in
theorem dp_zok_all : (List.range 78).all dp_zok = true := by decide +kernel
theorem dp_zok_spec {z : Nat} (hz : z < 78) : (dp_nm z).cls ≠ "java/lang/invoke/MethodHandle" ∧ (dp_nm z).cls ≠ "java/lang/invoke/VarHandle" ∧ plainName (dp_nm z).cls = true ∧ (dp_nm z).cls = dp_o (dp_ow z) ∧
    (parseMethodDescriptor (dp_nm z).desc).map (fun d => d.parameters.length) = some (dp_na z - (if dp_sta z then 0 else 1)) ∧ (dp_hh z).isEmpty = true ∧ dp_ow z < 9 ∧ (dp_sta z = true ∨ ((z ∈ dp_vids ∨ z = 59 ∨ z = 60) ∧ 1 ≤ dp_na z)) := by
  have h := List.all_eq_true.mp dp_zok_all z (List.mem_range.mpr hz)
  simp only [dp_zok, Bool.and_eq_true, Bool.or_eq_true, decide_eq_true_eq] at h
  obtain ⟨⟨⟨⟨⟨⟨⟨h1, h2⟩, h3⟩, h4⟩, h5⟩, h6⟩, h7⟩, h8⟩ := h
  exact ⟨h1, h2, h3, h4, h5, h6, h7, h8⟩
theorem dp_inits : (dp_nm 59).name = "<init>" ∧ (dp_nm 60).name = "<init>" ∧ dp_sta 59 = false ∧ dp_sta 60 = false ∧ dp_rt 59 = none ∧ dp_rt 60 = none := by decide +kernel
theorem dp_vid_ne {z : Nat} (h : z ∈ dp_vids) : z ≠ 59 ∧ z ≠ 60 := by
  refine ⟨?_, ?_⟩ <;> (rintro rfl; revert h; decide +kernel)
theorem dp_ml_lt : ∀ e ∈ dp_ml, e.2.2 < 77 := by decide +kernel
set_option maxRecDepth 100000 in
theorem dp_fl_ok : ∀ e ∈ dp_fl, e.1 < 9 ∧ e.2.2.1 < 6 ∧ e.2.2.2 < (vwCl.getD e.2.2.1 (RX0, TX0, 5)).2.2 ∧ (dp_TT e.2.2.1 e.2.2.2).1 = (vwCl.getD e.2.2.1 (RX0, TX0, 5)).1 := by decide +kernel
end
section
theorem dp_zz : True := trivial
end
