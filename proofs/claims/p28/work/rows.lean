section
-- PART A of the skeleton, and the claim's printed names (kit starting texts), taken over by wip/whole/gen.py
-- ===== PART A: goes FIRST, ahead of the names: the tables' words, and 'selects' of the private methods out of them =====
/-- a private method of a class that the tables say can be made, by its rows of tables_1 -/
def lw_okq (q : MethodName × Nat) : Prop := (q.1.cls ≠ "java/lang/invoke/MethodHandle" ∧ q.1.cls ≠ "java/lang/invoke/VarHandle") ∧ Cond.instantiable q.1.cls q.2 ∈ tables_1 ∧ Cond.privateMethod q.1 ∈ tables_1 ∧ Cond.instanceMethod q.1 ∈ tables_1
theorem lw_p0 : lw_okq (⟨"ClipBureau", "checkClient", "(I)V"⟩, 5) := ⟨⟨by decide +kernel, by decide +kernel⟩, List.mem_of_getElem? (i := 18) (by decide +kernel), List.mem_of_getElem? (i := 131) (by decide +kernel), List.mem_of_getElem? (i := 132) (by decide +kernel)⟩
theorem lw_p1 : lw_okq (⟨"java/lang/Throwable", "fillInStackTrace", "(I)Ljava/lang/Throwable;"⟩, 6) := ⟨⟨by decide +kernel, by decide +kernel⟩, List.mem_of_getElem? (i := 173) (by decide +kernel), List.mem_of_getElem? (i := 171) (by decide +kernel), List.mem_of_getElem? (i := 172) (by decide +kernel)⟩
theorem lw_p2 : lw_okq (⟨"ClipBureau", "sendTo", "(LClipBureau$Ledger;I)I"⟩, 5) := ⟨⟨by decide +kernel, by decide +kernel⟩, List.mem_of_getElem? (i := 18) (by decide +kernel), List.mem_of_getElem? (i := 203) (by decide +kernel), List.mem_of_getElem? (i := 204) (by decide +kernel)⟩
theorem lw_p3 : lw_okq (⟨"ClipBureau", "bestFit", "(LClipBureau$Ledger;I)I"⟩, 5) := ⟨⟨by decide +kernel, by decide +kernel⟩, List.mem_of_getElem? (i := 18) (by decide +kernel), List.mem_of_getElem? (i := 207) (by decide +kernel), List.mem_of_getElem? (i := 208) (by decide +kernel)⟩
theorem lw_p4 : lw_okq (⟨"ClipBureau", "scoreFor", "(LClipBureau$Ledger;II)I"⟩, 5) := ⟨⟨by decide +kernel, by decide +kernel⟩, List.mem_of_getElem? (i := 18) (by decide +kernel), List.mem_of_getElem? (i := 211) (by decide +kernel), List.mem_of_getElem? (i := 212) (by decide +kernel)⟩
theorem lw_p5 : lw_okq (⟨"ClipBureau", "isFit", "(LClipBureau$Ledger;III)Z"⟩, 5) := ⟨⟨by decide +kernel, by decide +kernel⟩, List.mem_of_getElem? (i := 18) (by decide +kernel), List.mem_of_getElem? (i := 233) (by decide +kernel), List.mem_of_getElem? (i := 234) (by decide +kernel)⟩
theorem lw_p6 : lw_okq (⟨"ClipBureau", "priceFor", "(LClipBureau$Ledger;II)I"⟩, 5) := ⟨⟨by decide +kernel, by decide +kernel⟩, List.mem_of_getElem? (i := 18) (by decide +kernel), List.mem_of_getElem? (i := 241) (by decide +kernel), List.mem_of_getElem? (i := 242) (by decide +kernel)⟩
theorem lw_p7 : lw_okq (⟨"ClipBureau", "playRounds", "(LClipBureau$Ledger;I)V"⟩, 5) := ⟨⟨by decide +kernel, by decide +kernel⟩, List.mem_of_getElem? (i := 18) (by decide +kernel), List.mem_of_getElem? (i := 282) (by decide +kernel), List.mem_of_getElem? (i := 283) (by decide +kernel)⟩
theorem lw_p8 : lw_okq (⟨"ClipBureau", "checkArticle", "(I)V"⟩, 5) := ⟨⟨by decide +kernel, by decide +kernel⟩, List.mem_of_getElem? (i := 18) (by decide +kernel), List.mem_of_getElem? (i := 294) (by decide +kernel), List.mem_of_getElem? (i := 295) (by decide +kernel)⟩
theorem lw_p9 : lw_okq (⟨"ClipBureau", "tellOfArticle", "(II)I"⟩, 5) := ⟨⟨by decide +kernel, by decide +kernel⟩, List.mem_of_getElem? (i := 18) (by decide +kernel), List.mem_of_getElem? (i := 303) (by decide +kernel), List.mem_of_getElem? (i := 304) (by decide +kernel)⟩
theorem lw_p10 : lw_okq (⟨"ClipBureau", "tellOfClient", "(II)I"⟩, 5) := ⟨⟨by decide +kernel, by decide +kernel⟩, List.mem_of_getElem? (i := 18) (by decide +kernel), List.mem_of_getElem? (i := 320) (by decide +kernel), List.mem_of_getElem? (i := 321) (by decide +kernel)⟩
theorem lw_p11 : lw_okq (⟨"ClipBureau", "fitArticles", "(I)I"⟩, 5) := ⟨⟨by decide +kernel, by decide +kernel⟩, List.mem_of_getElem? (i := 18) (by decide +kernel), List.mem_of_getElem? (i := 325) (by decide +kernel), List.mem_of_getElem? (i := 326) (by decide +kernel)⟩
theorem lw_p12 : lw_okq (⟨"ClipBureau", "tellOfAll", "(I)I"⟩, 5) := ⟨⟨by decide +kernel, by decide +kernel⟩, List.mem_of_getElem? (i := 18) (by decide +kernel), List.mem_of_getElem? (i := 333) (by decide +kernel), List.mem_of_getElem? (i := 334) (by decide +kernel)⟩
theorem lw_p13 : lw_okq (⟨"ClipBureau", "fitArticleAt", "(II)I"⟩, 5) := ⟨⟨by decide +kernel, by decide +kernel⟩, List.mem_of_getElem? (i := 18) (by decide +kernel), List.mem_of_getElem? (i := 361) (by decide +kernel), List.mem_of_getElem? (i := 362) (by decide +kernel)⟩
theorem lw_p14 : lw_okq (⟨"ClipBureau", "fitArticlesAhead", "(III)I"⟩, 5) := ⟨⟨by decide +kernel, by decide +kernel⟩, List.mem_of_getElem? (i := 18) (by decide +kernel), List.mem_of_getElem? (i := 365) (by decide +kernel), List.mem_of_getElem? (i := 366) (by decide +kernel)⟩
theorem lw_p15 : lw_okq (⟨"ClipBureau", "someoneIsShort", "(LClipBureau$Ledger;)Z"⟩, 5) := ⟨⟨by decide +kernel, by decide +kernel⟩, List.mem_of_getElem? (i := 18) (by decide +kernel), List.mem_of_getElem? (i := 380) (by decide +kernel), List.mem_of_getElem? (i := 381) (by decide +kernel)⟩
def lw_privs_1 : List (MethodName × Nat) := [(⟨"ClipBureau", "checkClient", "(I)V"⟩, 5), (⟨"java/lang/Throwable", "fillInStackTrace", "(I)Ljava/lang/Throwable;"⟩, 6), (⟨"ClipBureau", "sendTo", "(LClipBureau$Ledger;I)I"⟩, 5), (⟨"ClipBureau", "bestFit", "(LClipBureau$Ledger;I)I"⟩, 5), (⟨"ClipBureau", "scoreFor", "(LClipBureau$Ledger;II)I"⟩, 5), (⟨"ClipBureau", "isFit", "(LClipBureau$Ledger;III)Z"⟩, 5), (⟨"ClipBureau", "priceFor", "(LClipBureau$Ledger;II)I"⟩, 5), (⟨"ClipBureau", "playRounds", "(LClipBureau$Ledger;I)V"⟩, 5), (⟨"ClipBureau", "checkArticle", "(I)V"⟩, 5), (⟨"ClipBureau", "tellOfArticle", "(II)I"⟩, 5), (⟨"ClipBureau", "tellOfClient", "(II)I"⟩, 5), (⟨"ClipBureau", "fitArticles", "(I)I"⟩, 5), (⟨"ClipBureau", "tellOfAll", "(I)I"⟩, 5), (⟨"ClipBureau", "fitArticleAt", "(II)I"⟩, 5), (⟨"ClipBureau", "fitArticlesAhead", "(III)I"⟩, 5), (⟨"ClipBureau", "someoneIsShort", "(LClipBureau$Ledger;)Z"⟩, 5)]
theorem lw_r1 : ∀ q ∈ lw_privs_1, lw_okq q := List.forall_mem_cons.mpr ⟨lw_p0, List.forall_mem_cons.mpr ⟨lw_p1, List.forall_mem_cons.mpr ⟨lw_p2, List.forall_mem_cons.mpr ⟨lw_p3, List.forall_mem_cons.mpr ⟨lw_p4, List.forall_mem_cons.mpr ⟨lw_p5, List.forall_mem_cons.mpr ⟨lw_p6, List.forall_mem_cons.mpr ⟨lw_p7, List.forall_mem_cons.mpr ⟨lw_p8, List.forall_mem_cons.mpr ⟨lw_p9, List.forall_mem_cons.mpr ⟨lw_p10, List.forall_mem_cons.mpr ⟨lw_p11, List.forall_mem_cons.mpr ⟨lw_p12, List.forall_mem_cons.mpr ⟨lw_p13, List.forall_mem_cons.mpr ⟨lw_p14, List.forall_mem_cons.mpr ⟨lw_p15, fun _ h => absurd h List.not_mem_nil⟩⟩⟩⟩⟩⟩⟩⟩⟩⟩⟩⟩⟩⟩⟩⟩
theorem lw_p16 : lw_okq (⟨"ClipBureau$Press", "recountArticle", "(I)V"⟩, 6) := ⟨⟨by decide +kernel, by decide +kernel⟩, List.mem_of_getElem? (i := 26) (by decide +kernel), List.mem_of_getElem? (i := 466) (by decide +kernel), List.mem_of_getElem? (i := 467) (by decide +kernel)⟩
theorem lw_p17 : lw_okq (⟨"ClipBureau$Press", "stemOfWord", "(I)I"⟩, 6) := ⟨⟨by decide +kernel, by decide +kernel⟩, List.mem_of_getElem? (i := 26) (by decide +kernel), List.mem_of_getElem? (i := 470) (by decide +kernel), List.mem_of_getElem? (i := 471) (by decide +kernel)⟩
def lw_privs_2 : List (MethodName × Nat) := [(⟨"ClipBureau$Press", "recountArticle", "(I)V"⟩, 6), (⟨"ClipBureau$Press", "stemOfWord", "(I)I"⟩, 6)]
theorem lw_r2 : ∀ q ∈ lw_privs_2, lw_okq q := List.forall_mem_cons.mpr ⟨lw_p16, List.forall_mem_cons.mpr ⟨lw_p17, fun _ h => absurd h List.not_mem_nil⟩⟩
def lw_privs : List (MethodName × Nat) := lw_privs_1 ++ (lw_privs_2)
def lw_tbl : List Cond := k2_sels lw_privs ++ tables_1
theorem lw_privs_ok : ∀ q ∈ lw_privs, lw_okq q := by
  show ∀ q ∈ lw_privs_1 ++ (lw_privs_2), lw_okq q
  exact List.forall_mem_append.mpr ⟨lw_r1, lw_r2⟩
/-- the streams that the claim lets the run draw from -/
abbrev lw_cs : List Choice := [Jvm.Choice.named "NaN.bits"]
theorem lw_bits : nanBits ∈ lw_cs := by first | decide | exact List.mem_cons_self | simp [lw_cs, nanBits]
/-! ===== BEGIN words of one list among another's, by their places ===== -/
theorem goodIn_r {big : List Cond} (ws : List Cond) (ps : List Nat) (hp : ws = ps.filterMap (fun i => big[i]?)) (h : ws.all goodWord = true) : GoodIn big ws := by
  intro w hw
  have h1 := List.all_eq_true.mp h w hw
  rw [hp] at hw
  obtain ⟨i, -, hi⟩ := List.mem_filterMap.mp hw
  have hm : w ∈ big := by first | exact List.mem_of_getElem? hi | exact List.getElem?_mem hi
  exact ⟨hm, good_of_word h1⟩
theorem goodIn_app {big a b : List Cond} (ha : GoodIn big a) (hb : GoodIn big b) : GoodIn big (a ++ b) := fun w h => (List.mem_append.mp h).elim (ha w) (hb w)
theorem goodIn_ca {big a b : List Cond} {c : Cond} (ha : GoodIn big (c :: a)) (hb : GoodIn big b) : GoodIn big (c :: (a ++ b)) := fun w h => (List.mem_cons.mp h).elim (fun e => ha w (List.mem_cons.mpr (Or.inl e))) (fun h => (List.mem_append.mp h).elim (fun h => ha w (List.mem_cons.mpr (Or.inr h))) (hb w))
theorem goodIn_sub {big ws : List Cond} (hm : ∀ w ∈ ws, w ∈ big) (h : ws.all goodWord = true) : GoodIn big ws := fun w hw => ⟨hm w hw, good_of_word (List.all_eq_true.mp h w hw)⟩
/-! ===== END ===== -/

def va_AOA (ty : FieldType) (U : State) : Prop := (Cond.arrayOver (.array ty)).before #[] U = true
theorem va_AOA.use {ty : FieldType} {A : Array Value} {U : State} (h : va_AOA ty U) : (Cond.arrayOver (.array ty)).before A U = true := h
/-! ===== BEGIN new T[n][m]: the outer array a place, the inner ones among the pooled ===== -/
/-- f, but v at every address of l -/
def vr_up {α : Type} (f : Nat → α) (l : List Nat) (v : α) : Nat → α := fun a => if a ∈ l then v else f a
theorem vr_up_in {α : Type} {f : Nat → α} {l : List Nat} {v : α} {a : Nat} (h : a ∈ l) : vr_up f l v a = v := if_pos h
theorem vr_up_ne {α : Type} {f : Nat → α} {l : List Nat} {v : α} {a : Nat} (h : a ∉ l) : vr_up f l v a = f a := if_neg h
theorem vr_rows {L l : List Nat} {f : Nat → va_E} {e : va_E} (h : ∀ a, a ∈ l → a ∉ L) : va_pl L f ++ l.map (fun a => (a, e)) = va_pl (L ++ l) (vr_up f l e) := by
  unfold va_pl
  rw [List.map_append]
  congr 1
  · apply List.map_congr_left
    intro a ha
    rw [vr_up_ne (fun q => h a q ha)]
  · apply List.map_congr_left
    intro a ha
    rw [vr_up_in ha]
theorem vr_lay {X rows : va_W} {x : Nat × va_E} {pl : va_W} {D : va_G} {cl : List vw_C} {H : Heap} (hP : va_P D cl (((X ++ pl) ++ [x]) ++ rows) H) : va_P D cl ((X ++ [x]) ++ (pl ++ rows)) H := by
  rw [List.append_assoc (X ++ pl)] at hP
  have h := va_P.swap hP
  rw [← List.append_assoc X] at h
  have h2 := va_P.swap h
  rw [List.append_assoc (X ++ [x])] at h2
  exact h2
theorem vr_layD {X rows : va_W} {x : Nat × va_E} {pl : va_W} {A : Nat → Prop} (hD : va_D A (((X ++ pl) ++ [x]) ++ rows)) : va_D A ((X ++ [x]) ++ (pl ++ rows)) := by
  rw [List.append_assoc (X ++ pl)] at hD
  have h := va_D.swap hD
  rw [← List.append_assoc X] at h
  have h2 := va_D.swap h
  rw [List.append_assoc (X ++ [x])] at h2
  exact h2
theorem vr_outer (c : ClassId) (N h0 : Nat) : ∀ i : Nat, Jvm.Free.Multi.outerC c N h0 i = arrV c N (fun j => va_rf (if j < i then some (h0 + 1 + j) else none))
  | 0 => by
    show ({ cls := c, slots := Array.replicate N .null, vm := .none } : Cell) = _
    rw [arrV_new]
    refine congrArg (arrV c N) (funext fun j => ?_)
    simp [va_rf]
  | i + 1 => by
    show (Jvm.Free.Multi.outerC c N h0 i).setSlot i (.ref (h0 + 1 + i)) = _
    rw [vr_outer c N h0 i, arrV_store]
    refine congrArg (arrV c N) (funext fun j => ?_)
    by_cases e : j = i
    · subst e
      simp [updV, va_rf]
    · by_cases h : j < i
      · simp [updV, e, h, Nat.lt_succ_of_lt h]
      · simp [updV, e, h, show ¬ j < i + 1 by omega]
section VGM
variable {p : Program} {l : Launch} {e : Env} {R : Room} {s : State} {m : MethodId} {args : Array Value} {below : List Frame} {meth : Method} {c : Code} {H : Heap} {locs : List Loc} {cells slots : Nat} {Q : State → Prop}
variable {cc : ByteArray} {pc : Nat} {ls : Array Slot} {rest : List Value} {D : va_G} {cl : List vw_C} {A : Nat → Prop} {a : Nat} {tys : List (ClassId × FieldType)} {ws : va_W} {H0 : Heap}
theorem va_mna {X : va_W} {L : List Nat} {f : Nat → va_E} {cc : ByteArray} (hexec : p.tables.exec = Jvm.exec) (hb : c.code = cc) {own : String} {index : Nat} {ty : FieldType} {cy : ClassId} (hown : s.vm.findClass own = some m.cls) (hclink : (Cond.classLink own index ("[" ++ (FieldType.array ty).toString)).before args s = true) (hover : va_AOA ty s) (harr : (Cond.arrayClass ty).before args s = true) (hcy : s.vm.findClass (FieldType.array ty).toString = some cy)
    (hK : va_K D cl tys s) (hP : va_P D cl (X ++ va_pl L f) H) (hD : va_D A (X ++ va_pl L f)) (hS : va_S A H0 H locs) (hA : ∀ q, H0.size ≤ q → A q) {n k : Int32} {N' K' : Nat} {z : vp_A} (hn : ¬ n < 0) (hk : ¬ k < 0) (hN : n.toNatClampNeg = N') (hM : k.toNatClampNeg = K')
    (hb1 : N' * 4 ≤ 536870912) (hb2 : K' * componentBytes ty ≤ 536870912) (hb3 : K' ≤ 536870912) (hdf : fits ty (defaultValue ty) = true) (hdd : (defaultValue ty).isDefault = true) (hcells : cells + (1 + N') ≤ R.cells) (hslots : slots + (N' + N' * K') ≤ R.slots) (hz : ∀ c : ClassId, Jvm.Free.Multi.innerC c K' (defaultValue ty) = vp_cell c z) (hdg : decode cc pc = .ok (.multianewarray index 2, 4))
    (kk : ∀ (q : Nat) (r : Nat → Nat) (cA : ClassId) (H1 : Heap), (∀ i j : Nat, i < N' → j < N' → r i = r j → i = j) → (∀ i : Nat, i < N' → r i ∉ L) → va_K D cl (tys ++ [(cA, .array ty)]) s →
      va_P D cl ((X ++ [(q, .inl (cA, N', .inr (.inr (.inr (.inr (fun i => if i < N' then some (r i) else none))))))]) ++ va_pl (L ++ (List.range N').map r) (vr_up f ((List.range N').map r) (.inl (cy, z)))) H1 → va_D A ((X ++ [(q, .inl (cA, N', .inr (.inr (.inr (.inr (fun i => if i < N' then some (r i) else none))))))]) ++ va_pl (L ++ (List.range N').map r) (vr_up f ((List.range N').map r) (.inl (cy, z)))) → va_S A H0 H1 locs →
      W p l e R s m args below meth c H1 locs (cells + 1 + N') (slots + N' + N' * K') Q (F0 m (pc + 4) ls (.ref q :: rest))) : W p l e R s m args below meth c H locs cells slots Q (F0 m pc ls (.int k :: .int n :: rest)) := by
  subst hN
  subst hM
  intro T hT Xs
  obtain ⟨vm₁, cA, comp, -, fA, fC, hO, -, X', step⟩ := Xs.multianewarray2F hexec hown hclink (va_AOA.use hover) harr (g := F0 m pc ls (.int k :: .int n :: rest)) rfl (by rw [hb]; exact hdg) rfl hn hk hb1 hb2 hb3 hdf hdd hcells hslots
  have ec : some cy = some comp := hcy.symm.trans fC
  cases ec
  generalize hF : Jvm.Free.Multi.fill (T.setVm vm₁) cA cy n.toNatClampNeg k.toNatClampNeg (defaultValue ty) n.toNatClampNeg = F at X' step
  have hTh : (T.setVm vm₁).heap = H := hT
  obtain ⟨f1, f2, -, -⟩ := Jvm.Free.Multi.fill_facts (T.setVm vm₁) cA cy n.toNatClampNeg k.toNatClampNeg (defaultValue ty) n.toNatClampNeg
  rw [hF, hTh] at f1 f2
  have hold : ∀ x : Nat, x < H.size → F.heap[x]? = H[x]? := fun x hx => by
    have := Jvm.Free.Multi.fill_old (T.setVm vm₁) cA cy n.toNatClampNeg k.toNatClampNeg (defaultValue ty) (a := x) (by rw [hTh]; exact hx) n.toNatClampNeg
    rw [hF, hTh] at this
    exact this
  have hrow : ∀ j : Nat, j < n.toNatClampNeg → F.heap[H.size + 1 + j]? = some (vp_cell cy z) := fun j hj => by
    have := Jvm.Free.Multi.fill_inner (T.setVm vm₁) cA cy n.toNatClampNeg k.toNatClampNeg (defaultValue ty) n.toNatClampNeg j hj
    rw [hF, hTh, hz] at this
    exact this
  have hout : Jvm.Free.Multi.outerC cA n.toNatClampNeg H.size n.toNatClampNeg = vp_cell cA (n.toNatClampNeg, .inr (.inr (.inr (.inr (fun i => if i < n.toNatClampNeg then some (H.size + 1 + i) else none))))) := by
    rw [vp_cell_q]
    exact vr_outer cA n.toNatClampNeg H.size n.toNatClampNeg
  rw [hout] at f2
  have hlt : ∀ a, a ∈ L → a < H.size := fun a ha => by
    obtain ⟨k9, hk9⟩ := va_pl_get (X := X) (f := f) ha
    exact (hP k9 _ hk9).lt
  have hnl : ∀ i : Nat, i < n.toNatClampNeg → H.size + 1 + i ∉ L := fun i _ h => by
    have := hlt _ h
    omega
  have hnm : ∀ a, a ∈ (List.range n.toNatClampNeg).map (fun i => H.size + 1 + i) → a ∉ L := fun a ha h => by
    obtain ⟨i, -, rfl⟩ := List.mem_map.mp ha
    have := hlt _ h
    omega
  have hP0 : va_P D cl (X ++ va_pl L f) F.heap := hP.kept (fun k9 x hx => hold x.1 ((hP k9 x hx).lt))
  have hP1 : va_P D cl ((X ++ va_pl L f) ++ [(H.size, .inl (cA, n.toNatClampNeg, .inr (.inr (.inr (.inr (fun i => if i < n.toNatClampNeg then some (H.size + 1 + i) else none))))))]) F.heap := hP0.app (fun k9 x hx => by
    have h0 : k9 < 1 := (List.getElem?_eq_some_iff.mp hx).1
    rw [show k9 = 0 by omega] at hx
    cases hx
    exact f2)
  have hP2 : va_P D cl (((X ++ va_pl L f) ++ [(H.size, .inl (cA, n.toNatClampNeg, .inr (.inr (.inr (.inr (fun i => if i < n.toNatClampNeg then some (H.size + 1 + i) else none))))))]) ++ ((List.range n.toNatClampNeg).map (fun i => H.size + 1 + i)).map (fun a => (a, .inl (cy, z)))) F.heap := hP1.app (fun k9 x hx => by
    obtain ⟨a, ha, rfl⟩ := List.mem_map.mp (List.mem_of_getElem? hx)
    obtain ⟨i, hi, rfl⟩ := List.mem_map.mp ha
    exact hrow i (List.mem_range.mp hi))
  have hD2 : va_D A (((X ++ va_pl L f) ++ [(H.size, .inl (cA, n.toNatClampNeg, .inr (.inr (.inr (.inr (fun i => if i < n.toNatClampNeg then some (H.size + 1 + i) else none))))))]) ++ ((List.range n.toNatClampNeg).map (fun i => H.size + 1 + i)).map (fun a => (a, .inl (cy, z)))) := by
    have hD1 := hD.push (e := .inl (cA, n.toNatClampNeg, .inr (.inr (.inr (.inr (fun i => if i < n.toNatClampNeg then some (H.size + 1 + i) else none)))))) hP rfl (hA _ hS.1)
    generalize hW1 : (X ++ va_pl L f) ++ [(H.size, .inl (cA, n.toNatClampNeg, .inr (.inr (.inr (.inr (fun i => if i < n.toNatClampNeg then some (H.size + 1 + i) else none))))))] = W1 at hD1 hP1 ⊢
    have hle : ∀ (k9 : Nat) (x : Nat × va_E), W1[k9]? = some x → x.1 ≤ H.size := fun k9 x hx => by
      rw [← hW1] at hx
      by_cases hl : k9 < (X ++ va_pl L f).length
      · rw [List.getElem?_append_left hl] at hx
        exact Nat.le_of_lt ((hP k9 x hx).lt)
      · rw [List.getElem?_append_right (by omega)] at hx
        have h0 : k9 - (X ++ va_pl L f).length < 1 := (List.getElem?_eq_some_iff.mp hx).1
        rw [show k9 - (X ++ va_pl L f).length = 0 by omega] at hx
        cases hx
        exact Nat.le_refl _
    have hr : ∀ (k9 : Nat) (x : Nat × va_E), (((List.range n.toNatClampNeg).map (fun i => H.size + 1 + i)).map (fun a => ((a, .inl (cy, z)) : Nat × va_E)))[k9]? = some x → x.1 = H.size + 1 + k9 := fun k9 x hx => by
      rw [List.getElem?_map, List.getElem?_map] at hx
      by_cases h9 : k9 < n.toNatClampNeg
      · rw [List.getElem?_range h9] at hx
        cases hx
        rfl
      · have hn0 : (List.range n.toNatClampNeg)[k9]? = none := List.getElem?_eq_none (by rw [List.length_range]; omega)
        rw [hn0] at hx
        cases hx
    refine ⟨fun i j x y hi hj hxy => ?_, fun k9 x hx => ?_⟩
    · by_cases h1 : i < W1.length <;> by_cases h2 : j < W1.length
      · rw [List.getElem?_append_left h1] at hi
        rw [List.getElem?_append_left h2] at hj
        exact hD1.1 i j x y hi hj hxy
      · rw [List.getElem?_append_left h1] at hi
        rw [List.getElem?_append_right (by omega)] at hj
        have := hle _ _ hi
        have := hr _ _ hj
        omega
      · rw [List.getElem?_append_right (by omega)] at hi
        rw [List.getElem?_append_left h2] at hj
        have := hle _ _ hj
        have := hr _ _ hi
        omega
      · rw [List.getElem?_append_right (by omega)] at hi hj
        have := hr _ _ hi
        have := hr _ _ hj
        omega
    · by_cases h1 : k9 < W1.length
      · rw [List.getElem?_append_left h1] at hx
        exact hD1.2 k9 x hx
      · rw [List.getElem?_append_right (by omega)] at hx
        have := hr _ _ hx
        exact hA _ (by have := hS.1; omega)
  have hAr : ArrOfT s cA (.array ty) := fun N9 z9 => by
    obtain ⟨-, k9, hk9, cm9, hkk9⟩ := (hO 0 0 0).1
    exact ⟨(fun q hq => by cases hq), k9, hk9, cm9, hkk9⟩
  have hK2 : va_K D cl (tys ++ [(cA, .array ty)]) s := ⟨hK.1, fun k9 x hx => by
    by_cases hl : k9 < tys.length
    · rw [List.getElem?_append_left hl] at hx
      exact hK.2 k9 x hx
    · rw [List.getElem?_append_right (by omega)] at hx
      have h0 : k9 - tys.length < 1 := (List.getElem?_eq_some_iff.mp hx).1
      rw [show k9 - tys.length = 0 by omega] at hx
      cases hx
      exact ⟨hAr, fA⟩⟩
  obtain ⟨t, a1, b1⟩ := kk H.size (fun i => H.size + 1 + i) cA F.heap (fun i j _ _ h => by have h9 : H.size + 1 + i = H.size + 1 + j := h; omega) hnl hK2 (by rw [← vr_rows hnm]; exact vr_lay hP2) (by rw [← vr_rows hnm]; exact vr_layD hD2) ⟨by rw [f1]; have := hS.1; omega, fun x h1 h2 => (hold x (Nat.lt_of_lt_of_le h1 hS.1)).trans (hS.2.1 x h1 h2), hS.2.2⟩ F rfl X'
  refine ⟨t, step t ?_, b1⟩
  have e : T.heap.size = H.size := by rw [hT]
  rw [e]
  exact a1
end VGM
/-! ===== END ===== -/

/-! ===== BEGIN exceptions that leave a method, and their catching by the caller (launches without stack traces) ===== -/
section VXA
/-! The laws vx_back, vx_callV, vx_callS, vx_callSW, vx_throw0, vx_throwS follow proofs of the library, with one case more: JvmDerived/Free/Laws.lean (Back.of_free), Shelf42/LK1.lean (callV, callS), Shelf/KitTraced.lean (throwNew0V, throwNewS). -/
/-- where a method has thrown q: the class by its name, the cell, what was written, the world -/
def vx_T (XC : String → State → State → Prop) (st : State) (q : Addr) (t : State) (mc ms : Nat) (free : Addr → Prop) : Prop :=
  ∃ (E : String) (ce : Cell) (L : List Loc), XC E st t ∧ t.heap[q]? = some ce ∧ ce.vm = .none ∧ st.vm.findClass E = some ce.cls ∧ st.WarmedH t.vm ∧ st.sameButNew ({ t with vm := st.vm } : State) L mc ms ∧ ∀ z ∈ L, free z.base
def vx_Q (Qc : Array Value → State → Outcome → State → Prop) (XC : String → State → State → Prop) (mc ms : Nat) (free : Addr → Prop) : Array Value → State → Outcome → State → Prop := fun a st o t =>
  (Qc a st o t ∧ ∃ L, FrameEnd st o t L mc ms ∧ ∀ q ∈ L, free q.base) ∨ ∃ q, o = .threw q ∧ vx_T XC st q t mc ms free
/-- a callee that returns or throws -/
def vx_Met (l : Launch) (y : MethodName) (ws : List Cond) (rm : Room) (Pc : Array Value → State → Prop) (Qc : Array Value → State → Outcome → State → Prop) (XC : String → State → State → Prop) (mc ms : Nat) (free : Addr → Prop) : Prop :=
  MetFree l y (headSpec ws rm) Pc (fun _ _ _ _ _ => True) (vx_Q Qc XC mc ms free)
def vx_Post (XC : String → State → State → Prop) (mc ms : Nat) (free : Addr → Prop) : Pt → Array Value → Addr → Pt → Prop := fun A a q B =>
  ∃ (g : JFrame) (mk : MethodId) (t : State) (L : List Loc) (E : String) (ce : Cell), B.U.heap = t.heap ∧ B.U.vm = t.vm ∧ XC E (A.U.calling g mk a) t ∧ t.heap[q]? = some ce ∧ ce.vm = .none ∧ A.U.vm.findClass E = some ce.cls ∧ B.locs = A.locs ++ L ∧ (∀ z ∈ L, free z.base) ∧ B.cells = A.cells + mc ∧ B.slots = A.slots + ms
def vx_Back (l : Launch) (R : Room) (p : Program) (e : Env) (below : List Frame) (s : State) (sargs : Array Value) (y : MethodName) (len W9 : Nat)
    (Pre : Pt → Array Value → Prop) (Post : Pt → Array Value → Option Value → Pt → Prop) (PostX : Pt → Array Value → Addr → Pt → Prop) : Prop :=
  ∀ (m : MethodId) (meth : Method) (c : Code) (A : Pt) (g : JFrame) (ig : Instr) (mk : MethodId) (a : Array Value),
    Stand p l e R s m sargs below meth c A.U A.locs A.cells A.slots → g.method = m → g.locals.size = c.maxLocals → decode c.code g.pc = .ok (ig, len) →
    2 * g.monitorRoom + (g.stack.map fun v => v.category).sum ≤ W9 → A.U.methodNamed? y = some mk → Pre A a →
    (∃ (v : Option Value) (B : Pt), Stand p l e R s m sargs below meth c B.U B.locs B.cells B.slots ∧ Post A a v B ∧
      Steps p.tables e below (doInvoke e (A.U.setTop g) [] mk a).1 (B.U.setTop { g with pc := g.pc + len, stack := v.toList ++ g.stack })) ∨
    (∃ (q : Addr) (B : Pt), Stand p l e R s m sargs below meth c B.U B.locs B.cells B.slots ∧ PostX A a q B ∧
      Steps p.tables e below (doInvoke e (A.U.setTop g) [] mk a).1 ((B.U.setTop g).pushFrame (.throwing q)))
section Payer
variable {l : Launch} {R : Room} {p : Program} {e : Env} {below : List Frame} {s : State} {sargs : Array Value} {y : MethodName} {len W9 : Nat}
theorem vx_back {ws : List Cond} {rm : Room} {Pc : Array Value → State → Prop} {Qc : Array Value → State → Outcome → State → Prop} {XC : String → State → State → Prop} {mc ms : Nat} {free : Addr → Prop} {bytes : ByteArray} {maxL : Nat} {ret : Option FieldType}
    (hM : vx_Met l y ws rm Pc Qc XC mc ms free) (hblind : FrameBlind Pc) (hrc : rm.cells = mc) (hrs : rm.slots = ms)
    (hframes : rm.frames + 1 ≤ R.frames) (hlocals : W9 + (maxL + 11) + rm.locals ≤ R.locals)
    (hws : ∀ w ∈ ws, ∀ a' U, s.WarmedH U.vm → w.before a' U = true) (hcode : Cond.code y bytes maxL ret ∈ ws) (hinit : ∀ a' U, s.WarmedH U.vm → (Cond.initialized y.cls).before a' U = true) :
    vx_Back l R p e below s sargs y len W9 (PreOf R mc ms Pc) (PostOf Qc mc ms free) (vx_Post XC mc ms free) := by
  intro m meth c A g ig mk a X hg hsize hdg hW hn hp
  have h1 : (headSpec ws rm).pre.before a A.U = true := atoms_intro fun w hw => hws w hw _ _ X.warmed
  have h2 : (Cond.code y bytes maxL ret).before a A.U = true := hws _ hcode _ _ X.warmed
  have h3 : (Cond.initialized y.cls).before a A.U = true := hinit _ _ X.warmed
  have h4 : A.cells + (headSpec ws rm).room.cells ≤ R.cells := by rw [show (headSpec ws rm).room.cells = mc from hrc]; exact hp.1
  have h5 : A.slots + (headSpec ws rm).room.slots ≤ R.slots := by rw [show (headSpec ws rm).room.slots = ms from hrs]; exact hp.2.1
  have hPc : Pc a (A.U.calling g mk a) := hblind _ _ _ _ hp.2.2
  obtain ⟨U, Ls, c0, s0⟩ := A
  dsimp only [Pt.U, Pt.locs, Pt.cells, Pt.slots] at h1 h2 h3 h4 h5 X hn hPc ⊢
  obtain ⟨methY, cY, hmY, hcY, -, hlY, -, -, -, -⟩ := Cond.code_spec hn h2
  obtain ⟨kY, hkY, -⟩ := className_of_methodNamed hn
  have hinitY : kY.init = .initialized := Cond.initialized_spec (findClass_of_methodNamed hn) hkY h3
  have h : At U g.method c below := by rw [hg]; exact X.here
  have hlocals9 : W9 + (maxL + 11) + (headSpec ws rm).room.locals ≤ R.locals := hlocals
  have happ : (headSpec ws rm).appliesLoose y e.platform (U.calling g mk a) = true :=
    Spec.appliesLoose_calling (g := g) h hdg hn hkY hinitY
      (X.room_calling (g := g) (R' := (headSpec ws rm).room) hsize hmY hcY hframes (by rw [hlY]; omega) h4 h5) h1
  obtain ⟨mid, hmid⟩ := h.above
  have hfr : (U.setTop g).frames = (.java g :: mid) ++ below := by rw [State.frames_setTop' g h.top, hmid]; rfl
  obtain ⟨o, s₂, hsteps, -, hend, hq⟩ := Steps.callFree hM p X.admits X.cas X.clock (acts := []) hfr happ hPc trivial
  have hq' : vx_Q Qc XC mc ms free a (U.calling g mk a) o s₂ := hq
  rw [State.frames_setTop' g h.top] at hend
  obtain ⟨g₀, hg0⟩ := Option.isSome_iff_exists.mp h.top
  obtain ⟨r, hr⟩ := State.topJava?_eq_some.mp hg0
  have hr' : (({ U with heap := s₂.heap, slotsUsed := s₂.slotsUsed } : State).setVm s₂.vm).frames = .java g₀ :: r := hr
  rcases hq' with ⟨hqc, L, hfe, hL⟩ | ⟨q, rfl, E, ce, L, hx, hce, hcv, hcl, hW₂, hsm, hL⟩
  · obtain ⟨⟨v, rfl⟩, hW₂, e2, q2, q3, q4, q5, q6⟩ := id hfe
    have e3 : s₂ = ({ (U.calling g mk a).setFrames s₂.frames with heap := s₂.heap, slotsUsed := s₂.slotsUsed } : State).setVm s₂.vm := by
      have : s₂ = ({ s₂ with vm := (U.calling g mk a).vm } : State).setVm s₂.vm := rfl
      rw [e2] at this
      exact this
    obtain ⟨c₂, i₂, len₂, hc₂, hd₂, hf₂⟩ := hend
    have hW' : U.WarmedH s₂.vm := hW₂
    have hcc : c₂ = c := by
      have h1 : s₂.code? g.method = U.code? g.method := by
        rw [State.code?_eq, State.code?_eq, hW'.alike.method?]
      exact Option.some.inj (hc₂.symm.trans (h1.trans h.code))
    subst hcc
    have hlen : len₂ = len := by rw [hdg] at hd₂; cases hd₂; rfl
    subst hlen
    have hs₂ : s₂ = (({ U with heap := s₂.heap, slotsUsed := s₂.slotsUsed } : State).setVm s₂.vm).setTop { g with pc := g.pc + len₂, stack := v.toList ++ g.stack } := by
      refine e3.trans ?_
      rw [hf₂, State.calling_eq h.top, State.setFrames_setFrames, State.setTop_of_frames _ hr', hr]
      rfl
    have hsame : U.sameButNew ({ U with heap := s₂.heap, slotsUsed := s₂.slotsUsed } : State) L mc ms := by
      refine ⟨?_, q2, q3, q4, q5, q6⟩
      obtain ⟨t, ht, -⟩ := State.frames_cons hr
      show ({ U with heap := s₂.heap, slotsUsed := s₂.slotsUsed } : State) = { U.setFrames U.frames with heap := s₂.heap, slotsUsed := s₂.slotsUsed }
      rw [State.setFrames_self ht]
    subst hg
    refine Or.inl ⟨v, ⟨(({ U with heap := s₂.heap, slotsUsed := s₂.slotsUsed } : State).setVm s₂.vm), Ls ++ L, c0 + mc, s0 + ms⟩,
      ⟨X.admits, X.cas, X.clock, X.frames, X.room, X.hears, X.method, X.code, (X.here.setHeapUsed s₂.heap s₂.slotsUsed).setVm hW'.alike, X.tail, State.WarmedH.trans X.warmed hW', X.limits, X.bytes, X.same.trans (hsame.setVm s.vm)⟩,
      ⟨g, mk, s₂, L, rfl, rfl, hqc, rfl, hL, rfl, rfl⟩, ?_⟩
    show Steps p.tables e below _ ((({ U with heap := s₂.heap, slotsUsed := s₂.slotsUsed } : State).setVm s₂.vm).setTop { g with pc := g.pc + len₂, stack := v.toList ++ g.stack })
    rw [← hs₂]
    exact hsteps
  · obtain ⟨e2, q2, q3, q4, q5, q6⟩ := id hsm
    have e3 : s₂ = ({ (U.calling g mk a).setFrames s₂.frames with heap := s₂.heap, slotsUsed := s₂.slotsUsed } : State).setVm s₂.vm := by
      have : s₂ = ({ s₂ with vm := (U.calling g mk a).vm } : State).setVm s₂.vm := rfl
      rw [e2] at this
      exact this
    have hf₂ : s₂.frames = .throwing q :: .java g :: U.frames.tail := hend
    have hW' : U.WarmedH s₂.vm := hW₂
    have hs₂ : s₂ = ((({ U with heap := s₂.heap, slotsUsed := s₂.slotsUsed } : State).setVm s₂.vm).setTop g).pushFrame (.throwing q) := by
      refine e3.trans ?_
      rw [hf₂, State.calling_eq h.top, State.setFrames_setFrames, State.pushFrame, State.frames_setTop _ hr', State.setTop_of_frames _ hr', State.setFrames_setFrames, hr]
      rfl
    have hsame : U.sameButNew ({ U with heap := s₂.heap, slotsUsed := s₂.slotsUsed } : State) L mc ms := by
      refine ⟨?_, q2, q3, q4, q5, q6⟩
      obtain ⟨t, ht, -⟩ := State.frames_cons hr
      show ({ U with heap := s₂.heap, slotsUsed := s₂.slotsUsed } : State) = { U.setFrames U.frames with heap := s₂.heap, slotsUsed := s₂.slotsUsed }
      rw [State.setFrames_self ht]
    subst hg
    refine Or.inr ⟨q, ⟨(({ U with heap := s₂.heap, slotsUsed := s₂.slotsUsed } : State).setVm s₂.vm), Ls ++ L, c0 + mc, s0 + ms⟩,
      ⟨X.admits, X.cas, X.clock, X.frames, X.room, X.hears, X.method, X.code, (X.here.setHeapUsed s₂.heap s₂.slotsUsed).setVm hW'.alike, X.tail, State.WarmedH.trans X.warmed hW', X.limits, X.bytes, X.same.trans (hsame.setVm s.vm)⟩,
      ⟨g, mk, s₂, L, E, ce, rfl, rfl, hx, hce, hcv, hcl, rfl, hL, rfl, rfl⟩, ?_⟩
    show Steps p.tables e below _ (((({ U with heap := s₂.heap, slotsUsed := s₂.slotsUsed } : State).setVm s₂.vm).setTop g).pushFrame (.throwing q))
    rw [← hs₂]
    exact hsteps
end Payer
section Calls
variable {p : Program} {l : Launch} {e : Env} {R : Room} {s : State} {m : MethodId} {args : Array Value} {below : List Frame} {meth : Method} {c : Code} {T : State} {locs : List Loc} {cells slots : Nat}
theorem vx_callV (X : Stand p l e R s m args below meth c T locs cells slots) (hexec : p.tables.exec = Jvm.exec) {own C : String} {index : Nat} {y : MethodName} {bytes : ByteArray} {maxL : Nat} {ret : Option FieldType}
    (hown : s.vm.findClass own = some m.cls) (hlink : (Cond.methodLink own index y).before args s = true) (hinst : (Cond.instanceMethod y).before args s = true) (hsel : (Cond.selects C y y).before args s = true)
    (hcode : (Cond.code y bytes maxL ret).before args s = true) (hy : y.cls ≠ "java/lang/invoke/MethodHandle" ∧ y.cls ≠ "java/lang/invoke/VarHandle")
    {W9 : Nat} {Pre : Pt → Array Value → Prop} {Post : Pt → Array Value → Option Value → Pt → Prop} {PostX : Pt → Array Value → Addr → Pt → Prop} (hK : vx_Back l R p e below s args y 3 W9 Pre Post PostX)
    {b : Addr} {cellB : Cell} (hcell : T.heap[b]? = some cellB) (hobj : cellB.vm.isStatics = false) (hcls : s.vm.findClass C = some cellB.cls)
    {g : JFrame} (hg : g.method = m) (hsize : g.locals.size = c.maxLocals) {argsL rest : List Value} (hlen : ∀ sig, parseMethodDescriptor y.desc = some sig → argsL.length = sig.parameters.length)
    (hstack : g.stack = argsL.reverse ++ .ref b :: rest) (hW : 2 * g.monitorRoom + (rest.map fun v => v.category).sum ≤ W9) (hdg : decode c.code g.pc = .ok (.invokevirtual index, 3))
    (hpre : ∀ vm₁, s.WarmedH vm₁ → Pre ⟨T.setVm vm₁, locs, cells, slots⟩ (Value.ref b :: argsL).toArray) :
    (∃ (v : Option Value) (vm₁ : Vm) (B : Pt), s.WarmedH vm₁ ∧ Stand p l e R s m args below meth c B.U B.locs B.cells B.slots ∧ Post ⟨T.setVm vm₁, locs, cells, slots⟩ (Value.ref b :: argsL).toArray v B ∧
      ∀ target, Steps p.tables e below (B.U.setTop { g with pc := g.pc + 3, stack := v.toList ++ rest }) target → Steps p.tables e below (T.setTop g) target) ∨
    (∃ (q : Addr) (vm₁ : Vm) (B : Pt), s.WarmedH vm₁ ∧ Stand p l e R s m args below meth c B.U B.locs B.cells B.slots ∧ PostX ⟨T.setVm vm₁, locs, cells, slots⟩ (Value.ref b :: argsL).toArray q B ∧
      Steps p.tables e below (T.setTop g) ((B.U.setTop { g with stack := rest }).pushFrame (.throwing q))) := by
  obtain ⟨mk, methM, hnamed, hmethM, hstM, habM⟩ := Cond.instanceMethod_spec hinst
  obtain ⟨methM', cM, hmethM', -, -, -, -, -, -, hsigM⟩ := Cond.code_spec hnamed hcode
  cases hmethM.symm.trans hmethM'
  obtain ⟨c2, r2, m2, q1, q2, q3, q4, kP, hkP, hkPi⟩ := Cond.selects_spec hsel
  cases hcls.symm.trans q1
  cases (State.methodFound?_of_named hnamed hy).symm.trans q2
  cases hnamed.symm.trans q3
  have hselP : selectMethod e.platform s.vm cellB.cls mk = .method mk := by rw [Launch.admits_selectMethod X.admits]; exact q4
  obtain ⟨vm₁, X₁, hstep₁⟩ := X.invokevirtual hexec hown hlink hnamed hmethM hstM hkP hkPi hy (a := b) (cell := cellB) hcell
    (fun z h => by rw [h] at hobj; cases hobj) hselP hmethM habM hkP hkPi (g := g) hg (argsL := argsL) (rest := rest) (hlen _ hsigM) hstack hdg
  rcases hK m meth c ⟨T.setVm vm₁, locs, cells, slots⟩ { g with stack := rest } (.invokevirtual index) mk (Value.ref b :: argsL).toArray X₁ hg hsize hdg hW (X₁.named hnamed) (hpre vm₁ X₁.warmed) with ⟨v, B, X', hpost, hsteps⟩ | ⟨q, B, X', hpost, hsteps⟩
  · exact Or.inl ⟨v, vm₁, B, X₁.warmed, X', hpost, fun target h => hstep₁ _ fun acts => by rw [doInvoke_state]; exact hsteps.trans h⟩
  · exact Or.inr ⟨q, vm₁, B, X₁.warmed, X', hpost, hstep₁ _ fun acts => by rw [doInvoke_state]; exact hsteps⟩
theorem vx_callS (X : Stand p l e R s m args below meth c T locs cells slots) (hexec : p.tables.exec = Jvm.exec) {own : String} {index : Nat} {y : MethodName} {bytes : ByteArray} {maxL : Nat} {ret : Option FieldType}
    (hown : s.vm.findClass own = some m.cls) (hlink : (Cond.methodLink own index y).before args s = true) (hstat : (Cond.static y).before args s = true) (hinit : (Cond.initialized y.cls).before args s = true)
    (hcode : (Cond.code y bytes maxL ret).before args s = true) (hy : y.cls ≠ "java/lang/invoke/MethodHandle" ∧ y.cls ≠ "java/lang/invoke/VarHandle")
    {W9 : Nat} {Pre : Pt → Array Value → Prop} {Post : Pt → Array Value → Option Value → Pt → Prop} {PostX : Pt → Array Value → Addr → Pt → Prop} (hK : vx_Back l R p e below s args y 3 W9 Pre Post PostX)
    {g : JFrame} (hg : g.method = m) (hsize : g.locals.size = c.maxLocals) {argsL rest : List Value} (hlen : ∀ sig, parseMethodDescriptor y.desc = some sig → argsL.length = sig.parameters.length)
    (hstack : g.stack = argsL.reverse ++ rest) (hW : 2 * g.monitorRoom + (rest.map fun v => v.category).sum ≤ W9) (hdg : decode c.code g.pc = .ok (.invokestatic index, 3))
    (hpre : ∀ vm₁, s.WarmedH vm₁ → Pre ⟨T.setVm vm₁, locs, cells, slots⟩ argsL.toArray) :
    (∃ (v : Option Value) (vm₁ : Vm) (B : Pt), s.WarmedH vm₁ ∧ Stand p l e R s m args below meth c B.U B.locs B.cells B.slots ∧ Post ⟨T.setVm vm₁, locs, cells, slots⟩ argsL.toArray v B ∧
      ∀ target, Steps p.tables e below (B.U.setTop { g with pc := g.pc + 3, stack := v.toList ++ rest }) target → Steps p.tables e below (T.setTop g) target) ∨
    (∃ (q : Addr) (vm₁ : Vm) (B : Pt), s.WarmedH vm₁ ∧ Stand p l e R s m args below meth c B.U B.locs B.cells B.slots ∧ PostX ⟨T.setVm vm₁, locs, cells, slots⟩ argsL.toArray q B ∧
      Steps p.tables e below (T.setTop g) ((B.U.setTop { g with stack := rest }).pushFrame (.throwing q))) := by
  obtain ⟨mk, hnamed⟩ := Cond.code_named hcode
  obtain ⟨methM, cM, hmethM, -, -, -, -, -, -, hsigM⟩ := Cond.code_spec hnamed hcode
  have hstatic : methM.isStatic = true := Cond.static_spec hnamed hmethM hstat
  obtain ⟨kP, hkP, -⟩ := className_of_methodNamed hnamed
  have hinitP : kP.init = .initialized := Cond.initialized_spec (findClass_of_methodNamed hnamed) hkP hinit
  obtain ⟨vm₁, X₁, hstep₁⟩ := X.invokestatic hexec hown hlink hnamed hmethM hstatic hkP hinitP hy (g := g) hg (argsL := argsL) (rest := rest) (hlen _ hsigM) hstack hdg
  rcases hK m meth c ⟨T.setVm vm₁, locs, cells, slots⟩ { g with stack := rest } (.invokestatic index) mk argsL.toArray X₁ hg hsize hdg hW (X₁.named hnamed) (hpre vm₁ X₁.warmed) with ⟨v, B, X', hpost, hsteps⟩ | ⟨q, B, X', hpost, hsteps⟩
  · exact Or.inl ⟨v, vm₁, B, X₁.warmed, X', hpost, fun target h => hstep₁ _ fun acts => by rw [doInvoke_state]; exact hsteps.trans h⟩
  · exact Or.inr ⟨q, vm₁, B, X₁.warmed, X', hpost, hstep₁ _ fun acts => by rw [doInvoke_state]; exact hsteps⟩
end Calls
theorem vx_cls {s : State} {T : State} {vm₁ : Vm} {E : String} {k : ClassId} (hW : s.WarmedH vm₁) (h : (T.setVm vm₁).vm.findClass E = some k) : s.vm.findClass E = some k := by
  have h1 : vm₁.findClass E = some k := h
  rw [hW.alike.findClass] at h1
  exact h1
/-- the method's frame g, with q thrown over it -/
def vx_W (p : Program) (l : Launch) (e : Env) (R : Room) (s : State) (m : MethodId) (args : Array Value) (below : List Frame) (meth : Method) (c : Code) (H : Heap) (locs : List Loc) (cells slots : Nat) (Q : State → Prop) (g : JFrame) (q : Addr) : Prop :=
  ∀ T : State, T.heap = H → Stand p l e R s m args below meth c T locs cells slots → ∃ t, Steps p.tables e below ((T.setTop g).pushFrame (.throwing q)) t ∧ Q t
def vx_Run (p : Program) (l : Launch) (e : Env) (R : Room) (s : State) (m : MethodId) (args : Array Value) (below : List Frame) (meth : Method) (c : Code) (H : Heap) (locs : List Loc) (cells slots mc ms : Nat) (g : JFrame) (rest : List Value) (Qa : State → Outcome → State → Prop) (XC : String → State → State → Prop) (free : Addr → Prop) : Prop :=
  ∀ T : State, T.heap = H → Stand p l e R s m args below meth c T locs cells slots →
    (∃ (v : Option Value) (st₀ t T' : State) (L : List Loc), st₀.heap = H ∧ Stand p l e R s m args below meth c T' (locs ++ L) (cells + mc) (slots + ms) ∧ (∀ q ∈ L, free q.base) ∧ T'.heap = t.heap ∧ T'.vm = t.vm ∧ Qa st₀ (.returned v) t ∧
      Goes p e below T g T' { g with pc := g.pc + 3, stack := v.toList ++ rest }) ∨
    (∃ (q : Addr) (st₀ t T' : State) (L : List Loc) (E : String) (ce : Cell), st₀.heap = H ∧ Stand p l e R s m args below meth c T' (locs ++ L) (cells + mc) (slots + ms) ∧ (∀ z ∈ L, free z.base) ∧ T'.heap = t.heap ∧ T'.vm = t.vm ∧ XC E st₀ t ∧ t.heap[q]? = some ce ∧ ce.vm = .none ∧ s.vm.findClass E = some ce.cls ∧
      Steps p.tables e below (T.setTop g) ((T'.setTop { g with stack := rest }).pushFrame (.throwing q)))
def vx_X {S : Type} (px : S → Prop) (B : String → S → State → Prop) (A : Nat → Prop) : String → State → State → Prop := fun E st t => ∃ u : S, px u ∧ B E u t ∧ va_F A st t
section Runs
variable {p : Program} {l : Launch} {e : Env} {R : Room} {s : State} {m : MethodId} {args : Array Value} {below : List Frame} {meth : Method} {c : Code} {H : Heap} {locs : List Loc} {cells slots : Nat}
variable {y : MethodName} {bytes cc : ByteArray} {maxL nL mc ms n index : Nat} {ret : Option FieldType} {ws : List Cond} {rm : Room} {Pc : Array Value → State → Prop} {Qc : Array Value → State → Outcome → State → Prop} {XC : String → State → State → Prop} {free : Addr → Prop} {Ts : List Cond} {own C : String} {b : Addr} {As rest : List Value} {g : JFrame}
theorem vx_callBack (cb : CallB R s args own index y bytes maxL ret ws rm mc ms n) (hM : vx_Met l y ws rm Pc Qc XC mc ms free) (hbl : FrameBlind Pc) : vx_Back l R p e below s args y 3 8 (PreOf R mc ms Pc) (PostOf Qc mc ms free) (vx_Post XC mc ms free) := by
  obtain ⟨hrc, hrs, hfr, hlo, hws, hcw, -, hini, -⟩ := cb
  exact vx_back (bytes := bytes) (maxL := maxL) (ret := ret) hM hbl hrc hrs hfr hlo hws hcw (fun a' U hW => word_at hW (Or.inl (by first | rfl | simp [Cond.onTables, Cond.keeps, Cond.steady])) hini)
theorem vx_runV (S : CallFix p m c cc nL s args Ts own) (hM : vx_Met l y ws rm Pc Qc XC mc ms free) (cw : CallW R s args own C index y bytes maxL ret ws rm mc ms n) (hp : PreV s H C b Pc As)
    (hg : g.method = m) (hn : As.length = n) (hsize : g.locals.size = nL) (hstack : g.stack = As.reverse ++ .ref b :: rest) (hW : 2 * g.monitorRoom + (rest.map fun v => v.category).sum ≤ 8) (hdg : decode cc g.pc = .ok (.invokevirtual index, 3)) (hf : cells + mc ≤ R.cells ∧ slots + ms ≤ R.slots) :
    vx_Run p l e R s m args below meth c H locs cells slots mc ms g rest (Qc (Value.ref b :: As).toArray) XC free := by
  have hK : vx_Back l R p e below s args y 3 8 (PreOf R mc ms Pc) (PostOf Qc mc ms free) (vx_Post XC mc ms free) := vx_callBack cw.1 hM hp.1
  obtain ⟨⟨-, -, -, -, -, -, hcode, -, hy, hlen, hl⟩, hin, hse⟩ := cw
  obtain ⟨hx, hb, hml, ho, -⟩ := S
  obtain ⟨-, ⟨cellB, hcB, hoB, hclB⟩, hPc⟩ := hp
  intro T hT X
  rcases vx_callV X hx (C := C) (bytes := bytes) (maxL := maxL) (ret := ret) ho hl hin hse hcode hy hK (by rw [hT]; exact hcB) hoB hclB hg (hsize.trans hml.symm) (argsL := As) (rest := rest) (fun sig h => hn.trans (hlen sig h)) hstack hW (by rw [hb]; exact hdg)
    (fun vm₁ hW₁ => ⟨hf.1, hf.2, hPc (T.setVm vm₁) hT hW₁⟩) with ⟨v, vm₁, ⟨U', l2, c2, s2⟩, hW₁, X', ⟨g', mk, t, L, e1, e2, hq, h1, hL, h2, h3⟩, st⟩ | ⟨q, vm₁, ⟨U', l2, c2, s2⟩, hW₁, X', ⟨g', mk, t, L, E, ce, e1, e2, hq, hce, hcv, hcl, h1, hL, h2, h3⟩, st⟩
  · dsimp only [Pt.U, Pt.locs, Pt.cells, Pt.slots] at X' e1 e2 h1 h2 h3 st
    subst h1; subst h2; subst h3
    exact Or.inl ⟨v, (T.setVm vm₁).calling g' mk (Value.ref b :: As).toArray, t, U', L, hT, X', hL, e1, e2, hq, st⟩
  · dsimp only [Pt.U, Pt.locs, Pt.cells, Pt.slots] at X' e1 e2 h1 h2 h3 st hcl
    subst h1; subst h2; subst h3
    exact Or.inr ⟨q, (T.setVm vm₁).calling g' mk (Value.ref b :: As).toArray, t, U', L, E, ce, hT, X', hL, e1, e2, hq, hce, hcv, vx_cls hW₁ hcl, st⟩
theorem vx_runS (S : CallFix p m c cc nL s args Ts own) (hM : vx_Met l y ws rm Pc Qc XC mc ms free) (cw : CallB R s args own index y bytes maxL ret ws rm mc ms n ∧ (Cond.static y).before args s = true) (hp : PreS s H Pc As)
    (hg : g.method = m) (hn : As.length = n) (hsize : g.locals.size = nL) (hstack : g.stack = As.reverse ++ rest) (hW : 2 * g.monitorRoom + (rest.map fun v => v.category).sum ≤ 8) (hdg : decode cc g.pc = .ok (.invokestatic index, 3)) (hf : cells + mc ≤ R.cells ∧ slots + ms ≤ R.slots) :
    vx_Run p l e R s m args below meth c H locs cells slots mc ms g rest (Qc As.toArray) XC free := by
  have hK : vx_Back l R p e below s args y 3 8 (PreOf R mc ms Pc) (PostOf Qc mc ms free) (vx_Post XC mc ms free) := vx_callBack cw.1 hM hp.1
  obtain ⟨⟨-, -, -, -, -, -, hcode, hini, hy, hlen, hl⟩, hstt⟩ := cw
  obtain ⟨hx, hb, hml, ho, -⟩ := S
  intro T hT X
  rcases vx_callS X hx (bytes := bytes) (maxL := maxL) (ret := ret) ho hl hstt hini hcode hy hK hg (hsize.trans hml.symm) (argsL := As) (rest := rest) (fun sig h => hn.trans (hlen sig h)) hstack hW (by rw [hb]; exact hdg)
    (fun vm₁ hW₁ => ⟨hf.1, hf.2, hp.2 (T.setVm vm₁) hT hW₁⟩) with ⟨v, vm₁, ⟨U', l2, c2, s2⟩, hW₁, X', ⟨g', mk, t, L, e1, e2, hq, h1, hL, h2, h3⟩, st⟩ | ⟨q, vm₁, ⟨U', l2, c2, s2⟩, hW₁, X', ⟨g', mk, t, L, E, ce, e1, e2, hq, hce, hcv, hcl, h1, hL, h2, h3⟩, st⟩
  · dsimp only [Pt.U, Pt.locs, Pt.cells, Pt.slots] at X' e1 e2 h1 h2 h3 st
    subst h1; subst h2; subst h3
    exact Or.inl ⟨v, (T.setVm vm₁).calling g' mk As.toArray, t, U', L, hT, X', hL, e1, e2, hq, st⟩
  · dsimp only [Pt.U, Pt.locs, Pt.cells, Pt.slots] at X' e1 e2 h1 h2 h3 st hcl
    subst h1; subst h2; subst h3
    exact Or.inr ⟨q, (T.setVm vm₁).calling g' mk As.toArray, t, U', L, E, ce, hT, X', hL, e1, e2, hq, hce, hcv, vx_cls hW₁ hcl, st⟩
end Runs
section Rows
variable {p : Program} {l : Launch} {e : Env} {R : Room} {s : State} {m : MethodId} {args : Array Value} {below : List Frame} {meth : Method} {c : Code} {H : Heap} {locs : List Loc} {cells slots : Nat} {Q : State → Prop}
variable {mc ms : Nat} {free : Addr → Prop} {A0 A1 : Nat → Prop} {H0 : Heap} {a : Array Value} {pc : Nat} {ls : Array Slot} {st0 rest : List Value}
theorem vx_keep {st₀ t T' : State} {L : List Loc} (h0 : st₀.heap = H) (e1 : T'.heap = t.heap) (hS : va_S A0 H0 H locs) (hA : ∀ q, q < H.size → A1 q → A0 q) (hf : ∀ q, free q → A0 q) (hL : ∀ q ∈ L, free q.base) (hF : va_F A1 st₀ t) :
    H.size ≤ T'.heap.size ∧ (∀ q : Nat, q < H.size → ¬ A1 q → T'.heap[q]? = H[q]?) ∧ va_S A0 H0 T'.heap (locs ++ L) := by
  obtain ⟨hz, hk⟩ := hF
  rw [h0] at hz hk
  exact ⟨by rw [e1]; exact hz, fun q h1 h2 => by rw [e1]; exact hk q h1 h2,
    ⟨Nat.le_trans hS.1 (by rw [e1]; exact hz), fun q h1 h2 => by rw [e1, hk q (Nat.lt_of_lt_of_le h1 hS.1) (fun z => h2 (hA q (Nat.lt_of_lt_of_le h1 hS.1) z))]; exact hS.2.1 q h1 h2, fun q hq => by
      rcases List.mem_append.mp hq with h | h
      · exact hS.2.2 q h
      · exact hf _ (hL q h)⟩⟩
theorem vx_calli {S SX : Type} {post : Int32 → S → Prop} {px : SX → Prop} {B : S → State → Prop} {BX : String → SX → State → Prop} {AX : Nat → Prop} (hr : vx_Run p l e R s m args below meth c H locs cells slots mc ms (F0 m pc ls st0) rest (va_Qi post B A1 a) (vx_X px BX AX) free) (hS : va_S A0 H0 H locs) (hA : ∀ q, q < H.size → A1 q → A0 q) (hf : ∀ q, free q → A0 q) (hAX : ∀ q, q < H.size → AX q → A0 q)
    (kx : ∀ (E : String) (ce : Cell) (q9 : Addr) (u : SX) (t : State) (H1 : Heap) (locs1 : List Loc), t.heap = H1 → s.vm.Alike t.vm → px u → BX E u t → H.size ≤ H1.size → (∀ q : Nat, q < H.size → ¬ AX q → H1[q]? = H[q]?) → va_S A0 H0 H1 locs1 → H1[q9]? = some ce → ce.vm = .none → s.vm.findClass E = some ce.cls → vx_W p l e R s m args below meth c H1 locs1 (cells + mc) (slots + ms) Q (F0 m pc ls rest) q9)
    (kk : ∀ (r : Int32) (u : S) (t : State) (H1 : Heap) (locs1 : List Loc), t.heap = H1 → s.vm.Alike t.vm → post r u → B u t → H.size ≤ H1.size → (∀ q : Nat, q < H.size → ¬ A1 q → H1[q]? = H[q]?) → va_S A0 H0 H1 locs1 → W p l e R s m args below meth c H1 locs1 (cells + mc) (slots + ms) Q (F0 m (pc + 3) ls (.int r :: rest))) : W p l e R s m args below meth c H locs cells slots Q (F0 m pc ls st0) := by
  intro T hT X
  rcases hr T hT X with ⟨v, st₀, t, T', L, h0, X', hL, e1, e2, ⟨⟨r, u, hv, hp, hb⟩, hF⟩, st⟩ | ⟨q, st₀, t, T', L, E, ce, h0, X', hL, e1, e2, ⟨u, hp, hb, hF⟩, hce, hcv, hcl, st⟩
  · cases hv
    obtain ⟨k1, k2, k3⟩ := vx_keep h0 e1 hS hA hf hL hF
    obtain ⟨t2, a1, b1⟩ := kk r u t T'.heap (locs ++ L) e1.symm (by rw [← e2]; exact X'.warmed.alike) hp hb k1 k2 k3 T' rfl X'
    exact ⟨t2, st t2 a1, b1⟩
  · obtain ⟨k1, k2, k3⟩ := vx_keep h0 e1 hS hAX hf hL hF
    obtain ⟨t2, a1, b1⟩ := kx E ce q u t T'.heap (locs ++ L) e1.symm (by rw [← e2]; exact X'.warmed.alike) hp hb k1 k2 k3 (by rw [e1]; exact hce) hcv hcl T' rfl X'
    exact ⟨t2, st.trans a1, b1⟩
theorem vx_calll {S SX : Type} {post : Int64 → S → Prop} {px : SX → Prop} {B : S → State → Prop} {BX : String → SX → State → Prop} {AX : Nat → Prop} (hr : vx_Run p l e R s m args below meth c H locs cells slots mc ms (F0 m pc ls st0) rest (va_Ql post B A1 a) (vx_X px BX AX) free) (hS : va_S A0 H0 H locs) (hA : ∀ q, q < H.size → A1 q → A0 q) (hf : ∀ q, free q → A0 q) (hAX : ∀ q, q < H.size → AX q → A0 q)
    (kx : ∀ (E : String) (ce : Cell) (q9 : Addr) (u : SX) (t : State) (H1 : Heap) (locs1 : List Loc), t.heap = H1 → s.vm.Alike t.vm → px u → BX E u t → H.size ≤ H1.size → (∀ q : Nat, q < H.size → ¬ AX q → H1[q]? = H[q]?) → va_S A0 H0 H1 locs1 → H1[q9]? = some ce → ce.vm = .none → s.vm.findClass E = some ce.cls → vx_W p l e R s m args below meth c H1 locs1 (cells + mc) (slots + ms) Q (F0 m pc ls rest) q9)
    (kk : ∀ (r : Int64) (u : S) (t : State) (H1 : Heap) (locs1 : List Loc), t.heap = H1 → s.vm.Alike t.vm → post r u → B u t → H.size ≤ H1.size → (∀ q : Nat, q < H.size → ¬ A1 q → H1[q]? = H[q]?) → va_S A0 H0 H1 locs1 → W p l e R s m args below meth c H1 locs1 (cells + mc) (slots + ms) Q (F0 m (pc + 3) ls (.long r :: rest))) : W p l e R s m args below meth c H locs cells slots Q (F0 m pc ls st0) := by
  intro T hT X
  rcases hr T hT X with ⟨v, st₀, t, T', L, h0, X', hL, e1, e2, ⟨⟨r, u, hv, hp, hb⟩, hF⟩, st⟩ | ⟨q, st₀, t, T', L, E, ce, h0, X', hL, e1, e2, ⟨u, hp, hb, hF⟩, hce, hcv, hcl, st⟩
  · cases hv
    obtain ⟨k1, k2, k3⟩ := vx_keep h0 e1 hS hA hf hL hF
    obtain ⟨t2, a1, b1⟩ := kk r u t T'.heap (locs ++ L) e1.symm (by rw [← e2]; exact X'.warmed.alike) hp hb k1 k2 k3 T' rfl X'
    exact ⟨t2, st t2 a1, b1⟩
  · obtain ⟨k1, k2, k3⟩ := vx_keep h0 e1 hS hAX hf hL hF
    obtain ⟨t2, a1, b1⟩ := kx E ce q u t T'.heap (locs ++ L) e1.symm (by rw [← e2]; exact X'.warmed.alike) hp hb k1 k2 k3 (by rw [e1]; exact hce) hcv hcl T' rfl X'
    exact ⟨t2, st.trans a1, b1⟩
theorem vx_callf {S SX : Type} {post : UInt32 → S → Prop} {px : SX → Prop} {B : S → State → Prop} {BX : String → SX → State → Prop} {AX : Nat → Prop} (hr : vx_Run p l e R s m args below meth c H locs cells slots mc ms (F0 m pc ls st0) rest (va_Qf post B A1 a) (vx_X px BX AX) free) (hS : va_S A0 H0 H locs) (hA : ∀ q, q < H.size → A1 q → A0 q) (hf : ∀ q, free q → A0 q) (hAX : ∀ q, q < H.size → AX q → A0 q)
    (kx : ∀ (E : String) (ce : Cell) (q9 : Addr) (u : SX) (t : State) (H1 : Heap) (locs1 : List Loc), t.heap = H1 → s.vm.Alike t.vm → px u → BX E u t → H.size ≤ H1.size → (∀ q : Nat, q < H.size → ¬ AX q → H1[q]? = H[q]?) → va_S A0 H0 H1 locs1 → H1[q9]? = some ce → ce.vm = .none → s.vm.findClass E = some ce.cls → vx_W p l e R s m args below meth c H1 locs1 (cells + mc) (slots + ms) Q (F0 m pc ls rest) q9)
    (kk : ∀ (r : UInt32) (u : S) (t : State) (H1 : Heap) (locs1 : List Loc), t.heap = H1 → s.vm.Alike t.vm → post r u → B u t → H.size ≤ H1.size → (∀ q : Nat, q < H.size → ¬ A1 q → H1[q]? = H[q]?) → va_S A0 H0 H1 locs1 → W p l e R s m args below meth c H1 locs1 (cells + mc) (slots + ms) Q (F0 m (pc + 3) ls (.float r :: rest))) : W p l e R s m args below meth c H locs cells slots Q (F0 m pc ls st0) := by
  intro T hT X
  rcases hr T hT X with ⟨v, st₀, t, T', L, h0, X', hL, e1, e2, ⟨⟨r, u, hv, hp, hb⟩, hF⟩, st⟩ | ⟨q, st₀, t, T', L, E, ce, h0, X', hL, e1, e2, ⟨u, hp, hb, hF⟩, hce, hcv, hcl, st⟩
  · cases hv
    obtain ⟨k1, k2, k3⟩ := vx_keep h0 e1 hS hA hf hL hF
    obtain ⟨t2, a1, b1⟩ := kk r u t T'.heap (locs ++ L) e1.symm (by rw [← e2]; exact X'.warmed.alike) hp hb k1 k2 k3 T' rfl X'
    exact ⟨t2, st t2 a1, b1⟩
  · obtain ⟨k1, k2, k3⟩ := vx_keep h0 e1 hS hAX hf hL hF
    obtain ⟨t2, a1, b1⟩ := kx E ce q u t T'.heap (locs ++ L) e1.symm (by rw [← e2]; exact X'.warmed.alike) hp hb k1 k2 k3 (by rw [e1]; exact hce) hcv hcl T' rfl X'
    exact ⟨t2, st.trans a1, b1⟩
theorem vx_calld {S SX : Type} {post : UInt64 → S → Prop} {px : SX → Prop} {B : S → State → Prop} {BX : String → SX → State → Prop} {AX : Nat → Prop} (hr : vx_Run p l e R s m args below meth c H locs cells slots mc ms (F0 m pc ls st0) rest (va_Qd post B A1 a) (vx_X px BX AX) free) (hS : va_S A0 H0 H locs) (hA : ∀ q, q < H.size → A1 q → A0 q) (hf : ∀ q, free q → A0 q) (hAX : ∀ q, q < H.size → AX q → A0 q)
    (kx : ∀ (E : String) (ce : Cell) (q9 : Addr) (u : SX) (t : State) (H1 : Heap) (locs1 : List Loc), t.heap = H1 → s.vm.Alike t.vm → px u → BX E u t → H.size ≤ H1.size → (∀ q : Nat, q < H.size → ¬ AX q → H1[q]? = H[q]?) → va_S A0 H0 H1 locs1 → H1[q9]? = some ce → ce.vm = .none → s.vm.findClass E = some ce.cls → vx_W p l e R s m args below meth c H1 locs1 (cells + mc) (slots + ms) Q (F0 m pc ls rest) q9)
    (kk : ∀ (r : UInt64) (u : S) (t : State) (H1 : Heap) (locs1 : List Loc), t.heap = H1 → s.vm.Alike t.vm → post r u → B u t → H.size ≤ H1.size → (∀ q : Nat, q < H.size → ¬ A1 q → H1[q]? = H[q]?) → va_S A0 H0 H1 locs1 → W p l e R s m args below meth c H1 locs1 (cells + mc) (slots + ms) Q (F0 m (pc + 3) ls (.double r :: rest))) : W p l e R s m args below meth c H locs cells slots Q (F0 m pc ls st0) := by
  intro T hT X
  rcases hr T hT X with ⟨v, st₀, t, T', L, h0, X', hL, e1, e2, ⟨⟨r, u, hv, hp, hb⟩, hF⟩, st⟩ | ⟨q, st₀, t, T', L, E, ce, h0, X', hL, e1, e2, ⟨u, hp, hb, hF⟩, hce, hcv, hcl, st⟩
  · cases hv
    obtain ⟨k1, k2, k3⟩ := vx_keep h0 e1 hS hA hf hL hF
    obtain ⟨t2, a1, b1⟩ := kk r u t T'.heap (locs ++ L) e1.symm (by rw [← e2]; exact X'.warmed.alike) hp hb k1 k2 k3 T' rfl X'
    exact ⟨t2, st t2 a1, b1⟩
  · obtain ⟨k1, k2, k3⟩ := vx_keep h0 e1 hS hAX hf hL hF
    obtain ⟨t2, a1, b1⟩ := kx E ce q u t T'.heap (locs ++ L) e1.symm (by rw [← e2]; exact X'.warmed.alike) hp hb k1 k2 k3 (by rw [e1]; exact hce) hcv hcl T' rfl X'
    exact ⟨t2, st.trans a1, b1⟩
theorem vx_callv {S SX : Type} {post : S → Prop} {px : SX → Prop} {B : S → State → Prop} {BX : String → SX → State → Prop} {AX : Nat → Prop} (hr : vx_Run p l e R s m args below meth c H locs cells slots mc ms (F0 m pc ls st0) rest (va_Qv post B A1 a) (vx_X px BX AX) free) (hS : va_S A0 H0 H locs) (hA : ∀ q, q < H.size → A1 q → A0 q) (hf : ∀ q, free q → A0 q) (hAX : ∀ q, q < H.size → AX q → A0 q)
    (kx : ∀ (E : String) (ce : Cell) (q9 : Addr) (u : SX) (t : State) (H1 : Heap) (locs1 : List Loc), t.heap = H1 → s.vm.Alike t.vm → px u → BX E u t → H.size ≤ H1.size → (∀ q : Nat, q < H.size → ¬ AX q → H1[q]? = H[q]?) → va_S A0 H0 H1 locs1 → H1[q9]? = some ce → ce.vm = .none → s.vm.findClass E = some ce.cls → vx_W p l e R s m args below meth c H1 locs1 (cells + mc) (slots + ms) Q (F0 m pc ls rest) q9)
    (kk : ∀ (u : S) (t : State) (H1 : Heap) (locs1 : List Loc), t.heap = H1 → s.vm.Alike t.vm → post u → B u t → H.size ≤ H1.size → (∀ q : Nat, q < H.size → ¬ A1 q → H1[q]? = H[q]?) → va_S A0 H0 H1 locs1 → W p l e R s m args below meth c H1 locs1 (cells + mc) (slots + ms) Q (F0 m (pc + 3) ls (rest))) : W p l e R s m args below meth c H locs cells slots Q (F0 m pc ls st0) := by
  intro T hT X
  rcases hr T hT X with ⟨v, st₀, t, T', L, h0, X', hL, e1, e2, ⟨⟨u, hv, hp, hb⟩, hF⟩, st⟩ | ⟨q, st₀, t, T', L, E, ce, h0, X', hL, e1, e2, ⟨u, hp, hb, hF⟩, hce, hcv, hcl, st⟩
  · cases hv
    obtain ⟨k1, k2, k3⟩ := vx_keep h0 e1 hS hA hf hL hF
    obtain ⟨t2, a1, b1⟩ := kk u t T'.heap (locs ++ L) e1.symm (by rw [← e2]; exact X'.warmed.alike) hp hb k1 k2 k3 T' rfl X'
    exact ⟨t2, st t2 a1, b1⟩
  · obtain ⟨k1, k2, k3⟩ := vx_keep h0 e1 hS hAX hf hL hF
    obtain ⟨t2, a1, b1⟩ := kx E ce q u t T'.heap (locs ++ L) e1.symm (by rw [← e2]; exact X'.warmed.alike) hp hb k1 k2 k3 (by rw [e1]; exact hce) hcv hcl T' rfl X'
    exact ⟨t2, st.trans a1, b1⟩
/-- caught by the row x of this method's table; the rows ahead don't take it -/
theorem vx_catch {own name : String} {E : String} {ce : Cell} {q : Addr} (hown : s.vm.findClass own = some m.cls) (pre : List ExceptionTableEntry) (x : ExceptionTableEntry) (suf : List ExceptionTableEntry) (hsplit : c.exceptionTable.toList = pre ++ x :: suf)
    (hpass : ∀ z ∈ pre, covers z pc = false ∨ (z.catchType ≠ 0 ∧ ∃ nm : String, (Cond.classLink own z.catchType nm).before args s = true ∧ va_Nc E nm s)) (hx : covers x pc = true) (h0 : x.catchType ≠ 0)
    (hlink : (Cond.classLink own x.catchType name).before args s = true) (hcast : (Cond.castable E name).before args s = true) (hcell : H[q]? = some ce) (hv : ce.vm = .none) (hcl : s.vm.findClass E = some ce.cls)
    (kk : W p l e R s m args below meth c H locs cells slots Q (F0 m x.handlerPc ls [.ref q])) : vx_W p l e R s m args below meth c H locs cells slots Q (F0 m pc ls rest) q := by
  intro T hT X
  have hpl : e.platform.magicAccessors = ({} : Platform).magicAccessors := by rw [X.admits.platform]
  obtain ⟨c3, c4, hc3, hc4, hasg⟩ := Cond.castable_spec hcast
  cases Option.some.inj (hc3.symm.trans hcl)
  obtain ⟨c5, hc5, hcl5⟩ := Cond.classLink_spec hown hlink e.platform hpl
  cases Option.some.inj (hc4.symm.trans hc5)
  obtain ⟨vm', X', st⟩ := X.thenCaughtThrough q (g := F0 m pc ls rest) rfl (Steps.refl _) (by rw [hT]; exact hcell) (by rw [hv]; rfl) (by obtain ⟨k9, h9, -⟩ := Vm.findClass_spec hcl; exact ⟨k9, h9⟩) pre x suf hsplit
    (fun z hz => by
      rcases hpass z hz with h | ⟨hz0, nm, hl1, hn1⟩
      · exact Or.inl h
      · obtain ⟨c6, hc6, hcl6⟩ := Cond.classLink_spec hown hl1 e.platform hpl
        obtain ⟨a8, b8, h1, h2, h3⟩ := hn1
        cases Option.some.inj (h1.symm.trans hcl)
        cases Option.some.inj (h2.symm.trans hc6)
        exact Or.inr ⟨hz0, _, hcl6, h3⟩) hx (Or.inr ⟨h0, c4, hcl5, hasg⟩)
  obtain ⟨t, a1, b1⟩ := kk (T.setVm vm') hT X'
  exact ⟨t, st.trans a1, b1⟩
end Rows
section Ends
variable {p : Program} {l : Launch} {e : Env} {R : Room} {s : State} {m : MethodId} {args : Array Value} {below : List Frame} {meth : Method} {c : Code} {H : Heap} {locs : List Loc} {cells slots : Nat} {Q : State → Prop}
variable {mc ms : Nat} {free : Addr → Prop} {A0 A1 : Nat → Prop} {H0 : Heap} {a : Array Value} {ls : Array Slot} {st0 rest : List Value}
variable {Qc : Array Value → State → Outcome → State → Prop} {XC : String → State → State → Prop}
/-- what a body that may throw owes at its end -/
def vx_MQ (below : List Frame) (Qc : Array Value → State → Outcome → State → Prop) (XC : String → State → State → Prop) (a : Array Value) (s : State) (mc ms : Nat) (free : Addr → Prop) : State → Prop := fun t =>
  ∃ o, t.status = .running ∧ Ended t below o ∧ vx_Q Qc XC mc ms free a s o t
theorem vx_ret {g : JFrame} {mc ms : Nat} (k : W p l e R s m args below meth c H locs cells slots (MQ below Qc args s mc ms free) g) : W p l e R s m args below meth c H locs cells slots (vx_MQ below Qc XC args s mc ms free) g := by
  intro T hT X
  obtain ⟨t, a1, o, b1, b2, b3, b4⟩ := k T hT X
  exact ⟨t, a1, o, b1, b2, Or.inl ⟨b3, b4⟩⟩
/-- not caught here: it goes on to the caller -/
theorem vx_widen {g : JFrame} {q : Addr} {k n : Nat} (h1 : cells ≤ k) (h2 : slots ≤ n) (kk : vx_W p l e R s m args below meth c H locs k n Q g q) : vx_W p l e R s m args below meth c H locs cells slots Q g q := fun T hT X => kk T hT (stand_widen X h1 h2)
theorem vx_out {pc : Nat} {E : String} {ce : Cell} {q : Addr} {mc ms : Nat} (hout : ∀ x ∈ c.exceptionTable.toList, covers x pc = false) (hlocks : meth.locks = false) (hcell : H[q]? = some ce) (hv : ce.vm = .none) (hcl : s.vm.findClass E = some ce.cls)
    (hx : ∀ t : State, t.heap = H → s.vm.Alike t.vm → XC E s t) (hf : ∀ z ∈ locs, free z.base) (hc : cells ≤ mc) (hs : slots ≤ ms) :
    vx_W p l e R s m args below meth c H locs cells slots (vx_MQ below Qc XC args s mc ms free) (F0 m pc ls rest) q := by
  intro T hT X
  obtain ⟨st1, hrun, hend, hW, hsm⟩ := X.leaveThrown q (g := F0 m pc ls rest) rfl rfl rfl hout hlocks
  have hcell9 : (T.setFrames (.throwing q :: below)).heap[q]? = some ce := by
    show T.heap[q]? = some ce
    rw [hT]; exact hcell
  exact ⟨_, st1, .threw q, hrun, hend, Or.inr ⟨q, rfl, E, ce, locs, hx _ hT hW.alike, hcell9, hv, hcl, hW, hsm.mono hc hs, hf⟩⟩
theorem vx_frame {U : State} {k n : Nat} (h : s.sameButNew ({ U with vm := s.vm } : State) locs k n) : s.heap.size ≤ U.heap.size ∧ ∀ q : Nat, q < s.heap.size → (∀ z ∈ locs, z.base ≠ q) → U.heap[q]? = s.heap[q]? := by
  obtain ⟨-, h2, -, -, -, h6⟩ := h
  refine ⟨h2, fun q hq hz => ?_⟩
  obtain ⟨c9, e1, e2, e3, e4⟩ := h6 q _ (Array.getElem?_eq_getElem hq)
  have hs : c9.slots = (s.heap[q]).slots := Array.ext_getElem? fun i => e4 i fun hm => hz _ hm rfl
  have h9 : c9 = s.heap[q] := by
    rw [hs] at e2
    exact e2
  have e5 : U.heap[q]? = some c9 := e1
  rw [e5, h9, Array.getElem?_eq_getElem hq]
/-- the words of a throw but the four that speak of the heap -/
def vx_no (w : Cond) : Bool := decide (w ≠ .isRef (.static Bundle.tN "UNASSIGNED_STACK" Bundle.steD)) && decide (w ≠ .isRef (.static Bundle.tN "SUPPRESSED_SENTINEL" Bundle.listD)) && decide (w ≠ .laysStatic Bundle.tN "UNASSIGNED_STACK" Bundle.steD) && decide (w ≠ .laysStatic Bundle.tN "SUPPRESSED_SENTINEL" Bundle.listD)
def vx_at0 (own : String) (ic : Nat) (X : String) (names : List String) : List Cond := (Bundle.ownAtoms0 own ic X names).filter vx_no
def vx_atS (own : String) (ic : Nat) (X : String) (names : List String) : List Cond := (Bundle.ownAtoms own ic X names).filter vx_no
/-- a word that the tables alone decide, or a good one -/
def vx_ot (w : Cond) : Bool := w.onTables || goodWord w
theorem vx_ot_at {args a' : Array Value} {s U : State} {w : Cond} (hW : s.WarmedH U.vm) (hvm : s.vm = U.vm) (hg : vx_ot w = true) (h : w.before args s = true) : w.before a' U = true := by
  simp only [vx_ot, Bool.or_eq_true] at hg
  rcases hg with hg | hg
  · exact va_tabs hg hvm h
  · exact word_at hW (good_of_word hg) h
/-- a list's words: the good ones out of the method's own list, the others by premises of their own -/
theorem vx_hat {args : Array Value} {s : State} {L B : List Cond} (h1 : ∀ w ∈ L.filter goodWord, w.before args s = true) (h2 : ∀ w ∈ L.filter (fun w => !goodWord w), w ∈ B) (h3 : ∀ w ∈ B, w.before args s = true) : ∀ w ∈ L, w.before args s = true := by
  intro w hw
  by_cases g : goodWord w = true
  · exact h1 w (List.mem_filter.mpr ⟨hw, g⟩)
  · refine h3 w (h2 w (List.mem_filter.mpr ⟨hw, ?_⟩))
    show (!goodWord w) = true
    cases hgw : goodWord w
    · rfl
    · exact absurd hgw g
theorem vx_c {args : Array Value} {s : State} {w : Cond} {B : List Cond} (h : w.before args s = true) (t : ∀ w ∈ B, w.before args s = true) : ∀ w' ∈ w :: B, w'.before args s = true := fun w' h' => (List.mem_cons.mp h').elim (fun e => by rw [e]; exact h) (t w')
theorem vx_n {args : Array Value} {s : State} : ∀ w ∈ ([] : List Cond), w.before args s = true := fun _ h => nomatch h
theorem vx_own {args : Array Value} {s : State} {L : List Cond} (h1 : ∀ w ∈ L.filter vx_no, w.before args s = true)
    (hU : (Cond.isRef (.static Bundle.tN "UNASSIGNED_STACK" Bundle.steD)).before args s = true) (hN : (Cond.isRef (.static Bundle.tN "SUPPRESSED_SENTINEL" Bundle.listD)).before args s = true)
    (lU : (Cond.laysStatic Bundle.tN "UNASSIGNED_STACK" Bundle.steD).before args s = true) (lN : (Cond.laysStatic Bundle.tN "SUPPRESSED_SENTINEL" Bundle.listD).before args s = true) : ∀ w ∈ L, w.before args s = true := by
  intro w hw
  by_cases e1 : w = .isRef (.static Bundle.tN "UNASSIGNED_STACK" Bundle.steD)
  · rw [e1]; exact hU
  · by_cases e2 : w = .isRef (.static Bundle.tN "SUPPRESSED_SENTINEL" Bundle.listD)
    · rw [e2]; exact hN
    · by_cases e3 : w = .laysStatic Bundle.tN "UNASSIGNED_STACK" Bundle.steD
      · rw [e3]; exact lU
      · by_cases e4 : w = .laysStatic Bundle.tN "SUPPRESSED_SENTINEL" Bundle.listD
        · rw [e4]; exact lN
        · exact h1 w (List.mem_filter.mpr ⟨hw, by unfold vx_no; rw [decide_eq_true e1, decide_eq_true e2, decide_eq_true e3, decide_eq_true e4]; rfl⟩)
/-- where a static field lies, its class's statics cell in H -/
def vx_L (C n d : String) (A : Nat → Prop) (U : State) (H : Heap) : Prop := ∃ (c : ClassId) (k : Class) (i : Nat) (f : Field) (a : Nat) (cell : Cell), U.vm.findClass C = some c ∧ U.fieldFound? C n d = some (c, k, i, f) ∧ f.isStatic = true ∧ k.statics = some a ∧ H[a]? = some cell ∧ cell.vm.isStatics = true ∧ cell.cls = c ∧ f.slot < cell.slots.size ∧ k.staticTypes[f.slot]? = some f.type ∧ ¬ A a
theorem vx_L.moved {C n d : String} {A : Nat → Prop} {u U : State} {H : Heap} (hvm : u.vm.Alike U.vm) (h : vx_L C n d A u H) : vx_L C n d A U H := by
  obtain ⟨c, k, i, f, a, cell, h1, h2, h3, h4, h5, h6, h7, h8, h9, h10⟩ := h
  obtain ⟨k', hi', he⟩ := State.fieldFound?_setVm hvm h2
  exact ⟨c, k', i, f, a, cell, by rw [hvm.findClass]; exact h1, hi', h3, by rw [he]; exact h4, h5, h6, h7, h8, by rw [he]; exact h9, h10⟩
theorem vx_L.kept {C n d : String} {A : Nat → Prop} {U : State} {H H1 : Heap} (h : vx_L C n d A U H) (hq : ∀ a : Nat, a < H.size → ¬ A a → H1[a]? = H[a]?) : vx_L C n d A U H1 := by
  obtain ⟨c, k, i, f, a, cell, h1, h2, h3, h4, h5, h6, h7, h8, h9, h10⟩ := h
  exact ⟨c, k, i, f, a, cell, h1, h2, h3, h4, by rw [hq a (Array.getElem?_eq_some_iff.mp h5).1 h10]; exact h5, h6, h7, h8, h9, h10⟩
theorem vx_L.narrow {C n d : String} {A B : Nat → Prop} {U : State} {H : Heap} (h : vx_L C n d A U H) (hAB : ∀ q, B q → A q) : vx_L C n d B U H := by
  obtain ⟨c, k, i, f, a, cell, h1, h2, h3, h4, h5, h6, h7, h8, h9, h10⟩ := h
  exact ⟨c, k, i, f, a, cell, h1, h2, h3, h4, h5, h6, h7, h8, h9, fun z => h10 (hAB _ z)⟩
theorem vx_L.word {C n d : String} {A : Nat → Prop} {s : State} {args : Array Value} (h : vx_L C n d A s s.heap) : (Cond.laysStatic C n d).before args s = true := by
  obtain ⟨c, k, i, f, a, cell, h1, h2, h3, h4, h5, h6, h7, h8, h9, -⟩ := h
  show (Cond.laysStatic C n d).holds args s none s [] = true
  exact Cond.laysStatic_of h1 h2 h3 h4 h5 h6 h7 h8 h9
/-- .. and what it holds: null or some reference -/
def vx_Zq (C n d : String) (A : Nat → Prop) (U : State) (H : Heap) : Prop := va_Zq C n d A U H ∧ vx_L C n d A U H
theorem vx_Zq.moved {C n d : String} {A : Nat → Prop} {u U : State} {H : Heap} (hvm : u.vm.Alike U.vm) (h : vx_Zq C n d A u H) : vx_Zq C n d A U H := ⟨va_Zq.moved hvm h.1, vx_L.moved hvm h.2⟩
theorem vx_Zq.kept {C n d : String} {A : Nat → Prop} {U : State} {H H1 : Heap} (h : vx_Zq C n d A U H) (hq : ∀ a : Nat, a < H.size → ¬ A a → H1[a]? = H[a]?) : vx_Zq C n d A U H1 := ⟨va_Zq.kept h.1 hq, vx_L.kept h.2 hq⟩
theorem vx_Zq.narrow {C n d : String} {A B : Nat → Prop} {U : State} {H : Heap} (h : vx_Zq C n d A U H) (hAB : ∀ q, B q → A q) : vx_Zq C n d B U H := ⟨va_Zq.narrow h.1 hAB, vx_L.narrow h.2 hAB⟩
theorem vx_Zqof {args : Array Value} {s : State} {C n d : String} {A : Nat → Prop} (hl : (Cond.laysStatic C n d).before args s = true) (hini : (Cond.initialized C).before args s = true) (h : (Cond.isRef (.static C n d)).before args s = true) (hA : ∀ a : Nat, a < s.heap.size → ¬ A a) : vx_Zq C n d A s s.heap := by
  refine ⟨va_Zqof hl hini h hA, ?_⟩
  obtain ⟨c, k, i, f, a, cell, h1, h2, h3, h4, h5, h6, h7, h8, h9⟩ := Cond.laysStatic_spec hl
  exact ⟨c, k, i, f, a, cell, h1, h2, h3, h4, h5, h6, h7, h8, h9, hA a (Array.getElem?_eq_some_iff.mp h5).1⟩
theorem vx_isRef {C n d : String} {v : Value} {A : Nat → Prop} {s : State} {args : Array Value} (h : va_Z C n d v A s s.heap) (hv : v.isRef = true) : (Cond.isRef (.static C n d)).before args s = true := by
  obtain ⟨cf, kf, fi, f, a, cell, h1, h2, h3, h4, h5, h6, h7, -⟩ := h
  have he : (Term.static C n d).eval args s none [] s = some v := by
    simp [Term.eval, State.fieldNamed?, h1, h2, h4, h5, h6, h7]
  simp only [Cond.before, Cond.holds, Cond.value, he]
  cases v <;> simp_all [Value.isRef]
theorem vx_isRefq {C n d : String} {A : Nat → Prop} {s : State} {args : Array Value} (h : va_Zq C n d A s s.heap) : (Cond.isRef (.static C n d)).before args s = true := by
  rcases h with h | ⟨t, h⟩
  · exact vx_isRef h rfl
  · exact vx_isRef h rfl
/-- the same frame, seen from here: as if the method were called anew in this heap -/
theorem vx_rebase {T : State} (X : Stand p l e R s m args below meth c T locs cells slots) {R' : Room} (hf : R'.frames ≤ R.frames) (hl : R'.locals ≤ R.locals) (hc : cells + R'.cells ≤ R.cells) (hs : slots + R'.slots ≤ R.slots) :
    Stand p l e R' ((T.setVm s.vm).setFrames (.invoking m args :: below)) m args below meth c T [] 0 0 := by
  have htop : (T.setVm s.vm).topJava?.isSome := X.here.top
  have hF : ((T.setVm s.vm).setFrames (.invoking m args :: below)).frames = .invoking m args :: below := State.frames_setFrames _ (State.cur_lt_of_top htop)
  obtain ⟨g₀, hg0⟩ := Option.isSome_iff_exists.mp htop
  obtain ⟨r, hr⟩ := State.topJava?_eq_some.mp hg0
  have hl9 : e.platform.stackLimits (T.setVm s.vm).me = e.platform.stackLimits s.me := X.limits
  have hb9 : (T.setVm s.vm).me.stackBytes = s.me.stackBytes := X.bytes
  refine ⟨X.admits, X.cas, X.clock, hF, ?_, X.hears, X.method, X.code, X.here, X.tail, X.warmed, ?_, ?_, ?_⟩
  · have h := X.room
    have hU : ((T.setVm s.vm).setFrames (.invoking m args :: below)).localsInUse = s.localsInUse := by
      rw [State.localsInUse_invoking hF (meth := meth) (c := c) X.method X.code, State.localsInUse_invoking X.frames X.method X.code]
    simp only [State.hasRoom, Bool.and_eq_true, decide_eq_true_eq] at h ⊢
    obtain ⟨⟨⟨⟨h1, h2, h3, h4, h5, h6⟩, h7⟩, h8⟩, h9⟩ := h
    rw [X.frames, List.length_cons] at h2 h3
    have q1 := X.heapSize
    have q2 := X.used
    simp only [hF, hU, List.length_cons, State.stackLimits_setFrames, State.stackBytes_setFrames, hl9, hb9]
    refine ⟨⟨⟨⟨by omega, by omega, by omega, by omega, by omega, h6⟩, ?_⟩, ?_⟩, X.book⟩
    · show T.heap.size + R'.cells ≤ e.platform.maxCells
      omega
    · show T.slotsUsed + R'.slots ≤ e.platform.maxSlots
      omega
  · rw [State.stackLimits_setFrames]; rfl
  · rw [State.stackBytes_setFrames]; rfl
  · refine ⟨?_, Nat.le_refl _, Nat.le_refl _, ?_, ?_, fun a c9 h9 => ⟨c9, h9, rfl, rfl, fun _ _ => rfl⟩⟩
    · obtain ⟨t, ht, -⟩ := State.frames_cons hr
      show T.setVm s.vm = { ((T.setVm s.vm).setFrames (.invoking m args :: below)).setFrames (T.setVm s.vm).frames with heap := T.heap, slotsUsed := T.slotsUsed }
      rw [State.setFrames_setFrames, State.setFrames_self ht]
      rfl
    · show T.slotsUsed = T.slotsUsed + ((T.heap.toList.drop T.heap.size).map (·.slots.size)).sum
      rw [List.drop_eq_nil_of_le (Nat.le_of_eq Array.length_toList)]
      rfl
    · show ((T.heap.toList.drop T.heap.size).map (·.slots.size)).sum ≤ 0
      rw [List.drop_eq_nil_of_le (Nat.le_of_eq Array.length_toList)]
      exact Nat.le_refl _
/-- 'throw new E()': new; dup; invokespecial; athrow -/
theorem vx_throw0 {cc : ByteArray} {pc : Nat} (hexec : p.tables.exec = Jvm.exec) (hb : c.code = cc) (hl : l.stackTraces = false) {own cls : String} {names : List String} {ik ic mc ms : Nat} {A : Nat → Prop}
    (hown : s.vm.findClass own = some m.cls) (hcls : Bundle.fit cls = true) (hnames : ∀ n ∈ names, Bundle.fit n = true)
    (hk : (Cond.classLink own ik cls).before args s = true) (hini : (Cond.initialized cls).before args s = true) (hat : ∀ w ∈ vx_at0 own ic cls names, w.before args s = true)
    (hgood : ∀ w ∈ Cond.classLink own ik cls :: Cond.initialized cls :: vx_at0 own ic cls names, vx_ot w = true)
    (hU : vx_Zq Bundle.tN "UNASSIGNED_STACK" Bundle.steD A s s.heap) (hN : vx_Zq Bundle.tN "SUPPRESSED_SENTINEL" Bundle.listD A s s.heap) (hS : va_S A s.heap H locs) (hsize : ls.size = c.maxLocals)
    (d0 : decode cc pc = .ok (.new ik, 3)) (d3 : decode cc (pc + 3) = .ok (.dup, 1)) (d4 : decode cc (pc + 4) = .ok (.invokespecial ic, 3)) (d7 : decode cc (pc + 7) = .ok (.athrow, 1))
    (hout : ∀ x ∈ c.exceptionTable.toList, covers x (pc + 7) = false)
    (hRframes : names.length + 3 < R.frames) (hRlocals : (rest.map fun v => v.category).sum + (13 * (names.length + 1) + 42) ≤ R.locals) (hRcells : cells + 1 ≤ R.cells) (hRslots : slots + 6 ≤ R.slots) (hlocks : meth.locks = false)
    (hx : ∀ t : State, s.vm.Alike t.vm → H.size ≤ t.heap.size → (∀ q : Nat, q < H.size → t.heap[q]? = H[q]?) → XC cls s t)
    (hf : ∀ z ∈ locs, free z.base) (hc : cells + 1 ≤ mc) (hs : slots + 6 ≤ ms) :
    W p l e R s m args below meth c H locs cells slots (vx_MQ below Qc XC args s mc ms free) (F0 m pc ls rest) := by
  intro T hT X
  have htr : e.platform.stackTraces = false := (show e.platform.stackTraces = l.stackTraces by rw [X.admits.platform]).trans hl
  have Y := vx_rebase X (R' := { frames := R.frames, locals := R.locals, cells := 1, slots := 6 }) (Nat.le_refl _) (Nat.le_refl _) hRcells hRslots
  obtain ⟨s', hA⟩ : ∃ z, z = (T.setVm s.vm).setFrames (.invoking m args :: below) := ⟨_, rfl⟩
  rw [← hA] at Y
  have hvm : s'.vm = s.vm := by rw [hA]; rfl
  have hhp : s'.heap = H := by rw [hA]; exact hT
  have hW0 : s.WarmedH s'.vm := by rw [hvm]; exact State.WarmedH.refl s
  have hat' : ∀ w ∈ vx_at0 own ic cls names, w.before args s' = true := fun w hw => vx_ot_at hW0 hvm.symm (hgood w (List.mem_cons_of_mem _ (List.mem_cons_of_mem _ hw))) (hat w hw)
  have hk' : (Cond.classLink own ik cls).before args s' = true := vx_ot_at hW0 hvm.symm (hgood _ List.mem_cons_self) hk
  have hini' : (Cond.initialized cls).before args s' = true := vx_ot_at hW0 hvm.symm (hgood _ (List.mem_cons_of_mem _ List.mem_cons_self)) hini
  have hU' : vx_Zq Bundle.tN "UNASSIGNED_STACK" Bundle.steD A s' s'.heap := by rw [hhp]; exact vx_Zq.moved hW0.alike (hU.kept hS.2.1)
  have hN' : vx_Zq Bundle.tN "SUPPRESSED_SENTINEL" Bundle.listD A s' s'.heap := by rw [hhp]; exact vx_Zq.moved hW0.alike (hN.kept hS.2.1)
  have h : ∀ w ∈ Bundle.ownAtoms0 own ic cls names, w.before args s' = true := vx_own hat' (vx_isRefq hU'.1) (vx_isRefq hN'.1) hU'.2.word hN'.2.word
  have hown' : s'.vm.findClass own = some m.cls := by rw [hvm]; exact hown
  have hins : (Cond.instantiable cls 6).before args s' = true := h _ (by simp [Bundle.ownAtoms0])
  obtain ⟨vm₁, cX, kX, hfX, hkX, -, -, X₁, st1⟩ := Y.newCold hexec (own := own) (C := cls) (index := ik) (n := 6) hown' hk' hins hini'
    (g := F0 m pc ls rest) rfl (by rw [hb]; exact d0) (Nat.le_refl _) (Nat.le_refl _)
  generalize hT1 : (T.setVm vm₁).pushCell { cls := cX, slots := kX.instanceTypes.map defaultValue, vm := .none } = T1 at X₁ st1
  have hcat : (Value.ref T.heap.size).category = 1 := rfl
  have hcellA : T1.heap[T.heap.size]? = some (freshCell cX kX) := by rw [← hT1]; exact State.heap_pushCell_size _ _
  have d3' : decode c.code (pc + 3) = .ok (.dup, 1) := by rw [hb]; exact d3
  obtain ⟨U, hsteps, hrun, hend, hW, hsame, ce, hce, hO⟩ := X₁.ctorThrow0 hexec htr (own := own) (cls := cls) (names := names) (ic := ic) hown' hcls hnames h (fun x hx => nomatch hx) hfX hkX hcellA (by rw [hhp, hT]; exact Nat.le_refl _)
    (g := { method := m, pc := pc + 4, locals := ls, stack := .ref T.heap.size :: .ref T.heap.size :: rest, locked := none }) rfl hsize rfl rfl (rest := rest) rfl
    (by rw [hb]; exact d4) (by rw [hb]; exact d7) hout hRframes (by simp only [List.map_cons, List.sum_cons, hcat]; omega) hlocks
  obtain ⟨f1, f2⟩ := vx_frame hsame
  rw [hhp] at f1 f2
  have hWs : s.WarmedH U.vm := State.WarmedH.trans hW0 hW
  have hcl : s.vm.findClass cls = some ce.cls := by
    have h9 := hO.cls
    rw [hvm] at h9
    exact h9
  have hall : s.sameButNew ({ U with vm := s.vm } : State) locs mc ms := by
    subst hA
    obtain ⟨e1, e2⟩ := hsame
    rw [State.setFrames_setFrames] at e1
    have h2 : (T.setVm s.vm).sameButNew ({ U with vm := s.vm } : State) [] (0 + 1) (0 + 6) := ⟨e1, e2⟩
    have h3 := X.same.trans h2
    rw [List.append_nil] at h3
    exact h3.mono hc hs
  refine ⟨U, ?_, .threw T.heap.size, hrun, hend, Or.inr ⟨T.heap.size, rfl, cls, ce, locs, hx U hWs.alike f1 (fun q hq => f2 q hq (fun z hz => nomatch hz)), hce, hO.vm, hcl, hWs, hall, hf⟩⟩
  refine st1 _ ?_
  show Steps p.tables e below (T1.setTop { method := m, pc := pc + 3, locals := ls, stack := .ref T.heap.size :: rest, locked := none }) _
  jvm_step X₁.here [X₁.here.top, hexec, d3', Value.category]
  exact hsteps
/-- 'throw new E("text")': new; dup; ldc; invokespecial; athrow -/
theorem vx_throwS {cc : ByteArray} {pc : Nat} (hexec : p.tables.exec = Jvm.exec) (hb : c.code = cc) (hl : l.stackTraces = false) {own cls text : String} {names : List String} {ik is ic mc ms sa : Nat} {A : Nat → Prop}
    (hown : s.vm.findClass own = some m.cls) (hcls : Bundle.fit cls = true) (hnames : ∀ n ∈ names, Bundle.fit n = true)
    (hk : (Cond.classLink own ik cls).before args s = true) (hini : (Cond.initialized cls).before args s = true) (hstr : vk_R own is text sa s) (hat : ∀ w ∈ vx_atS own ic cls names, w.before args s = true)
    (hgood : ∀ w ∈ Cond.classLink own ik cls :: Cond.initialized cls :: vx_atS own ic cls names, vx_ot w = true)
    (hU : vx_Zq Bundle.tN "UNASSIGNED_STACK" Bundle.steD A s s.heap) (hN : vx_Zq Bundle.tN "SUPPRESSED_SENTINEL" Bundle.listD A s s.heap) (hS : va_S A s.heap H locs) (hsize : ls.size = c.maxLocals)
    (d0 : decode cc pc = .ok (.new ik, 3)) (d3 : decode cc (pc + 3) = .ok (.dup, 1)) (d4 : decode cc (pc + 4) = .ok (.ldc is, 2)) (d6 : decode cc (pc + 6) = .ok (.invokespecial ic, 3)) (d9 : decode cc (pc + 9) = .ok (.athrow, 1))
    (hout : ∀ x ∈ c.exceptionTable.toList, covers x (pc + 9) = false)
    (hRframes : names.length + 3 < R.frames) (hRlocals : (rest.map fun v => v.category).sum + (13 * (names.length + 1) + 43) ≤ R.locals) (hRcells : cells + 1 ≤ R.cells) (hRslots : slots + 6 ≤ R.slots) (hlocks : meth.locks = false)
    (hx : ∀ t : State, s.vm.Alike t.vm → H.size ≤ t.heap.size → (∀ q : Nat, q < H.size → t.heap[q]? = H[q]?) → XC cls s t)
    (hf : ∀ z ∈ locs, free z.base) (hc : cells + 1 ≤ mc) (hs : slots + 6 ≤ ms) :
    W p l e R s m args below meth c H locs cells slots (vx_MQ below Qc XC args s mc ms free) (F0 m pc ls rest) := by
  intro T hT X
  have htr : e.platform.stackTraces = false := (show e.platform.stackTraces = l.stackTraces by rw [X.admits.platform]).trans hl
  have Y := vx_rebase X (R' := { frames := R.frames, locals := R.locals, cells := 1, slots := 6 }) (Nat.le_refl _) (Nat.le_refl _) hRcells hRslots
  obtain ⟨s', hA⟩ : ∃ z, z = (T.setVm s.vm).setFrames (.invoking m args :: below) := ⟨_, rfl⟩
  rw [← hA] at Y
  have hvm : s'.vm = s.vm := by rw [hA]; rfl
  have hhp : s'.heap = H := by rw [hA]; exact hT
  have hW0 : s.WarmedH s'.vm := by rw [hvm]; exact State.WarmedH.refl s
  have hat' : ∀ w ∈ vx_atS own ic cls names, w.before args s' = true := fun w hw => vx_ot_at hW0 hvm.symm (hgood w (List.mem_cons_of_mem _ (List.mem_cons_of_mem _ hw))) (hat w hw)
  have hk' : (Cond.classLink own ik cls).before args s' = true := vx_ot_at hW0 hvm.symm (hgood _ List.mem_cons_self) hk
  have hini' : (Cond.initialized cls).before args s' = true := vx_ot_at hW0 hvm.symm (hgood _ (List.mem_cons_of_mem _ List.mem_cons_self)) hini
  have hU' : vx_Zq Bundle.tN "UNASSIGNED_STACK" Bundle.steD A s' s'.heap := by rw [hhp]; exact vx_Zq.moved hW0.alike (hU.kept hS.2.1)
  have hN' : vx_Zq Bundle.tN "SUPPRESSED_SENTINEL" Bundle.listD A s' s'.heap := by rw [hhp]; exact vx_Zq.moved hW0.alike (hN.kept hS.2.1)
  have h : ∀ w ∈ Bundle.ownAtoms own ic cls names, w.before args s' = true := vx_own hat' (vx_isRefq hU'.1) (vx_isRefq hN'.1) hU'.2.word hN'.2.word
  have hown' : s'.vm.findClass own = some m.cls := by rw [hvm]; exact hown
  have hins : (Cond.instantiable cls 6).before args s' = true := h _ (by simp [Bundle.ownAtoms])
  obtain ⟨vm₁, cX, kX, hfX, hkX, -, -, X₁, st1⟩ := Y.newCold hexec (own := own) (C := cls) (index := ik) (n := 6) hown' hk' hins hini'
    (g := F0 m pc ls rest) rfl (by rw [hb]; exact d0) (Nat.le_refl _) (Nat.le_refl _)
  generalize hT1 : (T.setVm vm₁).pushCell { cls := cX, slots := kX.instanceTypes.map defaultValue, vm := .none } = T1 at X₁ st1
  have hcat : (Value.ref T.heap.size).category = 1 := rfl
  have hcellA : T1.heap[T.heap.size]? = some (freshCell cX kX) := by rw [← hT1]; exact State.heap_pushCell_size _ _
  have d3' : decode c.code (pc + 3) = .ok (.dup, 1) := by rw [hb]; exact d3
  have d4' : decode c.code (pc + 4) = .ok (.ldc is, 2) := by rw [hb]; exact d4
  have hstr' : vk_R own is text sa s' := vk_R.warm hW0 hstr
  obtain ⟨U, hsteps, hrun, hend, hW, hsame, ce, hce, hO⟩ := X₁.ctorThrowS hexec htr (own := own) (cls := cls) (names := names) (ic := ic) hown' hcls hnames h (fun x hx => nomatch hx) hfX hkX hcellA (by rw [hhp, hT]; exact Nat.le_refl _) (msg := .ref sa) rfl
    (g := { method := m, pc := pc + 6, locals := ls, stack := .ref sa :: .ref T.heap.size :: .ref T.heap.size :: rest, locked := none }) rfl hsize rfl rfl (rest := rest) rfl
    (by rw [hb]; exact d6) (by rw [hb]; exact d9) hout hRframes (by simp only [List.map_cons, List.sum_cons, hcat]; omega) hlocks
  obtain ⟨f1, f2⟩ := vx_frame hsame
  rw [hhp] at f1 f2
  have hWs : s.WarmedH U.vm := State.WarmedH.trans hW0 hW
  have hcl : s.vm.findClass cls = some ce.cls := by
    have h9 := hO.cls
    rw [hvm] at h9
    exact h9
  have hall : s.sameButNew ({ U with vm := s.vm } : State) locs mc ms := by
    subst hA
    obtain ⟨e1, e2⟩ := hsame
    rw [State.setFrames_setFrames] at e1
    have h2 : (T.setVm s.vm).sameButNew ({ U with vm := s.vm } : State) [] (0 + 1) (0 + 6) := ⟨e1, e2⟩
    have h3 := X.same.trans h2
    rw [List.append_nil] at h3
    exact h3.mono hc hs
  refine ⟨U, ?_, .threw T.heap.size, hrun, hend, Or.inr ⟨T.heap.size, rfl, cls, ce, locs, hx U hWs.alike f1 (fun q hq => f2 q hq (fun z hz => nomatch hz)), hce, hO.vm, hcl, hWs, hall, hf⟩⟩
  refine st1 _ ?_
  show Steps p.tables e below (T1.setTop { method := m, pc := pc + 3, locals := ls, stack := .ref T.heap.size :: rest, locked := none }) _
  jvm_step X₁.here [X₁.here.top, hexec, d3', Value.category]
  exact X₁.ldcString hexec (own := own) (text := text) (index := is) (a := sa) hown' hstr'.1 hstr'.2
    (g := { method := m, pc := pc + 4, locals := ls, stack := .ref T.heap.size :: .ref T.heap.size :: rest, locked := none }) rfl d4' _ hsteps
/-- 'throw new E("text")', the text by a wide index -/
theorem vx_throwSW {cc : ByteArray} {pc : Nat} (hexec : p.tables.exec = Jvm.exec) (hb : c.code = cc) (hl : l.stackTraces = false) {own cls text : String} {names : List String} {ik is ic mc ms sa : Nat} {A : Nat → Prop}
    (hown : s.vm.findClass own = some m.cls) (hcls : Bundle.fit cls = true) (hnames : ∀ n ∈ names, Bundle.fit n = true)
    (hk : (Cond.classLink own ik cls).before args s = true) (hini : (Cond.initialized cls).before args s = true) (hstr : vk_R own is text sa s) (hat : ∀ w ∈ vx_atS own ic cls names, w.before args s = true)
    (hgood : ∀ w ∈ Cond.classLink own ik cls :: Cond.initialized cls :: vx_atS own ic cls names, vx_ot w = true)
    (hU : vx_Zq Bundle.tN "UNASSIGNED_STACK" Bundle.steD A s s.heap) (hN : vx_Zq Bundle.tN "SUPPRESSED_SENTINEL" Bundle.listD A s s.heap) (hS : va_S A s.heap H locs) (hsize : ls.size = c.maxLocals)
    (d0 : decode cc pc = .ok (.new ik, 3)) (d3 : decode cc (pc + 3) = .ok (.dup, 1)) (d4 : decode cc (pc + 4) = .ok (.ldc_w is, 3)) (d7 : decode cc (pc + 7) = .ok (.invokespecial ic, 3)) (d10 : decode cc (pc + 10) = .ok (.athrow, 1))
    (hout : ∀ x ∈ c.exceptionTable.toList, covers x (pc + 10) = false)
    (hRframes : names.length + 3 < R.frames) (hRlocals : (rest.map fun v => v.category).sum + (13 * (names.length + 1) + 43) ≤ R.locals) (hRcells : cells + 1 ≤ R.cells) (hRslots : slots + 6 ≤ R.slots) (hlocks : meth.locks = false)
    (hx : ∀ t : State, s.vm.Alike t.vm → H.size ≤ t.heap.size → (∀ q : Nat, q < H.size → t.heap[q]? = H[q]?) → XC cls s t)
    (hf : ∀ z ∈ locs, free z.base) (hc : cells + 1 ≤ mc) (hs : slots + 6 ≤ ms) :
    W p l e R s m args below meth c H locs cells slots (vx_MQ below Qc XC args s mc ms free) (F0 m pc ls rest) := by
  intro T hT X
  have htr : e.platform.stackTraces = false := (show e.platform.stackTraces = l.stackTraces by rw [X.admits.platform]).trans hl
  have Y := vx_rebase X (R' := { frames := R.frames, locals := R.locals, cells := 1, slots := 6 }) (Nat.le_refl _) (Nat.le_refl _) hRcells hRslots
  obtain ⟨s', hA⟩ : ∃ z, z = (T.setVm s.vm).setFrames (.invoking m args :: below) := ⟨_, rfl⟩
  rw [← hA] at Y
  have hvm : s'.vm = s.vm := by rw [hA]; rfl
  have hhp : s'.heap = H := by rw [hA]; exact hT
  have hW0 : s.WarmedH s'.vm := by rw [hvm]; exact State.WarmedH.refl s
  have hat' : ∀ w ∈ vx_atS own ic cls names, w.before args s' = true := fun w hw => vx_ot_at hW0 hvm.symm (hgood w (List.mem_cons_of_mem _ (List.mem_cons_of_mem _ hw))) (hat w hw)
  have hk' : (Cond.classLink own ik cls).before args s' = true := vx_ot_at hW0 hvm.symm (hgood _ List.mem_cons_self) hk
  have hini' : (Cond.initialized cls).before args s' = true := vx_ot_at hW0 hvm.symm (hgood _ (List.mem_cons_of_mem _ List.mem_cons_self)) hini
  have hU' : vx_Zq Bundle.tN "UNASSIGNED_STACK" Bundle.steD A s' s'.heap := by rw [hhp]; exact vx_Zq.moved hW0.alike (hU.kept hS.2.1)
  have hN' : vx_Zq Bundle.tN "SUPPRESSED_SENTINEL" Bundle.listD A s' s'.heap := by rw [hhp]; exact vx_Zq.moved hW0.alike (hN.kept hS.2.1)
  have h : ∀ w ∈ Bundle.ownAtoms own ic cls names, w.before args s' = true := vx_own hat' (vx_isRefq hU'.1) (vx_isRefq hN'.1) hU'.2.word hN'.2.word
  have hown' : s'.vm.findClass own = some m.cls := by rw [hvm]; exact hown
  have hins : (Cond.instantiable cls 6).before args s' = true := h _ (by simp [Bundle.ownAtoms])
  obtain ⟨vm₁, cX, kX, hfX, hkX, -, -, X₁, st1⟩ := Y.newCold hexec (own := own) (C := cls) (index := ik) (n := 6) hown' hk' hins hini'
    (g := F0 m pc ls rest) rfl (by rw [hb]; exact d0) (Nat.le_refl _) (Nat.le_refl _)
  generalize hT1 : (T.setVm vm₁).pushCell { cls := cX, slots := kX.instanceTypes.map defaultValue, vm := .none } = T1 at X₁ st1
  have hcat : (Value.ref T.heap.size).category = 1 := rfl
  have hcellA : T1.heap[T.heap.size]? = some (freshCell cX kX) := by rw [← hT1]; exact State.heap_pushCell_size _ _
  have d3' : decode c.code (pc + 3) = .ok (.dup, 1) := by rw [hb]; exact d3
  have d4' : decode c.code (pc + 4) = .ok (.ldc_w is, 3) := by rw [hb]; exact d4
  have hstr' : vk_R own is text sa s' := vk_R.warm hW0 hstr
  obtain ⟨U, hsteps, hrun, hend, hW, hsame, ce, hce, hO⟩ := X₁.ctorThrowS hexec htr (own := own) (cls := cls) (names := names) (ic := ic) hown' hcls hnames h (fun x hx => nomatch hx) hfX hkX hcellA (by rw [hhp, hT]; exact Nat.le_refl _) (msg := .ref sa) rfl
    (g := { method := m, pc := pc + 7, locals := ls, stack := .ref sa :: .ref T.heap.size :: .ref T.heap.size :: rest, locked := none }) rfl hsize rfl rfl (rest := rest) rfl
    (by rw [hb]; exact d7) (by rw [hb]; exact d10) hout hRframes (by simp only [List.map_cons, List.sum_cons, hcat]; omega) hlocks
  obtain ⟨f1, f2⟩ := vx_frame hsame
  rw [hhp] at f1 f2
  have hWs : s.WarmedH U.vm := State.WarmedH.trans hW0 hW
  have hcl : s.vm.findClass cls = some ce.cls := by
    have h9 := hO.cls
    rw [hvm] at h9
    exact h9
  have hall : s.sameButNew ({ U with vm := s.vm } : State) locs mc ms := by
    subst hA
    obtain ⟨e1, e2⟩ := hsame
    rw [State.setFrames_setFrames] at e1
    have h2 : (T.setVm s.vm).sameButNew ({ U with vm := s.vm } : State) [] (0 + 1) (0 + 6) := ⟨e1, e2⟩
    have h3 := X.same.trans h2
    rw [List.append_nil] at h3
    exact h3.mono hc hs
  refine ⟨U, ?_, .threw T.heap.size, hrun, hend, Or.inr ⟨T.heap.size, rfl, cls, ce, locs, hx U hWs.alike f1 (fun q hq => f2 q hq (fun z hz => nomatch hz)), hce, hO.vm, hcl, hWs, hall, hf⟩⟩
  refine st1 _ ?_
  show Steps p.tables e below (T1.setTop { method := m, pc := pc + 3, locals := ls, stack := .ref T.heap.size :: rest, locked := none }) _
  jvm_step X₁.here [X₁.here.top, hexec, d3', Value.category]
  exact X₁.ldcStringW hexec (own := own) (text := text) (index := is) (a := sa) hown' hstr'.1 hstr'.2
    (g := { method := m, pc := pc + 4, locals := ls, stack := .ref T.heap.size :: .ref T.heap.size :: rest, locked := none }) rfl d4' _ hsteps
end Ends
section Bodies
variable {l : Launch}
theorem vx_ofW {y : MethodName} {ws ws' : List Cond} {rm : Room} {Pc : Array Value → State → Prop} {Qc : Array Value → State → Outcome → State → Prop} {XC : String → State → State → Prop} {mc ms : Nat} {free : Addr → Prop} {cc : ByteArray} {maxL : Nat} {ret : Option FieldType}
    (hy : plainName y.cls = true) (hw : ws = Cond.code y cc maxL ret :: ws')
    (body : ∀ p e s m args below meth c s₁, BodyLoose p l y (headSpec ws rm) cc maxL ret e s m args below meth c s₁ → c.maxLocals = maxL → (∀ x ∈ c.exceptionTable.toList, False) → Pc args s →
      W p l e (headSpec ws rm).room s m args below meth c s.heap [] 0 0 (vx_MQ below Qc XC args s mc ms free) (entryFrame m args maxL)) : vx_Met l y ws rm Pc Qc XC mc ms free := by
  refine MetFree.of_bodyS (code := cc) (maxLocals := maxL) (ret := ret) hy ?_ ?_
  · intro args s m h hn
    obtain ⟨meth, c, h1, h2, h3, h4, h5, h6, -, -⟩ := Cond.code_spec hn (atoms_spec (ws := ws) h _ (by rw [hw]; exact List.mem_cons_self))
    exact ⟨meth, c, h1, h2, h3, h4, h5, h6⟩
  · intro p e s m args below meth c s₁ B hml hP _
    have hh0 : s₁.heap = s.heap := by rw [B.state]; rfl
    have ht : ∀ x ∈ c.exceptionTable.toList, False := by
      obtain ⟨meth9, c9, h1, h2, -, -, -, -, h7, -⟩ := Cond.code_spec B.named (atoms_spec (ws := ws) B.pre _ (by rw [hw]; exact List.mem_cons_self))
      cases Option.some.inj (h1.symm.trans B.method)
      cases Option.some.inj (h2.symm.trans (Stand.of_body B).code)
      intro x hx
      rw [Array.isEmpty_iff.mp h7] at hx
      cases hx
    obtain ⟨t, a1, o, b1, b2, b3⟩ := body p e s m args below meth c s₁ B hml ht hP s₁ hh0 (Stand.of_body B)
    exact ⟨t, o, a1, b1, b2, b3⟩
/-- the table of a body with handlers -/
theorem vx_table {p : Program} {x y : MethodName} {S : Spec} {cc bytes : ByteArray} {maxL maxL' : Nat} {ret ret' : Option FieldType} {e : Env} {s s₁ : State} {m : MethodId} {args : Array Value} {below : List Frame} {meth : Method} {c : Code} {hh : List (Nat × Nat × Nat × Nat)}
    (B : BodyLoose p l y S cc maxL ret e s m args below meth c s₁) (h : (Cond.codeWith y bytes maxL' ret' hh).before args s = true) : c.exceptionTable.toList = tableOf hh := by
  obtain ⟨m9, meth9, c9, hn9, h1, h2, -, -, h6, -⟩ := Cond.codeWith_spec h
  cases Option.some.inj (hn9.symm.trans B.named)
  cases Option.some.inj (h1.symm.trans B.method)
  cases Option.some.inj (h2.symm.trans (Stand.of_body B).code)
  rw [← h6, table_eq]
end Bodies
end VXA
/-! ===== END ===== -/
/-! ===== BEGIN a static call of a method with an exception table ===== -/
section VXS
variable {p : Program} {l : Launch} {e : Env} {R : Room} {s : State} {m : MethodId} {args : Array Value} {below : List Frame} {meth : Method} {c : Code} {T : State} {H : Heap} {locs : List Loc} {cells slots : Nat}
abbrev vx_CSW (R : Room) (s : State) (args : Array Value) (own : String) (index : Nat) (y : MethodName) (bytes : ByteArray) (maxL : Nat) (ret : Option FieldType) (hh : List (Nat × Nat × Nat × Nat)) (ws : List Cond) (rm : Room) (mc ms n : Nat) : Prop :=
  (rm.cells = mc ∧ rm.slots = ms ∧ rm.frames + 1 ≤ R.frames ∧ 8 + (maxL + 11) + rm.locals ≤ R.locals ∧ (∀ w ∈ ws, ∀ (a' : Array Value) (U : State), s.WarmedH U.vm → w.before a' U = true) ∧ Cond.codeWith y bytes maxL ret hh ∈ ws) ∧
  (Cond.codeWith y bytes maxL ret hh).before args s = true ∧ (Cond.initialized y.cls).before args s = true ∧ (y.cls ≠ "java/lang/invoke/MethodHandle" ∧ y.cls ≠ "java/lang/invoke/VarHandle") ∧
  (∀ sig, parseMethodDescriptor y.desc = some sig → n = sig.parameters.length) ∧ (Cond.methodLink own index y).before args s = true ∧ (Cond.static y).before args s = true
theorem vx_cwSW {own : String} {index maxL mc ms : Nat} {y : MethodName} {bytes : ByteArray} {ret : Option FieldType} {hh : List (Nat × Nat × Nat × Nat)} {Ts ws ws' : List Cond} {rm : Room} (n : Nat) (ht : ∀ w ∈ Ts, w.before args s = true) (hT : GoodIn Ts (va_wsS own index y ws)) (hw : ws = Cond.codeWith y bytes maxL ret hh :: ws') (hrc : rm.cells = mc) (hrs : rm.slots = ms)
    (hd : y.cls ≠ "java/lang/invoke/MethodHandle" ∧ y.cls ≠ "java/lang/invoke/VarHandle" ∧ (parseMethodDescriptor y.desc).map (fun d => d.parameters.length) = some n) (hR : rm.frames + 1 ≤ R.frames ∧ 8 + (maxL + 11) + rm.locals ≤ R.locals) :
    vx_CSW R s args own index y bytes maxL ret hh ws rm mc ms n := by
  have ok : ∀ w ∈ va_wsS own index y ws, w.before args s = true := fun w h => ht w (hT w h).1
  have hG : GoodIn Ts ws := fun w h => hT w (by unfold va_wsS; exact List.mem_append_right _ h)
  have hc : Cond.codeWith y bytes maxL ret hh ∈ ws := by rw [hw]; exact List.mem_cons_self
  refine ⟨⟨hrc, hrs, hR.1, hR.2, pay_in ht hG, hc⟩, ht _ (hG _ hc).1, ok _ (by simp [va_wsS]), ⟨hd.1, hd.2.1⟩, fun sig h => ?_, ok _ (by simp [va_wsS]), ok _ (by simp [va_wsS])⟩
  have h2 := hd.2.2
  rw [h] at h2
  exact (Option.some.inj h2).symm
theorem vx_callSW (X : Stand p l e R s m args below meth c T locs cells slots) (hexec : p.tables.exec = Jvm.exec) {own : String} {index : Nat} {y : MethodName} {bytes : ByteArray} {maxL : Nat} {ret : Option FieldType} {hh : List (Nat × Nat × Nat × Nat)}
    (hown : s.vm.findClass own = some m.cls) (hlink : (Cond.methodLink own index y).before args s = true) (hstat : (Cond.static y).before args s = true) (hinit : (Cond.initialized y.cls).before args s = true)
    (hcode : (Cond.codeWith y bytes maxL ret hh).before args s = true) (hy : y.cls ≠ "java/lang/invoke/MethodHandle" ∧ y.cls ≠ "java/lang/invoke/VarHandle")
    {W9 : Nat} {Pre : Pt → Array Value → Prop} {Post : Pt → Array Value → Option Value → Pt → Prop} (hK : Back l R p e below s args y 3 W9 Pre Post)
    {g : JFrame} (hg : g.method = m) (hsize : g.locals.size = c.maxLocals) {argsL rest : List Value} (hlen : ∀ sig, parseMethodDescriptor y.desc = some sig → argsL.length = sig.parameters.length)
    (hstack : g.stack = argsL.reverse ++ rest) (hW : 2 * g.monitorRoom + (rest.map fun v => v.category).sum ≤ W9) (hdg : decode c.code g.pc = .ok (.invokestatic index, 3))
    (hpre : ∀ vm₁, s.WarmedH vm₁ → Pre ⟨T.setVm vm₁, locs, cells, slots⟩ argsL.toArray) :
    ∃ (v : Option Value) (vm₁ : Vm) (B : Pt), s.WarmedH vm₁ ∧ Stand p l e R s m args below meth c B.U B.locs B.cells B.slots ∧ Post ⟨T.setVm vm₁, locs, cells, slots⟩ argsL.toArray v B ∧
      ∀ target, Steps p.tables e below (B.U.setTop { g with pc := g.pc + 3, stack := v.toList ++ rest }) target → Steps p.tables e below (T.setTop g) target := by
  obtain ⟨mk, methM, cM, hnamed, hmethM, -, -, -, -, -, -, hsigM⟩ := Cond.codeWith_spec hcode
  have hstatic : methM.isStatic = true := Cond.static_spec hnamed hmethM hstat
  obtain ⟨kP, hkP, -⟩ := className_of_methodNamed hnamed
  have hinitP : kP.init = .initialized := Cond.initialized_spec (findClass_of_methodNamed hnamed) hkP hinit
  obtain ⟨vm₁, X₁, hstep₁⟩ := X.invokestatic hexec hown hlink hnamed hmethM hstatic hkP hinitP hy (g := g) hg (argsL := argsL) (rest := rest) (hlen _ hsigM) hstack hdg
  obtain ⟨v, B, X', hpost, hsteps⟩ := hK m meth c ⟨T.setVm vm₁, locs, cells, slots⟩ { g with stack := rest } (.invokestatic index) mk argsL.toArray X₁ hg hsize hdg hW (X₁.named hnamed) (hpre vm₁ X₁.warmed)
  exact ⟨v, vm₁, B, X₁.warmed, X', hpost, fun target h => hstep₁ _ fun acts => by rw [doInvoke_state]; exact hsteps.trans h⟩
theorem vx_runSW {y : MethodName} {bytes cc : ByteArray} {maxL nL mc ms n index : Nat} {ret : Option FieldType} {hh : List (Nat × Nat × Nat × Nat)} {ws : List Cond} {rm : Room} {Pc : Array Value → State → Prop} {Qc : Array Value → State → Outcome → State → Prop} {free : Addr → Prop} {Ts : List Cond} {own : String} {As rest : List Value} {g : JFrame}
    (S : CallFix p m c cc nL s args Ts own) (hM : Met l y ws rm Pc Qc mc ms free) (cw : vx_CSW R s args own index y bytes maxL ret hh ws rm mc ms n) (hp : PreS s H Pc As)
    (hg : g.method = m) (hn : As.length = n) (hsize : g.locals.size = nL) (hstack : g.stack = As.reverse ++ rest) (hW : 2 * g.monitorRoom + (rest.map fun v => v.category).sum ≤ 8) (hdg : decode cc g.pc = .ok (.invokestatic index, 3)) (hf : cells + mc ≤ R.cells ∧ slots + ms ≤ R.slots) :
    va_Run p l e R s m args below meth c H locs cells slots mc ms g rest (Qc As.toArray) (free) := by
  obtain ⟨⟨hrc, hrs, hfr, hlo, hws, hcw⟩, hcode, hini, hy, hlen, hl, hstt⟩ := cw
  have hK : Back l R p e below s args y 3 8 (PreOf R mc ms Pc) (PostOf Qc mc ms free) := va_backW (hh := hh) (bytes := bytes) (maxL := maxL) (ret := ret) hM hp.1 hrc hrs hfr hlo hws hcw (fun a' U hW => word_at hW (Or.inl (by first | rfl | simp [Cond.onTables, Cond.keeps, Cond.steady])) hini)
  obtain ⟨hx, hb, hml, ho, -⟩ := S
  intro T hT X
  obtain ⟨v, vm₁, ⟨U', l2, c2, s2⟩, hW₁, X', ⟨g', mk, t, L, e1, e2, hq, h1, hL, h2, h3⟩, st⟩ := vx_callSW X hx (hh := hh) (bytes := bytes) (maxL := maxL) (ret := ret) ho hl hstt hini hcode hy hK hg (hsize.trans hml.symm) (argsL := As) (rest := rest) (fun sig h => hn.trans (hlen sig h)) hstack hW (by rw [hb]; exact hdg)
    (fun vm₁ hW₁ => ⟨hf.1, hf.2, hp.2 (T.setVm vm₁) hT hW₁⟩)
  dsimp only [Pt.U, Pt.locs, Pt.cells, Pt.slots] at X' e1 e2 h1 h2 h3 st
  subst h1; subst h2; subst h3
  exact ⟨v, (T.setVm vm₁).calling g' mk As.toArray, t, U', L, hT, X', hL, e1, e2, hq, st⟩
/-- not caught here, past rows that name other classes: it goes on to the caller -/
theorem vx_outP {p : Program} {l : Launch} {e : Env} {R : Room} {s : State} {m : MethodId} {args : Array Value} {below : List Frame} {meth : Method} {c : Code} {H : Heap} {locs : List Loc} {cells slots : Nat} {free : Addr → Prop} {ls : Array Slot} {rest : List Value} {Qc : Array Value → State → Outcome → State → Prop} {XC : String → State → State → Prop}
    {pc : Nat} {own E : String} {ce : Cell} {q : Addr} {mc ms : Nat} (hown : s.vm.findClass own = some m.cls) (hlocks : meth.locks = false)
    (hpass : ∀ z ∈ c.exceptionTable.toList, covers z pc = false ∨ (z.catchType ≠ 0 ∧ ∃ nm : String, (Cond.classLink own z.catchType nm).before args s = true ∧ va_Nc E nm s)) (hcell : H[q]? = some ce) (hv : ce.vm = .none) (hcl : s.vm.findClass E = some ce.cls)
    (hx : ∀ t : State, t.heap = H → s.vm.Alike t.vm → XC E s t) (hf : ∀ z ∈ locs, free z.base) (hc : cells ≤ mc) (hs : slots ≤ ms) :
    vx_W p l e R s m args below meth c H locs cells slots (vx_MQ below Qc XC args s mc ms free) (F0 m pc ls rest) q := by
  intro T hT X
  have hpl : e.platform.magicAccessors = ({} : Platform).magicAccessors := by rw [X.admits.platform]
  obtain ⟨vm', hW', X', st⟩ := X.outThrough hlocks q (g := F0 m pc ls rest) rfl rfl rfl (cell := ce) (by rw [hT]; exact hcell) (by rw [hv]; rfl)
    (by obtain ⟨k9, h9, -⟩ := Vm.findClass_spec hcl; exact ⟨k9, h9⟩) (fun z hz => by
      rcases hpass z hz with h | ⟨hz0, nm, hl1, hn1⟩
      · exact Or.inl h
      · obtain ⟨c6, hc6, hcl6⟩ := Cond.classLink_spec hown hl1 e.platform hpl
        obtain ⟨a8, b8, h1, h2, h3⟩ := hn1
        cases Option.some.inj (h1.symm.trans hcl)
        cases Option.some.inj (h2.symm.trans hc6)
        exact Or.inr ⟨hz0, _, hcl6, h3⟩)
  obtain ⟨g₀, hfr⟩ := X'.frames_eq
  have hcell9 : ((T.setVm vm').setFrames (.throwing q :: below)).heap[q]? = some ce := by
    show T.heap[q]? = some ce
    rw [hT]; exact hcell
  have hend : Ended ((T.setVm vm').setFrames (.throwing q :: below)) below (.threw q) := State.frames_setFrames _ (State.cur_lt_of_frames hfr)
  refine ⟨(T.setVm vm').setFrames (.throwing q :: below), ?_, .threw q, X'.here.running, hend, Or.inr ⟨q, rfl, E, ce, locs, hx _ hT (X'.ends _).1.alike, hcell9, hv, hcl, (X'.ends _).1, (X'.ends _).2.mono hc hs, hf⟩⟩
  rw [X.pushThrowing_eq]
  exact st
/-- a thing of a world lies in the heap -/
theorem vx_lt {D : va_G} {cl : List vw_C} {ws : va_W} {H1 : Heap} (h : va_P D cl ws H1) {k : Nat} {q : Nat × va_E} (hk : ws[k]? = some q) : q.1 < H1.size := (h k q hk).lt
end VXS
/-! ===== END ===== -/
/-! ===== BEGIN methods with a table of their own: called by a name, returning or throwing ===== -/
section VXH
/-! vx_backW, vx_callVX, vx_callSX, vx_callVW, vx_runVW, vx_runVX, vx_runSX, vx_ofWH follow the same proofs as their sisters above (Free/Laws.lean, Shelf42/LK1.lean); vx_outP calls Shelf42/NT130.lean (outThrough). -/
section
variable {l : Launch} {R : Room} {p : Program} {e : Env} {below : List Frame} {s : State} {sargs : Array Value} {y : MethodName} {len W9 : Nat}
theorem vx_backW {ws : List Cond} {rm : Room} {Pc : Array Value → State → Prop} {Qc : Array Value → State → Outcome → State → Prop} {XC : String → State → State → Prop} {mc ms : Nat} {free : Addr → Prop} {bytes : ByteArray} {maxL : Nat} {ret : Option FieldType} {hh : List (Nat × Nat × Nat × Nat)}
    (hM : vx_Met l y ws rm Pc Qc XC mc ms free) (hblind : FrameBlind Pc) (hrc : rm.cells = mc) (hrs : rm.slots = ms)
    (hframes : rm.frames + 1 ≤ R.frames) (hlocals : W9 + (maxL + 11) + rm.locals ≤ R.locals)
    (hws : ∀ w ∈ ws, ∀ a' U, s.WarmedH U.vm → w.before a' U = true) (hcode : Cond.codeWith y bytes maxL ret hh ∈ ws) (hinit : ∀ a' U, s.WarmedH U.vm → (Cond.initialized y.cls).before a' U = true) :
    vx_Back l R p e below s sargs y len W9 (PreOf R mc ms Pc) (PostOf Qc mc ms free) (vx_Post XC mc ms free) := by
  intro m meth c A g ig mk a X hg hsize hdg hW hn hp
  have h1 : (headSpec ws rm).pre.before a A.U = true := atoms_intro fun w hw => hws w hw _ _ X.warmed
  have h2 : (Cond.codeWith y bytes maxL ret hh).before a A.U = true := hws _ hcode _ _ X.warmed
  have h3 : (Cond.initialized y.cls).before a A.U = true := hinit _ _ X.warmed
  have h4 : A.cells + (headSpec ws rm).room.cells ≤ R.cells := by rw [show (headSpec ws rm).room.cells = mc from hrc]; exact hp.1
  have h5 : A.slots + (headSpec ws rm).room.slots ≤ R.slots := by rw [show (headSpec ws rm).room.slots = ms from hrs]; exact hp.2.1
  have hPc : Pc a (A.U.calling g mk a) := hblind _ _ _ _ hp.2.2
  obtain ⟨U, Ls, c0, s0⟩ := A
  dsimp only [Pt.U, Pt.locs, Pt.cells, Pt.slots] at h1 h2 h3 h4 h5 X hn hPc ⊢
  obtain ⟨m9, methY, cY, hn9, hmY, hcY, -, hlY, -⟩ := Cond.codeWith_spec h2
  cases Option.some.inj (hn9.symm.trans hn)
  obtain ⟨kY, hkY, -⟩ := className_of_methodNamed hn
  have hinitY : kY.init = .initialized := Cond.initialized_spec (findClass_of_methodNamed hn) hkY h3
  have h : At U g.method c below := by rw [hg]; exact X.here
  have hlocals9 : W9 + (maxL + 11) + (headSpec ws rm).room.locals ≤ R.locals := hlocals
  have happ : (headSpec ws rm).appliesLoose y e.platform (U.calling g mk a) = true :=
    Spec.appliesLoose_calling (g := g) h hdg hn hkY hinitY
      (X.room_calling (g := g) (R' := (headSpec ws rm).room) hsize hmY hcY hframes (by rw [hlY]; omega) h4 h5) h1
  obtain ⟨mid, hmid⟩ := h.above
  have hfr : (U.setTop g).frames = (.java g :: mid) ++ below := by rw [State.frames_setTop' g h.top, hmid]; rfl
  obtain ⟨o, s₂, hsteps, -, hend, hq⟩ := Steps.callFree hM p X.admits X.cas X.clock (acts := []) hfr happ hPc trivial
  have hq' : vx_Q Qc XC mc ms free a (U.calling g mk a) o s₂ := hq
  rw [State.frames_setTop' g h.top] at hend
  obtain ⟨g₀, hg0⟩ := Option.isSome_iff_exists.mp h.top
  obtain ⟨r, hr⟩ := State.topJava?_eq_some.mp hg0
  have hr' : (({ U with heap := s₂.heap, slotsUsed := s₂.slotsUsed } : State).setVm s₂.vm).frames = .java g₀ :: r := hr
  rcases hq' with ⟨hqc, L, hfe, hL⟩ | ⟨q, rfl, E, ce, L, hx, hce, hcv, hcl, hW₂, hsm, hL⟩
  · obtain ⟨⟨v, rfl⟩, hW₂, e2, q2, q3, q4, q5, q6⟩ := id hfe
    have e3 : s₂ = ({ (U.calling g mk a).setFrames s₂.frames with heap := s₂.heap, slotsUsed := s₂.slotsUsed } : State).setVm s₂.vm := by
      have : s₂ = ({ s₂ with vm := (U.calling g mk a).vm } : State).setVm s₂.vm := rfl
      rw [e2] at this
      exact this
    obtain ⟨c₂, i₂, len₂, hc₂, hd₂, hf₂⟩ := hend
    have hW' : U.WarmedH s₂.vm := hW₂
    have hcc : c₂ = c := by
      have h1 : s₂.code? g.method = U.code? g.method := by
        rw [State.code?_eq, State.code?_eq, hW'.alike.method?]
      exact Option.some.inj (hc₂.symm.trans (h1.trans h.code))
    subst hcc
    have hlen : len₂ = len := by rw [hdg] at hd₂; cases hd₂; rfl
    subst hlen
    have hs₂ : s₂ = (({ U with heap := s₂.heap, slotsUsed := s₂.slotsUsed } : State).setVm s₂.vm).setTop { g with pc := g.pc + len₂, stack := v.toList ++ g.stack } := by
      refine e3.trans ?_
      rw [hf₂, State.calling_eq h.top, State.setFrames_setFrames, State.setTop_of_frames _ hr', hr]
      rfl
    have hsame : U.sameButNew ({ U with heap := s₂.heap, slotsUsed := s₂.slotsUsed } : State) L mc ms := by
      refine ⟨?_, q2, q3, q4, q5, q6⟩
      obtain ⟨t, ht, -⟩ := State.frames_cons hr
      show ({ U with heap := s₂.heap, slotsUsed := s₂.slotsUsed } : State) = { U.setFrames U.frames with heap := s₂.heap, slotsUsed := s₂.slotsUsed }
      rw [State.setFrames_self ht]
    subst hg
    refine Or.inl ⟨v, ⟨(({ U with heap := s₂.heap, slotsUsed := s₂.slotsUsed } : State).setVm s₂.vm), Ls ++ L, c0 + mc, s0 + ms⟩,
      ⟨X.admits, X.cas, X.clock, X.frames, X.room, X.hears, X.method, X.code, (X.here.setHeapUsed s₂.heap s₂.slotsUsed).setVm hW'.alike, X.tail, State.WarmedH.trans X.warmed hW', X.limits, X.bytes, X.same.trans (hsame.setVm s.vm)⟩,
      ⟨g, mk, s₂, L, rfl, rfl, hqc, rfl, hL, rfl, rfl⟩, ?_⟩
    show Steps p.tables e below _ ((({ U with heap := s₂.heap, slotsUsed := s₂.slotsUsed } : State).setVm s₂.vm).setTop { g with pc := g.pc + len₂, stack := v.toList ++ g.stack })
    rw [← hs₂]
    exact hsteps
  · obtain ⟨e2, q2, q3, q4, q5, q6⟩ := id hsm
    have e3 : s₂ = ({ (U.calling g mk a).setFrames s₂.frames with heap := s₂.heap, slotsUsed := s₂.slotsUsed } : State).setVm s₂.vm := by
      have : s₂ = ({ s₂ with vm := (U.calling g mk a).vm } : State).setVm s₂.vm := rfl
      rw [e2] at this
      exact this
    have hf₂ : s₂.frames = .throwing q :: .java g :: U.frames.tail := hend
    have hW' : U.WarmedH s₂.vm := hW₂
    have hs₂ : s₂ = ((({ U with heap := s₂.heap, slotsUsed := s₂.slotsUsed } : State).setVm s₂.vm).setTop g).pushFrame (.throwing q) := by
      refine e3.trans ?_
      rw [hf₂, State.calling_eq h.top, State.setFrames_setFrames, State.pushFrame, State.frames_setTop _ hr', State.setTop_of_frames _ hr', State.setFrames_setFrames, hr]
      rfl
    have hsame : U.sameButNew ({ U with heap := s₂.heap, slotsUsed := s₂.slotsUsed } : State) L mc ms := by
      refine ⟨?_, q2, q3, q4, q5, q6⟩
      obtain ⟨t, ht, -⟩ := State.frames_cons hr
      show ({ U with heap := s₂.heap, slotsUsed := s₂.slotsUsed } : State) = { U.setFrames U.frames with heap := s₂.heap, slotsUsed := s₂.slotsUsed }
      rw [State.setFrames_self ht]
    subst hg
    refine Or.inr ⟨q, ⟨(({ U with heap := s₂.heap, slotsUsed := s₂.slotsUsed } : State).setVm s₂.vm), Ls ++ L, c0 + mc, s0 + ms⟩,
      ⟨X.admits, X.cas, X.clock, X.frames, X.room, X.hears, X.method, X.code, (X.here.setHeapUsed s₂.heap s₂.slotsUsed).setVm hW'.alike, X.tail, State.WarmedH.trans X.warmed hW', X.limits, X.bytes, X.same.trans (hsame.setVm s.vm)⟩,
      ⟨g, mk, s₂, L, E, ce, rfl, rfl, hx, hce, hcv, hcl, rfl, hL, rfl, rfl⟩, ?_⟩
    show Steps p.tables e below _ (((({ U with heap := s₂.heap, slotsUsed := s₂.slotsUsed } : State).setVm s₂.vm).setTop g).pushFrame (.throwing q))
    rw [← hs₂]
    exact hsteps
end
variable {p : Program} {l : Launch} {e : Env} {R : Room} {s : State} {m : MethodId} {args : Array Value} {below : List Frame} {meth : Method} {c : Code} {T : State} {H : Heap} {locs : List Loc} {cells slots : Nat}
theorem vx_callVX (X : Stand p l e R s m args below meth c T locs cells slots) (hexec : p.tables.exec = Jvm.exec) {own C : String} {index : Nat} {y : MethodName} {bytes : ByteArray} {maxL : Nat} {ret : Option FieldType} {hh : List (Nat × Nat × Nat × Nat)}
    (hown : s.vm.findClass own = some m.cls) (hlink : (Cond.methodLink own index y).before args s = true) (hinst : (Cond.instanceMethod y).before args s = true) (hsel : (Cond.selects C y y).before args s = true)
    (hcode : (Cond.codeWith y bytes maxL ret hh).before args s = true) (hy : y.cls ≠ "java/lang/invoke/MethodHandle" ∧ y.cls ≠ "java/lang/invoke/VarHandle")
    {W9 : Nat} {Pre : Pt → Array Value → Prop} {Post : Pt → Array Value → Option Value → Pt → Prop} {PostX : Pt → Array Value → Addr → Pt → Prop} (hK : vx_Back l R p e below s args y 3 W9 Pre Post PostX)
    {b : Addr} {cellB : Cell} (hcell : T.heap[b]? = some cellB) (hobj : cellB.vm.isStatics = false) (hcls : s.vm.findClass C = some cellB.cls)
    {g : JFrame} (hg : g.method = m) (hsize : g.locals.size = c.maxLocals) {argsL rest : List Value} (hlen : ∀ sig, parseMethodDescriptor y.desc = some sig → argsL.length = sig.parameters.length)
    (hstack : g.stack = argsL.reverse ++ .ref b :: rest) (hW : 2 * g.monitorRoom + (rest.map fun v => v.category).sum ≤ W9) (hdg : decode c.code g.pc = .ok (.invokevirtual index, 3))
    (hpre : ∀ vm₁, s.WarmedH vm₁ → Pre ⟨T.setVm vm₁, locs, cells, slots⟩ (Value.ref b :: argsL).toArray) :
    (∃ (v : Option Value) (vm₁ : Vm) (B : Pt), s.WarmedH vm₁ ∧ Stand p l e R s m args below meth c B.U B.locs B.cells B.slots ∧ Post ⟨T.setVm vm₁, locs, cells, slots⟩ (Value.ref b :: argsL).toArray v B ∧
      ∀ target, Steps p.tables e below (B.U.setTop { g with pc := g.pc + 3, stack := v.toList ++ rest }) target → Steps p.tables e below (T.setTop g) target) ∨
    (∃ (q : Addr) (vm₁ : Vm) (B : Pt), s.WarmedH vm₁ ∧ Stand p l e R s m args below meth c B.U B.locs B.cells B.slots ∧ PostX ⟨T.setVm vm₁, locs, cells, slots⟩ (Value.ref b :: argsL).toArray q B ∧
      Steps p.tables e below (T.setTop g) ((B.U.setTop { g with stack := rest }).pushFrame (.throwing q))) := by
  obtain ⟨mk, methM, hnamed, hmethM, hstM, habM⟩ := Cond.instanceMethod_spec hinst
  obtain ⟨m8, methM', cM, hn8, hmethM', -, -, -, -, -, -, hsigM⟩ := Cond.codeWith_spec hcode
  cases Option.some.inj (hn8.symm.trans hnamed)
  cases hmethM.symm.trans hmethM'
  obtain ⟨c2, r2, m2, q1, q2, q3, q4, kP, hkP, hkPi⟩ := Cond.selects_spec hsel
  cases hcls.symm.trans q1
  cases (State.methodFound?_of_named hnamed hy).symm.trans q2
  cases hnamed.symm.trans q3
  have hselP : selectMethod e.platform s.vm cellB.cls mk = .method mk := by rw [Launch.admits_selectMethod X.admits]; exact q4
  obtain ⟨vm₁, X₁, hstep₁⟩ := X.invokevirtual hexec hown hlink hnamed hmethM hstM hkP hkPi hy (a := b) (cell := cellB) hcell
    (fun z h => by rw [h] at hobj; cases hobj) hselP hmethM habM hkP hkPi (g := g) hg (argsL := argsL) (rest := rest) (hlen _ hsigM) hstack hdg
  rcases hK m meth c ⟨T.setVm vm₁, locs, cells, slots⟩ { g with stack := rest } (.invokevirtual index) mk (Value.ref b :: argsL).toArray X₁ hg hsize hdg hW (X₁.named hnamed) (hpre vm₁ X₁.warmed) with ⟨v, B, X', hpost, hsteps⟩ | ⟨q, B, X', hpost, hsteps⟩
  · exact Or.inl ⟨v, vm₁, B, X₁.warmed, X', hpost, fun target h => hstep₁ _ fun acts => by rw [doInvoke_state]; exact hsteps.trans h⟩
  · exact Or.inr ⟨q, vm₁, B, X₁.warmed, X', hpost, hstep₁ _ fun acts => by rw [doInvoke_state]; exact hsteps⟩
theorem vx_callSX (X : Stand p l e R s m args below meth c T locs cells slots) (hexec : p.tables.exec = Jvm.exec) {own : String} {index : Nat} {y : MethodName} {bytes : ByteArray} {maxL : Nat} {ret : Option FieldType} {hh : List (Nat × Nat × Nat × Nat)}
    (hown : s.vm.findClass own = some m.cls) (hlink : (Cond.methodLink own index y).before args s = true) (hstat : (Cond.static y).before args s = true) (hinit : (Cond.initialized y.cls).before args s = true)
    (hcode : (Cond.codeWith y bytes maxL ret hh).before args s = true) (hy : y.cls ≠ "java/lang/invoke/MethodHandle" ∧ y.cls ≠ "java/lang/invoke/VarHandle")
    {W9 : Nat} {Pre : Pt → Array Value → Prop} {Post : Pt → Array Value → Option Value → Pt → Prop} {PostX : Pt → Array Value → Addr → Pt → Prop} (hK : vx_Back l R p e below s args y 3 W9 Pre Post PostX)
    {g : JFrame} (hg : g.method = m) (hsize : g.locals.size = c.maxLocals) {argsL rest : List Value} (hlen : ∀ sig, parseMethodDescriptor y.desc = some sig → argsL.length = sig.parameters.length)
    (hstack : g.stack = argsL.reverse ++ rest) (hW : 2 * g.monitorRoom + (rest.map fun v => v.category).sum ≤ W9) (hdg : decode c.code g.pc = .ok (.invokestatic index, 3))
    (hpre : ∀ vm₁, s.WarmedH vm₁ → Pre ⟨T.setVm vm₁, locs, cells, slots⟩ argsL.toArray) :
    (∃ (v : Option Value) (vm₁ : Vm) (B : Pt), s.WarmedH vm₁ ∧ Stand p l e R s m args below meth c B.U B.locs B.cells B.slots ∧ Post ⟨T.setVm vm₁, locs, cells, slots⟩ argsL.toArray v B ∧
      ∀ target, Steps p.tables e below (B.U.setTop { g with pc := g.pc + 3, stack := v.toList ++ rest }) target → Steps p.tables e below (T.setTop g) target) ∨
    (∃ (q : Addr) (vm₁ : Vm) (B : Pt), s.WarmedH vm₁ ∧ Stand p l e R s m args below meth c B.U B.locs B.cells B.slots ∧ PostX ⟨T.setVm vm₁, locs, cells, slots⟩ argsL.toArray q B ∧
      Steps p.tables e below (T.setTop g) ((B.U.setTop { g with stack := rest }).pushFrame (.throwing q))) := by
  obtain ⟨mk, methM, cM, hnamed, hmethM, -, -, -, -, -, -, hsigM⟩ := Cond.codeWith_spec hcode
  have hstatic : methM.isStatic = true := Cond.static_spec hnamed hmethM hstat
  obtain ⟨kP, hkP, -⟩ := className_of_methodNamed hnamed
  have hinitP : kP.init = .initialized := Cond.initialized_spec (findClass_of_methodNamed hnamed) hkP hinit
  obtain ⟨vm₁, X₁, hstep₁⟩ := X.invokestatic hexec hown hlink hnamed hmethM hstatic hkP hinitP hy (g := g) hg (argsL := argsL) (rest := rest) (hlen _ hsigM) hstack hdg
  rcases hK m meth c ⟨T.setVm vm₁, locs, cells, slots⟩ { g with stack := rest } (.invokestatic index) mk argsL.toArray X₁ hg hsize hdg hW (X₁.named hnamed) (hpre vm₁ X₁.warmed) with ⟨v, B, X', hpost, hsteps⟩ | ⟨q, B, X', hpost, hsteps⟩
  · exact Or.inl ⟨v, vm₁, B, X₁.warmed, X', hpost, fun target h => hstep₁ _ fun acts => by rw [doInvoke_state]; exact hsteps.trans h⟩
  · exact Or.inr ⟨q, vm₁, B, X₁.warmed, X', hpost, hstep₁ _ fun acts => by rw [doInvoke_state]; exact hsteps⟩
theorem vx_callVW (X : Stand p l e R s m args below meth c T locs cells slots) (hexec : p.tables.exec = Jvm.exec) {own C : String} {index : Nat} {y : MethodName} {bytes : ByteArray} {maxL : Nat} {ret : Option FieldType} {hh : List (Nat × Nat × Nat × Nat)}
    (hown : s.vm.findClass own = some m.cls) (hlink : (Cond.methodLink own index y).before args s = true) (hinst : (Cond.instanceMethod y).before args s = true) (hsel : (Cond.selects C y y).before args s = true)
    (hcode : (Cond.codeWith y bytes maxL ret hh).before args s = true) (hy : y.cls ≠ "java/lang/invoke/MethodHandle" ∧ y.cls ≠ "java/lang/invoke/VarHandle")
    {W9 : Nat} {Pre : Pt → Array Value → Prop} {Post : Pt → Array Value → Option Value → Pt → Prop} (hK : Back l R p e below s args y 3 W9 Pre Post)
    {b : Addr} {cellB : Cell} (hcell : T.heap[b]? = some cellB) (hobj : cellB.vm.isStatics = false) (hcls : s.vm.findClass C = some cellB.cls)
    {g : JFrame} (hg : g.method = m) (hsize : g.locals.size = c.maxLocals) {argsL rest : List Value} (hlen : ∀ sig, parseMethodDescriptor y.desc = some sig → argsL.length = sig.parameters.length)
    (hstack : g.stack = argsL.reverse ++ .ref b :: rest) (hW : 2 * g.monitorRoom + (rest.map fun v => v.category).sum ≤ W9) (hdg : decode c.code g.pc = .ok (.invokevirtual index, 3))
    (hpre : ∀ vm₁, s.WarmedH vm₁ → Pre ⟨T.setVm vm₁, locs, cells, slots⟩ (Value.ref b :: argsL).toArray) :
    ∃ (v : Option Value) (vm₁ : Vm) (B : Pt), s.WarmedH vm₁ ∧ Stand p l e R s m args below meth c B.U B.locs B.cells B.slots ∧ Post ⟨T.setVm vm₁, locs, cells, slots⟩ (Value.ref b :: argsL).toArray v B ∧
      ∀ target, Steps p.tables e below (B.U.setTop { g with pc := g.pc + 3, stack := v.toList ++ rest }) target → Steps p.tables e below (T.setTop g) target := by
  obtain ⟨mk, methM, hnamed, hmethM, hstM, habM⟩ := Cond.instanceMethod_spec hinst
  obtain ⟨m8, methM', cM, hn8, hmethM', -, -, -, -, -, -, hsigM⟩ := Cond.codeWith_spec hcode
  cases Option.some.inj (hn8.symm.trans hnamed)
  cases hmethM.symm.trans hmethM'
  obtain ⟨c2, r2, m2, q1, q2, q3, q4, kP, hkP, hkPi⟩ := Cond.selects_spec hsel
  cases hcls.symm.trans q1
  cases (State.methodFound?_of_named hnamed hy).symm.trans q2
  cases hnamed.symm.trans q3
  have hselP : selectMethod e.platform s.vm cellB.cls mk = .method mk := by rw [Launch.admits_selectMethod X.admits]; exact q4
  obtain ⟨vm₁, X₁, hstep₁⟩ := X.invokevirtual hexec hown hlink hnamed hmethM hstM hkP hkPi hy (a := b) (cell := cellB) hcell
    (fun z h => by rw [h] at hobj; cases hobj) hselP hmethM habM hkP hkPi (g := g) hg (argsL := argsL) (rest := rest) (hlen _ hsigM) hstack hdg
  obtain ⟨v, B, X', hpost, hsteps⟩ := hK m meth c ⟨T.setVm vm₁, locs, cells, slots⟩ { g with stack := rest } (.invokevirtual index) mk (Value.ref b :: argsL).toArray X₁ hg hsize hdg hW (X₁.named hnamed) (hpre vm₁ X₁.warmed)
  exact ⟨v, vm₁, B, X₁.warmed, X', hpost, fun target h => hstep₁ _ fun acts => by rw [doInvoke_state]; exact hsteps.trans h⟩
abbrev vx_CVW (R : Room) (s : State) (args : Array Value) (own C : String) (index : Nat) (y : MethodName) (bytes : ByteArray) (maxL : Nat) (ret : Option FieldType) (hh : List (Nat × Nat × Nat × Nat)) (ws : List Cond) (rm : Room) (mc ms n : Nat) : Prop :=
  (rm.cells = mc ∧ rm.slots = ms ∧ rm.frames + 1 ≤ R.frames ∧ 8 + (maxL + 11) + rm.locals ≤ R.locals ∧ (∀ w ∈ ws, ∀ (a' : Array Value) (U : State), s.WarmedH U.vm → w.before a' U = true) ∧ Cond.codeWith y bytes maxL ret hh ∈ ws) ∧
  (Cond.codeWith y bytes maxL ret hh).before args s = true ∧ (Cond.initialized y.cls).before args s = true ∧ (y.cls ≠ "java/lang/invoke/MethodHandle" ∧ y.cls ≠ "java/lang/invoke/VarHandle") ∧
  (∀ sig, parseMethodDescriptor y.desc = some sig → n = sig.parameters.length) ∧ (Cond.methodLink own index y).before args s = true ∧ (Cond.instanceMethod y).before args s = true ∧ (Cond.selects C y y).before args s = true
theorem vx_cwVW {own C : String} {index maxL mc ms : Nat} {y : MethodName} {bytes : ByteArray} {ret : Option FieldType} {hh : List (Nat × Nat × Nat × Nat)} {Ts ws ws' : List Cond} {rm : Room} (n : Nat) (ht : ∀ w ∈ Ts, w.before args s = true) (hT : GoodIn Ts (wsV own index C y ws)) (hw : ws = Cond.codeWith y bytes maxL ret hh :: ws') (hrc : rm.cells = mc) (hrs : rm.slots = ms)
    (hd : y.cls = C ∧ y.cls ≠ "java/lang/invoke/MethodHandle" ∧ y.cls ≠ "java/lang/invoke/VarHandle" ∧ (parseMethodDescriptor y.desc).map (fun d => d.parameters.length) = some n) (hR : rm.frames + 1 ≤ R.frames ∧ 8 + (maxL + 11) + rm.locals ≤ R.locals) :
    vx_CVW R s args own C index y bytes maxL ret hh ws rm mc ms n := by
  obtain ⟨hC, hd⟩ := hd
  subst hC
  have ok : ∀ w ∈ wsV own index y.cls y ws, w.before args s = true := fun w h => ht w (hT w h).1
  have hG : GoodIn Ts ws := fun w h => hT w (by unfold wsV; exact List.mem_append_right _ h)
  have hc : Cond.codeWith y bytes maxL ret hh ∈ ws := by rw [hw]; exact List.mem_cons_self
  refine ⟨⟨hrc, hrs, hR.1, hR.2, pay_in ht hG, hc⟩, ht _ (hG _ hc).1, ok _ (by simp [wsV]), ⟨hd.1, hd.2.1⟩, fun sig h => ?_, ok _ (by simp [wsV]), ok _ (by simp [wsV]), ok _ (by simp [wsV])⟩
  have h2 := hd.2.2
  rw [h] at h2
  exact (Option.some.inj h2).symm
theorem vx_runVW {y : MethodName} {bytes cc : ByteArray} {maxL nL mc ms n index : Nat} {ret : Option FieldType} {hh : List (Nat × Nat × Nat × Nat)} {ws : List Cond} {rm : Room} {Pc : Array Value → State → Prop} {Qc : Array Value → State → Outcome → State → Prop} {free : Addr → Prop} {Ts : List Cond} {own C : String} {b : Addr} {As rest : List Value} {g : JFrame}
    (S : CallFix p m c cc nL s args Ts own) (hM : Met l y ws rm Pc Qc mc ms free) (cw : vx_CVW R s args own C index y bytes maxL ret hh ws rm mc ms n) (hp : PreV s H C b Pc As)
    (hg : g.method = m) (hn : As.length = n) (hsize : g.locals.size = nL) (hstack : g.stack = As.reverse ++ .ref b :: rest) (hW : 2 * g.monitorRoom + (rest.map fun v => v.category).sum ≤ 8) (hdg : decode cc g.pc = .ok (.invokevirtual index, 3)) (hf : cells + mc ≤ R.cells ∧ slots + ms ≤ R.slots) :
    va_Run p l e R s m args below meth c H locs cells slots mc ms g rest (Qc (Value.ref b :: As).toArray) free := by
  obtain ⟨⟨hrc, hrs, hfr, hlo, hws, hcw⟩, hcode, hini, hy, hlen, hl, hin, hse⟩ := cw
  have hK : Back l R p e below s args y 3 8 (PreOf R mc ms Pc) (PostOf Qc mc ms free) := va_backW (hh := hh) (bytes := bytes) (maxL := maxL) (ret := ret) hM hp.1 hrc hrs hfr hlo hws hcw (fun a' U hW => word_at hW (Or.inl (by first | rfl | simp [Cond.onTables, Cond.keeps, Cond.steady])) hini)
  obtain ⟨hx, hb, hml, ho, -⟩ := S
  obtain ⟨-, ⟨cellB, hcB, hoB, hclB⟩, hPc⟩ := hp
  intro T hT X
  obtain ⟨v, vm₁, ⟨U', l2, c2, s2⟩, hW₁, X', ⟨g', mk, t, L, e1, e2, hq, h1, hL, h2, h3⟩, st⟩ := vx_callVW X hx (C := C) (hh := hh) (bytes := bytes) (maxL := maxL) (ret := ret) ho hl hin hse hcode hy hK (by rw [hT]; exact hcB) hoB hclB hg (hsize.trans hml.symm) (argsL := As) (rest := rest) (fun sig h => hn.trans (hlen sig h)) hstack hW (by rw [hb]; exact hdg)
    (fun vm₁ hW₁ => ⟨hf.1, hf.2, hPc (T.setVm vm₁) hT hW₁⟩)
  dsimp only [Pt.U, Pt.locs, Pt.cells, Pt.slots] at X' e1 e2 h1 h2 h3 st
  subst h1; subst h2; subst h3
  exact ⟨v, (T.setVm vm₁).calling g' mk (Value.ref b :: As).toArray, t, U', L, hT, X', hL, e1, e2, hq, st⟩
section
variable {y : MethodName} {bytes cc : ByteArray} {maxL nL mc ms n index : Nat} {ret : Option FieldType} {ws : List Cond} {rm : Room} {Pc : Array Value → State → Prop} {Qc : Array Value → State → Outcome → State → Prop} {XC : String → State → State → Prop} {free : Addr → Prop} {Ts : List Cond} {own C : String} {b : Addr} {As rest : List Value} {g : JFrame}
theorem vx_runVX {hh : List (Nat × Nat × Nat × Nat)} (S : CallFix p m c cc nL s args Ts own) (hM : vx_Met l y ws rm Pc Qc XC mc ms free) (cw : vx_CVW R s args own C index y bytes maxL ret hh ws rm mc ms n) (hp : PreV s H C b Pc As)
    (hg : g.method = m) (hn : As.length = n) (hsize : g.locals.size = nL) (hstack : g.stack = As.reverse ++ .ref b :: rest) (hW : 2 * g.monitorRoom + (rest.map fun v => v.category).sum ≤ 8) (hdg : decode cc g.pc = .ok (.invokevirtual index, 3)) (hf : cells + mc ≤ R.cells ∧ slots + ms ≤ R.slots) :
    vx_Run p l e R s m args below meth c H locs cells slots mc ms g rest (Qc (Value.ref b :: As).toArray) XC free := by
  obtain ⟨⟨hrc, hrs, hfr, hlo, hws, hcw⟩, hcode, hini, hy, hlen, hl, hin, hse⟩ := cw
  have hK : vx_Back l R p e below s args y 3 8 (PreOf R mc ms Pc) (PostOf Qc mc ms free) (vx_Post XC mc ms free) := vx_backW (hh := hh) (bytes := bytes) (maxL := maxL) (ret := ret) hM hp.1 hrc hrs hfr hlo hws hcw (fun a' U hW => word_at hW (Or.inl (by first | rfl | simp [Cond.onTables, Cond.keeps, Cond.steady])) hini)
  obtain ⟨hx, hb, hml, ho, -⟩ := S
  obtain ⟨-, ⟨cellB, hcB, hoB, hclB⟩, hPc⟩ := hp
  intro T hT X
  rcases vx_callVX X hx (C := C) (hh := hh) (bytes := bytes) (maxL := maxL) (ret := ret) ho hl hin hse hcode hy hK (by rw [hT]; exact hcB) hoB hclB hg (hsize.trans hml.symm) (argsL := As) (rest := rest) (fun sig h => hn.trans (hlen sig h)) hstack hW (by rw [hb]; exact hdg)
    (fun vm₁ hW₁ => ⟨hf.1, hf.2, hPc (T.setVm vm₁) hT hW₁⟩) with ⟨v, vm₁, ⟨U', l2, c2, s2⟩, hW₁, X', ⟨g', mk, t, L, e1, e2, hq, h1, hL, h2, h3⟩, st⟩ | ⟨q, vm₁, ⟨U', l2, c2, s2⟩, hW₁, X', ⟨g', mk, t, L, E, ce, e1, e2, hq, hce, hcv, hcl, h1, hL, h2, h3⟩, st⟩
  · dsimp only [Pt.U, Pt.locs, Pt.cells, Pt.slots] at X' e1 e2 h1 h2 h3 st
    subst h1; subst h2; subst h3
    exact Or.inl ⟨v, (T.setVm vm₁).calling g' mk (Value.ref b :: As).toArray, t, U', L, hT, X', hL, e1, e2, hq, st⟩
  · dsimp only [Pt.U, Pt.locs, Pt.cells, Pt.slots] at X' e1 e2 h1 h2 h3 st hcl
    subst h1; subst h2; subst h3
    exact Or.inr ⟨q, (T.setVm vm₁).calling g' mk (Value.ref b :: As).toArray, t, U', L, E, ce, hT, X', hL, e1, e2, hq, hce, hcv, vx_cls hW₁ hcl, st⟩
theorem vx_runSX {hh : List (Nat × Nat × Nat × Nat)} (S : CallFix p m c cc nL s args Ts own) (hM : vx_Met l y ws rm Pc Qc XC mc ms free) (cw : vx_CSW R s args own index y bytes maxL ret hh ws rm mc ms n) (hp : PreS s H Pc As)
    (hg : g.method = m) (hn : As.length = n) (hsize : g.locals.size = nL) (hstack : g.stack = As.reverse ++ rest) (hW : 2 * g.monitorRoom + (rest.map fun v => v.category).sum ≤ 8) (hdg : decode cc g.pc = .ok (.invokestatic index, 3)) (hf : cells + mc ≤ R.cells ∧ slots + ms ≤ R.slots) :
    vx_Run p l e R s m args below meth c H locs cells slots mc ms g rest (Qc As.toArray) XC free := by
  obtain ⟨⟨hrc, hrs, hfr, hlo, hws, hcw⟩, hcode, hini, hy, hlen, hl, hstt⟩ := cw
  have hK : vx_Back l R p e below s args y 3 8 (PreOf R mc ms Pc) (PostOf Qc mc ms free) (vx_Post XC mc ms free) := vx_backW (hh := hh) (bytes := bytes) (maxL := maxL) (ret := ret) hM hp.1 hrc hrs hfr hlo hws hcw (fun a' U hW => word_at hW (Or.inl (by first | rfl | simp [Cond.onTables, Cond.keeps, Cond.steady])) hini)
  obtain ⟨hx, hb, hml, ho, -⟩ := S
  intro T hT X
  rcases vx_callSX X hx (hh := hh) (bytes := bytes) (maxL := maxL) (ret := ret) ho hl hstt hini hcode hy hK hg (hsize.trans hml.symm) (argsL := As) (rest := rest) (fun sig h => hn.trans (hlen sig h)) hstack hW (by rw [hb]; exact hdg)
    (fun vm₁ hW₁ => ⟨hf.1, hf.2, hp.2 (T.setVm vm₁) hT hW₁⟩) with ⟨v, vm₁, ⟨U', l2, c2, s2⟩, hW₁, X', ⟨g', mk, t, L, e1, e2, hq, h1, hL, h2, h3⟩, st⟩ | ⟨q, vm₁, ⟨U', l2, c2, s2⟩, hW₁, X', ⟨g', mk, t, L, E, ce, e1, e2, hq, hce, hcv, hcl, h1, hL, h2, h3⟩, st⟩
  · dsimp only [Pt.U, Pt.locs, Pt.cells, Pt.slots] at X' e1 e2 h1 h2 h3 st
    subst h1; subst h2; subst h3
    exact Or.inl ⟨v, (T.setVm vm₁).calling g' mk As.toArray, t, U', L, hT, X', hL, e1, e2, hq, st⟩
  · dsimp only [Pt.U, Pt.locs, Pt.cells, Pt.slots] at X' e1 e2 h1 h2 h3 st hcl
    subst h1; subst h2; subst h3
    exact Or.inr ⟨q, (T.setVm vm₁).calling g' mk As.toArray, t, U', L, E, ce, hT, X', hL, e1, e2, hq, hce, hcv, vx_cls hW₁ hcl, st⟩
end
end VXH
theorem vx_ofWH {l : Launch} {y : MethodName} {ws ws' : List Cond} {rm : Room} {Pc : Array Value → State → Prop} {Qc : Array Value → State → Outcome → State → Prop} {XC : String → State → State → Prop} {mc ms : Nat} {free : Addr → Prop} {cc : ByteArray} {maxL : Nat} {ret : Option FieldType} {hh : List (Nat × Nat × Nat × Nat)}
    (hy : plainName y.cls = true) (hw : ws = Cond.codeWith y cc maxL ret hh :: ws')
    (body : ∀ p e s m args below meth c s₁, BodyLoose p l y (headSpec ws rm) cc maxL ret e s m args below meth c s₁ → c.maxLocals = maxL → Pc args s →
      W p l e (headSpec ws rm).room s m args below meth c s.heap [] 0 0 (vx_MQ below Qc XC args s mc ms free) (entryFrame m args maxL)) : vx_Met l y ws rm Pc Qc XC mc ms free := by
  refine MetFree.of_bodyS (code := cc) (maxLocals := maxL) (ret := ret) hy ?_ ?_
  · intro args s m h hn
    obtain ⟨m9, meth, c, hn9, h1, h2, h3, h4, -, h5, h6, -⟩ := Cond.codeWith_spec (atoms_spec (ws := ws) h _ (by rw [hw]; exact List.mem_cons_self))
    cases hn.symm.trans hn9
    exact ⟨meth, c, h1, h2, h3, h4, h5, h6⟩
  · intro p e s m args below meth c s₁ B hml hP _
    have hh0 : s₁.heap = s.heap := by rw [B.state]; rfl
    obtain ⟨t, a1, o, b1, b2, b3⟩ := body p e s m args below meth c s₁ B hml hP s₁ hh0 (Stand.of_body B)
    exact ⟨t, o, a1, b1, b2, b3⟩
/-! ===== END ===== -/

def RX0 : String := "ClipBureau$Ledger"
def TX0 : u_T := fun k => match k with
  | 0 => ("ClipBureau$Ledger", "ages", "[I", true)
  | 1 => ("ClipBureau$Ledger", "coins", "[I", true)
  | 2 => ("ClipBureau$Ledger", "paid", "[I", true)
  | 3 => ("ClipBureau$Ledger", "sent", "[I", true)
  | _ => ("ClipBureau$Ledger", "rounds", "I", false)
def tyX0 : Nat → FieldType := fun k => match k with
  | 0 => .array .int
  | 1 => .array .int
  | 2 => .array .int
  | 3 => .array .int
  | _ => .int
abbrev wsX00 : List Cond := u_ws RX0 TX0 5
theorem nmX0 : ∀ a, a < 5 → ∀ b, b < 5 → a ≠ b → (TX0 a).2.1 ≠ (TX0 b).2.1 := by decide +kernel
theorem tyX0_ok : ∀ k, k < 5 → parseFieldDescriptor (TX0 k).2.2.1 = some (tyX0 k) := by decide +kernel
abbrev cX0_init : ByteArray := prog_2_method_1_code
def yX0_init : MethodName := ⟨RX0, "<init>", "()V"⟩
abbrev cX0_copyFrom : ByteArray := prog_2_method_2_code
def yX0_copyFrom : MethodName := ⟨RX0, "copyFrom", "(LClipBureau$Ledger;)V"⟩
abbrev cX0_wasSent : ByteArray := prog_2_method_3_code
def yX0_wasSent : MethodName := ⟨RX0, "wasSent", "(II)Z"⟩
abbrev cX0_book : ByteArray := prog_2_method_4_code
def yX0_book : MethodName := ⟨RX0, "book", "(III)V"⟩
abbrev cX0_growOlder : ByteArray := prog_2_method_5_code
def yX0_growOlder : MethodName := ⟨RX0, "growOlder", "(I)V"⟩
abbrev cX0_receivers : ByteArray := prog_2_method_6_code
def yX0_receivers : MethodName := ⟨RX0, "receivers", "(I)I"⟩
abbrev cX0_sentInAll : ByteArray := prog_2_method_7_code
def yX0_sentInAll : MethodName := ⟨RX0, "sentInAll", "()I"⟩
abbrev cX0_paidInAll : ByteArray := prog_2_method_8_code
def yX0_paidInAll : MethodName := ⟨RX0, "paidInAll", "()I"⟩
def RX1 : String := "ClipBureau$Orders"
def TX1 : u_T := fun k => match k with
  | 0 => ("ClipBureau$Orders", "wants", "[[I", true)
  | 1 => ("ClipBureau$Orders", "sizes", "[I", true)
  | 2 => ("ClipBureau$Orders", "bars", "[I", true)
  | _ => ("ClipBureau$Orders", "clients", "I", false)
def tyX1 : Nat → FieldType := fun k => match k with
  | 0 => .array (.array .int)
  | 1 => .array .int
  | 2 => .array .int
  | _ => .int
abbrev wsX10 : List Cond := u_ws RX1 TX1 4
theorem nmX1 : ∀ a, a < 4 → ∀ b, b < 4 → a ≠ b → (TX1 a).2.1 ≠ (TX1 b).2.1 := by decide +kernel
theorem tyX1_ok : ∀ k, k < 4 → parseFieldDescriptor (TX1 k).2.2.1 = some (tyX1 k) := by decide +kernel
abbrev cX1_init : ByteArray := prog_3_method_1_code
def yX1_init : MethodName := ⟨RX1, "<init>", "()V"⟩
abbrev cX1_placeOf : ByteArray := prog_3_method_2_code
def yX1_placeOf : MethodName := ⟨RX1, "placeOf", "(II)I"⟩
def RX2 : String := "ClipBureau$Press"
def TX2 : u_T := fun k => match k with
  | 0 => ("ClipBureau$Press", "stems", "[I", true)
  | 1 => ("ClipBureau$Press", "words", "[[I", true)
  | 2 => ("ClipBureau$Press", "lengths", "[I", true)
  | 3 => ("ClipBureau$Press", "times", "[[I", true)
  | 4 => ("ClipBureau$Press", "holders", "[I", true)
  | _ => ("ClipBureau$Press", "articles", "I", false)
def tyX2 : Nat → FieldType := fun k => match k with
  | 0 => .array .int
  | 1 => .array (.array .int)
  | 2 => .array .int
  | 3 => .array (.array .int)
  | 4 => .array .int
  | _ => .int
abbrev wsX20 : List Cond := u_ws RX2 TX2 6
theorem nmX2 : ∀ a, a < 6 → ∀ b, b < 6 → a ≠ b → (TX2 a).2.1 ≠ (TX2 b).2.1 := by decide +kernel
theorem tyX2_ok : ∀ k, k < 6 → parseFieldDescriptor (TX2 k).2.2.1 = some (tyX2 k) := by decide +kernel
abbrev cX2_init : ByteArray := prog_4_method_1_code
def yX2_init : MethodName := ⟨RX2, "<init>", "()V"⟩
abbrev cX2_recount : ByteArray := prog_4_method_2_code
def yX2_recount : MethodName := ⟨RX2, "recount", "()V"⟩
abbrev cX2_recountArticle : ByteArray := prog_4_method_3_code
def yX2_recountArticle : MethodName := ⟨RX2, "recountArticle", "(I)V"⟩
abbrev cX2_stemOfWord : ByteArray := prog_4_method_4_code
def yX2_stemOfWord : MethodName := ⟨RX2, "stemOfWord", "(I)I"⟩
abbrev cX2_rarityOf : ByteArray := prog_4_method_5_code
def yX2_rarityOf : MethodName := ⟨RX2, "rarityOf", "(I)I"⟩
abbrev cX2_timesOf : ByteArray := prog_4_method_6_code
def yX2_timesOf : MethodName := ⟨RX2, "timesOf", "(II)I"⟩
abbrev cX2_scoreOf : ByteArray := prog_4_method_7_code
def yX2_scoreOf : MethodName := ⟨RX2, "scoreOf", "(I[III)I"⟩
abbrev cX2_stemsOf : ByteArray := prog_4_method_8_code
def yX2_stemsOf : MethodName := ⟨RX2, "stemsOf", "(I)I"⟩
abbrev cX2_stemsInAll : ByteArray := prog_4_method_9_code
def yX2_stemsInAll : MethodName := ⟨RX2, "stemsInAll", "()I"⟩
abbrev cX2_wordsInAll : ByteArray := prog_4_method_10_code
def yX2_wordsInAll : MethodName := ⟨RX2, "wordsInAll", "()I"⟩
def RX3 : String := "ClipBureau"
def TX3 : u_T := fun k => match k with
  | 0 => ("ClipBureau", "press", "LClipBureau$Press;", true)
  | 1 => ("ClipBureau", "orders", "LClipBureau$Orders;", true)
  | 2 => ("ClipBureau", "now", "LClipBureau$Ledger;", true)
  | 3 => ("ClipBureau", "later", "LClipBureau$Ledger;", true)
  | _ => ("ClipBureau", "tryout", "[I", true)
def tyX3 : Nat → FieldType := fun k => match k with
  | 0 => .object "ClipBureau$Press"
  | 1 => .object "ClipBureau$Orders"
  | 2 => .object "ClipBureau$Ledger"
  | 3 => .object "ClipBureau$Ledger"
  | _ => .array .int
abbrev wsX30 : List Cond := u_ws RX3 TX3 5
theorem nmX3 : ∀ a, a < 5 → ∀ b, b < 5 → a ≠ b → (TX3 a).2.1 ≠ (TX3 b).2.1 := by decide +kernel
theorem tyX3_ok : ∀ k, k < 5 → parseFieldDescriptor (TX3 k).2.2.1 = some (tyX3 k) := by decide +kernel
abbrev cX3_init : ByteArray := prog_1_method_1_code
def yX3_init : MethodName := ⟨RX3, "<init>", "()V"⟩
abbrev cX3_setStem : ByteArray := prog_1_method_2_code
def yX3_setStem : MethodName := ⟨RX3, "setStem", "(II)I"⟩
abbrev cX3_print : ByteArray := prog_1_method_3_code
def yX3_print : MethodName := ⟨RX3, "print", "()I"⟩
abbrev cX3_write : ByteArray := prog_1_method_4_code
def yX3_write : MethodName := ⟨RX3, "write", "(II)I"⟩
abbrev cX3_strike : ByteArray := prog_1_method_5_code
def yX3_strike : MethodName := ⟨RX3, "strike", "(II)I"⟩
abbrev cX3_client : ByteArray := prog_1_method_6_code
def yX3_client : MethodName := ⟨RX3, "client", "(I)I"⟩
abbrev cX3_want : ByteArray := prog_1_method_7_code
def yX3_want : MethodName := ⟨RX3, "want", "(II)I"⟩
abbrev cX3_drop : ByteArray := prog_1_method_8_code
def yX3_drop : MethodName := ⟨RX3, "drop", "(II)I"⟩
abbrev cX3_setBar : ByteArray := prog_1_method_9_code
def yX3_setBar : MethodName := ⟨RX3, "setBar", "(II)I"⟩
abbrev cX3_pay : ByteArray := prog_1_method_10_code
def yX3_pay : MethodName := ⟨RX3, "pay", "(II)I"⟩
abbrev cX3_send : ByteArray := prog_1_method_11_code
def yX3_send : MethodName := ⟨RX3, "send", "(I)I"⟩
abbrev cX3_pass : ByteArray := prog_1_method_12_code
def yX3_pass : MethodName := ⟨RX3, "pass", "(I)I"⟩
abbrev cX3_told : ByteArray := prog_1_method_13_code
def yX3_told : MethodName := ⟨RX3, "told", "(II)I"⟩
abbrev cX3_word : ByteArray := prog_1_method_14_code
def yX3_word : MethodName := ⟨RX3, "word", "(II)I"⟩
abbrev cX3_about : ByteArray := prog_1_method_15_code
def yX3_about : MethodName := ⟨RX3, "about", "(II)I"⟩
abbrev cX3_stem : ByteArray := prog_1_method_16_code
def yX3_stem : MethodName := ⟨RX3, "stem", "(II)I"⟩
abbrev cX3_count : ByteArray := prog_1_method_17_code
def yX3_count : MethodName := ⟨RX3, "count", "(I)I"⟩
abbrev cX3_rarity : ByteArray := prog_1_method_18_code
def yX3_rarity : MethodName := ⟨RX3, "rarity", "(I)I"⟩
abbrev cX3_score : ByteArray := prog_1_method_19_code
def yX3_score : MethodName := ⟨RX3, "score", "(II)I"⟩
abbrev cX3_fit : ByteArray := prog_1_method_20_code
def yX3_fit : MethodName := ⟨RX3, "fit", "(II)I"⟩
abbrev cX3_until : ByteArray := prog_1_method_24_code
def yX3_until : MethodName := ⟨RX3, "until", "()I"⟩
abbrev cX3_mean : ByteArray := prog_1_method_25_code
def yX3_mean : MethodName := ⟨RX3, "mean", "()D"⟩
abbrev cX3_checkWord : ByteArray := prog_1_method_30_code
def yX3_checkWord : MethodName := ⟨RX3, "checkWord", "(I)V"⟩
abbrev cX3_checkStem : ByteArray := prog_1_method_31_code
def yX3_checkStem : MethodName := ⟨RX3, "checkStem", "(I)V"⟩
abbrev cX3_checkArticle : ByteArray := prog_1_method_32_code
def yX3_checkArticle : MethodName := ⟨RX3, "checkArticle", "(I)V"⟩
abbrev cX3_checkClient : ByteArray := prog_1_method_33_code
def yX3_checkClient : MethodName := ⟨RX3, "checkClient", "(I)V"⟩
abbrev cX3_checkPlace : ByteArray := prog_1_method_34_code
def yX3_checkPlace : MethodName := ⟨RX3, "checkPlace", "(II)V"⟩
abbrev cX3_checkWhat : ByteArray := prog_1_method_35_code
def yX3_checkWhat : MethodName := ⟨RX3, "checkWhat", "(II)V"⟩
abbrev cX3_checkRounds : ByteArray := prog_1_method_36_code
def yX3_checkRounds : MethodName := ⟨RX3, "checkRounds", "(I)V"⟩
abbrev cX3_tellOfArticle : ByteArray := prog_1_method_37_code
def yX3_tellOfArticle : MethodName := ⟨RX3, "tellOfArticle", "(II)I"⟩
abbrev cX3_tellOfClient : ByteArray := prog_1_method_38_code
def yX3_tellOfClient : MethodName := ⟨RX3, "tellOfClient", "(II)I"⟩
abbrev cX3_tellOfAll : ByteArray := prog_1_method_39_code
def yX3_tellOfAll : MethodName := ⟨RX3, "tellOfAll", "(I)I"⟩
abbrev cX3_scoreFor : ByteArray := prog_1_method_40_code
def yX3_scoreFor : MethodName := ⟨RX3, "scoreFor", "(LClipBureau$Ledger;II)I"⟩
abbrev cX3_isFit : ByteArray := prog_1_method_41_code
def yX3_isFit : MethodName := ⟨RX3, "isFit", "(LClipBureau$Ledger;III)Z"⟩
abbrev cX3_fitArticles : ByteArray := prog_1_method_42_code
def yX3_fitArticles : MethodName := ⟨RX3, "fitArticles", "(I)I"⟩
abbrev cX3_bestFit : ByteArray := prog_1_method_43_code
def yX3_bestFit : MethodName := ⟨RX3, "bestFit", "(LClipBureau$Ledger;I)I"⟩
abbrev cX3_fitArticleAt : ByteArray := prog_1_method_44_code
def yX3_fitArticleAt : MethodName := ⟨RX3, "fitArticleAt", "(II)I"⟩
abbrev cX3_fitArticlesAhead : ByteArray := prog_1_method_45_code
def yX3_fitArticlesAhead : MethodName := ⟨RX3, "fitArticlesAhead", "(III)I"⟩
abbrev cX3_priceFor : ByteArray := prog_1_method_47_code
def yX3_priceFor : MethodName := ⟨RX3, "priceFor", "(LClipBureau$Ledger;II)I"⟩
abbrev cX3_sendTo : ByteArray := prog_1_method_48_code
def yX3_sendTo : MethodName := ⟨RX3, "sendTo", "(LClipBureau$Ledger;I)I"⟩
abbrev cX3_playRounds : ByteArray := prog_1_method_49_code
def yX3_playRounds : MethodName := ⟨RX3, "playRounds", "(LClipBureau$Ledger;I)V"⟩
abbrev cX3_someoneIsShort : ByteArray := prog_1_method_50_code
def yX3_someoneIsShort : MethodName := ⟨RX3, "someoneIsShort", "(LClipBureau$Ledger;)Z"⟩
abbrev cX3_removeAt : ByteArray := prog_1_method_51_code
def yX3_removeAt : MethodName := ⟨RX3, "removeAt", "([III)I"⟩
def RX4 : String := "ClipBureauLaw$Client"
def TX4 : u_T := fun k => match k with
  | 0 => ("ClipBureauLaw$Client", "coins", "I", false)
  | 1 => ("ClipBureauLaw$Client", "bar", "I", false)
  | 2 => ("ClipBureauLaw$Client", "paid", "I", false)
  | 3 => ("ClipBureauLaw$Client", "wants", "[I", false)
  | _ => ("ClipBureauLaw$Client", "sent", "[Z", false)
def tyX4 : Nat → FieldType := fun k => match k with
  | 0 => .int
  | 1 => .int
  | 2 => .int
  | 3 => .array .int
  | _ => .array .boolean
abbrev wsX40 : List Cond := u_ws RX4 TX4 5
theorem nmX4 : ∀ a, a < 5 → ∀ b, b < 5 → a ≠ b → (TX4 a).2.1 ≠ (TX4 b).2.1 := by decide +kernel
theorem tyX4_ok : ∀ k, k < 5 → parseFieldDescriptor (TX4 k).2.2.1 = some (tyX4 k) := by decide +kernel
abbrev cX4_init : ByteArray := prog_6_method_1_code
def yX4_init : MethodName := ⟨RX4, "<init>", "()V"⟩
def RX5 : String := "ClipBureauLaw$Sim"
def TX5 : u_T := fun k => match k with
  | 0 => ("ClipBureauLaw$Sim", "stems", "[I", false)
  | 1 => ("ClipBureauLaw$Sim", "words", "[[I", false)
  | 2 => ("ClipBureauLaw$Sim", "ages", "[I", false)
  | 3 => ("ClipBureauLaw$Sim", "clients", "[LClipBureauLaw$Client;", false)
  | _ => ("ClipBureauLaw$Sim", "rounds", "I", false)
def tyX5 : Nat → FieldType := fun k => match k with
  | 0 => .array .int
  | 1 => .array (.array .int)
  | 2 => .array .int
  | 3 => .array (.object "ClipBureauLaw$Client")
  | _ => .int
abbrev wsX50 : List Cond := u_ws RX5 TX5 5
theorem nmX5 : ∀ a, a < 5 → ∀ b, b < 5 → a ≠ b → (TX5 a).2.1 ≠ (TX5 b).2.1 := by decide +kernel
theorem tyX5_ok : ∀ k, k < 5 → parseFieldDescriptor (TX5 k).2.2.1 = some (tyX5 k) := by decide +kernel
abbrev cX5_init : ByteArray := prog_7_method_1_code
def yX5_init : MethodName := ⟨RX5, "<init>", "()V"⟩
abbrev cX5_table : ByteArray := prog_7_method_3_code
def yX5_table : MethodName := ⟨RX5, "table", "(I)[I"⟩
abbrev cX5_rarities : ByteArray := prog_7_method_4_code
def yX5_rarities : MethodName := ⟨RX5, "rarities", "()[I"⟩
abbrev cX5_score : ByteArray := prog_7_method_5_code
def yX5_score : MethodName := ⟨RX5, "score", "(LClipBureauLaw$Client;[I[II)I"⟩
abbrev cX5_fits : ByteArray := prog_7_method_6_code
def yX5_fits : MethodName := ⟨RX5, "fits", "(LClipBureauLaw$Client;)[I"⟩
abbrev cX5_best : ByteArray := prog_7_method_7_code
def yX5_best : MethodName := ⟨RX5, "best", "([I)I"⟩
abbrev cX5_send : ByteArray := prog_7_method_8_code
def yX5_send : MethodName := ⟨RX5, "send", "(LClipBureauLaw$Client;)I"⟩
abbrev cX5_pass : ByteArray := prog_7_method_9_code
def yX5_pass : MethodName := ⟨RX5, "pass", "()I"⟩
abbrev cX5_isSame : ByteArray := prog_7_method_11_code
def yX5_isSame : MethodName := ⟨RX5, "isSame", "(LClipBureau;)Z"⟩
def RX6 : String := "ClipBureauModel"
def TX6 : u_T := fun k => match k with
  | _ => ("", "", "", false)
def tyX6 : Nat → FieldType := fun k => match k with
  | _ => .int
abbrev wsX60 : List Cond := u_ws RX6 TX6 0
theorem nmX6 : ∀ a, a < 0 → ∀ b, b < 0 → a ≠ b → (TX6 a).2.1 ≠ (TX6 b).2.1 := by decide +kernel
theorem tyX6_ok : ∀ k, k < 0 → parseFieldDescriptor (TX6 k).2.2.1 = some (tyX6 k) := by decide +kernel
def RJx145de : String := "java/io/Serializable"
def RJ6 : String := "java/lang/Integer"
abbrev cJ6_bitCount_0f7a4 : ByteArray := prog_13_method_49_code
def yJ6_bitCount_0f7a4 : MethodName := ⟨RJ6, "bitCount", "(I)I"⟩
def RJ9 : String := "java/lang/Math"
abbrev cJ9_max_7cf53 : ByteArray := prog_14_method_65_code
def yJ9_max_7cf53 : MethodName := ⟨RJ9, "max", "(II)I"⟩
abbrev cJ9_min_7cf53 : ByteArray := prog_14_method_69_code
def yJ9_min_7cf53 : MethodName := ⟨RJ9, "min", "(II)I"⟩
def RJ0 : String := "java/lang/String"
def RJ10 : String := "java/lang/System"
def RJ7 : String := "java/util/Arrays"
abbrev cJ7_fill_53178 : ByteArray := prog_19_method_103_code
def yJ7_fill_53178 : MethodName := ⟨RJ7, "fill", "([II)V"⟩
def RL : String := "ClipBureauLaw"
abbrev cL_below : ByteArray := method_2_code
def yL_below : MethodName := ⟨RL, "below", "(II)I"⟩
abbrev cL_cell : ByteArray := method_3_code
def yL_cell : MethodName := ⟨RL, "cell", "([II)I"⟩
abbrev cL_more : ByteArray := method_4_code
def yL_more : MethodName := ⟨RL, "more", "([II)[I"⟩
abbrev cL_less : ByteArray := method_5_code
def yL_less : MethodName := ⟨RL, "less", "([II)[I"⟩
abbrev cL_act : ByteArray := method_6_code
def yL_act : MethodName := ⟨RL, "act", "(LClipBureau;LClipBureauLaw$Sim;I)Z"⟩
abbrev cL_build : ByteArray := method_7_code
def yL_build : MethodName := ⟨RL, "build", "(LClipBureau;[I)LClipBureauLaw$Sim;"⟩
abbrev cL_law : ByteArray := code
def yL_law : MethodName := ⟨RL, "law", "([I)Z"⟩
abbrev vwCl : List vw_C := [(RX0, TX0, 5), (RX1, TX1, 4), (RX2, TX2, 6), (RX3, TX3, 5), (RX4, TX4, 5), (RX5, TX5, 5)]
end
section
-- printed by wip/whole/gen.py: methods, instructions, links
abbrev dp_I : Type := Nat × Jvm.ClassFile.Instr × Nat
def dp_t0 : List dp_I := [(0, .aload_n 1, 1), (1, .getfield 9, 3), (4, .iconst 0, 1), (5, .aload_n 0, 1), (6, .getfield 9, 3), (9, .iconst 0, 1), (10, .bipush 16, 2), (12, .invokestatic 24, 3), (15, .aload_n 1, 1), (16, .getfield 15, 3), (19, .iconst 0, 1), (20, .aload_n 0, 1), (21, .getfield 15, 3), (24, .iconst 0, 1), (25, .bipush 6, 2), (27, .invokestatic 24, 3), (30, .aload_n 1, 1), (31, .getfield 18, 3), (34, .iconst 0, 1), (35, .aload_n 0, 1), (36, .getfield 18, 3), (39, .iconst 0, 1), (40, .bipush 6, 2), (42, .invokestatic 24, 3), (45, .aload_n 1, 1), (46, .getfield 21, 3), (49, .iconst 0, 1), (50, .aload_n 0, 1), (51, .getfield 21, 3), (54, .iconst 0, 1), (55, .bipush 6, 2), (57, .invokestatic 24, 3), (60, .aload_n 0, 1), (61, .aload_n 1, 1), (62, .getfield 30, 3), (65, .putfield 30, 3), (68, .return_, 1)]
def dp_t1 : List dp_I := [(0, .aload_n 0, 1), (1, .getfield 21, 3), (4, .iload_n 1, 1), (5, .iaload, 1), (6, .iload_n 2, 1), (7, .ishr, 1), (8, .iconst 1, 1), (9, .iand, 1), (10, .iconst 1, 1), (11, .if_icmp .ne 7, 3), (14, .iconst 1, 1), (15, .goto 4, 3), (18, .iconst 0, 1), (19, .ireturn, 1)]
def dp_t2 : List dp_I := [(0, .aload_n 0, 1), (1, .getfield 15, 3), (4, .iload_n 1, 1), (5, .dup2, 1), (6, .iaload, 1), (7, .iload_n 3, 1), (8, .isub, 1), (9, .iastore, 1), (10, .aload_n 0, 1), (11, .getfield 18, 3), (14, .iload_n 1, 1), (15, .dup2, 1), (16, .iaload, 1), (17, .iload_n 3, 1), (18, .iadd, 1), (19, .iastore, 1), (20, .aload_n 0, 1), (21, .getfield 21, 3), (24, .iload_n 1, 1), (25, .dup2, 1), (26, .iaload, 1), (27, .iconst 1, 1), (28, .iload_n 2, 1), (29, .ishl, 1), (30, .ior, 1), (31, .iastore, 1), (32, .return_, 1)]
def dp_t3 : List dp_I := [(0, .iconst 0, 1), (1, .istore_n 2, 1), (2, .iload_n 2, 1), (3, .iload_n 1, 1), (4, .if_icmp .ge 19, 3), (7, .aload_n 0, 1), (8, .getfield 9, 3), (11, .iload_n 2, 1), (12, .dup2, 1), (13, .iaload, 1), (14, .iconst 1, 1), (15, .iadd, 1), (16, .iastore, 1), (17, .iinc 2 1, 3), (20, .goto (-18), 3), (23, .aload_n 0, 1), (24, .dup, 1), (25, .getfield 30, 3), (28, .iconst 1, 1), (29, .iadd, 1), (30, .putfield 30, 3), (33, .return_, 1)]
def dp_t4 : List dp_I := [(0, .iconst 0, 1), (1, .istore_n 2, 1), (2, .iconst 0, 1), (3, .istore_n 3, 1), (4, .iload_n 3, 1), (5, .bipush 6, 2), (7, .if_icmp .ge 21, 3), (10, .aload_n 0, 1), (11, .iload_n 3, 1), (12, .iload_n 1, 1), (13, .invokevirtual 34, 3), (16, .ifCond .eq 6, 3), (19, .iinc 2 1, 3), (22, .iinc 3 1, 3), (25, .goto (-21), 3), (28, .iload_n 2, 1), (29, .ireturn, 1)]
def dp_t5 : List dp_I := [(0, .iconst 0, 1), (1, .istore_n 1, 1), (2, .iconst 0, 1), (3, .istore_n 2, 1), (4, .iload_n 2, 1), (5, .bipush 6, 2), (7, .if_icmp .ge 21, 3), (10, .iload_n 1, 1), (11, .aload_n 0, 1), (12, .getfield 21, 3), (15, .iload_n 2, 1), (16, .iaload, 1), (17, .invokestatic 38, 3), (20, .iadd, 1), (21, .istore_n 1, 1), (22, .iinc 2 1, 3), (25, .goto (-21), 3), (28, .iload_n 1, 1), (29, .ireturn, 1)]
def dp_t6 : List dp_I := [(0, .iconst 0, 1), (1, .istore_n 1, 1), (2, .iconst 0, 1), (3, .istore_n 2, 1), (4, .iload_n 2, 1), (5, .bipush 6, 2), (7, .if_icmp .ge 18, 3), (10, .iload_n 1, 1), (11, .aload_n 0, 1), (12, .getfield 18, 3), (15, .iload_n 2, 1), (16, .iaload, 1), (17, .iadd, 1), (18, .istore_n 1, 1), (19, .iinc 2 1, 3), (22, .goto (-18), 3), (25, .iload_n 1, 1), (26, .ireturn, 1)]
def dp_t7 : List dp_I := [(0, .iconst 0, 1), (1, .istore_n 3, 1), (2, .iload_n 3, 1), (3, .aload_n 0, 1), (4, .getfield 16, 3), (7, .iload_n 1, 1), (8, .iaload, 1), (9, .if_icmp .ge 23, 3), (12, .aload_n 0, 1), (13, .getfield 11, 3), (16, .iload_n 1, 1), (17, .aaload, 1), (18, .iload_n 3, 1), (19, .iaload, 1), (20, .iload_n 2, 1), (21, .if_icmp .ne 5, 3), (24, .iload_n 3, 1), (25, .ireturn, 1), (26, .iinc 3 1, 3), (29, .goto (-27), 3), (32, .iconst (-1), 1), (33, .ireturn, 1)]
def dp_t8 : List dp_I := [(0, .aload_n 0, 1), (1, .getfield 26, 3), (4, .iconst 0, 1), (5, .invokestatic 29, 3), (8, .iconst 0, 1), (9, .istore_n 1, 1), (10, .iload_n 1, 1), (11, .aload_n 0, 1), (12, .getfield 35, 3), (15, .if_icmp .ge 14, 3), (18, .aload_n 0, 1), (19, .iload_n 1, 1), (20, .invokevirtual 39, 3), (23, .iinc 1 1, 3), (26, .goto (-16), 3), (29, .return_, 1)]
def dp_t9 : List dp_I := [(0, .aload_n 0, 1), (1, .getfield 23, 3), (4, .iload_n 1, 1), (5, .aaload, 1), (6, .astore_n 2, 1), (7, .aload_n 2, 1), (8, .iconst 0, 1), (9, .invokestatic 29, 3), (12, .iconst 0, 1), (13, .istore_n 3, 1), (14, .iload_n 3, 1), (15, .aload_n 0, 1), (16, .getfield 20, 3), (19, .iload_n 1, 1), (20, .iaload, 1), (21, .if_icmp .ge 43, 3), (24, .aload_n 0, 1), (25, .aload_n 0, 1), (26, .getfield 17, 3), (29, .iload_n 1, 1), (30, .aaload, 1), (31, .iload_n 3, 1), (32, .iaload, 1), (33, .invokevirtual 43, 3), (36, .istore 4, 2), (38, .iload 4, 2), (40, .ifCond .lt 18, 3), (43, .iload 4, 2), (45, .bipush 20, 2), (47, .if_icmp .ge 11, 3), (50, .aload_n 2, 1), (51, .iload 4, 2), (53, .dup2, 1), (54, .iaload, 1), (55, .iconst 1, 1), (56, .iadd, 1), (57, .iastore, 1), (58, .iinc 3 1, 3), (61, .goto (-47), 3), (64, .iconst 0, 1), (65, .istore_n 3, 1), (66, .iload_n 3, 1), (67, .bipush 20, 2), (69, .if_icmp .ge 25, 3), (72, .aload_n 2, 1), (73, .iload_n 3, 1), (74, .iaload, 1), (75, .ifCond .le 13, 3), (78, .aload_n 0, 1), (79, .getfield 26, 3), (82, .iload_n 3, 1), (83, .dup2, 1), (84, .iaload, 1), (85, .iconst 1, 1), (86, .iadd, 1), (87, .iastore, 1), (88, .iinc 3 1, 3), (91, .goto (-25), 3), (94, .return_, 1)]
def dp_t10 : List dp_I := [(0, .iload_n 1, 1), (1, .ifCond .lt 9, 3), (4, .iload_n 1, 1), (5, .bipush 40, 2), (7, .if_icmp .lt 7, 3), (10, .iconst (-1), 1), (11, .goto 9, 3), (14, .aload_n 0, 1), (15, .getfield 9, 3), (18, .iload_n 1, 1), (19, .iaload, 1), (20, .ireturn, 1)]
def dp_t11 : List dp_I := [(0, .iload_n 1, 1), (1, .ifCond .lt 9, 3), (4, .iload_n 1, 1), (5, .bipush 20, 2), (7, .if_icmp .lt 7, 3), (10, .iconst 0, 1), (11, .goto 9, 3), (14, .aload_n 0, 1), (15, .getfield 26, 3), (18, .iload_n 1, 1), (19, .iaload, 1), (20, .istore_n 2, 1), (21, .bipush 10, 2), (23, .aload_n 0, 1), (24, .getfield 35, 3), (27, .iconst 1, 1), (28, .iadd, 1), (29, .imul, 1), (30, .iload_n 2, 1), (31, .iconst 1, 1), (32, .iadd, 1), (33, .idiv, 1), (34, .ireturn, 1)]
def dp_t12 : List dp_I := [(0, .iload_n 2, 1), (1, .ifCond .lt 9, 3), (4, .iload_n 2, 1), (5, .bipush 20, 2), (7, .if_icmp .lt 7, 3), (10, .iconst 0, 1), (11, .goto 11, 3), (14, .aload_n 0, 1), (15, .getfield 23, 3), (18, .iload_n 1, 1), (19, .aaload, 1), (20, .iload_n 2, 1), (21, .iaload, 1), (22, .ireturn, 1)]
def dp_t13 : List dp_I := [(0, .iconst 0, 1), (1, .istore 5, 2), (3, .iconst 0, 1), (4, .istore 6, 2), (6, .iconst 0, 1), (7, .istore 7, 2), (9, .iload 7, 2), (11, .iload_n 3, 1), (12, .if_icmp .ge 48, 3), (15, .aload_n 0, 1), (16, .iload_n 1, 1), (17, .aload_n 2, 1), (18, .iload 7, 2), (20, .iaload, 1), (21, .invokevirtual 47, 3), (24, .istore 8, 2), (26, .iload 8, 2), (28, .ifCond .le 26, 3), (31, .iinc 6 1, 3), (34, .iload 5, 2), (36, .iload 8, 2), (38, .iconst 3, 1), (39, .invokestatic 51, 3), (42, .aload_n 0, 1), (43, .aload_n 2, 1), (44, .iload 7, 2), (46, .iaload, 1), (47, .invokevirtual 56, 3), (50, .imul, 1), (51, .iadd, 1), (52, .istore 5, 2), (54, .iinc 7 1, 3), (57, .goto (-48), 3), (60, .iload_n 3, 1), (61, .iconst 2, 1), (62, .if_icmp .lt 18, 3), (65, .iload 6, 2), (67, .iload_n 3, 1), (68, .if_icmp .ne 12, 3), (71, .iload 5, 2), (73, .iload 5, 2), (75, .iconst 2, 1), (76, .idiv, 1), (77, .iadd, 1), (78, .istore 5, 2), (80, .iload 5, 2), (82, .iconst 3, 1), (83, .iload 4, 2), (85, .imul, 1), (86, .isub, 1), (87, .iconst 0, 1), (88, .invokestatic 59, 3), (91, .ireturn, 1)]
def dp_t14 : List dp_I := [(0, .iconst 0, 1), (1, .istore_n 2, 1), (2, .iconst 0, 1), (3, .istore_n 3, 1), (4, .iload_n 3, 1), (5, .bipush 20, 2), (7, .if_icmp .ge 23, 3), (10, .aload_n 0, 1), (11, .getfield 23, 3), (14, .iload_n 1, 1), (15, .aaload, 1), (16, .iload_n 3, 1), (17, .iaload, 1), (18, .ifCond .le 6, 3), (21, .iinc 2 1, 3), (24, .iinc 3 1, 3), (27, .goto (-23), 3), (30, .iload_n 2, 1), (31, .ireturn, 1)]
def dp_t15 : List dp_I := [(0, .iconst 0, 1), (1, .istore_n 1, 1), (2, .iconst 0, 1), (3, .istore_n 2, 1), (4, .iload_n 2, 1), (5, .bipush 20, 2), (7, .if_icmp .ge 21, 3), (10, .aload_n 0, 1), (11, .getfield 26, 3), (14, .iload_n 2, 1), (15, .iaload, 1), (16, .ifCond .le 6, 3), (19, .iinc 1 1, 3), (22, .iinc 2 1, 3), (25, .goto (-21), 3), (28, .iload_n 1, 1), (29, .ireturn, 1)]
def dp_t16 : List dp_I := [(0, .iconst 0, 1), (1, .istore_n 1, 1), (2, .iconst 0, 1), (3, .istore_n 2, 1), (4, .iload_n 2, 1), (5, .aload_n 0, 1), (6, .getfield 35, 3), (9, .if_icmp .ge 18, 3), (12, .iload_n 1, 1), (13, .aload_n 0, 1), (14, .getfield 20, 3), (17, .iload_n 2, 1), (18, .iaload, 1), (19, .iadd, 1), (20, .istore_n 1, 1), (21, .iinc 2 1, 3), (24, .goto (-20), 3), (27, .iload_n 1, 1), (28, .ireturn, 1)]
def dp_t17 : List dp_I := [(0, .iload_n 1, 1), (1, .invokestatic 37, 3), (4, .iload_n 2, 1), (5, .invokestatic 41, 3), (8, .aload_n 0, 1), (9, .getfield 10, 3), (12, .getfield 44, 3), (15, .iload_n 1, 1), (16, .iaload, 1), (17, .istore_n 3, 1), (18, .aload_n 0, 1), (19, .getfield 10, 3), (22, .getfield 44, 3), (25, .iload_n 1, 1), (26, .iload_n 2, 1), (27, .iastore, 1), (28, .aload_n 0, 1), (29, .getfield 10, 3), (32, .invokevirtual 47, 3), (35, .iload_n 3, 1), (36, .ireturn, 1)]
def dp_t18 : List dp_I := [(0, .aload_n 0, 1), (1, .getfield 10, 3), (4, .getfield 50, 3), (7, .bipush 16, 2), (9, .if_icmp .lt 13, 3), (12, .new 54, 3), (15, .dup, 1), (16, .ldc 56, 2), (18, .invokespecial 58, 3), (21, .athrow, 1), (22, .aload_n 0, 1), (23, .getfield 10, 3), (26, .dup, 1), (27, .getfield 50, 3), (30, .iconst 1, 1), (31, .iadd, 1), (32, .putfield 50, 3), (35, .aload_n 0, 1), (36, .getfield 10, 3), (39, .getfield 50, 3), (42, .iconst 1, 1), (43, .isub, 1), (44, .ireturn, 1)]
def dp_t19 : List dp_I := [(0, .aload_n 0, 1), (1, .iload_n 1, 1), (2, .invokevirtual 61, 3), (5, .iload_n 2, 1), (6, .invokestatic 37, 3), (9, .aload_n 0, 1), (10, .getfield 10, 3), (13, .getfield 64, 3), (16, .iload_n 1, 1), (17, .iaload, 1), (18, .istore_n 3, 1), (19, .iload_n 3, 1), (20, .bipush 12, 2), (22, .if_icmp .lt 13, 3), (25, .new 54, 3), (28, .dup, 1), (29, .ldc 67, 2), (31, .invokespecial 58, 3), (34, .athrow, 1), (35, .aload_n 0, 1), (36, .getfield 10, 3), (39, .getfield 69, 3), (42, .iload_n 1, 1), (43, .aaload, 1), (44, .iload_n 3, 1), (45, .iload_n 2, 1), (46, .iastore, 1), (47, .aload_n 0, 1), (48, .getfield 10, 3), (51, .getfield 64, 3), (54, .iload_n 1, 1), (55, .iload_n 3, 1), (56, .iconst 1, 1), (57, .iadd, 1), (58, .iastore, 1), (59, .aload_n 0, 1), (60, .getfield 10, 3), (63, .invokevirtual 47, 3), (66, .iload_n 3, 1), (67, .iconst 1, 1), (68, .iadd, 1), (69, .ireturn, 1)]
def dp_t20 : List dp_I := [(0, .aload_n 0, 1), (1, .iload_n 1, 1), (2, .invokevirtual 61, 3), (5, .iload_n 2, 1), (6, .aload_n 0, 1), (7, .getfield 10, 3), (10, .getfield 64, 3), (13, .iload_n 1, 1), (14, .iaload, 1), (15, .invokestatic 73, 3), (18, .aload_n 0, 1), (19, .getfield 10, 3), (22, .getfield 69, 3), (25, .iload_n 1, 1), (26, .aaload, 1), (27, .iload_n 2, 1), (28, .iaload, 1), (29, .istore_n 3, 1), (30, .aload_n 0, 1), (31, .getfield 10, 3), (34, .getfield 64, 3), (37, .iload_n 1, 1), (38, .aload_n 0, 1), (39, .getfield 10, 3), (42, .getfield 69, 3), (45, .iload_n 1, 1), (46, .aaload, 1), (47, .aload_n 0, 1), (48, .getfield 10, 3), (51, .getfield 64, 3), (54, .iload_n 1, 1), (55, .iaload, 1), (56, .iload_n 2, 1), (57, .invokestatic 77, 3), (60, .iastore, 1), (61, .aload_n 0, 1), (62, .getfield 10, 3), (65, .invokevirtual 47, 3), (68, .iload_n 3, 1), (69, .ireturn, 1)]
def dp_t21 : List dp_I := [(0, .iload_n 1, 1), (1, .ifCond .lt 10, 3), (4, .iload_n 1, 1), (5, .sipush 999, 3), (8, .if_icmp .le 13, 3), (11, .new 81, 3), (14, .dup, 1), (15, .ldc 83, 2), (17, .invokespecial 85, 3), (20, .athrow, 1), (21, .aload_n 0, 1), (22, .getfield 19, 3), (25, .getfield 86, 3), (28, .istore_n 2, 1), (29, .iload_n 2, 1), (30, .bipush 6, 2), (32, .if_icmp .lt 13, 3), (35, .new 54, 3), (38, .dup, 1), (39, .ldc 89, 2), (41, .invokespecial 58, 3), (44, .athrow, 1), (45, .aload_n 0, 1), (46, .getfield 26, 3), (49, .getfield 91, 3), (52, .iload_n 2, 1), (53, .iload_n 1, 1), (54, .iastore, 1), (55, .aload_n 0, 1), (56, .getfield 19, 3), (59, .iload_n 2, 1), (60, .iconst 1, 1), (61, .iadd, 1), (62, .putfield 86, 3), (65, .iload_n 2, 1), (66, .ireturn, 1)]
def dp_t22 : List dp_I := [(0, .aload_n 0, 1), (1, .iload_n 1, 1), (2, .invokevirtual 94, 3), (5, .iload_n 2, 1), (6, .invokestatic 41, 3), (9, .aload_n 0, 1), (10, .getfield 19, 3), (13, .getfield 97, 3), (16, .iload_n 1, 1), (17, .iaload, 1), (18, .istore_n 3, 1), (19, .iload_n 3, 1), (20, .iconst 5, 1), (21, .if_icmp .lt 13, 3), (24, .new 54, 3), (27, .dup, 1), (28, .ldc 100, 2), (30, .invokespecial 58, 3), (33, .athrow, 1), (34, .aload_n 0, 1), (35, .getfield 19, 3), (38, .iload_n 1, 1), (39, .iload_n 2, 1), (40, .invokevirtual 102, 3), (43, .iconst (-1), 1), (44, .if_icmp .eq 13, 3), (47, .new 54, 3), (50, .dup, 1), (51, .ldc 106, 2), (53, .invokespecial 58, 3), (56, .athrow, 1), (57, .aload_n 0, 1), (58, .getfield 19, 3), (61, .getfield 108, 3), (64, .iload_n 1, 1), (65, .aaload, 1), (66, .iload_n 3, 1), (67, .iload_n 2, 1), (68, .iastore, 1), (69, .aload_n 0, 1), (70, .getfield 19, 3), (73, .getfield 97, 3), (76, .iload_n 1, 1), (77, .iload_n 3, 1), (78, .iconst 1, 1), (79, .iadd, 1), (80, .iastore, 1), (81, .iload_n 3, 1), (82, .iconst 1, 1), (83, .iadd, 1), (84, .ireturn, 1)]
def dp_t23 : List dp_I := [(0, .aload_n 0, 1), (1, .iload_n 1, 1), (2, .invokevirtual 94, 3), (5, .iload_n 2, 1), (6, .invokestatic 41, 3), (9, .aload_n 0, 1), (10, .getfield 19, 3), (13, .iload_n 1, 1), (14, .iload_n 2, 1), (15, .invokevirtual 102, 3), (18, .istore_n 3, 1), (19, .iload_n 3, 1), (20, .iconst (-1), 1), (21, .if_icmp .ne 13, 3), (24, .new 54, 3), (27, .dup, 1), (28, .ldc 111, 2), (30, .invokespecial 58, 3), (33, .athrow, 1), (34, .aload_n 0, 1), (35, .getfield 19, 3), (38, .getfield 97, 3), (41, .iload_n 1, 1), (42, .aload_n 0, 1), (43, .getfield 19, 3), (46, .getfield 108, 3), (49, .iload_n 1, 1), (50, .aaload, 1), (51, .aload_n 0, 1), (52, .getfield 19, 3), (55, .getfield 97, 3), (58, .iload_n 1, 1), (59, .iaload, 1), (60, .iload_n 3, 1), (61, .invokestatic 77, 3), (64, .iastore, 1), (65, .iload_n 3, 1), (66, .ireturn, 1)]
def dp_t24 : List dp_I := [(0, .aload_n 0, 1), (1, .iload_n 1, 1), (2, .invokevirtual 94, 3), (5, .iload_n 2, 1), (6, .ifCond .lt 10, 3), (9, .iload_n 2, 1), (10, .sipush 999, 3), (13, .if_icmp .le 13, 3), (16, .new 81, 3), (19, .dup, 1), (20, .ldc 113, 2), (22, .invokespecial 85, 3), (25, .athrow, 1), (26, .aload_n 0, 1), (27, .getfield 19, 3), (30, .getfield 115, 3), (33, .iload_n 1, 1), (34, .iaload, 1), (35, .istore_n 3, 1), (36, .aload_n 0, 1), (37, .getfield 19, 3), (40, .getfield 115, 3), (43, .iload_n 1, 1), (44, .iload_n 2, 1), (45, .iastore, 1), (46, .iload_n 3, 1), (47, .ireturn, 1)]
def dp_t25 : List dp_I := [(0, .aload_n 0, 1), (1, .iload_n 1, 1), (2, .invokevirtual 94, 3), (5, .iload_n 2, 1), (6, .iconst 1, 1), (7, .if_icmp .lt 10, 3), (10, .iload_n 2, 1), (11, .sipush 999, 3), (14, .if_icmp .le 13, 3), (17, .new 81, 3), (20, .dup, 1), (21, .ldc 118, 2), (23, .invokespecial 85, 3), (26, .athrow, 1), (27, .aload_n 0, 1), (28, .getfield 26, 3), (31, .getfield 91, 3), (34, .iload_n 1, 1), (35, .aload_n 0, 1), (36, .getfield 26, 3), (39, .getfield 91, 3), (42, .iload_n 1, 1), (43, .iaload, 1), (44, .iload_n 2, 1), (45, .iadd, 1), (46, .sipush 9999, 3), (49, .invokestatic 120, 3), (52, .iastore, 1), (53, .aload_n 0, 1), (54, .getfield 26, 3), (57, .getfield 91, 3), (60, .iload_n 1, 1), (61, .iaload, 1), (62, .ireturn, 1)]
def dp_t26 : List dp_I := [(0, .aload_n 0, 1), (1, .iload_n 1, 1), (2, .invokevirtual 94, 3), (5, .aload_n 0, 1), (6, .aload_n 0, 1), (7, .getfield 26, 3), (10, .iload_n 1, 1), (11, .invokevirtual 125, 3), (14, .ireturn, 1)]
def dp_t27 : List dp_I := [(0, .iload_n 1, 1), (1, .invokestatic 129, 3), (4, .aload_n 0, 1), (5, .getfield 26, 3), (8, .invokevirtual 132, 3), (11, .istore_n 2, 1), (12, .aload_n 0, 1), (13, .aload_n 0, 1), (14, .getfield 26, 3), (17, .iload_n 1, 1), (18, .invokevirtual 136, 3), (21, .aload_n 0, 1), (22, .getfield 26, 3), (25, .invokevirtual 132, 3), (28, .iload_n 2, 1), (29, .isub, 1), (30, .ireturn, 1)]
def dp_t28 : List dp_I := [(0, .aload_n 0, 1), (1, .iload_n 1, 1), (2, .invokevirtual 61, 3), (5, .iload_n 2, 1), (6, .iconst 4, 1), (7, .invokestatic 140, 3), (10, .aload_n 0, 1), (11, .iload_n 1, 1), (12, .iload_n 2, 1), (13, .invokevirtual 143, 3), (16, .ireturn, 1)]
def dp_t29 : List dp_I := [(0, .aload_n 0, 1), (1, .iload_n 1, 1), (2, .invokevirtual 61, 3), (5, .iload_n 2, 1), (6, .aload_n 0, 1), (7, .getfield 10, 3), (10, .getfield 64, 3), (13, .iload_n 1, 1), (14, .iaload, 1), (15, .invokestatic 73, 3), (18, .aload_n 0, 1), (19, .getfield 10, 3), (22, .getfield 69, 3), (25, .iload_n 1, 1), (26, .aaload, 1), (27, .iload_n 2, 1), (28, .iaload, 1), (29, .ireturn, 1)]
def dp_t30 : List dp_I := [(0, .aload_n 0, 1), (1, .iload_n 1, 1), (2, .invokevirtual 94, 3), (5, .iload_n 2, 1), (6, .bipush 6, 2), (8, .invokestatic 140, 3), (11, .aload_n 0, 1), (12, .iload_n 1, 1), (13, .iload_n 2, 1), (14, .invokevirtual 146, 3), (17, .ireturn, 1)]
def dp_t31 : List dp_I := [(0, .aload_n 0, 1), (1, .iload_n 1, 1), (2, .invokevirtual 94, 3), (5, .iload_n 2, 1), (6, .aload_n 0, 1), (7, .getfield 19, 3), (10, .getfield 97, 3), (13, .iload_n 1, 1), (14, .iaload, 1), (15, .invokestatic 73, 3), (18, .aload_n 0, 1), (19, .getfield 19, 3), (22, .getfield 108, 3), (25, .iload_n 1, 1), (26, .aaload, 1), (27, .iload_n 2, 1), (28, .iaload, 1), (29, .ireturn, 1)]
def dp_t32 : List dp_I := [(0, .iload_n 1, 1), (1, .bipush 7, 2), (3, .invokestatic 140, 3), (6, .aload_n 0, 1), (7, .iload_n 1, 1), (8, .invokevirtual 149, 3), (11, .ireturn, 1)]
def dp_t33 : List dp_I := [(0, .iload_n 1, 1), (1, .invokestatic 41, 3), (4, .aload_n 0, 1), (5, .getfield 10, 3), (8, .iload_n 1, 1), (9, .invokevirtual 153, 3), (12, .ireturn, 1)]
def dp_t34 : List dp_I := [(0, .aload_n 0, 1), (1, .iload_n 1, 1), (2, .invokevirtual 94, 3), (5, .aload_n 0, 1), (6, .iload_n 2, 1), (7, .invokevirtual 61, 3), (10, .aload_n 0, 1), (11, .aload_n 0, 1), (12, .getfield 26, 3), (15, .iload_n 1, 1), (16, .iload_n 2, 1), (17, .invokevirtual 156, 3), (20, .ireturn, 1)]
def dp_t35 : List dp_I := [(0, .aload_n 0, 1), (1, .iload_n 1, 1), (2, .invokevirtual 94, 3), (5, .iload_n 2, 1), (6, .aload_n 0, 1), (7, .iload_n 1, 1), (8, .invokevirtual 160, 3), (11, .invokestatic 73, 3), (14, .aload_n 0, 1), (15, .iload_n 1, 1), (16, .iload_n 2, 1), (17, .invokevirtual 163, 3), (20, .ireturn, 1)]
def dp_t36 : List dp_I := [(0, .aload_n 0, 1), (1, .getfield 30, 3), (4, .aload_n 0, 1), (5, .getfield 26, 3), (8, .invokevirtual 172, 3), (11, .iconst 0, 1), (12, .istore_n 1, 1), (13, .iload_n 1, 1), (14, .bipush 40, 2), (16, .if_icmp .ge 31, 3), (19, .aload_n 0, 1), (20, .aload_n 0, 1), (21, .getfield 30, 3), (24, .invokevirtual 176, 3), (27, .ifCond .eq 5, 3), (30, .iload_n 1, 1), (31, .ireturn, 1), (32, .aload_n 0, 1), (33, .aload_n 0, 1), (34, .getfield 30, 3), (37, .iconst 1, 1), (38, .invokevirtual 136, 3), (41, .iinc 1 1, 3), (44, .goto (-31), 3), (47, .aload_n 0, 1), (48, .aload_n 0, 1), (49, .getfield 30, 3), (52, .invokevirtual 176, 3), (55, .ifCond .eq 8, 3), (58, .bipush 40, 2), (60, .goto 4, 3), (63, .iconst (-1), 1), (64, .ireturn, 1)]
def dp_t37 : List dp_I := [(0, .aload_n 0, 1), (1, .getfield 26, 3), (4, .invokevirtual 132, 3), (7, .istore_n 1, 1), (8, .iload_n 1, 1), (9, .ifCond .gt 5, 3), (12, .dconst 0, 1), (13, .dreturn, 1), (14, .aload_n 0, 1), (15, .getfield 26, 3), (18, .invokevirtual 180, 3), (21, .i2d, 1), (22, .iload_n 1, 1), (23, .i2d, 1), (24, .ddiv, 1), (25, .dreturn, 1)]
def dp_t38 : List dp_I := [(0, .iload_n 0, 1), (1, .ifCond .lt 9, 3), (4, .iload_n 0, 1), (5, .bipush 40, 2), (7, .if_icmp .lt 13, 3), (10, .new 197, 3), (13, .dup, 1), (14, .ldc 199, 2), (16, .invokespecial 201, 3), (19, .athrow, 1), (20, .return_, 1)]
def dp_t39 : List dp_I := [(0, .iload_n 0, 1), (1, .ifCond .lt 9, 3), (4, .iload_n 0, 1), (5, .bipush 20, 2), (7, .if_icmp .lt 13, 3), (10, .new 197, 3), (13, .dup, 1), (14, .ldc 202, 2), (16, .invokespecial 201, 3), (19, .athrow, 1), (20, .return_, 1)]
def dp_t40 : List dp_I := [(0, .iload_n 1, 1), (1, .ifCond .lt 14, 3), (4, .iload_n 1, 1), (5, .aload_n 0, 1), (6, .getfield 10, 3), (9, .getfield 50, 3), (12, .if_icmp .lt 13, 3), (15, .new 197, 3), (18, .dup, 1), (19, .ldc 204, 2), (21, .invokespecial 201, 3), (24, .athrow, 1), (25, .return_, 1)]
def dp_t41 : List dp_I := [(0, .iload_n 1, 1), (1, .ifCond .lt 14, 3), (4, .iload_n 1, 1), (5, .aload_n 0, 1), (6, .getfield 19, 3), (9, .getfield 86, 3), (12, .if_icmp .lt 13, 3), (15, .new 197, 3), (18, .dup, 1), (19, .ldc 206, 2), (21, .invokespecial 201, 3), (24, .athrow, 1), (25, .return_, 1)]
def dp_t42 : List dp_I := [(0, .iload_n 0, 1), (1, .ifCond .lt 8, 3), (4, .iload_n 0, 1), (5, .iload_n 1, 1), (6, .if_icmp .lt 13, 3), (9, .new 197, 3), (12, .dup, 1), (13, .ldc 208, 2), (15, .invokespecial 201, 3), (18, .athrow, 1), (19, .return_, 1)]
def dp_t43 : List dp_I := [(0, .iload_n 0, 1), (1, .ifCond .lt 8, 3), (4, .iload_n 0, 1), (5, .iload_n 1, 1), (6, .if_icmp .lt 13, 3), (9, .new 197, 3), (12, .dup, 1), (13, .ldc 210, 2), (15, .invokespecial 201, 3), (18, .athrow, 1), (19, .return_, 1)]
def dp_t44 : List dp_I := [(0, .iload_n 0, 1), (1, .iconst 1, 1), (2, .if_icmp .lt 9, 3), (5, .iload_n 0, 1), (6, .bipush 30, 2), (8, .if_icmp .le 13, 3), (11, .new 81, 3), (14, .dup, 1), (15, .ldc 212, 2), (17, .invokespecial 85, 3), (20, .athrow, 1), (21, .return_, 1)]
def dp_t45 : List dp_I := [(0, .iload_n 2, 1), (1, .tableswitch 56 0 2 #[27, 37, 46], 27), (28, .aload_n 0, 1), (29, .getfield 10, 3), (32, .getfield 64, 3), (35, .iload_n 1, 1), (36, .iaload, 1), (37, .ireturn, 1), (38, .aload_n 0, 1), (39, .getfield 10, 3), (42, .iload_n 1, 1), (43, .invokevirtual 214, 3), (46, .ireturn, 1), (47, .aload_n 0, 1), (48, .getfield 26, 3), (51, .getfield 217, 3), (54, .iload_n 1, 1), (55, .iaload, 1), (56, .ireturn, 1), (57, .aload_n 0, 1), (58, .getfield 26, 3), (61, .iload_n 1, 1), (62, .invokevirtual 220, 3), (65, .ireturn, 1)]
def dp_t46 : List dp_I := [(0, .iload_n 2, 1), (1, .tableswitch 88 0 4 #[35, 45, 55, 65, 78], 35), (36, .aload_n 0, 1), (37, .getfield 26, 3), (40, .getfield 91, 3), (43, .iload_n 1, 1), (44, .iaload, 1), (45, .ireturn, 1), (46, .aload_n 0, 1), (47, .getfield 19, 3), (50, .getfield 97, 3), (53, .iload_n 1, 1), (54, .iaload, 1), (55, .ireturn, 1), (56, .aload_n 0, 1), (57, .getfield 19, 3), (60, .getfield 115, 3), (63, .iload_n 1, 1), (64, .iaload, 1), (65, .ireturn, 1), (66, .aload_n 0, 1), (67, .getfield 26, 3), (70, .getfield 223, 3), (73, .iload_n 1, 1), (74, .iaload, 1), (75, .invokestatic 226, 3), (78, .ireturn, 1), (79, .aload_n 0, 1), (80, .getfield 26, 3), (83, .getfield 231, 3), (86, .iload_n 1, 1), (87, .iaload, 1), (88, .ireturn, 1), (89, .aload_n 0, 1), (90, .iload_n 1, 1), (91, .invokevirtual 160, 3), (94, .ireturn, 1)]
def dp_t47 : List dp_I := [(0, .iload_n 1, 1), (1, .tableswitch 87 0 5 #[39, 47, 55, 63, 71, 79], 39), (40, .aload_n 0, 1), (41, .getfield 10, 3), (44, .getfield 50, 3), (47, .ireturn, 1), (48, .aload_n 0, 1), (49, .getfield 19, 3), (52, .getfield 86, 3), (55, .ireturn, 1), (56, .aload_n 0, 1), (57, .getfield 10, 3), (60, .invokevirtual 234, 3), (63, .ireturn, 1), (64, .aload_n 0, 1), (65, .getfield 10, 3), (68, .invokevirtual 237, 3), (71, .ireturn, 1), (72, .aload_n 0, 1), (73, .getfield 26, 3), (76, .getfield 240, 3), (79, .ireturn, 1), (80, .aload_n 0, 1), (81, .getfield 26, 3), (84, .invokevirtual 132, 3), (87, .ireturn, 1), (88, .aload_n 0, 1), (89, .getfield 26, 3), (92, .invokevirtual 180, 3), (95, .ireturn, 1)]
def dp_t48 : List dp_I := [(0, .aload_n 0, 1), (1, .getfield 10, 3), (4, .iload_n 3, 1), (5, .aload_n 0, 1), (6, .getfield 19, 3), (9, .getfield 108, 3), (12, .iload_n 2, 1), (13, .aaload, 1), (14, .aload_n 0, 1), (15, .getfield 19, 3), (18, .getfield 97, 3), (21, .iload_n 2, 1), (22, .iaload, 1), (23, .aload_n 1, 1), (24, .getfield 217, 3), (27, .iload_n 3, 1), (28, .iaload, 1), (29, .invokevirtual 243, 3), (32, .ireturn, 1)]
def dp_t49 : List dp_I := [(0, .iload 4, 2), (2, .aload_n 0, 1), (3, .getfield 19, 3), (6, .getfield 115, 3), (9, .iload_n 2, 1), (10, .iaload, 1), (11, .if_icmp .lt 16, 3), (14, .aload_n 1, 1), (15, .iload_n 2, 1), (16, .iload_n 3, 1), (17, .invokevirtual 247, 3), (20, .ifCond .ne 7, 3), (23, .iconst 1, 1), (24, .goto 4, 3), (27, .iconst 0, 1), (28, .ireturn, 1)]
def dp_t50 : List dp_I := [(0, .iconst 0, 1), (1, .istore_n 2, 1), (2, .iconst 0, 1), (3, .istore_n 3, 1), (4, .iload_n 3, 1), (5, .aload_n 0, 1), (6, .getfield 10, 3), (9, .getfield 50, 3), (12, .if_icmp .ge 39, 3), (15, .aload_n 0, 1), (16, .aload_n 0, 1), (17, .getfield 26, 3), (20, .iload_n 1, 1), (21, .iload_n 3, 1), (22, .invokevirtual 156, 3), (25, .istore 4, 2), (27, .aload_n 0, 1), (28, .aload_n 0, 1), (29, .getfield 26, 3), (32, .iload_n 1, 1), (33, .iload_n 3, 1), (34, .iload 4, 2), (36, .invokevirtual 251, 3), (39, .ifCond .eq 6, 3), (42, .iinc 2 1, 3), (45, .iinc 3 1, 3), (48, .goto (-44), 3), (51, .iload_n 2, 1), (52, .ireturn, 1)]
def dp_t51 : List dp_I := [(0, .iconst (-1), 1), (1, .istore_n 3, 1), (2, .iconst (-1), 1), (3, .istore 4, 2), (5, .iconst 0, 1), (6, .istore 5, 2), (8, .iload 5, 2), (10, .aload_n 0, 1), (11, .getfield 10, 3), (14, .getfield 50, 3), (17, .if_icmp .ge 46, 3), (20, .aload_n 0, 1), (21, .aload_n 1, 1), (22, .iload_n 2, 1), (23, .iload 5, 2), (25, .invokevirtual 156, 3), (28, .istore 6, 2), (30, .iload 6, 2), (32, .iload 4, 2), (34, .if_icmp .le 23, 3), (37, .aload_n 0, 1), (38, .aload_n 1, 1), (39, .iload_n 2, 1), (40, .iload 5, 2), (42, .iload 6, 2), (44, .invokevirtual 251, 3), (47, .ifCond .eq 10, 3), (50, .iload 6, 2), (52, .istore 4, 2), (54, .iload 5, 2), (56, .istore_n 3, 1), (57, .iinc 5 1, 3), (60, .goto (-52), 3), (63, .iload_n 3, 1), (64, .ireturn, 1)]
def dp_t52 : List dp_I := [(0, .iconst 0, 1), (1, .istore_n 3, 1), (2, .iload_n 3, 1), (3, .aload_n 0, 1), (4, .getfield 10, 3), (7, .getfield 50, 3), (10, .if_icmp .ge 50, 3), (13, .aload_n 0, 1), (14, .aload_n 0, 1), (15, .getfield 26, 3), (18, .iload_n 1, 1), (19, .iload_n 3, 1), (20, .invokevirtual 156, 3), (23, .istore 4, 2), (25, .aload_n 0, 1), (26, .aload_n 0, 1), (27, .getfield 26, 3), (30, .iload_n 1, 1), (31, .iload_n 3, 1), (32, .iload 4, 2), (34, .invokevirtual 251, 3), (37, .ifCond .eq 17, 3), (40, .aload_n 0, 1), (41, .iload_n 1, 1), (42, .iload_n 3, 1), (43, .iload 4, 2), (45, .invokevirtual 255, 3), (48, .iload_n 2, 1), (49, .if_icmp .ne 5, 3), (52, .iload_n 3, 1), (53, .ireturn, 1), (54, .iinc 3 1, 3), (57, .goto (-55), 3), (60, .iconst (-1), 1), (61, .ireturn, 1)]
def dp_t53 : List dp_I := [(0, .iconst 0, 1), (1, .istore 4, 2), (3, .iconst 0, 1), (4, .istore 5, 2), (6, .iload 5, 2), (8, .aload_n 0, 1), (9, .getfield 10, 3), (12, .getfield 50, 3), (15, .if_icmp .ge 71, 3), (18, .aload_n 0, 1), (19, .aload_n 0, 1), (20, .getfield 26, 3), (23, .iload_n 1, 1), (24, .iload 5, 2), (26, .invokevirtual 156, 3), (29, .istore 6, 2), (31, .iload 6, 2), (33, .iload_n 3, 1), (34, .if_icmp .gt 15, 3), (37, .iload 6, 2), (39, .iload_n 3, 1), (40, .if_icmp .ne 13, 3), (43, .iload 5, 2), (45, .iload_n 2, 1), (46, .if_icmp .ge 7, 3), (49, .iconst 1, 1), (50, .goto 4, 3), (53, .iconst 0, 1), (54, .istore 7, 2), (56, .iload 7, 2), (58, .ifCond .eq 22, 3), (61, .aload_n 0, 1), (62, .aload_n 0, 1), (63, .getfield 26, 3), (66, .iload_n 1, 1), (67, .iload 5, 2), (69, .iload 6, 2), (71, .invokevirtual 251, 3), (74, .ifCond .eq 6, 3), (77, .iinc 4 1, 3), (80, .iinc 5 1, 3), (83, .goto (-77), 3), (86, .iload 4, 2), (88, .ireturn, 1)]
def dp_t54 : List dp_I := [(0, .iconst 2, 1), (1, .aload_n 0, 1), (2, .aload_n 1, 1), (3, .iload_n 2, 1), (4, .iload_n 3, 1), (5, .invokevirtual 156, 3), (8, .bipush 20, 2), (10, .idiv, 1), (11, .iadd, 1), (12, .ireturn, 1)]
def dp_t55 : List dp_I := [(0, .aload_n 0, 1), (1, .aload_n 1, 1), (2, .iload_n 2, 1), (3, .invokevirtual 268, 3), (6, .istore_n 3, 1), (7, .iload_n 3, 1), (8, .iconst (-1), 1), (9, .if_icmp .ne 5, 3), (12, .iconst (-1), 1), (13, .ireturn, 1), (14, .aload_n 0, 1), (15, .aload_n 1, 1), (16, .iload_n 2, 1), (17, .iload_n 3, 1), (18, .invokevirtual 271, 3), (21, .istore 4, 2), (23, .aload_n 1, 1), (24, .getfield 91, 3), (27, .iload_n 2, 1), (28, .iaload, 1), (29, .iload 4, 2), (31, .if_icmp .ge 5, 3), (34, .iconst (-1), 1), (35, .ireturn, 1), (36, .aload_n 1, 1), (37, .iload_n 2, 1), (38, .iload_n 3, 1), (39, .iload 4, 2), (41, .invokevirtual 274, 3), (44, .iload_n 3, 1), (45, .ireturn, 1)]
def dp_t56 : List dp_I := [(0, .iconst 0, 1), (1, .istore_n 3, 1), (2, .iload_n 3, 1), (3, .iload_n 2, 1), (4, .if_icmp .ge 57, 3), (7, .iconst 0, 1), (8, .istore 4, 2), (10, .iload 4, 2), (12, .aload_n 0, 1), (13, .getfield 19, 3), (16, .getfield 86, 3), (19, .if_icmp .ge 25, 3), (22, .aload_n 0, 1), (23, .aload_n 1, 1), (24, .iload 4, 2), (26, .invokevirtual 125, 3), (29, .pop, 1), (30, .aload_n 0, 1), (31, .aload_n 1, 1), (32, .iload 4, 2), (34, .invokevirtual 125, 3), (37, .pop, 1), (38, .iinc 4 1, 3), (41, .goto (-31), 3), (44, .aload_n 1, 1), (45, .aload_n 0, 1), (46, .getfield 10, 3), (49, .getfield 50, 3), (52, .invokevirtual 278, 3), (55, .iinc 3 1, 3), (58, .goto (-56), 3), (61, .return_, 1)]
def dp_t57 : List dp_I := [(0, .iconst 0, 1), (1, .istore_n 2, 1), (2, .iload_n 2, 1), (3, .aload_n 0, 1), (4, .getfield 19, 3), (7, .getfield 86, 3), (10, .if_icmp .ge 39, 3), (13, .aload_n 0, 1), (14, .aload_n 1, 1), (15, .iload_n 2, 1), (16, .invokevirtual 268, 3), (19, .istore_n 3, 1), (20, .iload_n 3, 1), (21, .iconst (-1), 1), (22, .if_icmp .eq 21, 3), (25, .aload_n 0, 1), (26, .aload_n 1, 1), (27, .iload_n 2, 1), (28, .iload_n 3, 1), (29, .invokevirtual 271, 3), (32, .aload_n 1, 1), (33, .getfield 91, 3), (36, .iload_n 2, 1), (37, .iaload, 1), (38, .if_icmp .le 5, 3), (41, .iconst 1, 1), (42, .ireturn, 1), (43, .iinc 2 1, 3), (46, .goto (-44), 3), (49, .iconst 0, 1), (50, .ireturn, 1)]
def dp_t58 : List dp_I := [(0, .iload_n 2, 1), (1, .istore_n 3, 1), (2, .iload_n 3, 1), (3, .iconst 1, 1), (4, .iadd, 1), (5, .iload_n 1, 1), (6, .if_icmp .ge 17, 3), (9, .aload_n 0, 1), (10, .iload_n 3, 1), (11, .aload_n 0, 1), (12, .iload_n 3, 1), (13, .iconst 1, 1), (14, .iadd, 1), (15, .iaload, 1), (16, .iastore, 1), (17, .iinc 3 1, 3), (20, .goto (-18), 3), (23, .iload_n 1, 1), (24, .iconst 1, 1), (25, .isub, 1), (26, .ireturn, 1)]
def dp_t59 : List dp_I := [(0, .aload_n 0, 1), (1, .invokespecial 1, 3), (4, .aload_n 0, 1), (5, .bipush 20, 2), (7, .putfield 7, 3), (10, .aload_n 0, 1), (11, .iconst 0, 1), (12, .newarray .int, 2), (14, .putfield 13, 3), (17, .aload_n 0, 1), (18, .bipush 16, 2), (20, .newarray .boolean, 2), (22, .putfield 17, 3), (25, .return_, 1)]
def dp_t60 : List dp_I := [(0, .aload_n 0, 1), (1, .invokespecial 1, 3), (4, .aload_n 0, 1), (5, .bipush 40, 2), (7, .newarray .int, 2), (9, .putfield 7, 3), (12, .aload_n 0, 1), (13, .iconst 0, 1), (14, .anewarray 13, 3), (17, .putfield 14, 3), (20, .aload_n 0, 1), (21, .bipush 16, 2), (23, .newarray .int, 2), (25, .putfield 18, 3), (28, .aload_n 0, 1), (29, .iconst 0, 1), (30, .anewarray 21, 3), (33, .putfield 23, 3), (36, .iconst 0, 1), (37, .istore_n 1, 1), (38, .iload_n 1, 1), (39, .bipush 40, 2), (41, .if_icmp .ge 18, 3), (44, .aload_n 0, 1), (45, .getfield 7, 3), (48, .iload_n 1, 1), (49, .iload_n 1, 1), (50, .iconst 2, 1), (51, .idiv, 1), (52, .iastore, 1), (53, .iinc 1 1, 3), (56, .goto (-18), 3), (59, .return_, 1)]
def dp_t61 : List dp_I := [(0, .bipush 20, 2), (2, .newarray .int, 2), (4, .astore_n 2, 1), (5, .aload_n 0, 1), (6, .getfield 14, 3), (9, .iload_n 1, 1), (10, .aaload, 1), (11, .astore_n 3, 1), (12, .aload_n 3, 1), (13, .arraylength, 1), (14, .istore 4, 2), (16, .iconst 0, 1), (17, .istore 5, 2), (19, .iload 5, 2), (21, .iload 4, 2), (23, .if_icmp .ge 28, 3), (26, .aload_n 3, 1), (27, .iload 5, 2), (29, .iaload, 1), (30, .istore 6, 2), (32, .aload_n 2, 1), (33, .aload_n 0, 1), (34, .getfield 7, 3), (37, .iload 6, 2), (39, .iaload, 1), (40, .dup2, 1), (41, .iaload, 1), (42, .iconst 1, 1), (43, .iadd, 1), (44, .iastore, 1), (45, .iinc 5 1, 3), (48, .goto (-29), 3), (51, .aload_n 2, 1), (52, .areturn, 1)]
def dp_t62 : List dp_I := [(0, .bipush 20, 2), (2, .newarray .int, 2), (4, .astore_n 1, 1), (5, .iconst 0, 1), (6, .istore_n 2, 1), (7, .iload_n 2, 1), (8, .aload_n 0, 1), (9, .getfield 14, 3), (12, .arraylength, 1), (13, .if_icmp .ge 50, 3), (16, .aload_n 0, 1), (17, .iload_n 2, 1), (18, .invokevirtual 40, 3), (21, .astore_n 3, 1), (22, .iconst 0, 1), (23, .istore 4, 2), (25, .iload 4, 2), (27, .bipush 20, 2), (29, .if_icmp .ge 28, 3), (32, .aload_n 1, 1), (33, .iload 4, 2), (35, .dup2, 1), (36, .iaload, 1), (37, .aload_n 3, 1), (38, .iload 4, 2), (40, .iaload, 1), (41, .ifCond .le 7, 3), (44, .iconst 1, 1), (45, .goto 4, 3), (48, .iconst 0, 1), (49, .iadd, 1), (50, .iastore, 1), (51, .iinc 4 1, 3), (54, .goto (-29), 3), (57, .iinc 2 1, 3), (60, .goto (-53), 3), (63, .iconst 0, 1), (64, .istore_n 2, 1), (65, .iload_n 2, 1), (66, .bipush 20, 2), (68, .if_icmp .ge 29, 3), (71, .aload_n 1, 1), (72, .iload_n 2, 1), (73, .bipush 10, 2), (75, .aload_n 0, 1), (76, .getfield 14, 3), (79, .arraylength, 1), (80, .imul, 1), (81, .bipush 10, 2), (83, .iadd, 1), (84, .aload_n 1, 1), (85, .iload_n 2, 1), (86, .iaload, 1), (87, .iconst 1, 1), (88, .iadd, 1), (89, .idiv, 1), (90, .iastore, 1), (91, .iinc 2 1, 3), (94, .goto (-29), 3), (97, .aload_n 1, 1), (98, .areturn, 1)]
def dp_t63 : List dp_I := [(0, .iconst 0, 1), (1, .istore 5, 2), (3, .aload_n 1, 1), (4, .getfield 44, 3), (7, .arraylength, 1), (8, .iconst 1, 1), (9, .if_icmp .le 7, 3), (12, .iconst 1, 1), (13, .goto 4, 3), (16, .iconst 0, 1), (17, .istore 6, 2), (19, .aload_n 1, 1), (20, .getfield 44, 3), (23, .astore 7, 2), (25, .aload 7, 2), (27, .arraylength, 1), (28, .istore 8, 2), (30, .iconst 0, 1), (31, .istore 9, 2), (33, .iload 9, 2), (35, .iload 8, 2), (37, .if_icmp .ge 61, 3), (40, .aload 7, 2), (42, .iload 9, 2), (44, .iaload, 1), (45, .istore 10, 2), (47, .iload 6, 2), (49, .ifCond .eq 14, 3), (52, .aload_n 2, 1), (53, .iload 10, 2), (55, .iaload, 1), (56, .ifCond .le 7, 3), (59, .iconst 1, 1), (60, .goto 4, 3), (63, .iconst 0, 1), (64, .istore 6, 2), (66, .iload 5, 2), (68, .aload_n 3, 1), (69, .iload 10, 2), (71, .iaload, 1), (72, .aload_n 2, 1), (73, .iload 10, 2), (75, .iaload, 1), (76, .iconst 3, 1), (77, .if_icmp .le 7, 3), (80, .iconst 3, 1), (81, .goto 7, 3), (84, .aload_n 2, 1), (85, .iload 10, 2), (87, .iaload, 1), (88, .imul, 1), (89, .iadd, 1), (90, .istore 5, 2), (92, .iinc 9 1, 3), (95, .goto (-62), 3), (98, .iload 6, 2), (100, .ifCond .eq 13, 3), (103, .iload 5, 2), (105, .iload 5, 2), (107, .iconst 2, 1), (108, .idiv, 1), (109, .iadd, 1), (110, .goto 5, 3), (113, .iload 5, 2), (115, .iconst 3, 1), (116, .iload 4, 2), (118, .imul, 1), (119, .isub, 1), (120, .istore 5, 2), (122, .iload 5, 2), (124, .ifCond .ge 7, 3), (127, .iconst 0, 1), (128, .goto 5, 3), (131, .iload 5, 2), (133, .ireturn, 1)]
def dp_t64 : List dp_I := [(0, .aload_n 0, 1), (1, .invokevirtual 47, 3), (4, .astore_n 2, 1), (5, .aload_n 0, 1), (6, .getfield 14, 3), (9, .arraylength, 1), (10, .newarray .int, 2), (12, .astore_n 3, 1), (13, .iconst 0, 1), (14, .istore 4, 2), (16, .iload 4, 2), (18, .aload_n 3, 1), (19, .arraylength, 1), (20, .if_icmp .ge 59, 3), (23, .aload_n 0, 1), (24, .aload_n 1, 1), (25, .aload_n 0, 1), (26, .iload 4, 2), (28, .invokevirtual 40, 3), (31, .aload_n 2, 1), (32, .aload_n 0, 1), (33, .getfield 18, 3), (36, .iload 4, 2), (38, .iaload, 1), (39, .invokevirtual 51, 3), (42, .istore 5, 2), (44, .aload_n 3, 1), (45, .iload 4, 2), (47, .aload_n 1, 1), (48, .getfield 55, 3), (51, .iload 4, 2), (53, .baload, 1), (54, .ifCond .ne 12, 3), (57, .iload 5, 2), (59, .aload_n 1, 1), (60, .getfield 59, 3), (63, .if_icmp .ge 7, 3), (66, .iconst (-1), 1), (67, .goto 5, 3), (70, .iload 5, 2), (72, .iastore, 1), (73, .iinc 4 1, 3), (76, .goto (-60), 3), (79, .aload_n 3, 1), (80, .areturn, 1)]
def dp_t65 : List dp_I := [(0, .iconst (-1), 1), (1, .istore_n 1, 1), (2, .aload_n 0, 1), (3, .arraylength, 1), (4, .iconst 1, 1), (5, .isub, 1), (6, .istore_n 2, 1), (7, .iload_n 2, 1), (8, .ifCond .lt 30, 3), (11, .aload_n 0, 1), (12, .iload_n 2, 1), (13, .iaload, 1), (14, .ifCond .lt 18, 3), (17, .iload_n 1, 1), (18, .ifCond .lt 12, 3), (21, .aload_n 0, 1), (22, .iload_n 2, 1), (23, .iaload, 1), (24, .aload_n 0, 1), (25, .iload_n 1, 1), (26, .iaload, 1), (27, .if_icmp .lt 5, 3), (30, .iload_n 2, 1), (31, .istore_n 1, 1), (32, .iinc 2 (-1), 3), (35, .goto (-28), 3), (38, .iload_n 1, 1), (39, .ireturn, 1)]
def dp_t66 : List dp_I := [(0, .aload_n 0, 1), (1, .aload_n 1, 1), (2, .invokevirtual 62, 3), (5, .astore_n 2, 1), (6, .aload_n 2, 1), (7, .invokestatic 66, 3), (10, .istore_n 3, 1), (11, .iload_n 3, 1), (12, .ifCond .ge 5, 3), (15, .iconst (-1), 1), (16, .ireturn, 1), (17, .aload_n 2, 1), (18, .iload_n 3, 1), (19, .iaload, 1), (20, .bipush 20, 2), (22, .idiv, 1), (23, .iconst 2, 1), (24, .iadd, 1), (25, .istore 4, 2), (27, .aload_n 1, 1), (28, .getfield 70, 3), (31, .iload 4, 2), (33, .if_icmp .ge 5, 3), (36, .iconst (-1), 1), (37, .ireturn, 1), (38, .aload_n 1, 1), (39, .dup, 1), (40, .getfield 70, 3), (43, .iload 4, 2), (45, .isub, 1), (46, .putfield 70, 3), (49, .aload_n 1, 1), (50, .dup, 1), (51, .getfield 73, 3), (54, .iload 4, 2), (56, .iadd, 1), (57, .putfield 73, 3), (60, .aload_n 1, 1), (61, .getfield 55, 3), (64, .iload_n 3, 1), (65, .iconst 1, 1), (66, .bastore, 1), (67, .iload_n 3, 1), (68, .ireturn, 1)]
def dp_t67 : List dp_I := [(0, .iconst 0, 1), (1, .istore_n 1, 1), (2, .aload_n 0, 1), (3, .getfield 23, 3), (6, .astore_n 2, 1), (7, .aload_n 2, 1), (8, .arraylength, 1), (9, .istore_n 3, 1), (10, .iconst 0, 1), (11, .istore 4, 2), (13, .iload 4, 2), (15, .iload_n 3, 1), (16, .if_icmp .ge 49, 3), (19, .aload_n 2, 1), (20, .iload 4, 2), (22, .aaload, 1), (23, .astore 5, 2), (25, .iload_n 1, 1), (26, .aload_n 0, 1), (27, .aload 5, 2), (29, .invokevirtual 76, 3), (32, .ifCond .ge 7, 3), (35, .iconst 0, 1), (36, .goto 4, 3), (39, .iconst 1, 1), (40, .iadd, 1), (41, .istore_n 1, 1), (42, .iload_n 1, 1), (43, .aload_n 0, 1), (44, .aload 5, 2), (46, .invokevirtual 76, 3), (49, .ifCond .ge 7, 3), (52, .iconst 0, 1), (53, .goto 4, 3), (56, .iconst 1, 1), (57, .iadd, 1), (58, .istore_n 1, 1), (59, .iinc 4 1, 3), (62, .goto (-49), 3), (65, .iconst 0, 1), (66, .istore_n 2, 1), (67, .iload_n 2, 1), (68, .aload_n 0, 1), (69, .getfield 14, 3), (72, .arraylength, 1), (73, .if_icmp .ge 19, 3), (76, .aload_n 0, 1), (77, .getfield 18, 3), (80, .iload_n 2, 1), (81, .dup2, 1), (82, .iaload, 1), (83, .iconst 1, 1), (84, .iadd, 1), (85, .iastore, 1), (86, .iinc 2 1, 3), (89, .goto (-22), 3), (92, .aload_n 0, 1), (93, .dup, 1), (94, .getfield 36, 3), (97, .iconst 1, 1), (98, .iadd, 1), (99, .putfield 36, 3), (102, .iload_n 1, 1), (103, .ireturn, 1)]
def dp_t68 : List dp_I := [(0, .aload_n 0, 1), (1, .invokevirtual 47, 3), (4, .astore_n 2, 1), (5, .bipush 20, 2), (7, .newarray .int, 2), (9, .astore_n 3, 1), (10, .iconst 0, 1), (11, .istore 4, 2), (13, .iconst 0, 1), (14, .istore 5, 2), (16, .iload 5, 2), (18, .bipush 20, 2), (20, .if_icmp .ge 24, 3), (23, .aload_n 1, 1), (24, .iload 5, 2), (26, .invokevirtual 80, 3), (29, .aload_n 2, 1), (30, .iload 5, 2), (32, .iaload, 1), (33, .if_icmp .eq 5, 3), (36, .iconst 0, 1), (37, .ireturn, 1), (38, .iinc 5 1, 3), (41, .goto (-25), 3), (44, .iconst 0, 1), (45, .istore 5, 2), (47, .iload 5, 2), (49, .aload_n 0, 1), (50, .getfield 14, 3), (53, .arraylength, 1), (54, .if_icmp .ge 251, 3), (57, .aload_n 0, 1), (58, .iload 5, 2), (60, .invokevirtual 40, 3), (63, .astore 6, 2), (65, .iconst 0, 1), (66, .istore 7, 2), (68, .iconst 0, 1), (69, .istore 8, 2), (71, .iconst 0, 1), (72, .istore 9, 2), (74, .iload 9, 2), (76, .bipush 20, 2), (78, .if_icmp .ge 39, 3), (81, .iload 7, 2), (83, .aload 6, 2), (85, .iload 9, 2), (87, .iaload, 1), (88, .ifCond .le 7, 3), (91, .iconst 1, 1), (92, .goto 4, 3), (95, .iconst 0, 1), (96, .iadd, 1), (97, .istore 7, 2), (99, .aload_n 3, 1), (100, .iload 9, 2), (102, .dup2, 1), (103, .iaload, 1), (104, .aload 6, 2), (106, .iload 9, 2), (108, .iaload, 1), (109, .iadd, 1), (110, .iastore, 1), (111, .iinc 9 1, 3), (114, .goto (-40), 3), (117, .aload_n 0, 1), (118, .getfield 23, 3), (121, .astore 9, 2), (123, .aload 9, 2), (125, .arraylength, 1), (126, .istore 10, 2), (128, .iconst 0, 1), (129, .istore 11, 2), (131, .iload 11, 2), (133, .iload 10, 2), (135, .if_icmp .ge 37, 3), (138, .aload 9, 2), (140, .iload 11, 2), (142, .aaload, 1), (143, .astore 12, 2), (145, .iload 8, 2), (147, .aload 12, 2), (149, .getfield 55, 3), (152, .iload 5, 2), (154, .baload, 1), (155, .ifCond .eq 7, 3), (158, .iconst 1, 1), (159, .goto 4, 3), (162, .iconst 0, 1), (163, .iadd, 1), (164, .istore 8, 2), (166, .iinc 11 1, 3), (169, .goto (-38), 3), (172, .iconst 4, 1), (173, .newarray .int, 2), (175, .dup, 1), (176, .iconst 0, 1), (177, .aload_n 0, 1), (178, .getfield 14, 3), (181, .iload 5, 2), (183, .aaload, 1), (184, .arraylength, 1), (185, .iastore, 1), (186, .dup, 1), (187, .iconst 1, 1), (188, .iload 7, 2), (190, .iastore, 1), (191, .dup, 1), (192, .iconst 2, 1), (193, .aload_n 0, 1), (194, .getfield 18, 3), (197, .iload 5, 2), (199, .iaload, 1), (200, .iastore, 1), (201, .dup, 1), (202, .iconst 3, 1), (203, .iload 8, 2), (205, .iastore, 1), (206, .astore 9, 2), (208, .iconst 0, 1), (209, .istore 10, 2), (211, .iload 10, 2), (213, .iconst 4, 1), (214, .if_icmp .ge 27, 3), (217, .aload_n 1, 1), (218, .iload 5, 2), (220, .iload 10, 2), (222, .invokevirtual 86, 3), (225, .aload 9, 2), (227, .iload 10, 2), (229, .iaload, 1), (230, .if_icmp .eq 5, 3), (233, .iconst 0, 1), (234, .ireturn, 1), (235, .iinc 10 1, 3), (238, .goto (-27), 3), (241, .iconst 0, 1), (242, .istore 10, 2), (244, .iload 10, 2), (246, .aload_n 0, 1), (247, .getfield 14, 3), (250, .iload 5, 2), (252, .aaload, 1), (253, .arraylength, 1), (254, .if_icmp .ge 32, 3), (257, .aload_n 1, 1), (258, .iload 5, 2), (260, .iload 10, 2), (262, .invokevirtual 90, 3), (265, .aload_n 0, 1), (266, .getfield 14, 3), (269, .iload 5, 2), (271, .aaload, 1), (272, .iload 10, 2), (274, .iaload, 1), (275, .if_icmp .eq 5, 3), (278, .iconst 0, 1), (279, .ireturn, 1), (280, .iinc 10 1, 3), (283, .goto (-39), 3), (286, .iload 4, 2), (288, .aload_n 0, 1), (289, .getfield 14, 3), (292, .iload 5, 2), (294, .aaload, 1), (295, .arraylength, 1), (296, .iadd, 1), (297, .istore 4, 2), (299, .iinc 5 1, 3), (302, .goto (-255), 3), (305, .iconst 0, 1), (306, .istore 5, 2), (308, .iconst 0, 1), (309, .istore 6, 2), (311, .iconst 0, 1), (312, .istore 7, 2), (314, .iload 7, 2), (316, .aload_n 0, 1), (317, .getfield 23, 3), (320, .arraylength, 1), (321, .if_icmp .ge 308, 3), (324, .aload_n 0, 1), (325, .getfield 23, 3), (328, .iload 7, 2), (330, .aaload, 1), (331, .astore 8, 2), (333, .aload_n 0, 1), (334, .aload 8, 2), (336, .invokevirtual 62, 3), (339, .astore 9, 2), (341, .iconst 0, 1), (342, .istore 10, 2), (344, .iconst 0, 1), (345, .istore 11, 2), (347, .iconst 0, 1), (348, .istore 12, 2), (350, .iload 12, 2), (352, .aload_n 0, 1), (353, .getfield 14, 3), (356, .arraylength, 1), (357, .if_icmp .ge 81, 3), (360, .iload 10, 2), (362, .aload 8, 2), (364, .getfield 55, 3), (367, .iload 12, 2), (369, .baload, 1), (370, .ifCond .eq 7, 3), (373, .iconst 1, 1), (374, .goto 4, 3), (377, .iconst 0, 1), (378, .iadd, 1), (379, .istore 10, 2), (381, .iload 11, 2), (383, .aload 9, 2), (385, .iload 12, 2), (387, .iaload, 1), (388, .ifCond .lt 7, 3), (391, .iconst 1, 1), (392, .goto 4, 3), (395, .iconst 0, 1), (396, .iadd, 1), (397, .istore 11, 2), (399, .aload_n 1, 1), (400, .iload 7, 2), (402, .iload 12, 2), (404, .invokevirtual 93, 3), (407, .aload_n 0, 1), (408, .aload 8, 2), (410, .aload_n 0, 1), (411, .iload 12, 2), (413, .invokevirtual 40, 3), (416, .aload_n 2, 1), (417, .aload_n 0, 1), (418, .getfield 18, 3), (421, .iload 12, 2), (423, .iaload, 1), (424, .invokevirtual 51, 3), (427, .if_icmp .eq 5, 3), (430, .iconst 0, 1), (431, .ireturn, 1), (432, .iinc 12 1, 3), (435, .goto (-85), 3), (438, .bipush 6, 2), (440, .newarray .int, 2), (442, .dup, 1), (443, .iconst 0, 1), (444, .aload 8, 2), (446, .getfield 70, 3), (449, .iastore, 1), (450, .dup, 1), (451, .iconst 1, 1), (452, .aload 8, 2), (454, .getfield 44, 3), (457, .arraylength, 1), (458, .iastore, 1), (459, .dup, 1), (460, .iconst 2, 1), (461, .aload 8, 2), (463, .getfield 59, 3), (466, .iastore, 1), (467, .dup, 1), (468, .iconst 3, 1), (469, .iload 10, 2), (471, .iastore, 1), (472, .dup, 1), (473, .iconst 4, 1), (474, .aload 8, 2), (476, .getfield 73, 3), (479, .iastore, 1), (480, .dup, 1), (481, .iconst 5, 1), (482, .iload 11, 2), (484, .iastore, 1), (485, .astore 12, 2), (487, .iconst 0, 1), (488, .istore 13, 2), (490, .iload 13, 2), (492, .bipush 6, 2), (494, .if_icmp .ge 27, 3), (497, .aload_n 1, 1), (498, .iload 7, 2), (500, .iload 13, 2), (502, .invokevirtual 95, 3), (505, .aload 12, 2), (507, .iload 13, 2), (509, .iaload, 1), (510, .if_icmp .eq 5, 3), (513, .iconst 0, 1), (514, .ireturn, 1), (515, .iinc 13 1, 3), (518, .goto (-28), 3), (521, .iconst 0, 1), (522, .istore 13, 2), (524, .iload 13, 2), (526, .aload 8, 2), (528, .getfield 44, 3), (531, .arraylength, 1), (532, .if_icmp .ge 30, 3), (535, .aload_n 1, 1), (536, .iload 7, 2), (538, .iload 13, 2), (540, .invokevirtual 98, 3), (543, .aload 8, 2), (545, .getfield 44, 3), (548, .iload 13, 2), (550, .iaload, 1), (551, .if_icmp .eq 5, 3), (554, .iconst 0, 1), (555, .ireturn, 1), (556, .iinc 13 1, 3), (559, .goto (-35), 3), (562, .iconst 0, 1), (563, .istore 13, 2), (565, .iload 13, 2), (567, .iload 11, 2), (569, .if_icmp .ge 37, 3), (572, .aload 9, 2), (574, .invokestatic 66, 3), (577, .istore 14, 2), (579, .aload_n 1, 1), (580, .iload 7, 2), (582, .iload 13, 2), (584, .invokevirtual 101, 3), (587, .iload 14, 2), (589, .if_icmp .eq 5, 3), (592, .iconst 0, 1), (593, .ireturn, 1), (594, .aload 9, 2), (596, .iload 14, 2), (598, .iconst (-1), 1), (599, .iastore, 1), (600, .iinc 13 1, 3), (603, .goto (-38), 3), (606, .iload 5, 2), (608, .iload 10, 2), (610, .iadd, 1), (611, .istore 5, 2), (613, .iload 6, 2), (615, .aload 8, 2), (617, .getfield 73, 3), (620, .iadd, 1), (621, .istore 6, 2), (623, .iinc 7 1, 3), (626, .goto (-312), 3), (629, .iconst 0, 1), (630, .istore 7, 2), (632, .aload_n 3, 1), (633, .astore 8, 2), (635, .aload 8, 2), (637, .arraylength, 1), (638, .istore 9, 2), (640, .iconst 0, 1), (641, .istore 10, 2), (643, .iload 10, 2), (645, .iload 9, 2), (647, .if_icmp .ge 31, 3), (650, .aload 8, 2), (652, .iload 10, 2), (654, .iaload, 1), (655, .istore 11, 2), (657, .iload 7, 2), (659, .iload 11, 2), (661, .ifCond .le 7, 3), (664, .iconst 1, 1), (665, .goto 4, 3), (668, .iconst 0, 1), (669, .iadd, 1), (670, .istore 7, 2), (672, .iinc 10 1, 3), (675, .goto (-32), 3), (678, .bipush 7, 2), (680, .newarray .int, 2), (682, .dup, 1), (683, .iconst 0, 1), (684, .aload_n 0, 1), (685, .getfield 14, 3), (688, .arraylength, 1), (689, .iastore, 1), (690, .dup, 1), (691, .iconst 1, 1), (692, .aload_n 0, 1), (693, .getfield 23, 3), (696, .arraylength, 1), (697, .iastore, 1), (698, .dup, 1), (699, .iconst 2, 1), (700, .iload 4, 2), (702, .iastore, 1), (703, .dup, 1), (704, .iconst 3, 1), (705, .iload 7, 2), (707, .iastore, 1), (708, .dup, 1), (709, .iconst 4, 1), (710, .aload_n 0, 1), (711, .getfield 36, 3), (714, .iastore, 1), (715, .dup, 1), (716, .iconst 5, 1), (717, .iload 5, 2), (719, .iastore, 1), (720, .dup, 1), (721, .bipush 6, 2), (723, .iload 6, 2), (725, .iastore, 1), (726, .astore 8, 2), (728, .iconst 0, 1), (729, .istore 9, 2), (731, .iload 9, 2), (733, .bipush 7, 2), (735, .if_icmp .ge 25, 3), (738, .aload_n 1, 1), (739, .iload 9, 2), (741, .invokevirtual 104, 3), (744, .aload 8, 2), (746, .iload 9, 2), (748, .iaload, 1), (749, .if_icmp .eq 5, 3), (752, .iconst 0, 1), (753, .ireturn, 1), (754, .iinc 9 1, 3), (757, .goto (-26), 3), (760, .aload_n 1, 1), (761, .invokevirtual 107, 3), (764, .iload 5, 2), (766, .ifCond .ne 7, 3), (769, .dconst 0, 1), (770, .goto 10, 3), (773, .iload 6, 2), (775, .i2d, 1), (776, .iload 5, 2), (778, .i2d, 1), (779, .ddiv, 1), (780, .dcmp .l, 1), (781, .ifCond .ne 7, 3), (784, .iconst 1, 1), (785, .goto 4, 3), (788, .iconst 0, 1), (789, .ireturn, 1)]
def dp_t69 : List dp_I := [(0, .iload_n 0, 1), (1, .iload_n 0, 1), (2, .iconst 1, 1), (3, .iushr, 1), (4, .ldc_w 265, 3), (7, .iand, 1), (8, .isub, 1), (9, .istore_n 0, 1), (10, .iload_n 0, 1), (11, .ldc_w 266, 3), (14, .iand, 1), (15, .iload_n 0, 1), (16, .iconst 2, 1), (17, .iushr, 1), (18, .ldc_w 266, 3), (21, .iand, 1), (22, .iadd, 1), (23, .istore_n 0, 1), (24, .iload_n 0, 1), (25, .iload_n 0, 1), (26, .iconst 4, 1), (27, .iushr, 1), (28, .iadd, 1), (29, .ldc_w 267, 3), (32, .iand, 1), (33, .istore_n 0, 1), (34, .iload_n 0, 1), (35, .iload_n 0, 1), (36, .bipush 8, 2), (38, .iushr, 1), (39, .iadd, 1), (40, .istore_n 0, 1), (41, .iload_n 0, 1), (42, .iload_n 0, 1), (43, .bipush 16, 2), (45, .iushr, 1), (46, .iadd, 1), (47, .istore_n 0, 1), (48, .iload_n 0, 1), (49, .bipush 63, 2), (51, .iand, 1), (52, .ireturn, 1)]
def dp_t70 : List dp_I := [(0, .iconst 0, 1), (1, .istore_n 2, 1), (2, .aload_n 0, 1), (3, .arraylength, 1), (4, .istore_n 3, 1), (5, .iload_n 2, 1), (6, .iload_n 3, 1), (7, .if_icmp .ge 13, 3), (10, .aload_n 0, 1), (11, .iload_n 2, 1), (12, .iload_n 1, 1), (13, .iastore, 1), (14, .iinc 2 1, 3), (17, .goto (-12), 3), (20, .return_, 1)]
def dp_t71 : List dp_I := [(0, .iload_n 0, 1), (1, .ldc 7, 2), (3, .iand, 1), (4, .iload_n 1, 1), (5, .irem, 1), (6, .ireturn, 1)]
def dp_t72 : List dp_I := [(0, .iload_n 1, 1), (1, .aload_n 0, 1), (2, .arraylength, 1), (3, .if_icmp .ge 9, 3), (6, .aload_n 0, 1), (7, .iload_n 1, 1), (8, .iaload, 1), (9, .goto 9, 3), (12, .ldc 8, 2), (14, .iload_n 1, 1), (15, .iconst 3, 1), (16, .iadd, 1), (17, .imul, 1), (18, .ireturn, 1)]
def dp_t73 : List dp_I := [(0, .aload_n 0, 1), (1, .arraylength, 1), (2, .iconst 1, 1), (3, .iadd, 1), (4, .newarray .int, 2), (6, .astore_n 2, 1), (7, .iconst 0, 1), (8, .istore_n 3, 1), (9, .iload_n 3, 1), (10, .aload_n 0, 1), (11, .arraylength, 1), (12, .if_icmp .ge 15, 3), (15, .aload_n 2, 1), (16, .iload_n 3, 1), (17, .aload_n 0, 1), (18, .iload_n 3, 1), (19, .iaload, 1), (20, .iastore, 1), (21, .iinc 3 1, 3), (24, .goto (-15), 3), (27, .aload_n 2, 1), (28, .aload_n 0, 1), (29, .arraylength, 1), (30, .iload_n 1, 1), (31, .iastore, 1), (32, .aload_n 2, 1), (33, .areturn, 1)]
def dp_t74 : List dp_I := [(0, .aload_n 0, 1), (1, .arraylength, 1), (2, .iconst 1, 1), (3, .isub, 1), (4, .newarray .int, 2), (6, .astore_n 2, 1), (7, .iconst 0, 1), (8, .istore_n 3, 1), (9, .iload_n 3, 1), (10, .aload_n 2, 1), (11, .arraylength, 1), (12, .if_icmp .ge 26, 3), (15, .aload_n 2, 1), (16, .iload_n 3, 1), (17, .aload_n 0, 1), (18, .iload_n 3, 1), (19, .iload_n 1, 1), (20, .if_icmp .ge 7, 3), (23, .iload_n 3, 1), (24, .goto 6, 3), (27, .iload_n 3, 1), (28, .iconst 1, 1), (29, .iadd, 1), (30, .iaload, 1), (31, .iastore, 1), (32, .iinc 3 1, 3), (35, .goto (-26), 3), (38, .aload_n 2, 1), (39, .areturn, 1)]
def dp_t75 : List dp_I := [(0, .aload_n 1, 1), (1, .getfield 9, 3), (4, .arraylength, 1), (5, .istore_n 3, 1), (6, .aload_n 1, 1), (7, .getfield 15, 3), (10, .arraylength, 1), (11, .istore 4, 2), (13, .iload_n 3, 1), (14, .ifCond .ne 7, 3), (17, .iconst 0, 1), (18, .goto 8, 3), (21, .iload_n 2, 1), (22, .iload_n 3, 1), (23, .invokestatic 19, 3), (26, .istore 5, 2), (28, .iload 4, 2), (30, .ifCond .ne 7, 3), (33, .iconst 0, 1), (34, .goto 11, 3), (37, .iload_n 2, 1), (38, .iconst 2, 1), (39, .ishr, 1), (40, .iload 4, 2), (42, .invokestatic 19, 3), (45, .istore 6, 2), (47, .iload_n 2, 1), (48, .iconst 3, 1), (49, .ishr, 1), (50, .iload_n 2, 1), (51, .bipush 7, 2), (53, .ishr, 1), (54, .iconst 3, 1), (55, .invokestatic 19, 3), (58, .ifCond .ne 8, 3), (61, .bipush 40, 2), (63, .goto 5, 3), (66, .bipush 12, 2), (68, .invokestatic 19, 3), (71, .istore 7, 2), (73, .iload_n 2, 1), (74, .iconst 4, 1), (75, .ishr, 1), (76, .iload_n 2, 1), (77, .bipush 7, 2), (79, .ishr, 1), (80, .iconst 3, 1), (81, .invokestatic 19, 3), (84, .ifCond .ne 8, 3), (87, .bipush 20, 2), (89, .goto 5, 3), (92, .bipush 7, 2), (94, .invokestatic 19, 3), (97, .istore 8, 2), (99, .iload_n 2, 1), (100, .bipush 9, 2), (102, .ishr, 1), (103, .bipush 24, 2), (105, .invokestatic 19, 3), (108, .tableswitch 813 0 14 #[76, 113, 113, 183, 266, 266, 386, 386, 386, 386, 510, 609, 690, 782, 782], 76), (184, .aload_n 1, 1), (185, .getfield 25, 3), (188, .iload 7, 2), (190, .iaload, 1), (191, .istore 9, 2), (193, .aload_n 1, 1), (194, .getfield 25, 3), (197, .iload 7, 2), (199, .iload 8, 2), (201, .iastore, 1), (202, .aload_n 0, 1), (203, .iload 7, 2), (205, .iload 8, 2), (207, .invokevirtual 29, 3), (210, .iload 9, 2), (212, .if_icmp .ne 7, 3), (215, .iconst 1, 1), (216, .goto 4, 3), (219, .iconst 0, 1), (220, .ireturn, 1), (221, .iload_n 3, 1), (222, .bipush 16, 2), (224, .if_icmp .ne 5, 3), (227, .iconst 1, 1), (228, .ireturn, 1), (229, .iload_n 3, 1), (230, .iconst 1, 1), (231, .iadd, 1), (232, .anewarray 34, 3), (235, .astore 10, 2), (237, .iconst 0, 1), (238, .istore 11, 2), (240, .iload 11, 2), (242, .iload_n 3, 1), (243, .if_icmp .ge 21, 3), (246, .aload 10, 2), (248, .iload 11, 2), (250, .aload_n 1, 1), (251, .getfield 9, 3), (254, .iload 11, 2), (256, .aaload, 1), (257, .aastore, 1), (258, .iinc 11 1, 3), (261, .goto (-21), 3), (264, .aload 10, 2), (266, .iload_n 3, 1), (267, .iconst 0, 1), (268, .newarray .int, 2), (270, .aastore, 1), (271, .aload_n 1, 1), (272, .aload 10, 2), (274, .putfield 9, 3), (277, .aload_n 0, 1), (278, .invokevirtual 35, 3), (281, .iload_n 3, 1), (282, .if_icmp .ne 7, 3), (285, .iconst 1, 1), (286, .goto 4, 3), (289, .iconst 0, 1), (290, .ireturn, 1), (291, .iload_n 3, 1), (292, .ifCond .eq 14, 3), (295, .aload_n 1, 1), (296, .getfield 9, 3), (299, .iload 5, 2), (301, .aaload, 1), (302, .arraylength, 1), (303, .ifCond .ne 5, 3), (306, .iconst 1, 1), (307, .ireturn, 1), (308, .iload_n 2, 1), (309, .iconst 1, 1), (310, .ishr, 1), (311, .aload_n 1, 1), (312, .getfield 9, 3), (315, .iload 5, 2), (317, .aaload, 1), (318, .arraylength, 1), (319, .invokestatic 19, 3), (322, .istore 11, 2), (324, .aload_n 1, 1), (325, .getfield 9, 3), (328, .iload 5, 2), (330, .aaload, 1), (331, .iload 11, 2), (333, .iaload, 1), (334, .istore 12, 2), (336, .aload_n 1, 1), (337, .getfield 9, 3), (340, .iload 5, 2), (342, .aload_n 1, 1), (343, .getfield 9, 3), (346, .iload 5, 2), (348, .aaload, 1), (349, .iload 11, 2), (351, .invokestatic 39, 3), (354, .aastore, 1), (355, .aload_n 0, 1), (356, .iload 5, 2), (358, .iload 11, 2), (360, .invokevirtual 43, 3), (363, .iload 12, 2), (365, .if_icmp .ne 7, 3), (368, .iconst 1, 1), (369, .goto 4, 3), (372, .iconst 0, 1), (373, .ireturn, 1), (374, .iload 4, 2), (376, .bipush 6, 2), (378, .if_icmp .ne 5, 3), (381, .iconst 1, 1), (382, .ireturn, 1), (383, .iload 4, 2), (385, .iconst 1, 1), (386, .iadd, 1), (387, .anewarray 46, 3), (390, .astore 13, 2), (392, .iconst 0, 1), (393, .istore 14, 2), (395, .iload 14, 2), (397, .iload 4, 2), (399, .if_icmp .ge 21, 3), (402, .aload 13, 2), (404, .iload 14, 2), (406, .aload_n 1, 1), (407, .getfield 15, 3), (410, .iload 14, 2), (412, .aaload, 1), (413, .aastore, 1), (414, .iinc 14 1, 3), (417, .goto (-22), 3), (420, .aload 13, 2), (422, .iload 4, 2), (424, .new 46, 3), (427, .dup, 1), (428, .invokespecial 48, 3), (431, .aastore, 1), (432, .aload 13, 2), (434, .iload 4, 2), (436, .aaload, 1), (437, .iload_n 2, 1), (438, .iconst 1, 1), (439, .ishr, 1), (440, .iload_n 2, 1), (441, .bipush 6, 2), (443, .ishr, 1), (444, .iconst 2, 1), (445, .invokestatic 19, 3), (448, .ifCond .ne 9, 3), (451, .sipush 1000, 3), (454, .goto 5, 3), (457, .bipush 40, 2), (459, .invokestatic 19, 3), (462, .putfield 49, 3), (465, .aload_n 1, 1), (466, .aload 13, 2), (468, .putfield 15, 3), (471, .aload_n 0, 1), (472, .aload 13, 2), (474, .iload 4, 2), (476, .aaload, 1), (477, .getfield 49, 3), (480, .invokevirtual 53, 3), (483, .iload 4, 2), (485, .if_icmp .ne 7, 3), (488, .iconst 1, 1), (489, .goto 4, 3), (492, .iconst 0, 1), (493, .ireturn, 1), (494, .iload 4, 2), (496, .ifCond .eq 18, 3), (499, .aload_n 1, 1), (500, .getfield 15, 3), (503, .iload 6, 2), (505, .aaload, 1), (506, .getfield 57, 3), (509, .arraylength, 1), (510, .iconst 5, 1), (511, .if_icmp .ne 5, 3), (514, .iconst 1, 1), (515, .ireturn, 1), (516, .aload_n 1, 1), (517, .getfield 15, 3), (520, .iload 6, 2), (522, .aaload, 1), (523, .getfield 57, 3), (526, .astore 14, 2), (528, .aload 14, 2), (530, .arraylength, 1), (531, .istore 15, 2), (533, .iconst 0, 1), (534, .istore 16, 2), (536, .iload 16, 2), (538, .iload 15, 2), (540, .if_icmp .ge 25, 3), (543, .aload 14, 2), (545, .iload 16, 2), (547, .iaload, 1), (548, .istore 17, 2), (550, .iload 17, 2), (552, .iload 8, 2), (554, .if_icmp .ne 5, 3), (557, .iconst 1, 1), (558, .ireturn, 1), (559, .iinc 16 1, 3), (562, .goto (-26), 3), (565, .aload_n 1, 1), (566, .getfield 15, 3), (569, .iload 6, 2), (571, .aaload, 1), (572, .aload_n 1, 1), (573, .getfield 15, 3), (576, .iload 6, 2), (578, .aaload, 1), (579, .getfield 57, 3), (582, .iload 8, 2), (584, .invokestatic 60, 3), (587, .putfield 57, 3), (590, .aload_n 0, 1), (591, .iload 6, 2), (593, .iload 8, 2), (595, .invokevirtual 63, 3), (598, .aload_n 1, 1), (599, .getfield 15, 3), (602, .iload 6, 2), (604, .aaload, 1), (605, .getfield 57, 3), (608, .arraylength, 1), (609, .if_icmp .ne 7, 3), (612, .iconst 1, 1), (613, .goto 4, 3), (616, .iconst 0, 1), (617, .ireturn, 1), (618, .iload 4, 2), (620, .ifCond .ne 5, 3), (623, .iconst 1, 1), (624, .ireturn, 1), (625, .iconst 0, 1), (626, .istore 14, 2), (628, .iload 14, 2), (630, .aload_n 1, 1), (631, .getfield 15, 3), (634, .iload 6, 2), (636, .aaload, 1), (637, .getfield 57, 3), (640, .arraylength, 1), (641, .if_icmp .ge 74, 3), (644, .aload_n 1, 1), (645, .getfield 15, 3), (648, .iload 6, 2), (650, .aaload, 1), (651, .getfield 57, 3), (654, .iload 14, 2), (656, .iaload, 1), (657, .iload 8, 2), (659, .if_icmp .eq 6, 3), (662, .goto 47, 3), (665, .aload_n 1, 1), (666, .getfield 15, 3), (669, .iload 6, 2), (671, .aaload, 1), (672, .aload_n 1, 1), (673, .getfield 15, 3), (676, .iload 6, 2), (678, .aaload, 1), (679, .getfield 57, 3), (682, .iload 14, 2), (684, .invokestatic 39, 3), (687, .putfield 57, 3), (690, .aload_n 0, 1), (691, .iload 6, 2), (693, .iload 8, 2), (695, .invokevirtual 66, 3), (698, .iload 14, 2), (700, .if_icmp .ne 7, 3), (703, .iconst 1, 1), (704, .goto 4, 3), (707, .iconst 0, 1), (708, .ireturn, 1), (709, .iinc 14 1, 3), (712, .goto (-84), 3), (715, .iconst 1, 1), (716, .ireturn, 1), (717, .iload 4, 2), (719, .ifCond .ne 5, 3), (722, .iconst 1, 1), (723, .ireturn, 1), (724, .aload_n 1, 1), (725, .getfield 15, 3), (728, .iload 6, 2), (730, .aaload, 1), (731, .getfield 69, 3), (734, .istore 14, 2), (736, .aload_n 1, 1), (737, .getfield 15, 3), (740, .iload 6, 2), (742, .aaload, 1), (743, .iload_n 2, 1), (744, .iconst 1, 1), (745, .ishr, 1), (746, .iload_n 2, 1), (747, .bipush 6, 2), (749, .ishr, 1), (750, .iconst 3, 1), (751, .invokestatic 19, 3), (754, .ifCond .ne 9, 3), (757, .sipush 1000, 3), (760, .goto 5, 3), (763, .bipush 60, 2), (765, .invokestatic 19, 3), (768, .putfield 69, 3), (771, .aload_n 0, 1), (772, .iload 6, 2), (774, .aload_n 1, 1), (775, .getfield 15, 3), (778, .iload 6, 2), (780, .aaload, 1), (781, .getfield 69, 3), (784, .invokevirtual 72, 3), (787, .iload 14, 2), (789, .if_icmp .ne 7, 3), (792, .iconst 1, 1), (793, .goto 4, 3), (796, .iconst 0, 1), (797, .ireturn, 1), (798, .iload 4, 2), (800, .ifCond .ne 5, 3), (803, .iconst 1, 1), (804, .ireturn, 1), (805, .iconst 1, 1), (806, .iload_n 2, 1), (807, .iconst 1, 1), (808, .ishr, 1), (809, .iload_n 2, 1), (810, .bipush 6, 2), (812, .ishr, 1), (813, .iconst 2, 1), (814, .invokestatic 19, 3), (817, .ifCond .ne 9, 3), (820, .sipush 999, 3), (823, .goto 5, 3), (826, .bipush 30, 2), (828, .invokestatic 19, 3), (831, .iadd, 1), (832, .istore 15, 2), (834, .aload_n 1, 1), (835, .getfield 15, 3), (838, .iload 6, 2), (840, .aaload, 1), (841, .sipush 9999, 3), (844, .aload_n 1, 1), (845, .getfield 15, 3), (848, .iload 6, 2), (850, .aaload, 1), (851, .getfield 49, 3), (854, .iload 15, 2), (856, .iadd, 1), (857, .invokestatic 75, 3), (860, .putfield 49, 3), (863, .aload_n 0, 1), (864, .iload 6, 2), (866, .iload 15, 2), (868, .invokevirtual 80, 3), (871, .aload_n 1, 1), (872, .getfield 15, 3), (875, .iload 6, 2), (877, .aaload, 1), (878, .getfield 49, 3), (881, .if_icmp .ne 7, 3), (884, .iconst 1, 1), (885, .goto 4, 3), (888, .iconst 0, 1), (889, .ireturn, 1), (890, .iload 4, 2), (892, .ifCond .eq 23, 3), (895, .aload_n 0, 1), (896, .iload 6, 2), (898, .invokevirtual 83, 3), (901, .aload_n 1, 1), (902, .aload_n 1, 1), (903, .getfield 15, 3), (906, .iload 6, 2), (908, .aaload, 1), (909, .invokevirtual 86, 3), (912, .if_icmp .ne 7, 3), (915, .iconst 1, 1), (916, .goto 4, 3), (919, .iconst 0, 1), (920, .ireturn, 1), (921, .iload_n 3, 1), (922, .ifCond .eq 16, 3), (925, .aload_n 1, 1), (926, .getfield 9, 3), (929, .iload 5, 2), (931, .aaload, 1), (932, .arraylength, 1), (933, .bipush 12, 2), (935, .if_icmp .ne 5, 3), (938, .iconst 1, 1), (939, .ireturn, 1), (940, .aload_n 1, 1), (941, .getfield 9, 3), (944, .iload 5, 2), (946, .aload_n 1, 1), (947, .getfield 9, 3), (950, .iload 5, 2), (952, .aaload, 1), (953, .iload 7, 2), (955, .invokestatic 60, 3), (958, .aastore, 1), (959, .aload_n 0, 1), (960, .iload 5, 2), (962, .iload 7, 2), (964, .invokevirtual 89, 3), (967, .aload_n 1, 1), (968, .getfield 9, 3), (971, .iload 5, 2), (973, .aaload, 1), (974, .arraylength, 1), (975, .if_icmp .ne 7, 3), (978, .iconst 1, 1), (979, .goto 4, 3), (982, .iconst 0, 1), (983, .ireturn, 1)]
def dp_t76 : List dp_I := [(0, .new 10, 3), (3, .dup, 1), (4, .invokespecial 92, 3), (7, .astore_n 2, 1), (8, .iconst 0, 1), (9, .istore_n 3, 1), (10, .iload_n 3, 1), (11, .bipush 64, 2), (13, .if_icmp .ge 58, 3), (16, .aload_n 0, 1), (17, .aload_n 2, 1), (18, .aload_n 1, 1), (19, .iload_n 3, 1), (20, .bipush 16, 2), (22, .irem, 1), (23, .invokestatic 93, 3), (26, .iload_n 3, 1), (27, .bipush 16, 2), (29, .idiv, 1), (30, .iconst 3, 1), (31, .imul, 1), (32, .ishr, 1), (33, .sipush 307, 3), (36, .iload_n 3, 1), (37, .imul, 1), (38, .iadd, 1), (39, .iload_n 3, 1), (40, .bipush 8, 2), (42, .if_icmp .ge 13, 3), (45, .sipush 512, 3), (48, .iload_n 3, 1), (49, .iconst 4, 1), (50, .irem, 1), (51, .imul, 1), (52, .goto 4, 3), (55, .iconst 0, 1), (56, .iadd, 1), (57, .invokestatic 97, 3), (60, .ifCond .ne 5, 3), (63, .aconst_null, 1), (64, .areturn, 1), (65, .iinc 3 1, 3), (68, .goto (-58), 3), (71, .aload_n 2, 1), (72, .areturn, 1)]
def dp_t77 : List dp_I := [(0, .new 30, 3), (3, .dup, 1), (4, .invokespecial 101, 3), (7, .astore_n 1, 1), (8, .aload_n 1, 1), (9, .aload_n 0, 1), (10, .invokestatic 102, 3), (13, .astore_n 2, 1), (14, .aload_n 2, 1), (15, .ifnonnull 5, 3), (18, .iconst 0, 1), (19, .ireturn, 1), (20, .iconst 0, 1), (21, .istore_n 3, 1), (22, .iload_n 3, 1), (23, .bipush 24, 2), (25, .if_icmp .ge 820, 3), (28, .aload_n 0, 1), (29, .iload_n 3, 1), (30, .bipush 16, 2), (32, .irem, 1), (33, .invokestatic 93, 3), (36, .iload_n 3, 1), (37, .bipush 16, 2), (39, .idiv, 1), (40, .iconst 3, 1), (41, .imul, 1), (42, .ishr, 1), (43, .sipush 307, 3), (46, .iload_n 3, 1), (47, .imul, 1), (48, .iadd, 1), (49, .istore 4, 2), (51, .iconst 0, 1), (52, .istore 5, 2), (54, .iload 5, 2), (56, .iconst 2, 1), (57, .if_icmp .ge 33, 3), (60, .aload_n 1, 1), (61, .aload_n 2, 1), (62, .iload 4, 2), (64, .iconst 2, 1), (65, .iload 5, 2), (67, .imul, 1), (68, .ishr, 1), (69, .sipush 223, 3), (72, .iload 5, 2), (74, .imul, 1), (75, .iadd, 1), (76, .invokestatic 97, 3), (79, .ifCond .ne 5, 3), (82, .iconst 0, 1), (83, .ireturn, 1), (84, .iinc 5 1, 3), (87, .goto (-33), 3), (90, .aload_n 1, 1), (91, .iconst 0, 1), (92, .invokevirtual 106, 3), (95, .istore 5, 2), (97, .aload_n 1, 1), (98, .iconst 1, 1), (99, .invokevirtual 106, 3), (102, .istore 6, 2), (104, .aload_n 1, 1), (105, .iconst 5, 1), (106, .invokevirtual 106, 3), (109, .istore 7, 2), (111, .aload_n 1, 1), (112, .bipush 6, 2), (114, .invokevirtual 106, 3), (117, .istore 8, 2), (119, .iload 6, 2), (121, .ifCond .le 307, 3), (124, .iload_n 3, 1), (125, .iconst 2, 1), (126, .irem, 1), (127, .ifCond .ne 301, 3), (130, .iload 4, 2), (132, .iconst 3, 1), (133, .ishr, 1), (134, .iload 6, 2), (136, .invokestatic 19, 3), (139, .istore 9, 2), (141, .aload_n 1, 1), (142, .iload 9, 2), (144, .iconst 5, 1), (145, .invokevirtual 109, 3), (148, .ifCond .ne 7, 3), (151, .iconst (-1), 1), (152, .goto 10, 3), (155, .aload_n 1, 1), (156, .iload 9, 2), (158, .iconst 0, 1), (159, .invokevirtual 112, 3), (162, .istore 10, 2), (164, .iload 10, 2), (166, .ifCond .ge 7, 3), (169, .iconst 0, 1), (170, .goto 16, 3), (173, .iconst 2, 1), (174, .aload_n 1, 1), (175, .iload 9, 2), (177, .iload 10, 2), (179, .invokevirtual 115, 3), (182, .bipush 20, 2), (184, .idiv, 1), (185, .iadd, 1), (186, .istore 11, 2), (188, .aload_n 1, 1), (189, .iload 9, 2), (191, .iconst 0, 1), (192, .invokevirtual 109, 3), (195, .istore 12, 2), (197, .aload_n 1, 1), (198, .iload 9, 2), (200, .iconst 4, 1), (201, .invokevirtual 109, 3), (204, .istore 13, 2), (206, .aload_n 1, 1), (207, .iload 9, 2), (209, .iconst 5, 1), (210, .invokevirtual 109, 3), (213, .istore 14, 2), (215, .iload 10, 2), (217, .ifCond .lt 14, 3), (220, .iload 12, 2), (222, .iload 11, 2), (224, .if_icmp .lt 7, 3), (227, .iconst 1, 1), (228, .goto 4, 3), (231, .iconst 0, 1), (232, .istore 15, 2), (234, .aload_n 1, 1), (235, .iload 9, 2), (237, .invokevirtual 83, 3), (240, .iload 15, 2), (242, .ifCond .eq 8, 3), (245, .iload 10, 2), (247, .goto 4, 3), (250, .iconst (-1), 1), (251, .if_icmp .ne 28, 3), (254, .aload_n 2, 1), (255, .aload_n 2, 1), (256, .getfield 15, 3), (259, .iload 9, 2), (261, .aaload, 1), (262, .invokevirtual 86, 3), (265, .iload 15, 2), (267, .ifCond .eq 8, 3), (270, .iload 10, 2), (272, .goto 4, 3), (275, .iconst (-1), 1), (276, .if_icmp .eq 5, 3), (279, .iconst 0, 1), (280, .ireturn, 1), (281, .iload 15, 2), (283, .ifCond .eq 8, 3), (286, .iload 11, 2), (288, .goto 4, 3), (291, .iconst 0, 1), (292, .istore 16, 2), (294, .aload_n 1, 1), (295, .iload 9, 2), (297, .iconst 0, 1), (298, .invokevirtual 109, 3), (301, .iload 12, 2), (303, .iload 16, 2), (305, .isub, 1), (306, .if_icmp .ne 76, 3), (309, .aload_n 1, 1), (310, .iload 9, 2), (312, .iconst 4, 1), (313, .invokevirtual 109, 3), (316, .iload 13, 2), (318, .iload 16, 2), (320, .iadd, 1), (321, .if_icmp .ne 61, 3), (324, .aload_n 1, 1), (325, .iload 9, 2), (327, .iconst 5, 1), (328, .invokevirtual 109, 3), (331, .iload 14, 2), (333, .iload 15, 2), (335, .ifCond .eq 7, 3), (338, .iconst 1, 1), (339, .goto 4, 3), (342, .iconst 0, 1), (343, .isub, 1), (344, .if_icmp .ne 38, 3), (347, .aload_n 1, 1), (348, .iconst 5, 1), (349, .invokevirtual 106, 3), (352, .iload 7, 2), (354, .iload 15, 2), (356, .ifCond .eq 7, 3), (359, .iconst 1, 1), (360, .goto 4, 3), (363, .iconst 0, 1), (364, .iadd, 1), (365, .if_icmp .ne 17, 3), (368, .aload_n 1, 1), (369, .bipush 6, 2), (371, .invokevirtual 106, 3), (374, .iload 8, 2), (376, .iload 16, 2), (378, .iadd, 1), (379, .if_icmp .eq 5, 3), (382, .iconst 0, 1), (383, .ireturn, 1), (384, .iload 15, 2), (386, .ifCond .eq 39, 3), (389, .iconst 0, 1), (390, .istore 17, 2), (392, .iload 17, 2), (394, .aload_n 1, 1), (395, .iload 9, 2), (397, .iconst 5, 1), (398, .invokevirtual 109, 3), (401, .if_icmp .ge 24, 3), (404, .aload_n 1, 1), (405, .iload 9, 2), (407, .iload 17, 2), (409, .invokevirtual 112, 3), (412, .iload 10, 2), (414, .if_icmp .ne 5, 3), (417, .iconst 0, 1), (418, .ireturn, 1), (419, .iinc 17 1, 3), (422, .goto (-30), 3), (425, .goto 341, 3), (428, .iload 6, 2), (430, .newarray .int, 2), (432, .astore 9, 2), (434, .iload 6, 2), (436, .newarray .int, 2), (438, .astore 10, 2), (440, .iload 5, 2), (442, .newarray .int, 2), (444, .astore 11, 2), (446, .iconst 0, 1), (447, .istore 12, 2), (449, .iload 12, 2), (451, .iload 6, 2), (453, .if_icmp .ge 33, 3), (456, .aload 9, 2), (458, .iload 12, 2), (460, .aload_n 1, 1), (461, .iload 12, 2), (463, .iconst 0, 1), (464, .invokevirtual 109, 3), (467, .iastore, 1), (468, .aload 10, 2), (470, .iload 12, 2), (472, .aload_n 1, 1), (473, .iload 12, 2), (475, .iconst 3, 1), (476, .invokevirtual 109, 3), (479, .iastore, 1), (480, .iinc 12 1, 3), (483, .goto (-34), 3), (486, .iconst 0, 1), (487, .istore 12, 2), (489, .iload 12, 2), (491, .iload 5, 2), (493, .if_icmp .ge 21, 3), (496, .aload 11, 2), (498, .iload 12, 2), (500, .aload_n 1, 1), (501, .iload 12, 2), (503, .iconst 2, 1), (504, .invokevirtual 118, 3), (507, .iastore, 1), (508, .iinc 12 1, 3), (511, .goto (-22), 3), (514, .aload_n 1, 1), (515, .iconst 4, 1), (516, .invokevirtual 106, 3), (519, .istore 12, 2), (521, .aload_n 1, 1), (522, .invokevirtual 121, 3), (525, .istore 13, 2), (527, .aload_n 1, 1), (528, .iconst 1, 1), (529, .invokevirtual 124, 3), (532, .istore 14, 2), (534, .aload_n 2, 1), (535, .invokevirtual 127, 3), (538, .pop, 1), (539, .iconst 0, 1), (540, .istore 15, 2), (542, .iconst 0, 1), (543, .istore 16, 2), (545, .iconst 0, 1), (546, .istore 17, 2), (548, .iload 17, 2), (550, .iload 6, 2), (552, .if_icmp .ge 113, 3), (555, .iload 15, 2), (557, .aload 9, 2), (559, .iload 17, 2), (561, .iaload, 1), (562, .aload_n 1, 1), (563, .iload 17, 2), (565, .iconst 0, 1), (566, .invokevirtual 109, 3), (569, .isub, 1), (570, .iadd, 1), (571, .istore 15, 2), (573, .iload 16, 2), (575, .aload_n 1, 1), (576, .iload 17, 2), (578, .iconst 3, 1), (579, .invokevirtual 109, 3), (582, .aload 10, 2), (584, .iload 17, 2), (586, .iaload, 1), (587, .isub, 1), (588, .iadd, 1), (589, .istore 16, 2), (591, .aload_n 1, 1), (592, .iload 17, 2), (594, .iconst 3, 1), (595, .invokevirtual 109, 3), (598, .aload 10, 2), (600, .iload 17, 2), (602, .iaload, 1), (603, .isub, 1), (604, .istore 18, 2), (606, .iload 18, 2), (608, .ifCond .lt 49, 3), (611, .iload 18, 2), (613, .iconst 2, 1), (614, .if_icmp .gt 43, 3), (617, .aload 9, 2), (619, .iload 17, 2), (621, .iaload, 1), (622, .aload_n 1, 1), (623, .iload 17, 2), (625, .iconst 0, 1), (626, .invokevirtual 109, 3), (629, .isub, 1), (630, .iconst 2, 1), (631, .iload 18, 2), (633, .imul, 1), (634, .if_icmp .lt 23, 3), (637, .iload 18, 2), (639, .ifCond .ne 20, 3), (642, .aload 9, 2), (644, .iload 17, 2), (646, .iaload, 1), (647, .aload_n 1, 1), (648, .iload 17, 2), (650, .iconst 0, 1), (651, .invokevirtual 109, 3), (654, .if_icmp .eq 5, 3), (657, .iconst 0, 1), (658, .ireturn, 1), (659, .iinc 17 1, 3), (662, .goto (-114), 3), (665, .iload 14, 2), (667, .iload 16, 2), (669, .if_icmp .ne 42, 3), (672, .aload_n 1, 1), (673, .iconst 5, 1), (674, .invokevirtual 106, 3), (677, .iload 7, 2), (679, .iload 14, 2), (681, .iadd, 1), (682, .if_icmp .ne 29, 3), (685, .aload_n 1, 1), (686, .bipush 6, 2), (688, .invokevirtual 106, 3), (691, .iload 8, 2), (693, .iload 15, 2), (695, .iadd, 1), (696, .if_icmp .ne 15, 3), (699, .aload_n 1, 1), (700, .iconst 4, 1), (701, .invokevirtual 106, 3), (704, .iload 12, 2), (706, .iconst 1, 1), (707, .iadd, 1), (708, .if_icmp .eq 5, 3), (711, .iconst 0, 1), (712, .ireturn, 1), (713, .iconst 0, 1), (714, .istore 17, 2), (716, .iload 17, 2), (718, .iload 5, 2), (720, .if_icmp .ge 28, 3), (723, .aload_n 1, 1), (724, .iload 17, 2), (726, .iconst 2, 1), (727, .invokevirtual 118, 3), (730, .aload 11, 2), (732, .iload 17, 2), (734, .iaload, 1), (735, .iconst 1, 1), (736, .iadd, 1), (737, .if_icmp .eq 5, 3), (740, .iconst 0, 1), (741, .ireturn, 1), (742, .iinc 17 1, 3), (745, .goto (-29), 3), (748, .iload 13, 2), (750, .ifCond .le 16, 3), (753, .aload_n 1, 1), (754, .invokevirtual 121, 3), (757, .iload 13, 2), (759, .iconst 1, 1), (760, .isub, 1), (761, .if_icmp .eq 5, 3), (764, .iconst 0, 1), (765, .ireturn, 1), (766, .iconst 0, 1), (767, .istore 9, 2), (769, .iconst 0, 1), (770, .istore 10, 2), (772, .iload 10, 2), (774, .iload 6, 2), (776, .if_icmp .ge 50, 3), (779, .iload 9, 2), (781, .aload_n 1, 1), (782, .iload 10, 2), (784, .iconst 4, 1), (785, .invokevirtual 109, 3), (788, .iadd, 1), (789, .istore 9, 2), (791, .iconst 0, 1), (792, .istore 11, 2), (794, .iload 11, 2), (796, .iload 5, 2), (798, .if_icmp .ge 22, 3), (801, .aload_n 1, 1), (802, .iload 10, 2), (804, .iload 11, 2), (806, .invokevirtual 115, 3), (809, .ifCond .ge 5, 3), (812, .iconst 0, 1), (813, .ireturn, 1), (814, .iinc 11 1, 3), (817, .goto (-23), 3), (820, .iinc 10 1, 3), (823, .goto (-51), 3), (826, .iload 9, 2), (828, .aload_n 1, 1), (829, .bipush 6, 2), (831, .invokevirtual 106, 3), (834, .if_icmp .eq 5, 3), (837, .iconst 0, 1), (838, .ireturn, 1), (839, .iinc 3 1, 3), (842, .goto (-820), 3), (845, .aload_n 2, 1), (846, .aload_n 1, 1), (847, .invokevirtual 129, 3), (850, .ireturn, 1)]
abbrev dp_E : Type := MethodName × ByteArray × Nat × Nat × Nat × Nat × Bool × List (Nat × Nat × Nat × Nat) × List dp_I × Nat × Nat
def dp_e0 : dp_E := (⟨"", "", ""⟩, ⟨#[]⟩, 0, 0, 0, 0, false, [], [], 0, 0)
def dp_mt0 : List dp_E := [(yX0_copyFrom, cX0_copyFrom, 2, 0, 0, 2, false, [], dp_t0, 0, 0),
  (yX0_wasSent, cX0_wasSent, 3, 0, 4, 3, false, [], dp_t1, 0, 0),
  (yX0_book, cX0_book, 4, 0, 0, 4, false, [], dp_t2, 0, 0),
  (yX0_growOlder, cX0_growOlder, 3, 0, 0, 2, false, [], dp_t3, 0, 0),
  (yX0_receivers, cX0_receivers, 4, 0, 1, 2, false, [], dp_t4, 0, 0),
  (yX0_sentInAll, cX0_sentInAll, 3, 0, 1, 1, false, [], dp_t5, 0, 0),
  (yX0_paidInAll, cX0_paidInAll, 3, 0, 1, 1, false, [], dp_t6, 0, 0),
  (yX1_placeOf, cX1_placeOf, 4, 1, 1, 3, false, [], dp_t7, 0, 0),
  (yX2_recount, cX2_recount, 2, 2, 0, 1, false, [], dp_t8, 0, 0),
  (yX2_recountArticle, cX2_recountArticle, 5, 2, 0, 2, false, [], dp_t9, 0, 0),
  (yX2_stemOfWord, cX2_stemOfWord, 2, 2, 1, 2, false, [], dp_t10, 0, 0),
  (yX2_rarityOf, cX2_rarityOf, 3, 2, 1, 2, false, [], dp_t11, 0, 0),
  (yX2_timesOf, cX2_timesOf, 3, 2, 1, 3, false, [], dp_t12, 0, 0),
  (yX2_scoreOf, cX2_scoreOf, 9, 2, 1, 5, false, [], dp_t13, 0, 0),
  (yX2_stemsOf, cX2_stemsOf, 4, 2, 1, 2, false, [], dp_t14, 0, 0),
  (yX2_stemsInAll, cX2_stemsInAll, 3, 2, 1, 1, false, [], dp_t15, 0, 0),
  (yX2_wordsInAll, cX2_wordsInAll, 3, 2, 1, 1, false, [], dp_t16, 0, 0),
  (yX3_setStem, cX3_setStem, 4, 3, 1, 3, false, [], dp_t17, 2, 12),
  (yX3_print, cX3_print, 1, 3, 1, 1, false, [], dp_t18, 1, 6),
  (yX3_write, cX3_write, 4, 3, 1, 3, false, [], dp_t19, 3, 18),
  (yX3_strike, cX3_strike, 4, 3, 1, 3, false, [], dp_t20, 2, 12),
  (yX3_client, cX3_client, 3, 3, 1, 2, false, [], dp_t21, 2, 12),
  (yX3_want, cX3_want, 4, 3, 1, 3, false, [], dp_t22, 4, 24),
  (yX3_drop, cX3_drop, 4, 3, 1, 3, false, [], dp_t23, 3, 18),
  (yX3_setBar, cX3_setBar, 4, 3, 1, 3, false, [], dp_t24, 2, 12),
  (yX3_pay, cX3_pay, 3, 3, 1, 3, false, [], dp_t25, 2, 12),
  (yX3_send, cX3_send, 2, 3, 1, 2, false, [], dp_t26, 1, 6),
  (yX3_pass, cX3_pass, 3, 3, 1, 2, false, [], dp_t27, 1, 6),
  (yX3_told, cX3_told, 3, 3, 1, 3, false, [], dp_t28, 2, 12),
  (yX3_word, cX3_word, 3, 3, 1, 3, false, [], dp_t29, 2, 12)]
def dp_mt1 : List dp_E := [(yX3_about, cX3_about, 3, 3, 1, 3, false, [], dp_t30, 2, 12),
  (yX3_stem, cX3_stem, 3, 3, 1, 3, false, [], dp_t31, 2, 12),
  (yX3_count, cX3_count, 2, 3, 1, 2, false, [], dp_t32, 1, 6),
  (yX3_rarity, cX3_rarity, 2, 3, 1, 2, false, [], dp_t33, 1, 6),
  (yX3_score, cX3_score, 3, 3, 1, 3, false, [], dp_t34, 2, 12),
  (yX3_fit, cX3_fit, 3, 3, 1, 3, false, [], dp_t35, 2, 12),
  (yX3_until, cX3_until, 2, 3, 1, 1, false, [], dp_t36, 0, 0),
  (yX3_mean, cX3_mean, 2, 3, 3, 1, false, [], dp_t37, 0, 0),
  (yX3_checkWord, cX3_checkWord, 1, 3, 0, 1, true, [], dp_t38, 1, 6),
  (yX3_checkStem, cX3_checkStem, 1, 3, 0, 1, true, [], dp_t39, 1, 6),
  (yX3_checkArticle, cX3_checkArticle, 2, 3, 0, 2, false, [], dp_t40, 1, 6),
  (yX3_checkClient, cX3_checkClient, 2, 3, 0, 2, false, [], dp_t41, 1, 6),
  (yX3_checkPlace, cX3_checkPlace, 2, 3, 0, 2, true, [], dp_t42, 1, 6),
  (yX3_checkWhat, cX3_checkWhat, 2, 3, 0, 2, true, [], dp_t43, 1, 6),
  (yX3_checkRounds, cX3_checkRounds, 1, 3, 0, 1, true, [], dp_t44, 1, 6),
  (yX3_tellOfArticle, cX3_tellOfArticle, 3, 3, 1, 3, false, [], dp_t45, 0, 0),
  (yX3_tellOfClient, cX3_tellOfClient, 3, 3, 1, 3, false, [], dp_t46, 0, 0),
  (yX3_tellOfAll, cX3_tellOfAll, 2, 3, 1, 2, false, [], dp_t47, 0, 0),
  (yX3_scoreFor, cX3_scoreFor, 4, 3, 1, 4, false, [], dp_t48, 0, 0),
  (yX3_isFit, cX3_isFit, 5, 3, 4, 5, false, [], dp_t49, 0, 0),
  (yX3_fitArticles, cX3_fitArticles, 5, 3, 1, 2, false, [], dp_t50, 0, 0),
  (yX3_bestFit, cX3_bestFit, 7, 3, 1, 3, false, [], dp_t51, 0, 0),
  (yX3_fitArticleAt, cX3_fitArticleAt, 5, 3, 1, 3, false, [], dp_t52, 0, 0),
  (yX3_fitArticlesAhead, cX3_fitArticlesAhead, 8, 3, 1, 4, false, [], dp_t53, 0, 0),
  (yX3_priceFor, cX3_priceFor, 4, 3, 1, 4, false, [], dp_t54, 0, 0),
  (yX3_sendTo, cX3_sendTo, 5, 3, 1, 3, false, [], dp_t55, 0, 0),
  (yX3_playRounds, cX3_playRounds, 5, 3, 0, 3, false, [], dp_t56, 0, 0),
  (yX3_someoneIsShort, cX3_someoneIsShort, 4, 3, 4, 2, false, [], dp_t57, 0, 0),
  (yX3_removeAt, cX3_removeAt, 4, 3, 1, 3, true, [], dp_t58, 0, 0),
  (yX4_init, cX4_init, 1, 4, 0, 1, false, [], dp_t59, 2, 16)]
def dp_mt2 : List dp_E := [(yX5_init, cX5_init, 2, 5, 0, 1, false, [], dp_t60, 4, 56),
  (yX5_table, cX5_table, 7, 5, 5, 2, false, [], dp_t61, 1, 20),
  (yX5_rarities, cX5_rarities, 5, 5, 5, 1, false, [], dp_t62, 17, 340),
  (yX5_score, cX5_score, 11, 5, 1, 5, false, [], dp_t63, 0, 0),
  (yX5_fits, cX5_fits, 6, 5, 5, 2, false, [], dp_t64, 34, 676),
  (yX5_best, cX5_best, 3, 5, 1, 1, true, [], dp_t65, 0, 0),
  (yX5_send, cX5_send, 5, 5, 1, 2, false, [], dp_t66, 34, 676),
  (yX5_pass, cX5_pass, 6, 5, 1, 1, false, [], dp_t67, 408, 8112),
  (yX5_isSame, cX5_isSame, 15, 5, 4, 2, false, [], dp_t68, 4000, 40000),
  (yJ6_bitCount_0f7a4, cJ6_bitCount_0f7a4, 1, 7, 1, 1, true, [], dp_t69, 0, 0),
  (yJ7_fill_53178, cJ7_fill_53178, 4, 8, 0, 2, true, [], dp_t70, 0, 0),
  (yL_below, cL_below, 2, 6, 1, 2, true, [], dp_t71, 0, 0),
  (yL_cell, cL_cell, 2, 6, 1, 2, true, [], dp_t72, 0, 0),
  (yL_more, cL_more, 4, 6, 5, 2, true, [], dp_t73, 1, 16),
  (yL_less, cL_less, 4, 6, 5, 2, true, [], dp_t74, 1, 16),
  (yL_act, cL_act, 18, 6, 4, 3, true, [], dp_t75, 200, 3000),
  (yL_build, cL_build, 4, 6, 6, 2, true, [], dp_t76, 13000, 200000),
  (yL_law, cL_law, 19, 6, 4, 1, true, [], dp_t77, 600172, 7300668)]
def dp_mt : List dp_E := dp_mt0 ++ (dp_mt1 ++ (dp_mt2))
def dp_owns : List String := [RX0, RX1, RX2, RX3, RX4, RX5, RL, RJ6, RJ7]
def dp_fl : List (Nat × Nat × Nat × Nat) := [(2, 9, 2, 0), (3, 44, 2, 0), (2, 17, 2, 1), (3, 69, 2, 1), (2, 20, 2, 2), (3, 64, 2, 2), (2, 23, 2, 3), (2, 26, 2, 4), (2, 35, 2, 5), (3, 50, 2, 5), (1, 11, 1, 0), (3, 108, 1, 0), (1, 16, 1, 1), (3, 97, 1, 1), (1, 20, 1, 2), (3, 115, 1, 2), (3, 86, 1, 3), (0, 9, 0, 0), (3, 217, 0, 0), (0, 15, 0, 1), (3, 91, 0, 1), (0, 18, 0, 2), (3, 231, 0, 2), (0, 21, 0, 3), (3, 223, 0, 3), (0, 30, 0, 4), (3, 240, 0, 4), (3, 10, 3, 0), (3, 19, 3, 1), (3, 26, 3, 2), (3, 30, 3, 3), (3, 33, 3, 4), (6, 49, 4, 0), (5, 70, 4, 0), (4, 7, 4, 1), (5, 59, 4, 1), (6, 69, 4, 1), (5, 73, 4, 2), (4, 13, 4, 3), (5, 44, 4, 3), (6, 57, 4, 3), (4, 17, 4, 4), (5, 55, 4, 4), (5, 7, 5, 0), (6, 25, 5, 0), (5, 14, 5, 1), (6, 9, 5, 1), (5, 18, 5, 2), (5, 23, 5, 3), (6, 15, 5, 3), (5, 36, 5, 4)]
def dp_ml : List (Nat × Nat × Nat) := [(1, 23, 70), (6, 83, 26), (3, 94, 41), (3, 125, 55), (3, 268, 51), (3, 156, 48), (3, 243, 13), (2, 47, 12), (2, 56, 11), (3, 251, 49), (3, 247, 1), (3, 271, 54), (3, 274, 2), (6, 124, 27), (3, 129, 44), (3, 132, 5), (0, 38, 69), (3, 136, 56), (3, 278, 3), (6, 118, 28), (3, 61, 40), (3, 140, 43), (3, 143, 45), (3, 214, 14), (3, 220, 4), (0, 34, 1), (6, 109, 30), (3, 146, 46), (3, 226, 69), (3, 160, 50), (6, 106, 32), (3, 149, 47), (3, 234, 16), (3, 237, 15), (3, 180, 6), (6, 115, 34), (6, 112, 35), (3, 73, 42), (3, 163, 52), (3, 255, 53), (6, 121, 36), (3, 172, 0), (3, 176, 57), (6, 86, 66), (5, 62, 64), (5, 47, 62), (5, 40, 61), (5, 51, 63), (5, 66, 65), (6, 127, 67), (5, 76, 66), (6, 129, 68), (5, 80, 33), (3, 41, 39), (3, 153, 11), (5, 86, 28), (5, 90, 29), (5, 93, 34), (5, 95, 30), (5, 98, 31), (5, 101, 35), (5, 104, 32), (5, 107, 37), (6, 19, 71), (6, 93, 72), (6, 97, 75), (6, 29, 17), (3, 37, 38), (3, 47, 8), (2, 29, 70), (2, 39, 9), (2, 43, 10), (6, 35, 18), (6, 39, 74), (6, 43, 20), (3, 77, 58), (6, 53, 21), (6, 60, 73), (6, 63, 22), (3, 102, 7), (6, 66, 23), (6, 72, 24), (6, 80, 25), (6, 89, 19), (6, 102, 76), (6, 92, 60)]
def dp_nl : List (Nat × Nat × Nat) := [(3, 1, 210), (2, 3, 210), (1, 3, 210), (0, 3, 210), (2, 51, 200), (2, 59, 201), (0, 24, 202), (4, 1, 210), (6, 75, 200), (3, 120, 200), (5, 1, 210)]
def dp_cl : List (Nat × Nat × Int64) := []
def dp_ci : List (Nat × Nat × Int32) := [(7, 265, 1431655765), (7, 266, 858993459), (7, 267, 252645135), (6, 7, 2147483647), (6, 8, 790386105)]
def dp_st : List (Nat × Nat × String) := [(3, 206, "no such client"), (3, 212, "rounds are 1 to 30"), (3, 204, "no such article"), (3, 210, "nothing is told under this number"), (3, 208, "no such place"), (3, 202, "stems are 0 to 19"), (3, 199, "words are 0 to 39"), (3, 56, "there are 16 articles"), (3, 83, "coins are 0 to 999"), (3, 89, "there are 6 clients"), (3, 100, "the client wants 5 stems"), (3, 106, "the client wants this stem already"), (3, 111, "the client does not want this stem"), (3, 113, "a bar is 0 to 999"), (3, 118, "coins to pay are 1 to 999"), (3, 67, "the article has 12 words")]
def dp_x0 : List Cond := [.static Lib.Math.min.name, .initialized "java/lang/Math", .code Lib.Math.min.name Lib.Math.min.code 2 (some .int), .static Lib.Math.max.name, .code Lib.Math.max.name Lib.Math.max.code 2 (some .int), .native arraycopyName, .static arraycopyName, .initialized "java/lang/System", .instanceMethod Lib.objectInit, .code Lib.objectInit ⟨#[0xb1]⟩ 1 none, .classLink RL 10 RX5, .instantiable RX5 5, .classLink RL 46 RX4, .instantiable RX4 5, .classLink RL 34 "[I", .classLink RX5 13 "[I", .classLink RX5 21 RX4, .arrayClass .int, .arrayClass .boolean]
def dp_x1 : List Cond := [.classLink RX3 197 "java/lang/IndexOutOfBoundsException", .initialized "java/lang/IndexOutOfBoundsException", .classLink RX3 54 "java/lang/IllegalStateException", .initialized "java/lang/IllegalStateException", .classLink RX3 81 "java/lang/IllegalArgumentException", .initialized "java/lang/IllegalArgumentException"]
def dp_nam : List String := ["java/lang/RuntimeException", "java/lang/Exception"]
def dp_exn : Nat → String
  | 0 => "java/lang/IndexOutOfBoundsException"
  | 1 => "java/lang/IllegalStateException"
  | _ => "java/lang/IllegalArgumentException"
def dp_exk : Nat → Nat
  | 0 => 197
  | 1 => 54
  | _ => 81
def dp_exc : Nat → Nat
  | 0 => 201
  | 1 => 58
  | _ => 85
def dp_x2 : List Cond := ((vx_atS RX3 (dp_exc 0) (dp_exn 0) dp_nam).filter goodWord) ++ (((vx_atS RX3 (dp_exc 1) (dp_exn 1) dp_nam).filter goodWord) ++ ((vx_atS RX3 (dp_exc 2) (dp_exn 2) dp_nam).filter goodWord))
def dp_o (k : Nat) : String := dp_owns.getD k ""
def dp_e (y : Nat) : dp_E := dp_mt.getD y dp_e0
def dp_nm (y : Nat) : MethodName := (dp_e y).1
def dp_by (y : Nat) : ByteArray := (dp_e y).2.1
def dp_mL (y : Nat) : Nat := (dp_e y).2.2.1
def dp_ow (y : Nat) : Nat := (dp_e y).2.2.2.1
def dp_rk (y : Nat) : Nat := (dp_e y).2.2.2.2.1
def dp_na (y : Nat) : Nat := (dp_e y).2.2.2.2.2.1
def dp_sta (y : Nat) : Bool := (dp_e y).2.2.2.2.2.2.1
def dp_hh (y : Nat) : List (Nat × Nat × Nat × Nat) := (dp_e y).2.2.2.2.2.2.2.1
def dp_tl (y : Nat) : List dp_I := (dp_e y).2.2.2.2.2.2.2.2.1
def dp_mc (y : Nat) : Nat := (dp_e y).2.2.2.2.2.2.2.2.2.1
def dp_ms (y : Nat) : Nat := (dp_e y).2.2.2.2.2.2.2.2.2.2
def dp_rt (y : Nat) : Option FieldType := match dp_rk y with
  | 0 => none
  | 1 => some .int
  | 2 => some .long
  | 3 => some .double
  | 4 => some .boolean
  | 5 => some (.array .int)
  | _ => some (.object "ClipBureauLaw$Sim")
def dp_lk : List dp_I → Nat → Jvm.ClassFile.Instr × Nat
  | [], _ => (.nop, 0)
  | (a, i) :: t, pc => if a = pc then i else dp_lk t pc
def dp_tab (y pc : Nat) : Jvm.ClassFile.Instr × Nat := dp_lk (dp_tl y) pc
def dp_TT (ci k : Nat) : String × String × String × Bool := (vwCl.getD ci (RX0, TX0, 5)).2.1 k
def dp_codeW (y : Nat) : Cond := if (dp_hh y).isEmpty then .code (dp_nm y) (dp_by y) (dp_mL y) (dp_rt y) else .codeWith (dp_nm y) (dp_by y) (dp_mL y) (dp_rt y) (dp_hh y)
def dp_kindW (y : Nat) : Cond := if dp_sta y then .static (dp_nm y) else .instanceMethod (dp_nm y)
def dp_selW (y : Nat) : Cond := .selects (dp_nm y).cls (dp_nm y) (dp_nm y)
def dp_linkW (e : Nat × Nat × Nat) : Cond := .methodLink (dp_o e.1) e.2.1 (dp_nm e.2.2)
def dp_natN : Nat → MethodName
  | 200 => Lib.Math.min.name
  | 201 => Lib.Math.max.name
  | 202 => arraycopyName
  | _ => Lib.objectInit
def dp_linkN (e : Nat × Nat × Nat) : Cond := .methodLink (dp_o e.1) e.2.1 (dp_natN e.2.2)
def dp_fieldW (e : Nat × Nat × Nat × Nat) : Cond := .fieldLink (dp_o e.1) e.2.1 (dp_TT e.2.2.1 e.2.2.2).1 (dp_TT e.2.2.1 e.2.2.2).2.1 (dp_TT e.2.2.1 e.2.2.2).2.2.1
def dp_ids : List Nat := List.range 77
def dp_vids : List Nat := [0, 1, 2, 3, 4, 5, 6, 7, 8, 9, 10, 11, 12, 13, 14, 15, 16, 17, 18, 19, 20, 21, 22, 23, 24, 25, 26, 27, 28, 29, 30, 31, 32, 33, 34, 35, 36, 37, 40, 41, 45, 46, 47, 48, 49, 50, 51, 52, 53, 54, 55, 56, 57, 61, 62, 63, 64, 66, 67, 68]
def dp_n1 : List Cond := dp_ids.map dp_kindW ++ (dp_ml.map dp_linkW ++ dp_nl.map dp_linkN)
def dp_n2 : List Cond := dp_fl.map dp_fieldW ++ (dp_vids.map dp_selW ++ (dp_owns.map Cond.initialized ++ (wsX00 ++ (wsX10 ++ (wsX20 ++ (wsX30 ++ (wsX40 ++ wsX50)))))))
def dp_n3 : List Cond := dp_cl.map (fun e => Cond.constantLong (dp_o e.1) e.2.1 e.2.2) ++ (dp_ci.map (fun e => Cond.constant (dp_o e.1) e.2.1 e.2.2) ++ (dp_x0 ++ dp_x1))
def dp_cw0 : List Cond := [.code yX0_copyFrom cX0_copyFrom 2 none, .code yX0_wasSent cX0_wasSent 3 (some .boolean), .code yX0_book cX0_book 4 none, .code yX0_growOlder cX0_growOlder 3 none, .code yX0_receivers cX0_receivers 4 (some .int), .code yX0_sentInAll cX0_sentInAll 3 (some .int), .code yX0_paidInAll cX0_paidInAll 3 (some .int), .code yX1_placeOf cX1_placeOf 4 (some .int), .code yX2_recount cX2_recount 2 none, .code yX2_recountArticle cX2_recountArticle 5 none, .code yX2_stemOfWord cX2_stemOfWord 2 (some .int), .code yX2_rarityOf cX2_rarityOf 3 (some .int), .code yX2_timesOf cX2_timesOf 3 (some .int), .code yX2_scoreOf cX2_scoreOf 9 (some .int), .code yX2_stemsOf cX2_stemsOf 4 (some .int), .code yX2_stemsInAll cX2_stemsInAll 3 (some .int), .code yX2_wordsInAll cX2_wordsInAll 3 (some .int), .code yX3_setStem cX3_setStem 4 (some .int), .code yX3_print cX3_print 1 (some .int), .code yX3_write cX3_write 4 (some .int), .code yX3_strike cX3_strike 4 (some .int), .code yX3_client cX3_client 3 (some .int), .code yX3_want cX3_want 4 (some .int), .code yX3_drop cX3_drop 4 (some .int), .code yX3_setBar cX3_setBar 4 (some .int)]
set_option maxRecDepth 100000 in
set_option maxHeartbeats 4000000 in
theorem dp_cw0_in : dp_cw0 = ([393, 257, 265, 306, 331, 292, 365, 569, 481, 486, 490, 246, 239, 235, 327, 361, 357, 473, 495, 591, 518, 555, 564, 574, 579] : List Nat).filterMap (fun i => lw_tbl[i]?) := rfl
set_option maxRecDepth 100000 in
set_option maxHeartbeats 4000000 in
theorem dp_cw0_is : (List.range' 0 25).map dp_codeW = dp_cw0 := rfl
set_option maxRecDepth 100000 in
theorem dp_cw0_good : dp_cw0.all goodWord = true := by decide +kernel
def dp_cw1 : List Cond := [.code yX3_pay cX3_pay 3 (some .int), .code yX3_send cX3_send 2 (some .int), .code yX3_pass cX3_pass 3 (some .int), .code yX3_told cX3_told 3 (some .int), .code yX3_word cX3_word 3 (some .int), .code yX3_about cX3_about 3 (some .int), .code yX3_stem cX3_stem 3 (some .int), .code yX3_count cX3_count 2 (some .int), .code yX3_rarity cX3_rarity 2 (some .int), .code yX3_score cX3_score 3 (some .int), .code yX3_fit cX3_fit 3 (some .int), .code yX3_until cX3_until 2 (some .int), .code yX3_mean cX3_mean 2 (some .double), .code yX3_checkWord cX3_checkWord 1 none, .code yX3_checkStem cX3_checkStem 1 none, .code yX3_checkArticle cX3_checkArticle 2 none, .code yX3_checkClient cX3_checkClient 2 none, .code yX3_checkPlace cX3_checkPlace 2 none, .code yX3_checkWhat cX3_checkWhat 2 none, .code yX3_checkRounds cX3_checkRounds 1 none, .code yX3_tellOfArticle cX3_tellOfArticle 3 (some .int), .code yX3_tellOfClient cX3_tellOfClient 3 (some .int), .code yX3_tellOfAll cX3_tellOfAll 2 (some .int), .code yX3_scoreFor cX3_scoreFor 4 (some .int), .code yX3_isFit cX3_isFit 5 (some .boolean)]
set_option maxRecDepth 100000 in
set_option maxHeartbeats 4000000 in
theorem dp_cw1_in : dp_cw1 = ([585, 147, 269, 310, 446, 336, 452, 349, 436, 369, 373, 389, 458, 476, 439, 314, 151, 376, 318, 272, 323, 340, 353, 231, 253] : List Nat).filterMap (fun i => lw_tbl[i]?) := rfl
set_option maxRecDepth 100000 in
set_option maxHeartbeats 4000000 in
theorem dp_cw1_is : (List.range' 25 25).map dp_codeW = dp_cw1 := rfl
set_option maxRecDepth 100000 in
theorem dp_cw1_good : dp_cw1.all goodWord = true := by decide +kernel
def dp_cw2 : List Cond := [.code yX3_fitArticles cX3_fitArticles 5 (some .int), .code yX3_bestFit cX3_bestFit 7 (some .int), .code yX3_fitArticleAt cX3_fitArticleAt 5 (some .int), .code yX3_fitArticlesAhead cX3_fitArticlesAhead 8 (some .int), .code yX3_priceFor cX3_priceFor 4 (some .int), .code yX3_sendTo cX3_sendTo 5 (some .int), .code yX3_playRounds cX3_playRounds 5 none, .code yX3_someoneIsShort cX3_someoneIsShort 4 (some .boolean), .code yX3_removeAt cX3_removeAt 4 (some .int), .code yX4_init cX4_init 1 none, .code yX5_init cX5_init 2 none, .code yX5_table cX5_table 7 (some (.array .int)), .code yX5_rarities cX5_rarities 5 (some (.array .int)), .code yX5_score cX5_score 11 (some .int), .code yX5_fits cX5_fits 6 (some (.array .int)), .code yX5_best cX5_best 3 (some .int), .code yX5_send cX5_send 5 (some .int), .code yX5_pass cX5_pass 6 (some .int), .code yX5_isSame cX5_isSame 15 (some .boolean), .code yJ6_bitCount_0f7a4 cJ6_bitCount_0f7a4 1 (some .int), .code yJ7_fill_53178 cJ7_fill_53178 4 none, .code yL_below cL_below 2 (some .int), .code yL_cell cL_cell 2 (some .int), .code yL_more cL_more 4 (some (.array .int)), .code yL_less cL_less 4 (some (.array .int))]
set_option maxRecDepth 100000 in
set_option maxHeartbeats 4000000 in
theorem dp_cw2_in : dp_cw2 = ([345, 227, 381, 385, 261, 223, 302, 400, 521, 527, 600, 416, 412, 420, 408, 423, 404, 427, 432, 295, 84, 461, 465, 560, 514] : List Nat).filterMap (fun i => lw_tbl[i]?) := rfl
set_option maxRecDepth 100000 in
set_option maxHeartbeats 4000000 in
theorem dp_cw2_is : (List.range' 50 25).map dp_codeW = dp_cw2 := rfl
set_option maxRecDepth 100000 in
theorem dp_cw2_good : dp_cw2.all goodWord = true := by decide +kernel
def dp_cw3 : List Cond := [.code yL_act cL_act 18 (some .boolean), .code yL_build cL_build 4 (some (.object "ClipBureauLaw$Sim"))]
set_option maxRecDepth 100000 in
set_option maxHeartbeats 4000000 in
theorem dp_cw3_in : dp_cw3 = ([469, 595] : List Nat).filterMap (fun i => lw_tbl[i]?) := rfl
set_option maxRecDepth 100000 in
set_option maxHeartbeats 4000000 in
theorem dp_cw3_is : (List.range' 75 2).map dp_codeW = dp_cw3 := rfl
set_option maxRecDepth 100000 in
theorem dp_cw3_good : dp_cw3.all goodWord = true := by decide +kernel
set_option maxRecDepth 100000 in
set_option maxHeartbeats 4000000 in
theorem dp_n1_in : dp_n1 = ([391, 255, 263, 304, 329, 290, 363, 567, 479, 485, 489, 244, 237, 233, 325, 359, 355, 471, 493, 589, 516, 553, 562, 572, 577, 583, 145, 267, 308, 444, 334, 450, 347, 434, 367, 371, 387, 456, 475, 438, 313, 150, 375, 317, 271, 322, 339, 352, 230, 252, 344, 226, 380, 384, 260, 222, 301, 399, 520, 526, 599, 414, 410, 418, 406, 422, 402, 425, 430, 294, 83, 460, 464, 559, 513, 468, 594, 82, 144, 148, 220, 224, 228, 232, 236, 243, 250, 254, 258, 262, 266, 270, 289, 293, 299, 303, 307, 311, 316, 320, 324, 328, 332, 333, 337, 341, 342, 346, 350, 354, 358, 362, 366, 370, 374, 378, 382, 386, 390, 397, 401, 405, 409, 413, 417, 421, 424, 428, 429, 433, 437, 441, 442, 443, 447, 448, 449, 453, 454, 455, 459, 463, 467, 470, 474, 478, 482, 483, 487, 492, 512, 515, 519, 552, 558, 561, 566, 571, 576, 582, 588, 593, 598, 40, 48, 80, 106, 240, 247, 394, 528, 581, 587, 601] : List Nat).filterMap (fun i => lw_tbl[i]?) := by decide +kernel
set_option maxRecDepth 100000 in
theorem dp_n1_good : dp_n1.all goodWord = true := by decide +kernel
set_option maxRecDepth 100000 in
set_option maxHeartbeats 4000000 in
theorem dp_n2_in : dp_n2 = ([51, 52, 53, 54, 55, 56, 57, 58, 59, 60, 85, 86, 87, 88, 89, 90, 91, 107, 108, 109, 110, 111, 112, 113, 114, 115, 116, 128, 129, 130, 131, 132, 529, 530, 531, 532, 533, 534, 535, 536, 537, 538, 539, 604, 605, 606, 607, 608, 609, 610, 611, 392, 256, 264, 305, 330, 291, 364, 568, 480, 16, 17, 245, 238, 234, 326, 360, 356, 472, 494, 590, 517, 554, 563, 573, 578, 584, 146, 268, 309, 445, 335, 451, 348, 435, 368, 372, 388, 457, 8, 0, 9, 10, 12, 4, 5, 11, 3, 13, 14, 6, 2, 7, 15, 415, 411, 419, 407, 403, 426, 431, 23, 21, 20, 19, 30, 24, 18, 33, 22, 117, 119, 121, 123, 125, 92, 94, 96, 98, 61, 63, 65, 67, 69, 71, 133, 135, 137, 139, 141, 540, 542, 544, 546, 548, 612, 614, 616, 618, 620] : List Nat).filterMap (fun i => lw_tbl[i]?) := by decide +kernel
set_option maxRecDepth 100000 in
theorem dp_n2_good : dp_n2.all goodWord = true := by decide +kernel
set_option maxRecDepth 100000 in
set_option maxHeartbeats 4000000 in
theorem dp_n3_in : dp_n3 = ([296, 297, 298, 462, 466, 241, 32, 242, 248, 249, 396, 395, 34, 41, 42, 596, 597, 522, 524, 491, 602, 603, 74, 551, 152, 28, 496, 29, 273, 31] : List Nat).filterMap (fun i => lw_tbl[i]?) := rfl
set_option maxRecDepth 100000 in
theorem dp_n3_good : dp_n3.all goodWord = true := by decide +kernel
set_option maxRecDepth 100000 in
set_option maxHeartbeats 4000000 in
theorem dp_x2_in : dp_x2 = ([25, 174, 183, 187, 190, 192, 175, 176, 41, 42, 177, 182, 188, 208, 164, 209, 166, 210, 168, 178, 180, 170, 204, 205, 207, 170, 195, 196, 197, 198, 198, 199, 200, 201, 201, 202, 203, 204, 194, 153, 161, 162, 163, 165, 167, 169, 173, 172, 171, 25, 174, 183, 187, 190, 192, 175, 176, 41, 42, 177, 182, 188, 208, 164, 209, 166, 210, 168, 178, 180, 170, 204, 205, 207, 170, 507, 508, 509, 198, 198, 199, 200, 201, 201, 202, 203, 204, 506, 497, 499, 186, 500, 501, 502, 503, 173, 172, 504, 25, 174, 183, 187, 190, 192, 175, 176, 41, 42, 177, 182, 188, 208, 164, 209, 166, 210, 168, 178, 180, 170, 204, 205, 207, 170, 284, 285, 286, 198, 198, 199, 200, 201, 201, 202, 203, 204, 283, 274, 276, 185, 277, 278, 279, 280, 173, 172, 281] : List Nat).filterMap (fun i => lw_tbl[i]?) := rfl
set_option maxRecDepth 100000 in
theorem dp_x2_good : dp_x2.all goodWord = true := by decide +kernel
end
section
/-! What the tables say of the code, by the kernel. -/
def dp_il : Jvm.ClassFile.Instr → Nat
  | .aload _ | .iload _ | .lload _ | .dload _ | .istore _ | .astore _ | .lstore _ | .dstore _ | .bipush _ | .ldc _ | .newarray _ => 2
  | .sipush _ | .ldc_w _ | .ldc2_w _ | .iinc _ _ | .ifCond _ _ | .if_icmp _ _ | .goto _ | .getfield _ | .putfield _ | .invokevirtual _ | .invokestatic _ | .invokespecial _ | .new _ | .checkcast _ | .anewarray _ | .ifnonnull _ | .ifnull _ => 3
  | _ => 1
def dp_ec : Nat → Nat
  | 197 => 0
  | 54 => 1
  | 81 => 2
  | _ => 99
def dp_npat (tl : List dp_I) (pc i : Nat) : Bool :=
  decide (dp_lk tl (pc + 3) = (.dup, 1)) && (match dp_lk tl (pc + 4) with
    | (.ldc is, 2) => dp_st.any (fun e => e.1 == 3 && e.2.1 == is)
    | _ => false) && decide (dp_lk tl (pc + 6) = (.invokespecial (dp_exc (dp_ec i)), 3)) && decide (dp_lk tl (pc + 9) = (.athrow, 1))
def dp_jok (tl : List dp_I) (mL pc : Nat) : Jvm.ClassFile.Instr → Bool
  | .goto off => decide (0 ≤ (pc : Int) + off)
  | .ifnonnull off => decide (0 ≤ (pc : Int) + off)
  | .ifCond _ off => decide (0 ≤ (pc : Int) + off)
  | .if_icmp _ off => decide (0 ≤ (pc : Int) + off)
  | .tableswitch d lo hi offs => decide (0 ≤ (pc : Int) + d) && offs.toList.all (fun o => decide (0 ≤ (pc : Int) + o)) && decide (hi + 1 = lo + (offs.toList.length : Int))
  | .istore k => decide (k < mL)
  | .astore k => decide (k < mL)
  | .iinc k _ => decide (k < mL)
  | .istore_n k => decide (k.val < mL)
  | .astore_n k => decide (k.val < mL)
  | .lstore k => decide (k + 1 < mL)
  | .dstore k => decide (k + 1 < mL)
  | .lstore_n k => decide (k.val + 1 < mL)
  | .new i => dp_ec i == 99 || dp_npat tl pc i
  | _ => true
def dp_isT : Jvm.ClassFile.Instr → Bool
  | .tableswitch .. => true
  | _ => false
def dp_cke (y : Nat) (e : dp_I) : Bool := decide (decode (dp_by y) e.1 = .ok e.2) && (dp_isT e.2.1 || e.2.2 == dp_il e.2.1) && dp_jok (dp_tl y) (dp_mL y) e.1 e.2.1
def dp_chk (y : Nat) : Bool := (dp_tl y).all (dp_cke y)
set_option maxRecDepth 100000 in
set_option maxHeartbeats 4000000 in
theorem dp_chk_0 : (List.range' 0 25).all dp_chk = true := by decide +kernel
set_option maxRecDepth 100000 in
set_option maxHeartbeats 4000000 in
theorem dp_chk_1 : (List.range' 25 25).all dp_chk = true := by decide +kernel
set_option maxRecDepth 100000 in
set_option maxHeartbeats 4000000 in
theorem dp_chk_2 : (List.range' 50 18).all dp_chk = true := by decide +kernel
set_option maxRecDepth 100000 in
set_option maxHeartbeats 4000000 in
theorem dp_chk_3 : (List.range' 69 6).all dp_chk = true := by decide +kernel
set_option maxRecDepth 100000 in
set_option maxHeartbeats 4000000 in
theorem dp_chk_4 : (List.range' 76 1).all dp_chk = true := by decide +kernel
theorem dp_chl_t {y : Nat} {l : List dp_I} {k : Nat} (h : (l.take k).all (dp_cke y) = true) (h2 : (l.drop k).all (dp_cke y) = true) : l.all (dp_cke y) = true := by
  rw [← List.take_append_drop k l, List.all_append, h, h2]; rfl
theorem dp_chl_d {y : Nat} {l : List dp_I} {a b : Nat} (h : ((l.drop a).take b).all (dp_cke y) = true) (h2 : (l.drop (a + b)).all (dp_cke y) = true) : (l.drop a).all (dp_cke y) = true :=
  dp_chl_t (k := b) h (by rw [List.drop_drop]; exact h2)
set_option maxRecDepth 100000 in
set_option maxHeartbeats 4000000 in
theorem dp_chl_68_0 : (((dp_tl 68).drop 0).take 75).all (dp_cke 68) = true := by decide +kernel
set_option maxRecDepth 100000 in
set_option maxHeartbeats 4000000 in
theorem dp_chl_68_75 : (((dp_tl 68).drop 75).take 75).all (dp_cke 68) = true := by decide +kernel
set_option maxRecDepth 100000 in
set_option maxHeartbeats 4000000 in
theorem dp_chl_68_150 : (((dp_tl 68).drop 150).take 75).all (dp_cke 68) = true := by decide +kernel
set_option maxRecDepth 100000 in
set_option maxHeartbeats 4000000 in
theorem dp_chl_68_225 : (((dp_tl 68).drop 225).take 75).all (dp_cke 68) = true := by decide +kernel
set_option maxRecDepth 100000 in
set_option maxHeartbeats 4000000 in
theorem dp_chl_68_300 : (((dp_tl 68).drop 300).take 75).all (dp_cke 68) = true := by decide +kernel
set_option maxRecDepth 100000 in
set_option maxHeartbeats 4000000 in
theorem dp_chl_68_375 : (((dp_tl 68).drop 375).take 75).all (dp_cke 68) = true := by decide +kernel
set_option maxRecDepth 100000 in
set_option maxHeartbeats 4000000 in
theorem dp_chl_68_e : ((dp_tl 68).drop 450).all (dp_cke 68) = true := by decide +kernel
theorem dp_chkb_68 : dp_chk 68 = true := by
  have h := (dp_chl_d (a := 0) (b := 75) dp_chl_68_0 (dp_chl_d (a := 75) (b := 75) dp_chl_68_75 (dp_chl_d (a := 150) (b := 75) dp_chl_68_150 (dp_chl_d (a := 225) (b := 75) dp_chl_68_225 (dp_chl_d (a := 300) (b := 75) dp_chl_68_300 (dp_chl_d (a := 375) (b := 75) dp_chl_68_375 dp_chl_68_e))))))
  rw [List.drop_zero] at h
  exact h
set_option maxRecDepth 100000 in
set_option maxHeartbeats 4000000 in
theorem dp_chl_75_0 : (((dp_tl 75).drop 0).take 75).all (dp_cke 75) = true := by decide +kernel
set_option maxRecDepth 100000 in
set_option maxHeartbeats 4000000 in
theorem dp_chl_75_75 : (((dp_tl 75).drop 75).take 75).all (dp_cke 75) = true := by decide +kernel
set_option maxRecDepth 100000 in
set_option maxHeartbeats 4000000 in
theorem dp_chl_75_150 : (((dp_tl 75).drop 150).take 75).all (dp_cke 75) = true := by decide +kernel
set_option maxRecDepth 100000 in
set_option maxHeartbeats 4000000 in
theorem dp_chl_75_225 : (((dp_tl 75).drop 225).take 75).all (dp_cke 75) = true := by decide +kernel
set_option maxRecDepth 100000 in
set_option maxHeartbeats 4000000 in
theorem dp_chl_75_300 : (((dp_tl 75).drop 300).take 75).all (dp_cke 75) = true := by decide +kernel
set_option maxRecDepth 100000 in
set_option maxHeartbeats 4000000 in
theorem dp_chl_75_375 : (((dp_tl 75).drop 375).take 75).all (dp_cke 75) = true := by decide +kernel
set_option maxRecDepth 100000 in
set_option maxHeartbeats 4000000 in
theorem dp_chl_75_450 : (((dp_tl 75).drop 450).take 75).all (dp_cke 75) = true := by decide +kernel
set_option maxRecDepth 100000 in
set_option maxHeartbeats 4000000 in
theorem dp_chl_75_e : ((dp_tl 75).drop 525).all (dp_cke 75) = true := by decide +kernel
theorem dp_chkb_75 : dp_chk 75 = true := by
  have h := (dp_chl_d (a := 0) (b := 75) dp_chl_75_0 (dp_chl_d (a := 75) (b := 75) dp_chl_75_75 (dp_chl_d (a := 150) (b := 75) dp_chl_75_150 (dp_chl_d (a := 225) (b := 75) dp_chl_75_225 (dp_chl_d (a := 300) (b := 75) dp_chl_75_300 (dp_chl_d (a := 375) (b := 75) dp_chl_75_375 (dp_chl_d (a := 450) (b := 75) dp_chl_75_450 dp_chl_75_e)))))))
  rw [List.drop_zero] at h
  exact h
set_option maxRecDepth 100000 in
set_option maxHeartbeats 4000000 in
theorem dp_chl_77_0 : (((dp_tl 77).drop 0).take 75).all (dp_cke 77) = true := by decide +kernel
set_option maxRecDepth 100000 in
set_option maxHeartbeats 4000000 in
theorem dp_chl_77_75 : (((dp_tl 77).drop 75).take 75).all (dp_cke 77) = true := by decide +kernel
set_option maxRecDepth 100000 in
set_option maxHeartbeats 4000000 in
theorem dp_chl_77_150 : (((dp_tl 77).drop 150).take 75).all (dp_cke 77) = true := by decide +kernel
set_option maxRecDepth 100000 in
set_option maxHeartbeats 4000000 in
theorem dp_chl_77_225 : (((dp_tl 77).drop 225).take 75).all (dp_cke 77) = true := by decide +kernel
set_option maxRecDepth 100000 in
set_option maxHeartbeats 4000000 in
theorem dp_chl_77_300 : (((dp_tl 77).drop 300).take 75).all (dp_cke 77) = true := by decide +kernel
set_option maxRecDepth 100000 in
set_option maxHeartbeats 4000000 in
theorem dp_chl_77_375 : (((dp_tl 77).drop 375).take 75).all (dp_cke 77) = true := by decide +kernel
set_option maxRecDepth 100000 in
set_option maxHeartbeats 4000000 in
theorem dp_chl_77_450 : (((dp_tl 77).drop 450).take 75).all (dp_cke 77) = true := by decide +kernel
set_option maxRecDepth 100000 in
set_option maxHeartbeats 4000000 in
theorem dp_chl_77_e : ((dp_tl 77).drop 525).all (dp_cke 77) = true := by decide +kernel
theorem dp_chkb_77 : dp_chk 77 = true := by
  have h := (dp_chl_d (a := 0) (b := 75) dp_chl_77_0 (dp_chl_d (a := 75) (b := 75) dp_chl_77_75 (dp_chl_d (a := 150) (b := 75) dp_chl_77_150 (dp_chl_d (a := 225) (b := 75) dp_chl_77_225 (dp_chl_d (a := 300) (b := 75) dp_chl_77_300 (dp_chl_d (a := 375) (b := 75) dp_chl_77_375 (dp_chl_d (a := 450) (b := 75) dp_chl_77_450 dp_chl_77_e)))))))
  rw [List.drop_zero] at h
  exact h
theorem dp_chk_ok {y : Nat} (hy : y < 78) : dp_chk y = true := by
  rcases Nat.lt_or_ge y 25 with h0 | h0
  · exact List.all_eq_true.mp dp_chk_0 y (List.mem_range'_1.mpr (by omega))
  rcases Nat.lt_or_ge y 50 with h1 | h1
  · exact List.all_eq_true.mp dp_chk_1 y (List.mem_range'_1.mpr (by omega))
  rcases Nat.lt_or_ge y 68 with h2 | h2
  · exact List.all_eq_true.mp dp_chk_2 y (List.mem_range'_1.mpr (by omega))
  rcases Nat.lt_or_ge y 69 with h3 | h3
  · rw [show y = 68 by omega]; exact dp_chkb_68
  rcases Nat.lt_or_ge y 75 with h4 | h4
  · exact List.all_eq_true.mp dp_chk_3 y (List.mem_range'_1.mpr (by omega))
  rcases Nat.lt_or_ge y 76 with h5 | h5
  · rw [show y = 75 by omega]; exact dp_chkb_75
  rcases Nat.lt_or_ge y 77 with h6 | h6
  · exact List.all_eq_true.mp dp_chk_4 y (List.mem_range'_1.mpr (by omega))
  · rw [show y = 77 by omega]; exact dp_chkb_77
theorem dp_lk_or : ∀ (tl : List dp_I) (pc : Nat), dp_lk tl pc = (.nop, 0) ∨ (pc, dp_lk tl pc) ∈ tl
  | [], _ => Or.inl rfl
  | (a, i) :: t, pc => by
    unfold dp_lk
    by_cases h : a = pc
    · rw [if_pos h, h]
      exact Or.inr List.mem_cons_self
    · rw [if_neg h]
      rcases dp_lk_or t pc with h | h
      · exact Or.inl h
      · exact Or.inr (List.mem_cons_of_mem _ h)
theorem dp_dec {y : Nat} (hy : y < 78) (pc : Nat) : dp_tab y pc = (.nop, 0) ∨ (decode (dp_by y) pc = .ok (dp_tab y pc) ∧ (dp_isT (dp_tab y pc).1 = true ∨ (dp_tab y pc).2 = dp_il (dp_tab y pc).1) ∧ dp_jok (dp_tl y) (dp_mL y) pc (dp_tab y pc).1 = true) := by
  rcases dp_lk_or (dp_tl y) pc with h | h
  · exact Or.inl h
  · have h1 := List.all_eq_true.mp (dp_chk_ok hy) _ h
    simp only [dp_cke, Bool.and_eq_true, decide_eq_true_eq, Bool.or_eq_true, beq_iff_eq] at h1
    exact Or.inr ⟨h1.1.1, h1.1.2, h1.2⟩
end
section
/-! A deep semantics of the claim's own methods over a memory of ints by handles: what a method does, as a predicate transformer, with no machine in it. Part 04 shows it sound over the machine. -/
abbrev dp_M : Type := Nat → Nat → Int32
abbrev dp_L : Type := List (Option Value)
abbrev dp_R : Type := Option Value ⊕ Nat
/-- what is made while it runs: an object (kind, fields), an array of ints (or, where the sign is true, of truth values), an array of references (to int arrays; true: to clients) -/
abbrev dp_Ce : Type := (Nat × List Value) ⊕ (Bool × Nat × (Nat → Int32)) ⊕ (Bool × Nat × (Nat → Option Nat))
/-- the cells made, by handle; a handle is 10000 and the address -/
abbrev dp_O : Type := Nat → Option dp_Ce
abbrev dp_Q : Type := dp_R → dp_M → dp_O → Prop
abbrev dp_K : Type := Nat → dp_L → List Value → Nat → Nat → Nat → dp_M → dp_O → Prop
abbrev dp_X : Type := Nat × (Nat → Int32)
abbrev dp_C : Type := Nat → List Value → Nat → dp_M → dp_O → dp_Q → Prop
def dp_up (M : dp_M) (h k : Nat) (x : Int32) : dp_M := fun a j => if a = h ∧ j = k then x else M a j
def dp_ou (o : dp_O) (h : Nat) (c : dp_Ce) : dp_O := fun a => if a = h then some c else o a
def dp_row (M : dp_M) (h : Nat) (f : Nat → Int32) : dp_M := fun a j => if a = h then f j else M a j
/-- the objects: their kind (by vwCl) and fields -/
def dp_obj (M : dp_M) : Nat → Option (Nat × List Value)
  | 0 => some (3, [.ref 1, .ref 2, .ref 3, .ref 4, .ref 5])
  | 1 => some (2, [.ref 6, .ref 7, .ref 8, .ref 9, .ref 10, .int (M 1 5)])
  | 2 => some (1, [.ref 11, .ref 12, .ref 13, .int (M 2 3)])
  | 3 => some (0, [.ref 14, .ref 15, .ref 16, .ref 17, .int (M 3 4)])
  | 4 => some (0, [.ref 18, .ref 19, .ref 20, .ref 21, .int (M 4 4)])
  | _ => none
def dp_isA (h : Nat) : Bool := !(h == 0 || h == 1 || h == 2 || h == 3 || h == 4 || h == 22 || h == 7 || h == 9 || h == 11 || h == 26 || h == 23 || h == 24 || h == 25)
def dp_len (h : Nat) : Nat :=
  if h < 27 then (if h = 5 then 5 else if h = 6 ∨ h = 23 then 40 else if h = 8 ∨ h = 14 ∨ h = 18 then 16 else if h = 10 then 20 else if h = 24 then 224 else if h = 25 then 60 else 6)
  else if h < 43 then 12 else if h < 59 then 20 else if h < 65 then 5 else if h = 65 then 224 else 60
-- readers of stacks and locals
def dp_p1 (st : List Value) (f : Value → List Value → Prop) : Prop := match st with
  | v :: r => f v r
  | _ => False
def dp_pi (st : List Value) (f : Int32 → List Value → Prop) : Prop := match st with
  | .int x :: r => f x r
  | _ => False
def dp_pj (st : List Value) (f : Int64 → List Value → Prop) : Prop := match st with
  | .long x :: r => f x r
  | _ => False
def dp_pd (st : List Value) (f : UInt64 → List Value → Prop) : Prop := match st with
  | .double x :: r => f x r
  | _ => False
def dp_pr (st : List Value) (f : Nat → List Value → Prop) : Prop := match st with
  | .ref x :: r => f x r
  | _ => False
def dp_gt : dp_L → Nat → Option Value
  | [], _ => none
  | a :: _, 0 => a
  | _ :: t, i + 1 => dp_gt t i
def dp_li (L : dp_L) (i : Nat) (f : Int32 → Prop) : Prop := match dp_gt L i with
  | some (.int x) => f x
  | _ => False
def dp_lj (L : dp_L) (i : Nat) (f : Int64 → Prop) : Prop := match dp_gt L i with
  | some (.long x) => f x
  | _ => False
def dp_ld (L : dp_L) (i : Nat) (f : UInt64 → Prop) : Prop := match dp_gt L i with
  | some (.double x) => f x
  | _ => False
def dp_lr (L : dp_L) (i : Nat) (f : Nat → Prop) : Prop := match dp_gt L i with
  | some (.ref x) => f x
  | _ => False
def dp_c2 : Option Value → Option Value
  | some (.long _) => none
  | some (.double _) => none
  | a => a
/-- store a value of one slot -/
def dp_s1 : dp_L → Nat → Value → dp_L
  | [], _, _ => []
  | _ :: t, 0, v => some v :: t
  | a :: t, 1, v => dp_c2 a :: dp_s1 t 0 v
  | a :: t, i + 2, v => a :: dp_s1 t (i + 1) v
/-- store a value of two slots -/
def dp_h0 : dp_L → dp_L
  | [] => []
  | _ :: t => none :: t
def dp_s2 : dp_L → Nat → Value → dp_L
  | [], _, _ => []
  | _ :: t, 0, v => some v :: dp_h0 t
  | a :: t, 1, v => dp_c2 a :: dp_s2 t 0 v
  | a :: t, i + 2, v => a :: dp_s2 t (i + 1) v
def dp_msk : List Bool → dp_L → dp_L
  | _, [] => []
  | [], t => t
  | b :: bs, a :: t => (if b then a else none) :: dp_msk bs t
def dp_f4 (k : Fin 4) : Nat := k.val
def dp_kI (n : Int) : Int32 := Int32.ofInt n
def dp_kB (n : Int) : Int32 := (Int8.ofInt n).toInt32
def dp_kS (n : Int) : Int32 := (Int16.ofInt n).toInt32
def dp_jt (pc : Nat) (off : Int) : Nat := ((pc : Int) + off).toNat
def dp_br (p A B : Prop) : Prop := (p → A) ∧ (¬ p → B)
def dp_lo {α : Type} : List (Nat × Nat × α) → Nat → Nat → Option α
  | [], _, _ => none
  | (a, b, x) :: t, o, i => if a = o ∧ b = i then some x else dp_lo t o i
def dp_fld (o i : Nat) : Option (Nat × Nat) := dp_lo (dp_fl.map fun e => (e.1, e.2.1, e.2.2)) o i
def dp_iv (o i : Nat) : Option (Nat × Nat × Nat × Nat × Bool × Nat × Nat) := (dp_lo dp_ml o i).map fun z => (z, dp_na z, dp_mc z, dp_ms z, dp_sta z, dp_ow z, dp_mL z)
/-- the slots of arguments -/
def dp_asz : List Value → Nat
  | [] => 0
  | .long _ :: t => dp_asz t + 2
  | .double _ :: t => dp_asz t + 2
  | _ :: t => dp_asz t + 1
def dp_nat (o i : Nat) : Option Nat := dp_lo dp_nl o i
def dp_gtv : List Value → Nat → Option Value
  | [], _ => none
  | a :: _, 0 => some a
  | _ :: t, i + 1 => dp_gtv t i
def dp_get (M : dp_M) (h : Nat) (e : Option (Nat × Nat)) (f : Value → Prop) : Prop := match e with
  | some (ci, k) => (match dp_obj M h with
    | some q => q.1 = ci ∧ (match dp_gtv q.2 k with
      | some v => f v
      | none => False)
    | none => False)
  | none => False
def dp_put (M : dp_M) (h : Nat) (e : Option (Nat × Nat)) (f : Nat → Prop) : Prop := match e with
  | some (ci, k) => (match dp_obj M h with
    | some q => q.1 = ci ∧ (match dp_gtv q.2 k with
      | some (.int _) => f k
      | _ => False)
    | none => False)
  | none => False
def dp_ald (X : dp_X) (n : Nat) (M : dp_M) (o : dp_O) (h : Nat) (i : Int32) (f : Int32 → Prop) : Prop := (h = 1000 ∧ vp_in i X.1 ∧ f (X.2 i.toNatClampNeg)) ∨ (h ≠ 1000 ∧ dp_isA h = true ∧ h < n ∧ vp_in i (dp_len h) ∧ f (M h i.toNatClampNeg)) ∨ (∃ m g, o h = some (.inr (.inl (false, m, g))) ∧ vp_in i m ∧ f (g i.toNatClampNeg))
def dp_cln' : dp_Ce → Option Nat
  | .inl _ => none
  | .inr (.inl (_, m, _)) => some m
  | .inr (.inr (_, m, _)) => some m
def dp_aln (X : dp_X) (n : Nat) (o : dp_O) (h : Nat) (f : Nat → Prop) : Prop := (h = 1000 ∧ f X.1) ∨ (h ≠ 1000 ∧ dp_isA h = true ∧ h < n ∧ f (dp_len h)) ∨ (∃ c m, o h = some c ∧ dp_cln' c = some m ∧ f m)
def dp_aal (h : Nat) (i : Int32) (f : Nat → Prop) : Prop := match h with
  | 7 => vp_in i 16 ∧ f (27 + i.toNatClampNeg)
  | 9 => vp_in i 16 ∧ f (43 + i.toNatClampNeg)
  | 11 => vp_in i 6 ∧ f (59 + i.toNatClampNeg)
  | _ => False
def dp_take : Nat → List Value → List Value → (List Value → List Value → Prop) → Prop
  | 0, st, acc, f => f acc st
  | _ + 1, [], _, _ => False
  | k + 1, v :: st, acc, f => dp_take k st (v :: acc) f
def dp_hdl (y : Nat) (Q : dp_Q) (E c q : Nat) (M : dp_M) (o : dp_O) : Prop := Q (.inr E) M o ∧ c ≤ dp_mc y ∧ q ≤ dp_ms y
/-- behind a call -/
def dp_aft (y : Nat) (Q : dp_Q) (K : dp_K) (pc : Nat) (L : dp_L) (r : List Value) (n c q : Nat) : dp_Q := fun res M o => match res with
  | .inl none => K (pc + 3) L r n c q M o
  | .inl (some v) => K (pc + 3) L (v :: r) n c q M o
  | .inr E => dp_hdl y Q E c q M o
/-- the receiver of a call -/
def dp_rcv (n : Nat) (M : dp_M) (o : dp_O) (as : List Value) (w : Nat) : Prop := match as with
  | .ref h :: _ => (h < n ∧ (match dp_obj M h with
    | some q => q.1 = w
    | none => False)) ∨ (∃ fs, o h = some (.inl (w, fs)))
  | _ => False
/-- no constructor -/
def dp_nin (z : Nat) : Bool := !(z == 59 || z == 60)
/-- locals of the methods with many -/
def dp_xl (y : Nat) : Nat := if y = 77 then 38 else if y = 76 then 7 else 0
def dp_inv (call : dp_C) (y : Nat) (Q : dp_Q) (K : dp_K) (pc : Nat) (L : dp_L) (st : List Value) (n c q : Nat) (M : dp_M) (o : dp_O) (s : Bool) : Option (Nat × Nat × Nat × Nat × Bool × Nat × Nat) → Prop
  | some (z, na, mc, ms, sta, ow, mL) => dp_take na st [] fun as r => sta = s ∧ 65 ≤ n ∧ dp_asz as ≤ mL ∧ mL + dp_xl z ≤ 11 + dp_xl y ∧ r.length ≤ 4 ∧ c + mc ≤ dp_mc y ∧ q + ms ≤ dp_ms y ∧ (s = true ∨ (dp_rcv n M o as ow ∧ dp_nin z = true)) ∧ call z as n M o (dp_aft y Q K pc L r n (c + mc) (q + ms))
  | none => False
/-- a constructor's call -/
def dp_ins (call : dp_C) (y : Nat) (Q : dp_Q) (K : dp_K) (pc : Nat) (L : dp_L) (st : List Value) (n c q : Nat) (M : dp_M) (o : dp_O) : Option (Nat × Nat × Nat × Nat × Bool × Nat × Nat) → Prop
  | some (z, na, mc, ms, _, ow, mL) => dp_take na st [] fun as r => (z = 59 ∨ z = 60) ∧ 65 ≤ n ∧ dp_asz as ≤ mL ∧ mL + dp_xl z ≤ 11 + dp_xl y ∧ r.length ≤ 4 ∧ c + mc ≤ dp_mc y ∧ q + ms ≤ dp_ms y ∧ dp_rcv n M o as ow ∧ call z as n M o (dp_aft y Q K pc L r n (c + mc) (q + ms))
  | none => False
/-- the call of a nest mate's private constructor -/
def dp_ivN (o i : Nat) : Option (Nat × Nat × Nat × Nat × Bool × Nat × Nat) := if o = 6 ∧ i = 48 then some (59, dp_na 59, dp_mc 59, dp_ms 59, dp_sta 59, dp_ow 59, dp_mL 59) else none
def dp_cpyr (n : Nat) (M : dp_M) (h1 h2 : Nat) (sp dp k : Int32) (P : Prop) : Prop := dp_isA h1 = true ∧ dp_isA h2 = true ∧ h1 < n ∧ h2 < n ∧ ¬ sp < 0 ∧ ¬ dp < 0 ∧ ¬ k < 0 ∧ sp.toNatClampNeg + k.toNatClampNeg ≤ dp_len h1 ∧ dp.toNatClampNeg + k.toNatClampNeg ≤ dp_len h2 ∧ P
def dp_natw (y : Nat) (K : dp_K) (pc : Nat) (L : dp_L) (st : List Value) (n c q : Nat) (M : dp_M) (o : dp_O) : Option Nat → Prop
  | some 200 => dp_pi st fun b r => dp_pi r fun a r => r.length ≤ 4 ∧ c ≤ dp_mc y ∧ q ≤ dp_ms y ∧ K (pc + 3) L (.int (if b < a then b else a) :: r) n c q M o
  | some 201 => dp_pi st fun b r => dp_pi r fun a r => r.length ≤ 4 ∧ c ≤ dp_mc y ∧ q ≤ dp_ms y ∧ K (pc + 3) L (.int (if a < b then b else a) :: r) n c q M o
  | some 202 => dp_pi st fun k r => dp_pi r fun dp r => dp_pr r fun h2 r => dp_pi r fun sp r => dp_pr r fun h1 r => r.length ≤ 4 ∧ dp_cpyr n M h1 h2 sp dp k (K (pc + 3) L r n c q (dp_row M h2 (va_cpy (M h1) (M h2) sp.toNatClampNeg dp.toNatClampNeg k.toNatClampNeg)) o)
  | _ => False
def dp_ts (x : Int32) : Int → List Int → (Int → Prop) → Prop
  | _, [], _ => True
  | lo, o :: t, F => (x.toInt = lo → F o) ∧ dp_ts x (lo + 1) t F
def dp_thr (d y : Nat) (Q : dp_Q) (st : List Value) (c q : Nat) (M : dp_M) (o : dp_O) (E : Nat) : Prop := 6 ≤ d ∧ st.length ≤ 4 ∧ c + 1 ≤ dp_mc y ∧ q + 6 ≤ dp_ms y ∧ Q (.inr E) M o
def dp_new (i : Nat) (f : Nat → Prop) : Prop := match i with
  | 197 => f 0
  | 54 => f 1
  | 81 => f 2
  | _ => False
/-- classes made by the law: kind, by owner and index -/
def dp_nw (o i : Nat) : Option Nat := if o = 6 ∧ i = 10 then some 5 else if o = 6 ∧ i = 46 then some 4 else none
def dp_df : Nat → List Value
  | 4 => [.int 0, .int 0, .int 0, .null, .null]
  | _ => [.null, .null, .null, .null, .int 0]
/-- arrays of references made: false of int arrays, true of clients -/
def dp_an (o i : Nat) : Option Bool := if o = 6 ∧ i = 34 then some false else if o = 6 ∧ i = 46 then some true else if o = 5 ∧ i = 13 then some false else if o = 5 ∧ i = 21 then some true else none
/-- fields of ints -/
def dp_ft : Nat → Nat → Bool
  | 4, k => decide (k < 3)
  | _, k => decide (k = 4)
def dp_fv (b : Bool) (v : Value) : Prop := match v with
  | .int _ => b = true
  | .ref _ => b = false
  | _ => False
def dp_nty (t : ArrayType) : Option Bool := match t with
  | .int => some false
  | .boolean => some true
  | _ => none
/-- what may stand in an array of references -/
def dp_el (o : dp_O) (b : Bool) (v : Nat) : Prop := (b = false ∧ ∃ m g, o v = some (.inr (.inl (false, m, g)))) ∨ (b = true ∧ ∃ fs, o v = some (.inl (4, fs)))
def dp_rz (k : Nat) (x : Int32) : Prop := match k with
  | 1 => True
  | 4 => x = 0 ∨ x = 1
  | _ => False
def dp_opt {α : Type} (e : Option α) (f : α → Prop) : Prop := match e with
  | some v => f v
  | none => False
/-- one instruction -/
def dp_wp (X : dp_X) (call : dp_C) (d y : Nat) (Q : dp_Q) (K : dp_K) (pc : Nat) (L : dp_L) (st : List Value) (n c q : Nat) (M : dp_M) (o : dp_O) : Jvm.ClassFile.Instr → Prop
  | .aload_n k => dp_lr L (dp_f4 k) fun h => K (pc + 1) L (.ref h :: st) n c q M o
  | .aload k => dp_lr L k fun h => K (pc + 2) L (.ref h :: st) n c q M o
  | .iload_n k => dp_li L (dp_f4 k) fun x => K (pc + 1) L (.int x :: st) n c q M o
  | .iload k => dp_li L k fun x => K (pc + 2) L (.int x :: st) n c q M o
  | .lload_n k => dp_lj L (dp_f4 k) fun x => K (pc + 1) L (.long x :: st) n c q M o
  | .lload k => dp_lj L k fun x => K (pc + 2) L (.long x :: st) n c q M o
  | .dload k => dp_ld L k fun x => K (pc + 2) L (.double x :: st) n c q M o
  | .iconst v => K (pc + 1) L (.int (dp_kI v) :: st) n c q M o
  | .bipush v => K (pc + 2) L (.int (dp_kB v) :: st) n c q M o
  | .sipush v => K (pc + 3) L (.int (dp_kS v) :: st) n c q M o
  | .ldc i => dp_opt (dp_lo dp_ci (dp_ow y) i) fun v => K (pc + 2) L (.int v :: st) n c q M o
  | .ldc_w i => dp_opt (dp_lo dp_ci (dp_ow y) i) fun v => K (pc + 3) L (.int v :: st) n c q M o
  | .dconst v => v = 0 ∧ K (pc + 1) L (.double FP.dconst0 :: st) n c q M o
  | .istore_n k => dp_pi st fun x r => K (pc + 1) (dp_s1 L (dp_f4 k) (.int x)) r n c q M o
  | .istore k => dp_pi st fun x r => K (pc + 2) (dp_s1 L k (.int x)) r n c q M o
  | .lstore_n k => dp_pj st fun x r => K (pc + 1) (dp_s2 L (dp_f4 k) (.long x)) r n c q M o
  | .lstore k => dp_pj st fun x r => K (pc + 2) (dp_s2 L k (.long x)) r n c q M o
  | .dstore k => dp_pd st fun x r => K (pc + 2) (dp_s2 L k (.double x)) r n c q M o
  | .astore_n k => dp_pr st fun x r => K (pc + 1) (dp_s1 L (dp_f4 k) (.ref x)) r n c q M o
  | .astore k => dp_pr st fun x r => K (pc + 2) (dp_s1 L k (.ref x)) r n c q M o
  | .iinc i v => dp_li L i fun x => K (pc + 3) (dp_s1 L i (.int (x + dp_kI v))) st n c q M o
  | .iadd => dp_pi st fun b r => dp_pi r fun a r => K (pc + 1) L (.int (a + b) :: r) n c q M o
  | .isub => dp_pi st fun b r => dp_pi r fun a r => K (pc + 1) L (.int (a - b) :: r) n c q M o
  | .irem => dp_pi st fun b r => dp_pi r fun a r => ¬ b = 0 ∧ K (pc + 1) L (.int (a - a / b * b) :: r) n c q M o
  | .imul => dp_pi st fun b r => dp_pi r fun a r => K (pc + 1) L (.int (a * b) :: r) n c q M o
  | .idiv => dp_pi st fun b r => dp_pi r fun a r => ¬ b = 0 ∧ K (pc + 1) L (.int (a / b) :: r) n c q M o
  | .iand => dp_pi st fun b r => dp_pi r fun a r => K (pc + 1) L (.int (a &&& b) :: r) n c q M o
  | .ior => dp_pi st fun b r => dp_pi r fun a r => K (pc + 1) L (.int (a ||| b) :: r) n c q M o
  | .ishl => dp_pi st fun b r => dp_pi r fun a r => K (pc + 1) L (.int (a <<< (b &&& 31)) :: r) n c q M o
  | .ishr => dp_pi st fun b r => dp_pi r fun a r => K (pc + 1) L (.int (a >>> (b &&& 31)) :: r) n c q M o
  | .iushr => dp_pi st fun b r => dp_pi r fun a r => K (pc + 1) L (.int (a.toUInt32 >>> (b.toUInt32 &&& Int32.toUInt32 31)).toInt32 :: r) n c q M o
  | .i2l => dp_pi st fun a r => K (pc + 1) L (.long a.toInt64 :: r) n c q M o
  | .i2d => dp_pi st fun a r => K (pc + 1) L (.double (FP.i2d a) :: r) n c q M o
  | .ladd => dp_pj st fun b r => dp_pj r fun a r => K (pc + 1) L (.long (a + b) :: r) n c q M o
  | .lmul => dp_pj st fun b r => dp_pj r fun a r => K (pc + 1) L (.long (a * b) :: r) n c q M o
  | .lcmp => dp_pj st fun b r => dp_pj r fun a r => K (pc + 1) L (.int (lg_cmp a b) :: r) n c q M o
  | .ddiv => dp_pd st fun b r => dp_pd r fun a r => vf_n64 (FP.ddiv a b) ∧ K (pc + 1) L (.double (FP.ddiv a b) :: r) n c q M o
  | .dcmp e => dp_pd st fun b r => dp_pd r fun a r => K (pc + 1) L (.int (Op.cmpValue (FP.dcmp a b) e) :: r) n c q M o
  | .ifCond .eq off => dp_pi st fun x r => dp_br (x = 0) (K (dp_jt pc off) L r n c q M o) (K (pc + 3) L r n c q M o)
  | .ifCond .ne off => dp_pi st fun x r => dp_br (x = 0) (K (pc + 3) L r n c q M o) (K (dp_jt pc off) L r n c q M o)
  | .ifCond .lt off => dp_pi st fun x r => dp_br (x < 0) (K (dp_jt pc off) L r n c q M o) (K (pc + 3) L r n c q M o)
  | .ifCond .ge off => dp_pi st fun x r => dp_br (x < 0) (K (pc + 3) L r n c q M o) (K (dp_jt pc off) L r n c q M o)
  | .ifCond .gt off => dp_pi st fun x r => dp_br (0 < x) (K (dp_jt pc off) L r n c q M o) (K (pc + 3) L r n c q M o)
  | .ifCond .le off => dp_pi st fun x r => dp_br (0 < x) (K (pc + 3) L r n c q M o) (K (dp_jt pc off) L r n c q M o)
  | .if_icmp .eq off => dp_pi st fun b r => dp_pi r fun a r => dp_br (a = b) (K (dp_jt pc off) L r n c q M o) (K (pc + 3) L r n c q M o)
  | .if_icmp .ne off => dp_pi st fun b r => dp_pi r fun a r => dp_br (a = b) (K (pc + 3) L r n c q M o) (K (dp_jt pc off) L r n c q M o)
  | .if_icmp .lt off => dp_pi st fun b r => dp_pi r fun a r => dp_br (a < b) (K (dp_jt pc off) L r n c q M o) (K (pc + 3) L r n c q M o)
  | .if_icmp .ge off => dp_pi st fun b r => dp_pi r fun a r => dp_br (a < b) (K (pc + 3) L r n c q M o) (K (dp_jt pc off) L r n c q M o)
  | .if_icmp .gt off => dp_pi st fun b r => dp_pi r fun a r => dp_br (b < a) (K (dp_jt pc off) L r n c q M o) (K (pc + 3) L r n c q M o)
  | .if_icmp .le off => dp_pi st fun b r => dp_pi r fun a r => dp_br (b < a) (K (pc + 3) L r n c q M o) (K (dp_jt pc off) L r n c q M o)
  | .goto off => K (dp_jt pc off) L st n c q M o
  | .tableswitch dflt lo hi offs => dp_pi st fun x r => (x.toInt < lo ∨ hi < x.toInt → K (dp_jt pc dflt) L r n c q M o) ∧ dp_ts x lo offs.toList fun off => K (dp_jt pc off) L r n c q M o
  | .getfield i => dp_pr st fun h r => (h < n ∧ dp_get M h (dp_fld (dp_ow y) i) fun v => K (pc + 3) L (v :: r) n c q M o) ∨ (∃ ci k fs v, dp_fld (dp_ow y) i = some (ci, k) ∧ o h = some (.inl (ci, fs)) ∧ dp_gtv fs k = some v ∧ K (pc + 3) L (v :: r) n c q M o)
  | .putfield i => (dp_pi st fun x r => dp_pr r fun h r => h < n ∧ dp_put M h (dp_fld (dp_ow y) i) fun k => K (pc + 3) L r n c q (dp_up M h k x) o) ∨ (dp_p1 st fun v r => dp_pr r fun h r => ∃ ci k fs, dp_fld (dp_ow y) i = some (ci, k) ∧ (ci = 4 ∨ ci = 5) ∧ o h = some (.inl (ci, fs)) ∧ k < fs.length ∧ dp_fv (dp_ft ci k) v ∧ K (pc + 3) L r n c q M (dp_ou o h (.inl (ci, fs.set k v))))
  | .iaload => dp_pi st fun i r => dp_pr r fun h r => dp_ald X n M o h i fun x => K (pc + 1) L (.int x :: r) n c q M o
  | .iastore => dp_pi st fun x r => dp_pi r fun i r => dp_pr r fun h r => (dp_isA h = true ∧ h < n ∧ vp_in i (dp_len h) ∧ K (pc + 1) L r n c q (dp_up M h i.toNatClampNeg x) o) ∨ (∃ m g, o h = some (.inr (.inl (false, m, g))) ∧ vp_in i m ∧ K (pc + 1) L r n c q M (dp_ou o h (.inr (.inl (false, m, upd g i.toNatClampNeg x)))))
  | .baload => dp_pi st fun i r => dp_pr r fun h r => ∃ m g, o h = some (.inr (.inl (true, m, g))) ∧ vp_in i m ∧ K (pc + 1) L (.int (g i.toNatClampNeg) :: r) n c q M o
  | .bastore => dp_pi st fun x r => dp_pi r fun i r => dp_pr r fun h r => ∃ m g, o h = some (.inr (.inl (true, m, g))) ∧ vp_in i m ∧ K (pc + 1) L r n c q M (dp_ou o h (.inr (.inl (true, m, upd g i.toNatClampNeg (vp_nar .boolean x)))))
  | .aastore => dp_pr st fun v r => dp_pi r fun i r => dp_pr r fun h r => ∃ b m g, o h = some (.inr (.inr (b, m, g))) ∧ vp_in i m ∧ dp_el o b v ∧ K (pc + 1) L r n c q M (dp_ou o h (.inr (.inr (b, m, fun j => if j = i.toNatClampNeg then some v else g j))))
  | .newarray ty => dp_pi st fun k r => dp_opt (dp_nty ty) fun b => ¬ k < 0 ∧ k.toNatClampNeg ≤ 1000 ∧ c + 1 ≤ dp_mc y ∧ q + k.toNatClampNeg ≤ dp_ms y ∧ ∀ a : Nat, o (10000 + a) = none → K (pc + 2) L (.ref (10000 + a) :: r) n (c + 1) (q + k.toNatClampNeg) M (dp_ou o (10000 + a) (.inr (.inl (b, k.toNatClampNeg, fun _ => 0))))
  | .anewarray i => dp_pi st fun k r => dp_opt (dp_an (dp_ow y) i) fun b => ¬ k < 0 ∧ k.toNatClampNeg ≤ 1000 ∧ c + 1 ≤ dp_mc y ∧ q + k.toNatClampNeg ≤ dp_ms y ∧ ∀ a : Nat, o (10000 + a) = none → K (pc + 3) L (.ref (10000 + a) :: r) n (c + 1) (q + k.toNatClampNeg) M (dp_ou o (10000 + a) (.inr (.inr (b, k.toNatClampNeg, fun _ => none))))
  | .ifnonnull off => dp_pr st fun _ r => K (dp_jt pc off) L r n c q M o
  | .areturn => dp_pr st fun h r => r = [] ∧ (dp_rk y = 5 ∨ dp_rk y = 6) ∧ c ≤ dp_mc y ∧ q ≤ dp_ms y ∧ Q (.inl (some (.ref h))) M o
  | .invokespecial i => dp_ins call y Q K pc L st n c q M o (dp_iv (dp_ow y) i) ∨ dp_ins call y Q K pc L st n c q M o (dp_ivN (dp_ow y) i) ∨ (dp_nat (dp_ow y) i = some 210 ∧ dp_pr st fun _ r => r.length ≤ 4 ∧ K (pc + 3) L r n c q M o)
  | .aaload => dp_pi st fun i r => dp_pr r fun h r => (h < n ∧ dp_aal h i fun a => K (pc + 1) L (.ref a :: r) n c q M o) ∨ (∃ b m g a, o h = some (.inr (.inr (b, m, g))) ∧ vp_in i m ∧ g i.toNatClampNeg = some a ∧ K (pc + 1) L (.ref a :: r) n c q M o)
  | .arraylength => dp_pr st fun h r => dp_aln X n o h fun k => K (pc + 1) L (.int (nI k) :: r) n c q M o
  | .dup => dp_p1 st fun v r => v.category = 1 ∧ K (pc + 1) L (v :: v :: r) n c q M o
  | .dup2 => dp_p1 st fun v r => dp_p1 r fun w r => v.category = 1 ∧ w.category = 1 ∧ K (pc + 1) L (v :: w :: v :: w :: r) n c q M o
  | .pop => dp_p1 st fun v r => v.category = 1 ∧ K (pc + 1) L r n c q M o
  | .return_ => st = [] ∧ dp_rk y = 0 ∧ c ≤ dp_mc y ∧ q ≤ dp_ms y ∧ Q (.inl none) M o
  | .ireturn => dp_pi st fun x r => r = [] ∧ dp_rz (dp_rk y) x ∧ c ≤ dp_mc y ∧ q ≤ dp_ms y ∧ Q (.inl (some (.int x))) M o
  | .lreturn => dp_pj st fun x r => r = [] ∧ dp_rk y = 2 ∧ c ≤ dp_mc y ∧ q ≤ dp_ms y ∧ Q (.inl (some (.long x))) M o
  | .dreturn => dp_pd st fun x r => r = [] ∧ dp_rk y = 3 ∧ c ≤ dp_mc y ∧ q ≤ dp_ms y ∧ Q (.inl (some (.double x))) M o
  | .invokevirtual i => dp_inv call y Q K pc L st n c q M o false (dp_iv (dp_ow y) i)
  | .invokestatic i => dp_inv call y Q K pc L st n c q M o true (dp_iv (dp_ow y) i) ∨ dp_natw y K pc L st n c q M o (dp_nat (dp_ow y) i)
  | .new i => (dp_ow y = 3 ∧ dp_new i fun E => dp_thr d y Q st c q M o E) ∨ dp_opt (dp_nw (dp_ow y) i) fun ci => c + 1 ≤ dp_mc y ∧ q + 5 ≤ dp_ms y ∧ ∀ a : Nat, o (10000 + a) = none → K (pc + 3) L (.ref (10000 + a) :: st) n (c + 1) (q + 5) M (dp_ou o (10000 + a) (.inl (ci, dp_df ci)))
  | _ => False
/-- K is closed under a method's instructions, and under forgetting of locals -/
def dp_clo (X : dp_X) (call : dp_C) (d y : Nat) (Q : dp_Q) (K : dp_K) : Prop :=
  (∀ pc L st n c q M o, dp_wp X call d y Q K pc L st n c q M o (dp_tab y pc).1 → K pc L st n c q M o) ∧ (∀ b pc L st n c q M o, K pc (dp_msk b L) st n c q M o → K pc L st n c q M o) ∧ (∀ pc L st n c q c' q' M o, c ≤ c' → q ≤ q' → K pc L st n c' q' M o → K pc L st n c q M o)
def dp_args : Nat → List Value → dp_L
  | m, [] => List.replicate m none
  | m, .long x :: t => some (.long x) :: none :: dp_args (m - 2) t
  | m, .double x :: t => some (.double x) :: none :: dp_args (m - 2) t
  | m, v :: t => some v :: dp_args (m - 1) t
/-- what a method does, with calls at most d deep -/
def dp_run (X : dp_X) : Nat → dp_C
  | 0 => fun _ _ _ _ _ _ => False
  | d + 1 => fun y as n M o Q => ∀ K : dp_K, dp_clo X (dp_run X d) (d + 1) y Q K → K 0 (dp_args (dp_mL y) as) [] n 0 0 M o
end
section
/-! The world: the claim's cells by handles, over the heap; and what is fixed around it. -/
abbrev dp_G : Type := va_G × ClassId × ClassId × ClassId × ClassId
abbrev T3 (g : dp_G) : List (ClassId × FieldType) := [(g.2.1, .int), (g.2.2.1, .boolean), (g.2.2.2.1, .array .int), (g.2.2.2.2, .object RX4)]
def dp_cv (ad : Nat → Nat) : Value → Value
  | .ref k => .ref (ad k)
  | v => v
theorem dp_cv_cat (ad : Nat → Nat) (v : Value) : (dp_cv ad v).category = v.category := by cases v <;> rfl
def dp_out (ad : Nat → Nat) (k N : Nat) : Nat → Option Nat := fun j => if j < N then some (ad (k + j)) else none
/-- a cell of the class -/
def dp_cel (g : dp_G) (ad : Nat → Nat) (M : dp_M) (h : Nat) : va_E := match dp_obj M h with
  | some q => .inr (q.1, q.2.map (dp_cv ad))
  | none => if h = 7 then .inl (g.2.2.2.1, 16, .inr (.inr (.inr (.inr (dp_out ad 27 16))))) else if h = 9 then .inl (g.2.2.2.1, 16, .inr (.inr (.inr (.inr (dp_out ad 43 16)))))
    else if h = 11 then .inl (g.2.2.2.1, 6, .inr (.inr (.inr (.inr (dp_out ad 59 6))))) else .inl (g.2.1, dp_len h, .inl (M h))
/-- a cell made -/
def dp_cec (g : dp_G) (ad : Nat → Nat) : dp_Ce → va_E
  | .inl q => .inr (q.1, q.2.map (dp_cv ad))
  | .inr (.inl q) => .inl (if q.1 then g.2.2.1 else g.2.1, q.2.1, .inl q.2.2)
  | .inr (.inr q) => .inl (if q.1 then g.2.2.2.2 else g.2.2.2.1, q.2.1, .inr (.inr (.inr (.inr fun j => (q.2.2 j).map ad))))
def dp_hs : List Nat := List.range 22 ++ List.range' 27 38
def dp_pos (h : Nat) : Nat := if h < 22 then h else h - 5
def dp_wl (g : dp_G) (ad : Nat → Nat) (M : dp_M) : va_W := dp_hs.map fun h => (ad h, dp_cel g ad M h)
abbrev dp_D : Type := List (Nat × dp_Ce)
def dp_dl (g : dp_G) (ad : Nat → Nat) (ds : dp_D) : va_W := ds.map fun p => (p.1 - 10000, dp_cec g ad p.2)
def dp_ww (g : dp_G) (ad : Nat → Nat) (M : dp_M) (ds : dp_D) : va_W := dp_wl g ad M ++ dp_dl g ad ds
/-- what is known of the cells made stands in the list -/
def dp_rep (o : dp_O) (ds : dp_D) : Prop := ∀ (h : Nat) (c : dp_Ce), o h = some c → 10000 ≤ h ∧ ∃ k : Nat, ds[k]? = some (h, c)
def dp_adk (ad : Nat → Nat) (b : Nat) : Prop := ad 1000 = b ∧ ∀ a, ad (10000 + a) = a
theorem dp_adk.of {ad : Nat → Nat} {b h : Nat} (hk : dp_adk ad b) (h1 : 10000 ≤ h) : ad h = h - 10000 := by
  have := hk.2 (h - 10000)
  rwa [show 10000 + (h - 10000) = h by omega] at this
theorem dp_isA_or (h : Nat) : dp_isA h = true ∨ h = 0 ∨ h = 1 ∨ h = 2 ∨ h = 3 ∨ h = 4 ∨ h = 7 ∨ h = 9 ∨ h = 11 ∨ (22 ≤ h ∧ h < 27) := by
  simp only [dp_isA, Bool.not_eq_true', Bool.or_eq_false_iff, beq_eq_false_iff_ne]
  omega
theorem dp_obj_A {M : dp_M} {h : Nat} (hA : dp_isA h = true) : dp_obj M h = none := by
  unfold dp_obj
  split <;> first | rfl | (exfalso; revert hA; decide)
theorem dp_cel_A {g : dp_G} {ad : Nat → Nat} {M : dp_M} {h : Nat} (hA : dp_isA h = true) : dp_cel g ad M h = .inl (g.2.1, dp_len h, .inl (M h)) := by
  have hn : h ≠ 7 ∧ h ≠ 9 ∧ h ≠ 11 := by
    refine ⟨?_, ?_, ?_⟩ <;> (intro e; subst e; revert hA; decide)
  unfold dp_cel
  rw [dp_obj_A hA]
  simp only [hn.1, hn.2.1, hn.2.2, if_false]
theorem dp_obj_m {M : dp_M} {h : Nat} (h1 : 22 ≤ h) : dp_obj M h = none := by
  unfold dp_obj
  split <;> first | rfl | (exfalso; omega)
theorem dp_cel_ext {g : dp_G} {ad : Nat → Nat} {M M' : dp_M} {h : Nat} (e : ∀ j, M h j = M' h j) : dp_cel g ad M h = dp_cel g ad M' h := by
  rcases dp_isA_or h with hA | rfl | rfl | rfl | rfl | rfl | rfl | rfl | rfl | ⟨h1, h2⟩
  · rw [dp_cel_A hA, dp_cel_A hA, show M h = M' h from funext e]
  · rfl
  · simp only [dp_cel, dp_obj, e 5]
  · simp only [dp_cel, dp_obj, e 3]
  · simp only [dp_cel, dp_obj, e 4]
  · simp only [dp_cel, dp_obj, e 4]
  · rfl
  · rfl
  · rfl
  · unfold dp_cel
    rw [dp_obj_m h1, dp_obj_m h1, show M h = M' h from funext e]
theorem dp_wl_len {g : dp_G} {ad : Nat → Nat} {M : dp_M} : (dp_wl g ad M).length = 60 := by simp [dp_wl, dp_hs]
theorem dp_hs_at : ∀ h, h < 65 → (h < 22 ∨ 27 ≤ h) → dp_hs[dp_pos h]? = some h ∧ dp_pos h < 60 := by decide +kernel
theorem dp_hs_pos : ∀ k, k < 60 → ∃ h, h < 65 ∧ dp_hs[k]? = some h ∧ dp_pos h = k ∧ (h < 22 ∨ 27 ≤ h) := by decide +kernel
theorem dp_wl_at {g : dp_G} {ad : Nat → Nat} {M : dp_M} {ds : dp_D} {h : Nat} (hh : h < 65) (hk : h < 22 ∨ 27 ≤ h) : (dp_ww g ad M ds)[dp_pos h]? = some (ad h, dp_cel g ad M h) := by
  obtain ⟨h1, h2⟩ := dp_hs_at h hh hk
  unfold dp_ww
  rw [List.getElem?_append_left (by rw [dp_wl_len]; exact h2)]
  unfold dp_wl
  rw [List.getElem?_map, h1]
  rfl
theorem dp_isA_k {h : Nat} (hA : dp_isA h = true) : h < 22 ∨ 27 ≤ h := by
  simp only [dp_isA, Bool.not_eq_true', Bool.or_eq_false_iff, beq_eq_false_iff_ne] at hA
  omega
theorem dp_obj_k {M : dp_M} {h : Nat} {q : Nat × List Value} (hq : dp_obj M h = some q) : h < 22 ∨ 27 ≤ h := by
  rcases Nat.lt_or_ge h 22 with h1 | h1
  · exact Or.inl h1
  · rw [dp_obj_m h1] at hq
    cases hq
theorem dp_wl_A {g : dp_G} {ad : Nat → Nat} {M : dp_M} {ds : dp_D} {h : Nat} (hh : h < 65) (hA : dp_isA h = true) : (dp_ww g ad M ds)[dp_pos h]? = some (ad h, .inl (g.2.1, dp_len h, .inl (M h))) := by
  rw [dp_wl_at hh (dp_isA_k hA), dp_cel_A hA]
theorem dp_dl_at {g : dp_G} {ad : Nat → Nat} {M : dp_M} {ds : dp_D} {k h : Nat} {c : dp_Ce} (hk : ds[k]? = some (h, c)) : (dp_ww g ad M ds)[60 + k]? = some (h - 10000, dp_cec g ad c) := by
  unfold dp_ww
  rw [List.getElem?_append_right (by rw [dp_wl_len]; omega), dp_wl_len, Nat.add_sub_cancel_left]
  unfold dp_dl
  rw [List.getElem?_map, hk]
  rfl
theorem dp_set {g : dp_G} {ad : Nat → Nat} {M M' : dp_M} {ds : dp_D} {h : Nat} {e : va_E} (hh : h < 65) (hk0 : h < 22 ∨ 27 ≤ h) (he : e = dp_cel g ad M' h) (hk : ∀ j, j ≠ h → dp_cel g ad M j = dp_cel g ad M' j) : (dp_ww g ad M ds).set (dp_pos h) (ad h, e) = dp_ww g ad M' ds := by
  obtain ⟨h1, h2⟩ := dp_hs_at h hh hk0
  unfold dp_ww
  rw [List.set_append_left _ _ (by rw [dp_wl_len]; exact h2)]
  congr 1
  apply List.ext_getElem?
  intro j
  by_cases hj : j < 60
  · obtain ⟨h', g3, g1, g2, g4⟩ := dp_hs_pos j hj
    have e1 : ∀ N : dp_M, (dp_wl g ad N)[j]? = some (ad h', dp_cel g ad N h') := fun N => by
      unfold dp_wl
      rw [List.getElem?_map, g1]
      rfl
    by_cases hjh : h' = h
    · subst hjh
      rw [g2, List.getElem?_set_self (by rw [dp_wl_len]; exact hj), e1, he]
    · have hne : dp_pos h ≠ j := fun z => hjh (by
        rw [z] at h1
        rw [h1] at g1
        exact (Option.some.inj g1).symm)
      rw [List.getElem?_set_ne hne, e1, e1, hk h' hjh]
  · rw [List.getElem?_eq_none (by rw [List.length_set, dp_wl_len]; omega), List.getElem?_eq_none (by rw [dp_wl_len]; omega)]
theorem dp_row_s (M : dp_M) (h : Nat) (f : Nat → Int32) : dp_row M h f h = f := by funext j; simp [dp_row]
theorem dp_row_n (M : dp_M) {h a : Nat} (f : Nat → Int32) (ha : a ≠ h) : dp_row M h f a = M a := by funext j; simp [dp_row, ha]
theorem dp_set_A {g : dp_G} {ad : Nat → Nat} {M : dp_M} {ds : dp_D} {h : Nat} {f : Nat → Int32} (hh : h < 65) (hA : dp_isA h = true) : (dp_ww g ad M ds).set (dp_pos h) (ad h, .inl (g.2.1, dp_len h, .inl f)) = dp_ww g ad (dp_row M h f) ds :=
  dp_set hh (dp_isA_k hA) (by rw [dp_cel_A hA, dp_row_s]) (fun j hj => dp_cel_ext (fun i => by rw [dp_row_n M f hj]))
theorem dp_up_row (M : dp_M) (h k : Nat) (x : Int32) : dp_row M h (upd (M h) k x) = dp_up M h k x := by
  funext a j
  unfold dp_row dp_up upd
  by_cases ha : a = h
  · subst ha
    by_cases hj : j = k <;> simp [hj]
  · simp [ha]
theorem dp_gtv_get : ∀ (l : List Value) (k : Nat) (v : Value), dp_gtv l k = some v → l[k]? = some v
  | [], _, _, h => by cases h
  | a :: t, 0, v, h => by simpa [dp_gtv] using h
  | a :: t, k + 1, v, h => by
    rw [List.getElem?_cons_succ]
    exact dp_gtv_get t k v h
/-- a field of an object is set -/
theorem dp_set_F {g : dp_G} {ad : Nat → Nat} {M : dp_M} {ds : dp_D} {h k : Nat} {q : Nat × List Value} {x w : Int32} (hh : h < 65) (hq : dp_obj M h = some q) (hk : dp_gtv q.2 k = some (.int w)) : (dp_ww g ad M ds).set (dp_pos h) (ad h, .inr (q.1, (q.2.map (dp_cv ad)).set k (.int x))) = dp_ww g ad (dp_up M h k x) ds := by
  refine dp_set hh (dp_obj_k hq) ?_ (fun j hj => dp_cel_ext (fun i => by unfold dp_up; rw [if_neg (fun z => hj z.1)]))
  rcases dp_isA_or h with hA | rfl | rfl | rfl | rfl | rfl | rfl | rfl | rfl | ⟨h1, h2⟩
  · rw [dp_obj_A hA] at hq; cases hq
  · cases hq
    match k, hk with
    | 0, hk => cases hk
    | 1, hk => cases hk
    | 2, hk => cases hk
    | 3, hk => cases hk
    | 4, hk => cases hk
    | k + 5, hk => cases hk
  · cases hq
    match k, hk with
    | 0, hk => cases hk
    | 1, hk => cases hk
    | 2, hk => cases hk
    | 3, hk => cases hk
    | 4, hk => cases hk
    | 5, hk => rfl
    | k + 6, hk => cases hk
  · cases hq
    match k, hk with
    | 0, hk => cases hk
    | 1, hk => cases hk
    | 2, hk => cases hk
    | 3, hk => rfl
    | k + 4, hk => cases hk
  · cases hq
    match k, hk with
    | 0, hk => cases hk
    | 1, hk => cases hk
    | 2, hk => cases hk
    | 3, hk => cases hk
    | 4, hk => rfl
    | k + 5, hk => cases hk
  · cases hq
    match k, hk with
    | 0, hk => cases hk
    | 1, hk => cases hk
    | 2, hk => cases hk
    | 3, hk => cases hk
    | 4, hk => rfl
    | k + 5, hk => cases hk
  · cases hq
  · cases hq
  · cases hq
  · rw [dp_obj_m h1] at hq; cases hq
/-- a cell made is set -/
theorem dp_dset {g : dp_G} {ad : Nat → Nat} {M : dp_M} {ds : dp_D} {h k : Nat} {c : dp_Ce} : (dp_ww g ad M ds).set (60 + k) (h - 10000, dp_cec g ad c) = dp_ww g ad M (ds.set k (h, c)) := by
  unfold dp_ww
  rw [List.set_append_right _ _ (by rw [dp_wl_len]; omega), dp_wl_len, Nat.add_sub_cancel_left]
  congr 1
  unfold dp_dl
  rw [List.map_set]
theorem dp_rset {o : dp_O} {ds : dp_D} {h k : Nat} {c c0 : dp_Ce} (hr : dp_rep o ds) (hk : ds[k]? = some (h, c0)) (h1 : 10000 ≤ h) : dp_rep (dp_ou o h c) (ds.set k (h, c)) := by
  intro a d hd
  unfold dp_ou at hd
  have hl := (List.getElem?_eq_some_iff.mp hk).1
  by_cases ha : a = h
  · subst ha
    rw [if_pos rfl] at hd
    cases hd
    exact ⟨h1, k, by rw [List.getElem?_set_self hl]⟩
  · rw [if_neg ha] at hd
    obtain ⟨g1, k', g2⟩ := hr a d hd
    refine ⟨g1, k', ?_⟩
    rw [List.getElem?_set_ne (fun z => ha (by
      rw [z] at hk
      rw [hk] at g2
      cases g2
      rfl)), g2]
/-- a cell more -/
theorem dp_dpush {g : dp_G} {ad : Nat → Nat} {M : dp_M} {ds : dp_D} {q : Nat} {c : dp_Ce} : dp_ww g ad M ds ++ [(q, dp_cec g ad c)] = dp_ww g ad M (ds ++ [(10000 + q, c)]) := by
  unfold dp_ww
  rw [List.append_assoc]
  congr 1
  unfold dp_dl
  rw [List.map_append]
  simp only [List.map_cons, List.map_nil, Nat.add_sub_cancel_left]
theorem dp_rpush {o : dp_O} {ds : dp_D} {q : Nat} {c : dp_Ce} (hr : dp_rep o ds) : dp_rep (dp_ou o (10000 + q) c) (ds ++ [(10000 + q, c)]) := by
  intro a d hd
  unfold dp_ou at hd
  by_cases ha : a = 10000 + q
  · subst ha
    rw [if_pos rfl] at hd
    cases hd
    exact ⟨by omega, ds.length, by simp⟩
  · rw [if_neg ha] at hd
    obtain ⟨g1, k', g2⟩ := hr a d hd
    exact ⟨g1, k', by rw [List.getElem?_append_left (List.getElem?_eq_some_iff.mp g2).1, g2]⟩
theorem dp_fresh {g : dp_G} {ad : Nat → Nat} {M : dp_M} {o : dp_O} {ds : dp_D} {A : Nat → Prop} {q : Nat} {e : va_E} (hr : dp_rep o ds) (hD : va_D A (dp_ww g ad M ds ++ [(q, e)])) : o (10000 + q) = none := by
  cases h : o (10000 + q) with
  | none => rfl
  | some c =>
    exfalso
    obtain ⟨-, k, hk⟩ := hr _ _ h
    have h1 := dp_dl_at (g := g) (ad := ad) (M := M) hk
    rw [Nat.add_sub_cancel_left] at h1
    have hl := (List.getElem?_eq_some_iff.mp h1).1
    have h2 : (dp_ww g ad M ds ++ [(q, e)])[60 + k]? = some (q, dp_cec g ad c) := by rw [List.getElem?_append_left hl]; exact h1
    have h3 : (dp_ww g ad M ds ++ [(q, e)])[(dp_ww g ad M ds).length]? = some (q, e) := by simp
    have := hD.1 _ _ _ _ h2 h3 rfl
    omega
/-- the cell at a handle -/
theorem dp_dyn {g : dp_G} {ad : Nat → Nat} {b : Nat} {M : dp_M} {o : dp_O} {ds : dp_D} {h : Nat} {c : dp_Ce} (hr : dp_rep o ds) (ha : dp_adk ad b) (hc : o h = some c) : 10000 ≤ h ∧ ∃ k, ds[k]? = some (h, c) ∧ (dp_ww g ad M ds)[60 + k]? = some (ad h, dp_cec g ad c) := by
  obtain ⟨h1, k, hk⟩ := hr h c hc
  exact ⟨h1, k, hk, by rw [ha.of h1]; exact dp_dl_at hk⟩
-- locals
def dp_LH (ls : Array Slot) (nL : Nat) (ad : Nat → Nat) (L : dp_L) : Prop := ls.size = nL ∧ lv_wf ls ∧ ∀ (i : Nat) (v : Value), dp_gt L i = some v → ls[i]? = some (.val (dp_cv ad v))
def dp_as (ad : Nat → Nat) : Nat → dp_L → List (Nat × Value)
  | _, [] => []
  | i, some v :: t => (i, dp_cv ad v) :: dp_as ad (i + 1) t
  | i, none :: t => dp_as ad (i + 1) t
theorem dp_as_in (ad : Nat → Nat) : ∀ (L : dp_L) (i j : Nat) (v : Value), dp_gt L j = some v → (i + j, dp_cv ad v) ∈ dp_as ad i L
  | [], _, _, _, h => by cases h
  | some w :: t, i, 0, v, h => by
    cases h
    exact List.mem_cons_self
  | none :: t, i, 0, v, h => by cases h
  | some w :: t, i, j + 1, v, h => by
    have := dp_as_in ad t (i + 1) j v h
    rw [show i + (j + 1) = i + 1 + j by omega]
    exact List.mem_cons_of_mem _ this
  | none :: t, i, j + 1, v, h => by
    have := dp_as_in ad t (i + 1) j v h
    rw [show i + (j + 1) = i + 1 + j by omega]
    exact this
theorem dp_as_out (ad : Nat → Nat) : ∀ (L : dp_L) (i : Nat) (p : Nat × Value), p ∈ dp_as ad i L → ∃ j v, dp_gt L j = some v ∧ p = (i + j, dp_cv ad v)
  | [], _, _, h => by cases h
  | some w :: t, i, p, h => by
    rcases List.mem_cons.mp h with rfl | h
    · exact ⟨0, w, rfl, rfl⟩
    · obtain ⟨j, v, h1, h2⟩ := dp_as_out ad t (i + 1) p h
      exact ⟨j + 1, v, h1, by rw [h2, show i + 1 + j = i + (j + 1) by omega]⟩
  | none :: t, i, p, h => by
    obtain ⟨j, v, h1, h2⟩ := dp_as_out ad t (i + 1) p h
    exact ⟨j + 1, v, h1, by rw [h2, show i + 1 + j = i + (j + 1) by omega]⟩
theorem dp_LH.has {ls : Array Slot} {nL : Nat} {ad : Nat → Nat} {L : dp_L} (h : dp_LH ls nL ad L) : lv_has ls nL (dp_as ad 0 L) := by
  refine ⟨h.1, h.2.1, fun p hp => ?_⟩
  obtain ⟨j, v, h1, rfl⟩ := dp_as_out ad L 0 p hp
  have := h.2.2 j v h1
  simpa using this
theorem dp_LH.of {ls : Array Slot} {nL : Nat} {ad : Nat → Nat} {L : dp_L} {l : List (Nat × Value)} (h : lv_has ls nL l) (hl : ∀ j v, dp_gt L j = some v → (j, dp_cv ad v) ∈ l) : dp_LH ls nL ad L :=
  ⟨h.1, h.2.1, fun i v hi => h.2.2 _ (hl i v hi)⟩
theorem dp_s1_gt : ∀ (L : dp_L) (i : Nat) (v : Value) (j : Nat) (w : Value), dp_gt (dp_s1 L i v) j = some w → (j = i ∧ w = v) ∨ (j ≠ i ∧ dp_gt L j = some w ∧ ¬ (j + 1 = i ∧ w.category = 2))
  | [], _, _, _, _, h => by cases h
  | a :: t, 0, v, 0, w, h => by cases h; exact Or.inl ⟨rfl, rfl⟩
  | a :: t, 0, v, j + 1, w, h => Or.inr ⟨by omega, h, by omega⟩
  | a :: t, 1, v, 0, w, h => by
    refine Or.inr ⟨by omega, ?_, ?_⟩
    · have h : dp_c2 a = some w := h
      unfold dp_c2 at h
      split at h <;> first | (cases h; done) | exact h
    · have h : dp_c2 a = some w := h
      unfold dp_c2 at h
      rintro ⟨-, h2⟩
      split at h
      · cases h
      · cases h
      · rename_i n1 n2
        cases w <;> first | (cases h2; done) | exact n1 _ h | exact n2 _ h
  | a :: t, 1, v, j + 1, w, h => by
    have h : dp_gt (dp_s1 t 0 v) j = some w := h
    rcases dp_s1_gt t 0 v j w h with ⟨h1, h2⟩ | ⟨h1, h2, h3⟩
    · exact Or.inl ⟨by omega, h2⟩
    · exact Or.inr ⟨by omega, h2, by omega⟩
  | a :: t, i + 2, v, 0, w, h => Or.inr ⟨by omega, h, by omega⟩
  | a :: t, i + 2, v, j + 1, w, h => by
    have h : dp_gt (dp_s1 t (i + 1) v) j = some w := h
    rcases dp_s1_gt t (i + 1) v j w h with ⟨h1, h2⟩ | ⟨h1, h2, h3⟩
    · exact Or.inl ⟨by omega, h2⟩
    · exact Or.inr ⟨by omega, h2, fun z => h3 ⟨by omega, z.2⟩⟩
theorem dp_s2_gt : ∀ (L : dp_L) (i : Nat) (v : Value) (j : Nat) (w : Value), dp_gt (dp_s2 L i v) j = some w → (j = i ∧ w = v) ∨ (j ≠ i ∧ j ≠ i + 1 ∧ dp_gt L j = some w ∧ ¬ (j + 1 = i ∧ w.category = 2))
  | [], _, _, _, _, h => by cases h
  | a :: t, 0, v, 0, w, h => by cases h; exact Or.inl ⟨rfl, rfl⟩
  | [a], 0, v, j + 1, w, h => by cases h
  | a :: b :: t, 0, v, 1, w, h => by cases h
  | a :: b :: t, 0, v, j + 2, w, h => Or.inr ⟨by omega, by omega, h, by omega⟩
  | a :: t, 1, v, 0, w, h => by
    refine Or.inr ⟨by omega, by omega, ?_, ?_⟩
    · have h : dp_c2 a = some w := h
      unfold dp_c2 at h
      split at h <;> first | (cases h; done) | exact h
    · have h : dp_c2 a = some w := h
      unfold dp_c2 at h
      rintro ⟨-, h2⟩
      split at h
      · cases h
      · cases h
      · rename_i n1 n2
        cases w <;> first | (cases h2; done) | exact n1 _ h | exact n2 _ h
  | a :: t, 1, v, j + 1, w, h => by
    have h : dp_gt (dp_s2 t 0 v) j = some w := h
    rcases dp_s2_gt t 0 v j w h with ⟨h1, h2⟩ | ⟨h1, h1', h2, h3⟩
    · exact Or.inl ⟨by omega, h2⟩
    · exact Or.inr ⟨by omega, by omega, h2, by omega⟩
  | a :: t, i + 2, v, 0, w, h => Or.inr ⟨by omega, by omega, h, by omega⟩
  | a :: t, i + 2, v, j + 1, w, h => by
    have h : dp_gt (dp_s2 t (i + 1) v) j = some w := h
    rcases dp_s2_gt t (i + 1) v j w h with ⟨h1, h2⟩ | ⟨h1, h1', h2, h3⟩
    · exact Or.inl ⟨by omega, h2⟩
    · exact Or.inr ⟨by omega, by omega, h2, fun z => h3 ⟨by omega, z.2⟩⟩
theorem dp_LH.s1 {ls' : Array Slot} {nL : Nat} {ad : Nat → Nat} {L : dp_L} {i : Nat} {v v' : Value} (hv : v' = dp_cv ad v) (h' : lv_has ls' nL ((i, v') :: (dp_as ad 0 L).filter (fun q => !(q.1 == i) && !(q.1 + 1 == i && q.2.category == 2)))) : dp_LH ls' nL ad (dp_s1 L i v) := by
  subst hv
  refine dp_LH.of h' fun j w hw => ?_
  rcases dp_s1_gt L i v j w hw with ⟨rfl, rfl⟩ | ⟨h1, h2, h3⟩
  · exact List.mem_cons_self
  · refine List.mem_cons_of_mem _ (List.mem_filter.mpr ⟨by simpa using dp_as_in ad L 0 j w h2, ?_⟩)
    simp only [dp_cv_cat, Bool.and_eq_true, Bool.not_eq_true', beq_eq_false_iff_ne, Bool.and_eq_false_iff]
    refine ⟨h1, ?_⟩
    by_cases hj : j + 1 = i
    · exact Or.inr (fun z => h3 ⟨hj, z⟩)
    · exact Or.inl hj
theorem dp_LH.s2 {ls' : Array Slot} {nL : Nat} {ad : Nat → Nat} {L : dp_L} {i : Nat} {v v' : Value} (hv : v' = dp_cv ad v) (h' : lv_has ls' nL ((i, v') :: (dp_as ad 0 L).filter (fun q => !(q.1 == i) && (!(q.1 == i + 1) && !(q.1 + 1 == i && q.2.category == 2))))) : dp_LH ls' nL ad (dp_s2 L i v) := by
  subst hv
  refine dp_LH.of h' fun j w hw => ?_
  rcases dp_s2_gt L i v j w hw with ⟨rfl, rfl⟩ | ⟨h1, h1', h2, h3⟩
  · exact List.mem_cons_self
  · refine List.mem_cons_of_mem _ (List.mem_filter.mpr ⟨by simpa using dp_as_in ad L 0 j w h2, ?_⟩)
    simp only [dp_cv_cat, Bool.and_eq_true, Bool.not_eq_true', beq_eq_false_iff_ne, Bool.and_eq_false_iff]
    refine ⟨h1, h1', ?_⟩
    by_cases hj : j + 1 = i
    · exact Or.inr (fun z => h3 ⟨hj, z⟩)
    · exact Or.inl hj
theorem dp_msk_gt : ∀ (b : List Bool) (L : dp_L) (i : Nat) (v : Value), dp_gt (dp_msk b L) i = some v → dp_gt L i = some v
  | [], [], _, _, h => h
  | [], _ :: _, _, _, h => h
  | _ :: _, [], _, _, h => h
  | true :: bs, a :: t, 0, v, h => h
  | false :: bs, a :: t, 0, v, h => by cases h
  | c :: bs, a :: t, i + 1, v, h => dp_msk_gt bs t i v h
theorem dp_none_gt : ∀ (L : dp_L) (i : Nat), dp_gt (L.map fun _ => none) i = none
  | [], _ => rfl
  | _ :: _, 0 => rfl
  | _ :: t, i + 1 => dp_none_gt t i
/-- the tables' row of the arrays of int arrays, by its parts -/
theorem ct_aoas {U : State} (h : va_AOA .int U) :
    ∃ comp c k, U.vm.findClass (FieldType.array .int).toString = some comp ∧ (U.vm.classes.findIdx? fun x => match x.kind with | .array component _ => component == comp | _ => false) = some c ∧ U.vm.classes[c]? = some k ∧ k.kind = .array comp (.array .int) ∧ U.vm.findClass ("[" ++ (FieldType.array .int).toString) = some c := by
  have h : (Cond.arrayOver (.array .int)).before #[] U = true := h
  simp only [Cond.before, Cond.holds, Cond.value, beq_iff_eq] at h
  cases hc : U.vm.findClass (FieldType.array .int).toString with
  | none => simp [hc] at h
  | some comp =>
    simp only [hc, Option.bind_some, Option.bind_eq_some_iff, Option.map_eq_some_iff] at h
    obtain ⟨c, hi, k, hk, hb⟩ := h
    obtain ⟨hlt, hp, -⟩ := Array.findIdx?_eq_some_iff_getElem.mp hi
    have hkk : U.vm.classes[c] = k := (Array.getElem?_eq_some_iff.mp hk).2
    rw [hkk] at hp
    cases hkind : k.kind with
    | array component ty =>
      rw [hkind] at hb hp
      simp at hb hp
      exact ⟨comp, c, k, rfl, hi, hk, by rw [hkind, hp, hb.1], hb.2⟩
    | _ => rw [hkind] at hb; simp at hb
theorem ct_aoa {u U : State} (hal : u.vm.Alike U.vm) (h : va_AOA .int u) : va_AOA .int U := by
  obtain ⟨comp, c, k, hcomp, hidx, hk, hkind, hname⟩ := ct_aoas h
  obtain ⟨k', hk', hek'⟩ := hal.2.2 _ _ hk
  have hkind' : k'.kind = .array comp (.array .int) := by rw [hek']; exact hkind
  have hname' : U.vm.findClass ("[" ++ (FieldType.array .int).toString) = some c := by rw [hal.findClass]; exact hname
  have hcomp' : U.vm.findClass (FieldType.array .int).toString = some comp := by rw [hal.findClass]; exact hcomp
  show (Cond.arrayOver (.array .int)).before #[] U = true
  simp only [Cond.before, Cond.holds, Cond.value, hcomp', Option.bind_some, beq_iff_eq]
  rw [Option.bind_eq_some_iff]
  refine ⟨c, (hal.findIdx?_eqK _ (fun _ => rfl)).trans hidx, ?_⟩
  simp [hk', hkind', hname']
-- what is fixed around the world
def dp_bw : List Cond := [.declares (Bundle.initS "java/lang/RuntimeException"), .declares (Bundle.initS "java/lang/Exception"), .declares (Bundle.initS "java/lang/Throwable"), .castable (dp_exn 0) (dp_exn 0), .castable (dp_exn 1) (dp_exn 1), .castable (dp_exn 2) (dp_exn 2)]
def dp_nest : Cond := .methodLinkNest RL 48 (dp_nm 59) RL
def dp_nc : List (String × String) := [(dp_exn 0, dp_exn 1), (dp_exn 0, dp_exn 2), (dp_exn 1, dp_exn 0), (dp_exn 1, dp_exn 2), (dp_exn 2, dp_exn 0), (dp_exn 2, dp_exn 1)]
def dp_GF (g : dp_G) (X : dp_X) (b : Nat) (A : Nat → Prop) (U : State) : Prop :=
  va_K g.1 vwCl (T3 g) U ∧ vx_Zq Bundle.tN "UNASSIGNED_STACK" Bundle.steD A U U.heap ∧ vx_Zq Bundle.tN "SUPPRESSED_SENTINEL" Bundle.listD A U U.heap ∧
  va_X b X.1 X.2 U U.heap ∧ b < U.heap.size ∧ ¬ A b ∧ (∀ w ∈ dp_bw, va_Nw w U) ∧ (∀ e ∈ dp_nc, va_Nc e.1 e.2 U) ∧ (∀ e ∈ dp_st, ∃ a, vk_R (dp_o e.1) e.2.1 e.2.2 a U) ∧ (∀ q, U.heap.size ≤ q → A q) ∧ va_AOA .int U ∧ va_AO RX4 U ∧ va_Nw dp_nest U
theorem dp_bw_warm {s U : State} (hW : s.WarmedH U.vm) (h : ∀ w ∈ dp_bw, va_Nw w s) : ∀ w ∈ dp_bw, va_Nw w U := by
  intro w hw
  have h1 := h w hw
  simp only [dp_bw, List.mem_cons, List.not_mem_nil, or_false] at hw
  rcases hw with rfl | rfl | rfl | rfl | rfl | rfl
  · exact va_Nw.warmD hW h1
  · exact va_Nw.warmD hW h1
  · exact va_Nw.warmD hW h1
  · exact va_Nw.warmC hW h1
  · exact va_Nw.warmC hW h1
  · exact va_Nw.warmC hW h1
theorem dp_GF.go {g : dp_G} {X : dp_X} {b : Nat} {A : Nat → Prop} {s U : State} {H : Heap} {locs : List Loc} (h : dp_GF g X b A s) (hW : s.WarmedH U.vm) (hU : U.heap = H) (hS : va_S A s.heap H locs) : dp_GF g X b A U := by
  obtain ⟨h1, h2, h3, h4, h5, h6, h7, h8, h9, h10, h11, h12, h13⟩ := h
  have hk : ∀ a : Nat, a < s.heap.size → ¬ A a → U.heap[a]? = s.heap[a]? := fun a ha hn => by rw [hU]; exact hS.2.1 a ha hn
  refine ⟨va_K.moved hW.alike h1, (vx_Zq.moved hW.alike h2).kept hk, (vx_Zq.moved hW.alike h3).kept hk, va_X.moved hW.alike (h4.kept (hk b h5 h6)), by rw [hU]; exact Nat.lt_of_lt_of_le h5 hS.1, h6, dp_bw_warm hW h7, fun e he => va_Nc.moved hW.alike (h8 e he), fun e he => ?_, fun q hq => h10 q (Nat.le_trans hS.1 (by rw [← hU]; exact hq)), ct_aoa hW.alike h11, va_AO.moved hW.alike h12, va_Nw.warmM hW h13⟩
  obtain ⟨a, ha⟩ := h9 e he
  exact ⟨a, vk_R.warm hW ha⟩
/-- a call begins -/
theorem dp_GF.call {g : dp_G} {X : dp_X} {b : Nat} {A : Nat → Prop} {U : State} {f : JFrame} {mk : MethodId} {a : Array Value} (h : dp_GF g X b A U) : dp_GF g X b A (U.calling f mk a) := by
  obtain ⟨h1, h2, h3, h4, h5, h6, h7, h8, h9, h10, h11, h12, h13⟩ := h
  refine ⟨va_K.moved (u := U) (U := U.calling f mk a) (Vm.Alike.refl U.vm) h1, vx_Zq.moved (u := U) (U := U.calling f mk a) (Vm.Alike.refl U.vm) h2, vx_Zq.moved (u := U) (U := U.calling f mk a) (Vm.Alike.refl U.vm) h3, va_X.moved (u := U) (U := U.calling f mk a) (Vm.Alike.refl U.vm) h4, h5, h6, fun w hw => va_Nw.same (u := U) (List.all_eq_true.mp (show dp_bw.all Cond.onTables = true by decide +kernel) w hw) rfl (h7 w hw), fun e he => va_Nc.moved (u := U) (U := U.calling f mk a) (Vm.Alike.refl U.vm) (h8 e he), fun e he => ?_, h10, ct_aoa (u := U) (U := U.calling f mk a) (Vm.Alike.refl U.vm) h11, va_AO.moved (u := U) (U := U.calling f mk a) (Vm.Alike.refl U.vm) h12, va_Nw.same (u := U) (U := U.calling f mk a) rfl rfl h13⟩
  obtain ⟨q, hq⟩ := h9 e he
  exact ⟨q, vk_R.same (u := U) rfl hq⟩
end
section
-- the kit's rows for constructors (starting text, kit/laws)
/-! ===== BEGIN a constructor that throws (launches without stack traces) ===== -/
section VXIA
variable {p : Program} {l : Launch} {e : Env} {R : Room} {s : State} {m : MethodId} {args : Array Value} {below : List Frame} {meth : Method} {c : Code} {T : State} {locs : List Loc} {cells slots : Nat}
theorem vx_callI (X : Stand p l e R s m args below meth c T locs cells slots) (hexec : p.tables.exec = Jvm.exec) {own : String} {index : Nat} {y : MethodName} {bytes : ByteArray} {maxL : Nat}
    (hown : s.vm.findClass own = some m.cls) (hy1 : y.name = "<init>") (hlink : (Cond.methodLink own index y).before args s = true) (hinst : (Cond.instanceMethod y).before args s = true)
    (hcode : (Cond.code y bytes maxL none).before args s = true) (hy : y.cls ≠ "java/lang/invoke/MethodHandle" ∧ y.cls ≠ "java/lang/invoke/VarHandle")
    {W9 : Nat} {Pre : Pt → Array Value → Prop} {Post : Pt → Array Value → Option Value → Pt → Prop} {PostX : Pt → Array Value → Addr → Pt → Prop} (hK : vx_Back l R p e below s args y 3 W9 Pre Post PostX)
    {g : JFrame} (hg : g.method = m) (hsize : g.locals.size = c.maxLocals) {a : Addr} {argsL rest : List Value} (hlen : ∀ sig, parseMethodDescriptor y.desc = some sig → argsL.length = sig.parameters.length)
    (hstack : g.stack = argsL.reverse ++ .ref a :: rest) (hW : 2 * g.monitorRoom + (rest.map fun v => v.category).sum ≤ W9) (hdg : decode c.code g.pc = .ok (.invokespecial index, 3))
    (hpre : ∀ vm₁, s.WarmedH vm₁ → Pre ⟨T.setVm vm₁, locs, cells, slots⟩ (Value.ref a :: argsL).toArray) :
    (∃ (v : Option Value) (vm₁ : Vm) (B : Pt), s.WarmedH vm₁ ∧ Stand p l e R s m args below meth c B.U B.locs B.cells B.slots ∧ Post ⟨T.setVm vm₁, locs, cells, slots⟩ (Value.ref a :: argsL).toArray v B ∧
      ∀ target, Steps p.tables e below (B.U.setTop { g with pc := g.pc + 3, stack := v.toList ++ rest }) target → Steps p.tables e below (T.setTop g) target) ∨
    (∃ (q : Addr) (vm₁ : Vm) (B : Pt), s.WarmedH vm₁ ∧ Stand p l e R s m args below meth c B.U B.locs B.cells B.slots ∧ PostX ⟨T.setVm vm₁, locs, cells, slots⟩ (Value.ref a :: argsL).toArray q B ∧
      Steps p.tables e below (T.setTop g) ((B.U.setTop { g with stack := rest }).pushFrame (.throwing q))) := by
  subst hg
  have hpl : e.platform.magicAccessors = ({} : Platform).magicAccessors := by rw [X.admits.platform]
  obtain ⟨mk, methM, cM, kP, vm₁, hnamed, hmethM, hcodeM, -, hlocalsM, -, hkP, -, hW₁, hstep₁⟩ := Steps.initColdArgs (e := e) X.here hexec X.warmed hpl hown hy1 hy hlink hinst hcode (f := g) rfl hlen hstack hdg
  have X₁ := X.noted hW₁
  rcases hK g.method meth c ⟨T.setVm vm₁, locs, cells, slots⟩ { g with stack := rest } (.invokespecial index) mk (Value.ref a :: argsL).toArray X₁ rfl hsize hdg hW (X₁.named hnamed) (hpre vm₁ X₁.warmed) with ⟨v, B, X', hpost, hsteps⟩ | ⟨q, B, X', hpost, hsteps⟩
  · exact Or.inl ⟨v, vm₁, B, X₁.warmed, X', hpost, fun target h => hstep₁ _ fun acts => by rw [doInvoke_state]; exact hsteps.trans h⟩
  · exact Or.inr ⟨q, vm₁, B, X₁.warmed, X', hpost, hstep₁ _ fun acts => by rw [doInvoke_state]; exact hsteps⟩
end VXIA
section VXIB
variable {p : Program} {l : Launch} {e : Env} {R : Room} {s : State} {m : MethodId} {args : Array Value} {below : List Frame} {meth : Method} {c : Code} {H : Heap} {locs : List Loc} {cells slots : Nat}
variable {y : MethodName} {bytes cc : ByteArray} {maxL nL mc ms n index : Nat} {ret : Option FieldType} {ws : List Cond} {rm : Room} {Pc : Array Value → State → Prop} {Qc : Array Value → State → Outcome → State → Prop} {XC : String → State → State → Prop} {free : Addr → Prop} {Ts : List Cond} {own C : String} {b : Addr} {As rest : List Value} {g : JFrame}
theorem vx_runI (S : CallFix p m c cc nL s args Ts own) (hM : vx_Met l y ws rm Pc Qc XC mc ms free) (cw : CallB R s args own index y bytes maxL none ws rm mc ms n ∧ y.name = "<init>" ∧ (Cond.instanceMethod y).before args s = true) (hp : PreS s H Pc (.ref b :: As))
    (hg : g.method = m) (hn : As.length = n) (hsize : g.locals.size = nL) (hstack : g.stack = As.reverse ++ .ref b :: rest) (hW : 2 * g.monitorRoom + (rest.map fun v => v.category).sum ≤ 8) (hdg : decode cc g.pc = .ok (.invokespecial index, 3)) (hf : cells + mc ≤ R.cells ∧ slots + ms ≤ R.slots) :
    vx_Run p l e R s m args below meth c H locs cells slots mc ms g rest (Qc (Value.ref b :: As).toArray) XC free := by
  have hK : vx_Back l R p e below s args y 3 8 (PreOf R mc ms Pc) (PostOf Qc mc ms free) (vx_Post XC mc ms free) := vx_callBack cw.1 hM hp.1
  obtain ⟨⟨-, -, -, -, -, -, hcode, -, hy, hlen, hl⟩, hy1, hin⟩ := cw
  obtain ⟨hx, hb, hml, ho, -⟩ := S
  have hPc := hp.2
  intro T hT X
  rcases vx_callI X hx (bytes := bytes) (maxL := maxL) ho hy1 hl hin hcode hy hK hg (hsize.trans hml.symm) (a := b) (argsL := As) (rest := rest) (fun sig h => hn.trans (hlen sig h)) hstack hW (by rw [hb]; exact hdg)
    (fun vm₁ hW₁ => ⟨hf.1, hf.2, hPc (T.setVm vm₁) hT hW₁⟩) with ⟨v, vm₁, ⟨U', l2, c2, s2⟩, hW₁, X', ⟨g', mk, t, L, e1, e2, hq, h1, hL, h2, h3⟩, st⟩ | ⟨q, vm₁, ⟨U', l2, c2, s2⟩, hW₁, X', ⟨g', mk, t, L, E, ce, e1, e2, hq, hce, hcv, hcl, h1, hL, h2, h3⟩, st⟩
  · dsimp only [Pt.U, Pt.locs, Pt.cells, Pt.slots] at X' e1 e2 h1 h2 h3 st
    subst h1; subst h2; subst h3
    exact Or.inl ⟨v, (T.setVm vm₁).calling g' mk (Value.ref b :: As).toArray, t, U', L, hT, X', hL, e1, e2, hq, st⟩
  · dsimp only [Pt.U, Pt.locs, Pt.cells, Pt.slots] at X' e1 e2 h1 h2 h3 st hcl
    subst h1; subst h2; subst h3
    exact Or.inr ⟨q, (T.setVm vm₁).calling g' mk (Value.ref b :: As).toArray, t, U', L, E, ce, hT, X', hL, e1, e2, hq, hce, hcv, vx_cls hW₁ hcl, st⟩
end VXIB
/-! ===== END ===== -/
/-! ===== BEGIN a private constructor of a nest mate that throws ===== -/
section VXIC
variable {p : Program} {l : Launch} {e : Env} {R : Room} {s : State} {m : MethodId} {args : Array Value} {below : List Frame} {meth : Method} {c : Code} {T : State} {locs : List Loc} {cells slots : Nat}
theorem vx_callIN (X : Stand p l e R s m args below meth c T locs cells slots) (hexec : p.tables.exec = Jvm.exec) {own : String} {index : Nat} {host : String} {y : MethodName} {bytes : ByteArray} {maxL : Nat}
    (hown : s.vm.findClass own = some m.cls) (hy1 : y.name = "<init>") (hlink : (Cond.methodLinkNest own index y host).before args s = true) (hinst : (Cond.instanceMethod y).before args s = true)
    (hcode : (Cond.code y bytes maxL none).before args s = true) (hy : y.cls ≠ "java/lang/invoke/MethodHandle" ∧ y.cls ≠ "java/lang/invoke/VarHandle")
    {W9 : Nat} {Pre : Pt → Array Value → Prop} {Post : Pt → Array Value → Option Value → Pt → Prop} {PostX : Pt → Array Value → Addr → Pt → Prop} (hK : vx_Back l R p e below s args y 3 W9 Pre Post PostX)
    {g : JFrame} (hg : g.method = m) (hsize : g.locals.size = c.maxLocals) {a : Addr} {argsL rest : List Value} (hlen : ∀ sig, parseMethodDescriptor y.desc = some sig → argsL.length = sig.parameters.length)
    (hstack : g.stack = argsL.reverse ++ .ref a :: rest) (hW : 2 * g.monitorRoom + (rest.map fun v => v.category).sum ≤ W9) (hdg : decode c.code g.pc = .ok (.invokespecial index, 3))
    (hpre : ∀ vm₁, s.WarmedH vm₁ → Pre ⟨T.setVm vm₁, locs, cells, slots⟩ (Value.ref a :: argsL).toArray) :
    (∃ (v : Option Value) (vm₁ : Vm) (B : Pt), s.WarmedH vm₁ ∧ Stand p l e R s m args below meth c B.U B.locs B.cells B.slots ∧ Post ⟨T.setVm vm₁, locs, cells, slots⟩ (Value.ref a :: argsL).toArray v B ∧
      ∀ target, Steps p.tables e below (B.U.setTop { g with pc := g.pc + 3, stack := v.toList ++ rest }) target → Steps p.tables e below (T.setTop g) target) ∨
    (∃ (q : Addr) (vm₁ : Vm) (B : Pt), s.WarmedH vm₁ ∧ Stand p l e R s m args below meth c B.U B.locs B.cells B.slots ∧ PostX ⟨T.setVm vm₁, locs, cells, slots⟩ (Value.ref a :: argsL).toArray q B ∧
      Steps p.tables e below (T.setTop g) ((B.U.setTop { g with stack := rest }).pushFrame (.throwing q))) := by
  subst hg
  have hpl : e.platform.magicAccessors = ({} : Platform).magicAccessors := by rw [X.admits.platform]
  obtain ⟨mk, methM, cM, kP, vm₁, hnamed, hmethM, hcodeM, -, hlocalsM, -, hkP, -, hW₁, hstep₁⟩ := Steps.initColdArgsNest (e := e) X.here hexec X.warmed hpl hown hy1 hy hlink hinst hcode (f := g) rfl hlen hstack hdg
  have X₁ := X.noted hW₁
  rcases hK g.method meth c ⟨T.setVm vm₁, locs, cells, slots⟩ { g with stack := rest } (.invokespecial index) mk (Value.ref a :: argsL).toArray X₁ rfl hsize hdg hW (X₁.named hnamed) (hpre vm₁ X₁.warmed) with ⟨v, B, X', hpost, hsteps⟩ | ⟨q, B, X', hpost, hsteps⟩
  · exact Or.inl ⟨v, vm₁, B, X₁.warmed, X', hpost, fun target h => hstep₁ _ fun acts => by rw [doInvoke_state]; exact hsteps.trans h⟩
  · exact Or.inr ⟨q, vm₁, B, X₁.warmed, X', hpost, hstep₁ _ fun acts => by rw [doInvoke_state]; exact hsteps⟩
end VXIC
section VXID
variable {p : Program} {l : Launch} {e : Env} {R : Room} {s : State} {m : MethodId} {args : Array Value} {below : List Frame} {meth : Method} {c : Code} {H : Heap} {locs : List Loc} {cells slots : Nat}
theorem vx_runIN {y : MethodName} {bytes cc : ByteArray} {maxL nL mc ms n index : Nat} {ws : List Cond} {rm : Room} {Pc : Array Value → State → Prop} {Qc : Array Value → State → Outcome → State → Prop} {XC : String → State → State → Prop} {free : Addr → Prop} {Ts : List Cond} {own host : String} {b : Addr} {As rest : List Value} {g : JFrame}
    (S : CallFix p m c cc nL s args Ts own) (hM : vx_Met l y ws rm Pc Qc XC mc ms free) (cw : va_CN R s args own index y host bytes maxL none ws rm mc ms n ∧ y.name = "<init>" ∧ (Cond.instanceMethod y).before args s = true) (hp : PreS s H Pc (.ref b :: As))
    (hg : g.method = m) (hn : As.length = n) (hsize : g.locals.size = nL) (hstack : g.stack = As.reverse ++ .ref b :: rest) (hW : 2 * g.monitorRoom + (rest.map fun v => v.category).sum ≤ 8) (hdg : decode cc g.pc = .ok (.invokespecial index, 3)) (hf : cells + mc ≤ R.cells ∧ slots + ms ≤ R.slots) :
    vx_Run p l e R s m args below meth c H locs cells slots mc ms g rest (Qc (Value.ref b :: As).toArray) XC free := by
  obtain ⟨⟨⟨hrc, hrs, hfr, hlo, hws, hcw⟩, hcode, hini, hy, hlen, hl⟩, hx1, hx2⟩ := cw
  have hK : vx_Back l R p e below s args y 3 8 (PreOf R mc ms Pc) (PostOf Qc mc ms free) (vx_Post XC mc ms free) := vx_back (bytes := bytes) (maxL := maxL) (ret := none) hM hp.1 hrc hrs hfr hlo hws hcw (fun a' U hW => word_at hW (Or.inl (by first | rfl | simp [Cond.onTables, Cond.keeps, Cond.steady])) hini)
  obtain ⟨hx, hb, hml, ho, -⟩ := S
  have hPc := hp.2
  intro T hT X
  rcases vx_callIN X hx (bytes := bytes) (maxL := maxL) ho hx1 hl hx2 hcode hy hK hg (hsize.trans hml.symm) (a := b) (argsL := As) (rest := rest) (fun sig h => hn.trans (hlen sig h)) hstack hW (by rw [hb]; exact hdg)
    (fun vm₁ hW₁ => ⟨hf.1, hf.2, hPc (T.setVm vm₁) hT hW₁⟩) with ⟨v, vm₁, ⟨U', l2, c2, s2⟩, hW₁, X', ⟨g', mk, t, L, e1, e2, hq, h1, hL, h2, h3⟩, st⟩ | ⟨q, vm₁, ⟨U', l2, c2, s2⟩, hW₁, X', ⟨g', mk, t, L, E, ce, e1, e2, hq, hce, hcv, hcl, h1, hL, h2, h3⟩, st⟩
  · dsimp only [Pt.U, Pt.locs, Pt.cells, Pt.slots] at X' e1 e2 h1 h2 h3 st
    subst h1; subst h2; subst h3
    exact Or.inl ⟨v, (T.setVm vm₁).calling g' mk (Value.ref b :: As).toArray, t, U', L, hT, X', hL, e1, e2, hq, st⟩
  · dsimp only [Pt.U, Pt.locs, Pt.cells, Pt.slots] at X' e1 e2 h1 h2 h3 st hcl
    subst h1; subst h2; subst h3
    exact Or.inr ⟨q, (T.setVm vm₁).calling g' mk (Value.ref b :: As).toArray, t, U', L, E, ce, hT, X', hL, e1, e2, hq, hce, hcv, vx_cls hW₁ hcl, st⟩
end VXID
/-! ===== END ===== -/
end
section
/-! the words that the methods need, and their facts -/
-- words
def dp_wc : List Cond := dp_cw0 ++ (dp_cw1 ++ (dp_cw2 ++ dp_cw3))
def dp_wd : List Cond := dp_wc ++ (dp_n1 ++ (dp_n2 ++ (dp_n3 ++ dp_x2)))
def dp_gw (w : Cond) : Prop := w ∈ lw_tbl ∧ ((w.onTables && w.keeps) = true ∨ ∃ ty, w = .arrayClass ty)
theorem dp_gw_of {l : List Cond} {ix : List Nat} (h1 : l = ix.filterMap (fun i => lw_tbl[i]?)) (h2 : l.all goodWord = true) : ∀ w ∈ l, dp_gw w := by
  intro w hw
  refine ⟨?_, good_of_word (List.all_eq_true.mp h2 w hw)⟩
  rw [h1] at hw
  obtain ⟨i, -, hi⟩ := List.mem_filterMap.mp hw
  exact List.mem_of_getElem? hi
theorem dp_wd_good : ∀ w ∈ dp_wd, dp_gw w := by
  intro w hw
  simp only [dp_wd, dp_wc, List.mem_append] at hw
  rcases hw with (h | h | h | h) | h | h | h | h
  · exact dp_gw_of dp_cw0_in dp_cw0_good w h
  · exact dp_gw_of dp_cw1_in dp_cw1_good w h
  · exact dp_gw_of dp_cw2_in dp_cw2_good w h
  · exact dp_gw_of dp_cw3_in dp_cw3_good w h
  · exact dp_gw_of dp_n1_in dp_n1_good w h
  · exact dp_gw_of dp_n2_in dp_n2_good w h
  · exact dp_gw_of dp_n3_in dp_n3_good w h
  · exact dp_gw_of dp_x2_in dp_x2_good w h
theorem dp_wd_code {z : Nat} (hz : z < 77) : dp_codeW z ∈ dp_wd := by
  have key : ∀ {a k : Nat} {l : List Cond}, (List.range' a k).map dp_codeW = l → a ≤ z → z < a + k → dp_codeW z ∈ l := fun e h1 h2 => by
    rw [← e]; exact List.mem_map.mpr ⟨z, List.mem_range'_1.mpr ⟨h1, h2⟩, rfl⟩
  simp only [dp_wd, dp_wc, List.mem_append]
  rcases Nat.lt_or_ge z 25 with h | h
  · exact Or.inl (Or.inl (key dp_cw0_is (by omega) (by omega)))
  rcases Nat.lt_or_ge z 50 with h | h
  · exact Or.inl (Or.inr (Or.inl (key dp_cw1_is (by omega) (by omega))))
  rcases Nat.lt_or_ge z 75 with h | h
  · exact Or.inl (Or.inr (Or.inr (Or.inl (key dp_cw2_is (by omega) (by omega)))))
  · exact Or.inl (Or.inr (Or.inr (Or.inr (key dp_cw3_is (by omega) (by omega)))))
theorem dp_wd_kind {z : Nat} (hz : z < 77) : dp_kindW z ∈ dp_wd := by
  simp only [dp_wd, dp_n1, List.mem_append]
  exact Or.inr (Or.inl (Or.inl (List.mem_map.mpr ⟨z, List.mem_range.mpr hz, rfl⟩)))
theorem dp_wd_link {e : Nat × Nat × Nat} (he : e ∈ dp_ml) : dp_linkW e ∈ dp_wd := by
  simp only [dp_wd, dp_n1, List.mem_append]
  exact Or.inr (Or.inl (Or.inr (Or.inl (List.mem_map.mpr ⟨e, he, rfl⟩))))
theorem dp_wd_nat {e : Nat × Nat × Nat} (he : e ∈ dp_nl) : dp_linkN e ∈ dp_wd := by
  simp only [dp_wd, dp_n1, List.mem_append]
  exact Or.inr (Or.inl (Or.inr (Or.inr (List.mem_map.mpr ⟨e, he, rfl⟩))))
theorem dp_wd_field {e : Nat × Nat × Nat × Nat} (he : e ∈ dp_fl) : dp_fieldW e ∈ dp_wd := by
  simp only [dp_wd, dp_n2, List.mem_append]
  exact Or.inr (Or.inr (Or.inl (Or.inl (List.mem_map.mpr ⟨e, he, rfl⟩))))
theorem dp_wd_sel {z : Nat} (he : z ∈ dp_vids) : dp_selW z ∈ dp_wd := by
  simp only [dp_wd, dp_n2, List.mem_append]
  exact Or.inr (Or.inr (Or.inl (Or.inr (Or.inl (List.mem_map.mpr ⟨z, he, rfl⟩)))))
theorem dp_wd_init {k : Nat} (hk : k < 9) : Cond.initialized (dp_o k) ∈ dp_wd := by
  simp only [dp_wd, dp_n2, List.mem_append]
  refine Or.inr (Or.inr (Or.inl (Or.inr (Or.inr (Or.inl (List.mem_map.mpr ⟨dp_o k, ?_, rfl⟩))))))
  unfold dp_o
  rw [List.getD_eq_getElem?_getD, List.getElem?_eq_getElem (show k < dp_owns.length from hk)]
  exact List.getElem_mem _
theorem dp_wd_lays {c : Nat} {q : vw_C} (hc : vwCl[c]? = some q) : ∀ w ∈ u_ws q.1 q.2.1 q.2.2, w ∈ dp_wd := by
  intro w hw
  simp only [dp_wd, dp_n2, List.mem_append]
  refine Or.inr (Or.inr (Or.inl (Or.inr (Or.inr (Or.inr ?_)))))
  match c, hc with
  | 0, hc => cases hc; exact Or.inl hw
  | 1, hc => cases hc; exact Or.inr (Or.inl hw)
  | 2, hc => cases hc; exact Or.inr (Or.inr (Or.inl hw))
  | 3, hc => cases hc; exact Or.inr (Or.inr (Or.inr (Or.inl hw)))
  | 4, hc => cases hc; exact Or.inr (Or.inr (Or.inr (Or.inr (Or.inl hw))))
  | 5, hc => cases hc; exact Or.inr (Or.inr (Or.inr (Or.inr (Or.inr hw))))
  | c + 6, hc => simp [vwCl] at hc
theorem dp_wd_cl {e : Nat × Nat × Int64} (he : e ∈ dp_cl) : Cond.constantLong (dp_o e.1) e.2.1 e.2.2 ∈ dp_wd := by
  simp only [dp_wd, dp_n3, List.mem_append]
  exact Or.inr (Or.inr (Or.inr (Or.inl (Or.inl (List.mem_map.mpr ⟨e, he, rfl⟩)))))
theorem dp_wd_ci {e : Nat × Nat × Int32} (he : e ∈ dp_ci) : Cond.constant (dp_o e.1) e.2.1 e.2.2 ∈ dp_wd := by
  simp only [dp_wd, dp_n3, List.mem_append]
  exact Or.inr (Or.inr (Or.inr (Or.inl (Or.inr (Or.inl (List.mem_map.mpr ⟨e, he, rfl⟩))))))
theorem dp_wd_x0 {w : Cond} (k : Nat) (h : dp_x0[k]? = some w) : w ∈ dp_wd := by
  simp only [dp_wd, dp_n3, List.mem_append]
  exact Or.inr (Or.inr (Or.inr (Or.inl (Or.inr (Or.inr (Or.inl (List.mem_of_getElem? h)))))))
theorem dp_wd_x1 {w : Cond} (k : Nat) (h : dp_x1[k]? = some w) : w ∈ dp_wd := by
  simp only [dp_wd, dp_n3, List.mem_append]
  exact Or.inr (Or.inr (Or.inr (Or.inl (Or.inr (Or.inr (Or.inr (List.mem_of_getElem? h)))))))
theorem dp_wd_x2 {w : Cond} (h : w ∈ dp_x2) : w ∈ dp_wd := by
  simp only [dp_wd, List.mem_append]
  exact Or.inr (Or.inr (Or.inr (Or.inr h)))
theorem dp_lo_in {α : Type} : ∀ (l : List (Nat × Nat × α)) (o i : Nat) (x : α), dp_lo l o i = some x → (o, i, x) ∈ l
  | [], _, _, _, h => by cases h
  | (a, b, y) :: t, o, i, x, h => by
    unfold dp_lo at h
    by_cases hc : a = o ∧ b = i
    · rw [if_pos hc] at h
      cases h
      rw [hc.1, hc.2]
      exact List.mem_cons_self
    · rw [if_neg hc] at h
      exact List.mem_cons_of_mem _ (dp_lo_in t o i x h)
theorem dp_fld_in {o i ci k : Nat} (h : dp_fld o i = some (ci, k)) : (o, i, ci, k) ∈ dp_fl := by
  have h1 := dp_lo_in _ o i _ h
  obtain ⟨⟨a, b, c, d⟩, he, h2⟩ := List.mem_map.mp h1
  cases h2
  exact he
-- methods
def dp_zok (z : Nat) : Bool := decide ((dp_nm z).cls ≠ "java/lang/invoke/MethodHandle") && decide ((dp_nm z).cls ≠ "java/lang/invoke/VarHandle") && plainName (dp_nm z).cls && decide ((dp_nm z).cls = dp_o (dp_ow z)) &&
  decide ((parseMethodDescriptor (dp_nm z).desc).map (fun d => d.parameters.length) = some (dp_na z - (if dp_sta z then 0 else 1))) && (dp_hh z).isEmpty && decide (dp_ow z < 9) && (dp_sta z || (decide (z ∈ dp_vids ∨ z = 59 ∨ z = 60) && decide (1 ≤ dp_na z)))
set_option maxRecDepth 100000 in
set_option maxHeartbeats 4000000 in
theorem dp_zok_all : (List.range 78).all dp_zok = true := by decide +kernel
theorem dp_zok_spec {z : Nat} (hz : z < 78) : (dp_nm z).cls ≠ "java/lang/invoke/MethodHandle" ∧ (dp_nm z).cls ≠ "java/lang/invoke/VarHandle" ∧ plainName (dp_nm z).cls = true ∧ (dp_nm z).cls = dp_o (dp_ow z) ∧
    (parseMethodDescriptor (dp_nm z).desc).map (fun d => d.parameters.length) = some (dp_na z - (if dp_sta z then 0 else 1)) ∧ (dp_hh z).isEmpty = true ∧ dp_ow z < 9 ∧ (dp_sta z = true ∨ ((z ∈ dp_vids ∨ z = 59 ∨ z = 60) ∧ 1 ≤ dp_na z)) := by
  have h := List.all_eq_true.mp dp_zok_all z (List.mem_range.mpr hz)
  simp only [dp_zok, Bool.and_eq_true, Bool.or_eq_true, decide_eq_true_eq] at h
  obtain ⟨⟨⟨⟨⟨⟨⟨h1, h2⟩, h3⟩, h4⟩, h5⟩, h6⟩, h7⟩, h8⟩ := h
  exact ⟨h1, h2, h3, h4, h5, h6, h7, h8⟩
theorem dp_inits : (dp_nm 59).name = "<init>" ∧ (dp_nm 60).name = "<init>" ∧ dp_sta 59 = false ∧ dp_sta 60 = false ∧ dp_rt 59 = none ∧ dp_rt 60 = none := by decide +kernel
theorem dp_vid_ne {z : Nat} (h : z ∈ dp_vids) : z ≠ 59 ∧ z ≠ 60 := by
  refine ⟨?_, ?_⟩ <;> (rintro rfl; revert h; decide +kernel)
theorem dp_ml_lt : ∀ e ∈ dp_ml, e.2.2 < 77 := by decide +kernel
set_option maxRecDepth 100000 in
theorem dp_fl_ok : ∀ e ∈ dp_fl, e.1 < 9 ∧ e.2.2.1 < 6 ∧ e.2.2.2 < (vwCl.getD e.2.2.1 (RX0, TX0, 5)).2.2 ∧ (dp_TT e.2.2.1 e.2.2.2).1 = (vwCl.getD e.2.2.1 (RX0, TX0, 5)).1 := by decide +kernel
end
section
/-! The deep semantics is sound over the machine: one instruction. -/
abbrev dp_rm (z d : Nat) : Room := { frames := d, cells := dp_mc z, slots := dp_ms z, locals := 30 * d + 60 + dp_xl z }
def dp_wrl (g : dp_G) (A : Nat → Prop) (ad : Nat → Nat) (M : dp_M) (o : dp_O) (H : Heap) : Prop := ∃ ds : dp_D, dp_rep o ds ∧ va_P g.1 vwCl (dp_ww g ad M ds) H ∧ va_D A (dp_ww g ad M ds)
def dp_Qc (g : dp_G) (A : Nat → Prop) (ad : Nat → Nat) (Q : dp_Q) : Array Value → State → Outcome → State → Prop := fun _ st oc t =>
  (∃ (v : Option Value) (M : dp_M) (o : dp_O), oc = .returned (v.map (dp_cv ad)) ∧ Q (.inl v) M o ∧ dp_wrl g A ad M o t.heap) ∧ va_F A st t
def dp_XC (g : dp_G) (A : Nat → Prop) (ad : Nat → Nat) (Q : dp_Q) : String → State → State → Prop := fun E st t =>
  (∃ (k : Nat) (M : dp_M) (o : dp_O), E = dp_exn k ∧ k ≤ 2 ∧ Q (.inr k) M o ∧ dp_wrl g A ad M o t.heap) ∧ va_F A st t
def dp_Pc (g : dp_G) (X : dp_X) (b : Nat) (A : Nat → Prop) (ad : Nat → Nat) (M : dp_M) (o : dp_O) : State → Prop := fun U =>
  dp_GF g X b A U ∧ dp_wrl g A ad M o U.heap
/-- what a call asks of its method -/
def dp_Mt (l : Launch) (g : dp_G) (X : dp_X) (b : Nat) (A : Nat → Prop) (d : Nat) : dp_C := fun z as n M o Q =>
  n = 65 → dp_asz as ≤ dp_mL z → ∀ ad : Nat → Nat, dp_adk ad b → vx_Met l (dp_nm z) (dp_codeW z :: dp_wd) (dp_rm z d) (va_Pc (as.map (dp_cv ad)) (dp_Pc g X b A ad M o)) (dp_Qc g A ad Q) (dp_XC g A ad Q) (dp_mc z) (dp_ms z) A
def dp_isr (y pc : Nat) (v : Option Value) : Prop :=
  (decode (dp_by y) pc = .ok (.return_, 1) ∧ v = none ∧ dp_rk y = 0) ∨ (∃ x : Int32, decode (dp_by y) pc = .ok (.ireturn, 1) ∧ v = some (.int x) ∧ dp_rz (dp_rk y) x) ∨
  (∃ x : Int64, decode (dp_by y) pc = .ok (.lreturn, 1) ∧ v = some (.long x) ∧ dp_rk y = 2) ∨ (∃ x : UInt64, decode (dp_by y) pc = .ok (.dreturn, 1) ∧ v = some (.double x) ∧ dp_rk y = 3) ∨
  (∃ x : Nat, decode (dp_by y) pc = .ok (.areturn, 1) ∧ v = some (.ref x) ∧ (dp_rk y = 5 ∨ dp_rk y = 6))
section DPS
variable {p : Program} {l : Launch} {e : Env} {R : Room} {s : State} {m : MethodId} {args : Array Value} {below : List Frame} {meth : Method} {c : Code} {Qm : State → Prop}
variable {g : dp_G} {X : dp_X} {b : Nat} {A : Nat → Prop} {y d : Nat} {ad : Nat → Nat} {Q : dp_Q}
def dp_KW (p : Program) (l : Launch) (e : Env) (R : Room) (s : State) (m : MethodId) (args : Array Value) (below : List Frame) (meth : Method) (c : Code) (Qm : State → Prop) (g : dp_G) (A : Nat → Prop) (nL : Nat) (ad : Nat → Nat) : dp_K := fun pc L st n cc q M o =>
  n = 65 → ∀ (ds : dp_D) (H : Heap) (locs : List Loc) (ls : Array Slot), dp_rep o ds → dp_LH ls nL ad L → va_P g.1 vwCl (dp_ww g ad M ds) H → va_D A (dp_ww g ad M ds) → va_S A s.heap H locs →
    W p l e R s m args below meth c H locs cc q Qm (F0 m pc ls (st.map (dp_cv ad)))
/-- what a body stands on -/
def dp_Cx (p : Program) (l : Launch) (R : Room) (s : State) (m : MethodId) (args : Array Value) (c : Code) (g : dp_G) (X : dp_X) (b : Nat) (A : Nat → Prop) (y d : Nat) : Prop :=
  p.tables.exec = Jvm.exec ∧ c.code = dp_by y ∧ c.maxLocals = dp_mL y ∧ s.vm.findClass (dp_o (dp_ow y)) = some m.cls ∧ (∀ w ∈ dp_wd, w.before args s = true) ∧ l.stackTraces = false ∧
  c.exceptionTable.toList = [] ∧ 1 ≤ d ∧ d ≤ R.frames ∧ 30 * d + 60 + dp_xl y ≤ R.locals ∧ R.cells = dp_mc y ∧ R.slots = dp_ms y ∧ y < 78 ∧ dp_GF g X b A s
/-- a return -/
def dp_En (p : Program) (l : Launch) (e : Env) (R : Room) (s : State) (m : MethodId) (args : Array Value) (below : List Frame) (meth : Method) (c : Code) (Qm : State → Prop) (g : dp_G) (A : Nat → Prop) (y : Nat) (ad : Nat → Nat) (Q : dp_Q) : Prop :=
  ∀ (v : Option Value) (pc cc q : Nat) (M : dp_M) (o : dp_O) (ds : dp_D) (H : Heap) (locs : List Loc) (ls : Array Slot), dp_rep o ds → va_P g.1 vwCl (dp_ww g ad M ds) H → va_D A (dp_ww g ad M ds) → va_S A s.heap H locs →
    dp_isr y pc v → cc ≤ dp_mc y → q ≤ dp_ms y → Q (.inl v) M o → W p l e R s m args below meth c H locs cc q Qm (F0 m pc ls (v.toList.map (dp_cv ad)))
/-- an exception of a callee leaves -/
def dp_Ex (p : Program) (l : Launch) (e : Env) (R : Room) (s : State) (m : MethodId) (args : Array Value) (below : List Frame) (meth : Method) (c : Code) (Qm : State → Prop) (g : dp_G) (A : Nat → Prop) (y : Nat) (ad : Nat → Nat) (Q : dp_Q) : Prop :=
  ∀ (k pc cc q : Nat) (M : dp_M) (o : dp_O) (ds : dp_D) (H : Heap) (locs : List Loc) (ls : Array Slot) (st : List Value) (ce : Cell) (q9 : Addr), dp_rep o ds → va_P g.1 vwCl (dp_ww g ad M ds) H → va_D A (dp_ww g ad M ds) → va_S A s.heap H locs →
    k ≤ 2 → H[q9]? = some ce → ce.vm = .none → s.vm.findClass (dp_exn k) = some ce.cls → cc ≤ dp_mc y → q ≤ dp_ms y → Q (.inr k) M o → vx_W p l e R s m args below meth c H locs cc q Qm (F0 m pc ls st) q9
/-- a throw here -/
def dp_Nw (p : Program) (l : Launch) (e : Env) (R : Room) (s : State) (m : MethodId) (args : Array Value) (below : List Frame) (meth : Method) (c : Code) (Qm : State → Prop) (g : dp_G) (A : Nat → Prop) (y d : Nat) (ad : Nat → Nat) (Q : dp_Q) : Prop :=
  ∀ (i pc cc q : Nat) (M : dp_M) (o : dp_O) (ds : dp_D) (H : Heap) (locs : List Loc) (ls : Array Slot) (st : List Value), dp_rep o ds → ls.size = dp_mL y → va_P g.1 vwCl (dp_ww g ad M ds) H → va_D A (dp_ww g ad M ds) → va_S A s.heap H locs →
    decode (dp_by y) pc = .ok (.new i, 3) → dp_npat (dp_tl y) pc i = true → dp_ow y = 3 → dp_ec i ≤ 2 → dp_exk (dp_ec i) = i → dp_thr d y Q st cc q M o (dp_ec i) → W p l e R s m args below meth c H locs cc q Qm (F0 m pc ls (st.map (dp_cv ad)))
theorem dp_jt_eq {pc : Nat} {off : Int} (h : 0 ≤ (pc : Int) + off) : (pc : Int) + off = ((dp_jt pc off : Nat) : Int) := by
  unfold dp_jt
  omega
theorem dp_sum_le (ad : Nat → Nat) : ∀ (r : List Value), ((r.map (dp_cv ad)).map fun v => v.category).sum ≤ 2 * r.length
  | [] => Nat.le_refl _
  | v :: t => by
    have h1 := dp_sum_le ad t
    have h2 : (dp_cv ad v).category ≤ 2 := by
      rcases lv_cat (dp_cv ad v) with h | h <;> omega
    simp only [List.map_cons, List.sum_cons, List.length_cons]
    omega
theorem dp_KW.msk {b9 : List Bool} {pc : Nat} {L : dp_L} {st : List Value} {n cc q nL : Nat} {M : dp_M} {o : dp_O} (h : dp_KW p l e R s m args below meth c Qm g A nL ad pc (dp_msk b9 L) st n cc q M o) : dp_KW p l e R s m args below meth c Qm g A nL ad pc L st n cc q M o :=
  fun h0 ds H locs ls h1 h3 h4 h5 h6 => h h0 ds H locs ls h1 ⟨h3.1, h3.2.1, fun i v hi => h3.2.2 i v (dp_msk_gt b9 L i v hi)⟩ h4 h5 h6
theorem dp_KW.wid {pc : Nat} {L : dp_L} {st : List Value} {n cc q cc' q' nL : Nat} {M : dp_M} {o : dp_O} (hc : cc ≤ cc') (hq : q ≤ q') (h : dp_KW p l e R s m args below meth c Qm g A nL ad pc L st n cc' q' M o) : dp_KW p l e R s m args below meth c Qm g A nL ad pc L st n cc q M o :=
  fun h0 ds H locs ls h1 h3 h4 h5 h6 => W.widen hc hq (h h0 ds H locs ls h1 h3 h4 h5 h6)
-- loads
theorem dp_li_of {L : dp_L} {i : Nat} {f : Int32 → Prop} (h : dp_li L i f) : ∃ x, dp_gt L i = some (.int x) ∧ f x := by
  unfold dp_li at h
  split at h
  · rename_i x hx
    exact ⟨x, hx, h⟩
  · exact h.elim
theorem dp_lj_of {L : dp_L} {i : Nat} {f : Int64 → Prop} (h : dp_lj L i f) : ∃ x, dp_gt L i = some (.long x) ∧ f x := by
  unfold dp_lj at h
  split at h
  · rename_i x hx
    exact ⟨x, hx, h⟩
  · exact h.elim
theorem dp_ld_of {L : dp_L} {i : Nat} {f : UInt64 → Prop} (h : dp_ld L i f) : ∃ x, dp_gt L i = some (.double x) ∧ f x := by
  unfold dp_ld at h
  split at h
  · rename_i x hx
    exact ⟨x, hx, h⟩
  · exact h.elim
theorem dp_lr_of {L : dp_L} {i : Nat} {f : Nat → Prop} (h : dp_lr L i f) : ∃ x, dp_gt L i = some (.ref x) ∧ f x := by
  unfold dp_lr at h
  split at h
  · rename_i x hx
    exact ⟨x, hx, h⟩
  · exact h.elim
theorem dp_p1_of {st : List Value} {f : Value → List Value → Prop} (h : dp_p1 st f) : ∃ v r, st = v :: r ∧ f v r := by
  unfold dp_p1 at h
  split at h
  · exact ⟨_, _, rfl, h⟩
  · exact h.elim
theorem dp_pi_of {st : List Value} {f : Int32 → List Value → Prop} (h : dp_pi st f) : ∃ x r, st = .int x :: r ∧ f x r := by
  unfold dp_pi at h
  split at h
  · exact ⟨_, _, rfl, h⟩
  · exact h.elim
theorem dp_pj_of {st : List Value} {f : Int64 → List Value → Prop} (h : dp_pj st f) : ∃ x r, st = .long x :: r ∧ f x r := by
  unfold dp_pj at h
  split at h
  · exact ⟨_, _, rfl, h⟩
  · exact h.elim
theorem dp_pd_of {st : List Value} {f : UInt64 → List Value → Prop} (h : dp_pd st f) : ∃ x r, st = .double x :: r ∧ f x r := by
  unfold dp_pd at h
  split at h
  · exact ⟨_, _, rfl, h⟩
  · exact h.elim
theorem dp_pr_of {st : List Value} {f : Nat → List Value → Prop} (h : dp_pr st f) : ∃ x r, st = .ref x :: r ∧ f x r := by
  unfold dp_pr at h
  split at h
  · exact ⟨_, _, rfl, h⟩
  · exact h.elim
theorem dp_opt_of {α : Type} {e : Option α} {f : α → Prop} (h : dp_opt e f) : ∃ x, e = some x ∧ f x := by
  unfold dp_opt at h
  split at h
  · exact ⟨_, rfl, h⟩
  · exact h.elim
theorem dp_get_of {M : dp_M} {h : Nat} {e : Option (Nat × Nat)} {f : Value → Prop} (hh : dp_get M h e f) : ∃ ci k fs v, e = some (ci, k) ∧ dp_obj M h = some (ci, fs) ∧ dp_gtv fs k = some v ∧ f v := by
  unfold dp_get at hh
  split at hh
  · split at hh
    · rename_i ci k x9 q hq
      obtain ⟨h1, h2⟩ := hh
      split at h2
      · rename_i v hv
        exact ⟨ci, k, q.2, v, rfl, by rw [hq, ← h1], hv, h2⟩
      · exact h2.elim
    · exact hh.elim
  · exact hh.elim
theorem dp_put_of {M : dp_M} {h : Nat} {e : Option (Nat × Nat)} {f : Nat → Prop} (hh : dp_put M h e f) : ∃ ci k fs w, e = some (ci, k) ∧ dp_obj M h = some (ci, fs) ∧ dp_gtv fs k = some (.int w) ∧ f k := by
  unfold dp_put at hh
  split at hh
  · split at hh
    · rename_i ci k x9 q hq
      obtain ⟨h1, h2⟩ := hh
      split at h2
      · rename_i w hw
        exact ⟨ci, k, q.2, w, rfl, by rw [hq, ← h1], hw, h2⟩
      · exact h2.elim
    · exact hh.elim
  · exact hh.elim
theorem dp_cel_O {ad : Nat → Nat} {M : dp_M} {h : Nat} {q : Nat × List Value} (hq : dp_obj M h = some q) : dp_cel g ad M h = .inr (q.1, q.2.map (dp_cv ad)) := by
  unfold dp_cel
  rw [hq]
theorem dp_ts_of {x : Int32} : ∀ {lo : Int} {os : List Int} {F : Int → Prop} (i : Nat) (h : dp_ts x lo os F) (hx : x.toInt = lo + i) (hi : i < os.length), ∃ o, os[i]? = some o ∧ F o
  | lo, [], F, i, h, hx, hi => absurd hi (Nat.not_lt_zero _)
  | lo, o :: t, F, 0, h, hx, hi => ⟨o, rfl, h.1 (by simpa using hx)⟩
  | lo, o :: t, F, i + 1, h, hx, hi => by
    obtain ⟨z, h1, h2⟩ := dp_ts_of (lo := lo + 1) (os := t) i h.2 (by rw [hx]; push_cast; omega) (by simpa using hi)
    exact ⟨z, by rw [List.getElem?_cons_succ]; exact h1, h2⟩
end DPS
end
section
/-! Calls and throws in the deep semantics, over the machine. -/
theorem dp_take_of : ∀ (k : Nat) (st acc : List Value) (f : List Value → List Value → Prop), dp_take k st acc f → ∃ t r, t.length = k ∧ st = t ++ r ∧ f (t.reverse ++ acc) r
  | 0, st, acc, f, h => ⟨[], st, rfl, rfl, h⟩
  | k + 1, [], acc, f, h => h.elim
  | k + 1, v :: st, acc, f, h => by
    obtain ⟨t, r, h1, h2, h3⟩ := dp_take_of k st (v :: acc) f h
    refine ⟨v :: t, r, by rw [List.length_cons, h1], by rw [h2]; rfl, ?_⟩
    rw [List.reverse_cons, List.append_assoc]
    exact h3
theorem dp_vid_cls : ∀ z, z < 77 → (z ∈ dp_vids ∨ z = 59 ∨ z = 60) → dp_ow z < 6 := by decide +kernel
section DPC
variable {p : Program} {l : Launch} {e : Env} {R : Room} {s : State} {m : MethodId} {args : Array Value} {below : List Frame} {meth : Method} {c : Code} {Qm : State → Prop}
variable {g : dp_G} {X : dp_X} {b : Nat} {A : Nat → Prop} {y d : Nat} {ad : Nat → Nat} {Q : dp_Q}
theorem dp_ran {cc q mc ms pc : Nat} {Q' : dp_Q} {a : Array Value} {H : Heap} {locs : List Loc} {ls : Array Slot} {st0 rest : List Value}
    (hr : vx_Run p l e R s m args below meth c H locs cc q mc ms (F0 m pc ls st0) rest (dp_Qc g A ad Q' a) (dp_XC g A ad Q') A) (hS : va_S A s.heap H locs)
    (kk : ∀ (v : Option Value) (M : dp_M) (o : dp_O) (ds : dp_D) (H1 : Heap) (locs1 : List Loc), Q' (.inl v) M o → dp_rep o ds → va_P g.1 vwCl (dp_ww g ad M ds) H1 → va_D A (dp_ww g ad M ds) → va_S A s.heap H1 locs1 → W p l e R s m args below meth c H1 locs1 (cc + mc) (q + ms) Qm (F0 m (pc + 3) ls ((v.map (dp_cv ad)).toList ++ rest)))
    (kx : ∀ (k : Nat) (M : dp_M) (o : dp_O) (ds : dp_D) (ce : Cell) (q9 : Addr) (H1 : Heap) (locs1 : List Loc), k ≤ 2 → Q' (.inr k) M o → dp_rep o ds → va_P g.1 vwCl (dp_ww g ad M ds) H1 → va_D A (dp_ww g ad M ds) → va_S A s.heap H1 locs1 → H1[q9]? = some ce → ce.vm = .none → s.vm.findClass (dp_exn k) = some ce.cls → vx_W p l e R s m args below meth c H1 locs1 (cc + mc) (q + ms) Qm (F0 m pc ls rest) q9) :
    W p l e R s m args below meth c H locs cc q Qm (F0 m pc ls st0) := by
  intro T hT X'
  rcases hr T hT X' with ⟨v, st₀, t, T', L, h0, X', hL, e1, e2, ⟨⟨v', M, o, hv, hq, ds, hrep, hp, hd⟩, hF⟩, st⟩ | ⟨q9, st₀, t, T', L, E, ce, h0, X', hL, e1, e2, ⟨⟨k, M, o, hE, hk, hq, ds, hrep, hp, hd⟩, hF⟩, hce, hcv, hcl, st⟩
  · cases hv
    obtain ⟨k1, k2, k3⟩ := vx_keep h0 e1 hS (fun _ _ h => h) (fun _ h => h) hL hF
    obtain ⟨t2, a1, b1⟩ := kk v' M o ds T'.heap (locs ++ L) hq hrep (by rw [e1]; exact hp) hd k3 T' rfl X'
    exact ⟨t2, st t2 a1, b1⟩
  · obtain ⟨k1, k2, k3⟩ := vx_keep h0 e1 hS (fun _ _ h => h) (fun _ h => h) hL hF
    obtain ⟨t2, a1, b1⟩ := kx k M o ds ce q9 T'.heap (locs ++ L) hk hq hrep (by rw [e1]; exact hp) hd k3 (by rw [e1]; exact hce) hcv (by rw [← hE]; exact hcl) T' rfl X'
    exact ⟨t2, st.trans a1, b1⟩
theorem dp_iv_of {o i : Nat} {f : Option (Nat × Nat × Nat × Nat × Bool × Nat × Nat) → Prop} (hn : ¬ f none) (h : f (dp_iv o i)) : ∃ z, (o, i, z) ∈ dp_ml ∧ z < 77 ∧ f (some (z, dp_na z, dp_mc z, dp_ms z, dp_sta z, dp_ow z, dp_mL z)) := by
  unfold dp_iv at h
  cases hz : dp_lo dp_ml o i with
  | none => rw [hz] at h; exact absurd h hn
  | some z =>
    rw [hz] at h
    exact ⟨z, dp_lo_in _ _ _ _ hz, dp_ml_lt _ (dp_lo_in _ _ _ _ hz), h⟩
theorem dp_cl5 {ci : Nat} (h : ci < 6) : ∃ q, vwCl[ci]? = some q ∧ q.1 = dp_o ci := by
  rcases (by omega : ci = 0 ∨ ci = 1 ∨ ci = 2 ∨ ci = 3 ∨ ci = 4 ∨ ci = 5) with rfl | rfl | rfl | rfl | rfl | rfl <;> exact ⟨_, rfl, rfl⟩
/-- the receiver's cell -/
theorem dp_rcv_of {M : dp_M} {o : dp_O} {ds : dp_D} {as : List Value} {w : Nat} (hr : dp_rep o ds) (had : dp_adk ad b) (h : dp_rcv 65 M o as w) : ∃ (hh : Nat) (as' fs : List Value) (k : Nat), as = .ref hh :: as' ∧ (dp_ww g ad M ds)[k]? = some (ad hh, .inr (w, fs)) := by
  unfold dp_rcv at h
  split at h
  · rename_i hh as'
    rcases h with ⟨h1, h2⟩ | ⟨fs, h1⟩
    · cases hq : dp_obj M hh with
      | some q =>
        rw [hq] at h2
        have h2 : q.1 = w := h2
        refine ⟨hh, as', q.2.map (dp_cv ad), dp_pos hh, rfl, ?_⟩
        rw [dp_wl_at h1 (dp_obj_k hq), dp_cel_O hq, h2]
      | none =>
        rw [hq] at h2
        exact h2.elim
    · obtain ⟨-, k, -, hk⟩ := dp_dyn (g := g) (M := M) hr had h1
      exact ⟨hh, as', fs.map (dp_cv ad), 60 + k, rfl, hk⟩
  · exact h.elim
theorem dp_blind {M : dp_M} {o : dp_O} {av : List Value} : FrameBlind (va_Pc av (dp_Pc g X b A ad M o)) := fun a U f mk h => ⟨h.1, h.2.1.call, h.2.2⟩
theorem dp_codeE {z : Nat} (h : (dp_hh z).isEmpty = true) : dp_codeW z = .code (dp_nm z) (dp_by z) (dp_mL z) (dp_rt z) := by
  unfold dp_codeW
  rw [h]
  rfl
theorem dp_goodz {z : Nat} (hz : z < 77) : GoodIn dp_wd (dp_codeW z :: dp_wd) := fun w hw => by
  rcases List.mem_cons.mp hw with rfl | hw
  · exact ⟨dp_wd_code hz, (dp_wd_good _ (dp_wd_code hz)).2⟩
  · exact ⟨hw, (dp_wd_good _ hw).2⟩
theorem dp_rmle {d' d z : Nat} (hd : d = d' + 1) (hfr : d ≤ R.frames) (hlo : 30 * d + 60 + dp_xl y ≤ R.locals) (hm : dp_mL z + dp_xl z ≤ 11 + dp_xl y) : (dp_rm z d').frames + 1 ≤ R.frames ∧ 8 + (dp_mL z + 11) + (dp_rm z d').locals ≤ R.locals := by
  subst hd
  refine ⟨hfr, ?_⟩
  show 8 + (dp_mL z + 11) + (30 * d' + 60 + dp_xl z) ≤ R.locals
  omega
/-- what follows a call -/
theorem dp_fin {z pc cc q n : Nat} {L : dp_L} {r st : List Value} {a : Array Value} {ls : Array Slot} {H : Heap} {locs : List Loc} (hX : dp_Ex p l e R s m args below meth c Qm g A y ad Q) (h0 : n = 65) (h3 : dp_LH ls (dp_mL y) ad L) (h6 : va_S A s.heap H locs)
    (hr : vx_Run p l e R s m args below meth c H locs cc q (dp_mc z) (dp_ms z) (F0 m pc ls st) (r.map (dp_cv ad)) (dp_Qc g A ad (dp_aft y Q (dp_KW p l e R s m args below meth c Qm g A (dp_mL y) ad) pc L r n (cc + dp_mc z) (q + dp_ms z)) a) (dp_XC g A ad (dp_aft y Q (dp_KW p l e R s m args below meth c Qm g A (dp_mL y) ad) pc L r n (cc + dp_mc z) (q + dp_ms z))) A) :
    W p l e R s m args below meth c H locs cc q Qm (F0 m pc ls st) := dp_ran hr h6
    (fun v M1 o1 ds1 H1 locs1 hq hrep hp hd hS => by
      cases v with
      | none => exact hq h0 ds1 H1 locs1 ls hrep h3 hp hd hS
      | some v => exact hq h0 ds1 H1 locs1 ls hrep h3 hp hd hS)
    (fun k M1 o1 ds1 ce q9 H1 locs1 hk hq hrep hp hd hS hce hcv hcl => by
      obtain ⟨q1, q2, q3⟩ := hq
      exact hX k pc _ _ M1 o1 ds1 H1 locs1 ls _ ce q9 hrep hp hd hS hk hce hcv hcl q2 q3 q1)
/-- a call of a method, static or not -/
theorem dp_inv_ok {call : dp_C} {d' : Nat} (C : dp_Cx p l R s m args c g X b A y d) (had : dp_adk ad b) (hdd : d = d' + 1) (hX : dp_Ex p l e R s m args below meth c Qm g A y ad Q) (hC : ∀ z as n M o Q', z < 77 → call z as n M o Q' → dp_Mt l g X b A d' z as n M o Q')
    {i pc n cc q : Nat} {L : dp_L} {st : List Value} {M : dp_M} {o : dp_O} {sb : Bool} (hdec : decode (dp_by y) pc = .ok (if sb then .invokestatic i else .invokevirtual i, 3)) 
    (h : dp_inv call y Q (dp_KW p l e R s m args below meth c Qm g A (dp_mL y) ad) pc L st n cc q M o sb (dp_iv (dp_ow y) i)) : dp_KW p l e R s m args below meth c Qm g A (dp_mL y) ad pc L st n cc q M o := by
  intro h0 ds H locs ls h1 h3 h4 h5 h6
  obtain ⟨z, hmem, hz, h⟩ := dp_iv_of (f := fun z => dp_inv call y Q (dp_KW p l e R s m args below meth c Qm g A (dp_mL y) ad) pc L st n cc q M o sb z) (fun h => h) h
  obtain ⟨t, r, ht, rfl, hsta, h65, hasz, hxl, hrl, hmc, hms, hrcv, hcall⟩ := dp_take_of _ _ _ _ h
  rw [List.append_nil] at hrcv hcall hasz
  obtain ⟨hx, hb, hml, hown, hts, htr, htab, hd1, hfr, hlo, hRc, hRs, hy, hG⟩ := C
  obtain ⟨z1, z2, z3, z4, z5, z6, z7, z8⟩ := dp_zok_spec (z := z) (by omega)
  have hM := hC z _ n M o _ hz hcall h0 hasz ad had
  have hPre : ∀ U : State, U.heap = H → s.WarmedH U.vm → dp_Pc g X b A ad M o U := fun U hU hW => ⟨hG.go hW hU h6, ds, h1, by rw [hU]; exact h4, h5⟩
  have hlink : (Cond.methodLink (dp_o (dp_ow y)) i (dp_nm z)).before args s = true := hts _ (dp_wd_link hmem)
  have hini : (Cond.initialized (dp_nm z).cls).before args s = true := by rw [z4]; exact hts _ (dp_wd_init z7)
  have hkind := hts _ (dp_wd_kind hz)
  have hrs : ((r.map (dp_cv ad)).map fun v => v.category).sum ≤ 8 := Nat.le_trans (dp_sum_le ad r) (by omega)
  have hsum : cc + dp_mc z ≤ R.cells ∧ q + dp_ms z ≤ R.slots := by rw [hRc, hRs]; exact ⟨hmc, hms⟩
  have hstk : (t ++ r).map (dp_cv ad) = ((t.reverse).map (dp_cv ad)).reverse ++ r.map (dp_cv ad) := by rw [List.map_append, ← List.map_reverse, List.reverse_reverse]
  by_cases hsb : sb = true
  · subst hsb
    have hst : dp_sta z = true := hsta
    have hstat : (Cond.static (dp_nm z)).before args s = true := by
      unfold dp_kindW at hkind
      rw [hst] at hkind
      exact hkind
    have hlen : t.reverse.length = dp_na z := by rw [List.length_reverse, ht]
    rw [hst] at z5
    exact dp_fin hX h0 h3 h6 (vx_runS (nL := dp_mL y) (As := (t.reverse).map (dp_cv ad)) (Ts := dp_wd) (n := dp_na z) (g := F0 m pc ls ((t ++ r).map (dp_cv ad))) ⟨hx, hb, hml, hown, hts⟩ hM ⟨callB_of (ws' := dp_wd) (bytes := dp_by z) (maxL := dp_mL z) (ret := dp_rt z) (dp_na z) hts (dp_goodz hz) (by rw [dp_codeE z6]) rfl rfl hini hlink ⟨z1, z2, z5⟩ (dp_rmle hdd hfr hlo hxl), hstat⟩ ⟨dp_blind, fun U hU hW => ⟨rfl, hPre U hU hW⟩⟩ rfl (by rw [List.length_map, hlen]) (h3.1) hstk (lv_room hrs) hdec hsum)
  · have hsb : sb = false := by simpa using hsb
    subst hsb
    have hst : dp_sta z = false := hsta
    rcases z8 with z8 | ⟨z9, z10⟩
    · rw [hst] at z8; cases z8
    rcases hrcv with hrcv | hrcv
    · cases hrcv
    obtain ⟨hrcv, hnin⟩ := hrcv
    rw [h0] at hrcv
    obtain ⟨hh, as', fs, kq, hrev, hcl⟩ := dp_rcv_of (g := g) h1 had hrcv
    obtain ⟨qc, hqc, hqn⟩ := dp_cl5 (dp_vid_cls z hz z9)
    have hcell := va_recv (q := qc) hG.1 h4 hqc hcl
    rw [hqn, ← z4] at hcell
    have hrev2 : t = as'.reverse ++ [.ref hh] := by rw [← List.reverse_reverse t, hrev, List.reverse_cons]
    have hstk2 : (t ++ r).map (dp_cv ad) = (as'.map (dp_cv ad)).reverse ++ .ref (ad hh) :: r.map (dp_cv ad) := by
      rw [hrev2, List.append_assoc, List.map_append, ← List.map_reverse]
      rfl
    have hlen : (as'.map (dp_cv ad)).length = dp_na z - 1 := by
      have : t.reverse.length = dp_na z := by rw [List.length_reverse, ht]
      rw [hrev, List.length_cons] at this
      rw [List.length_map]
      omega
    rw [hst] at z5
    rw [hrev] at hM
    have hinst : (Cond.instanceMethod (dp_nm z)).before args s = true := by
      unfold dp_kindW at hkind
      rw [hst] at hkind
      exact hkind
    have hvid : z ∈ dp_vids := by
      rcases z9 with z9 | rfl | rfl
      · exact z9
      · cases hnin
      · cases hnin
    exact dp_fin hX h0 h3 h6 (vx_runV (nL := dp_mL y) (C := (dp_nm z).cls) (b := ad hh) (As := as'.map (dp_cv ad)) (Ts := dp_wd) (n := dp_na z - 1) (g := F0 m pc ls ((t ++ r).map (dp_cv ad))) ⟨hx, hb, hml, hown, hts⟩ hM ⟨callB_of (ws' := dp_wd) (bytes := dp_by z) (maxL := dp_mL z) (ret := dp_rt z) (dp_na z - 1) hts (dp_goodz hz) (by rw [dp_codeE z6]) rfl rfl hini hlink ⟨z1, z2, z5⟩ (dp_rmle hdd hfr hlo hxl), hinst, hts _ (dp_wd_sel hvid)⟩ ⟨dp_blind, hcell, fun U hU hW => ⟨rfl, hPre U hU hW⟩⟩ rfl hlen (h3.1) hstk2 (lv_room hrs) hdec hsum)
/-- a constructor's call -/
theorem dp_ins_ok {call : dp_C} {d' : Nat} (C : dp_Cx p l R s m args c g X b A y d) (had : dp_adk ad b) (hdd : d = d' + 1) (hX : dp_Ex p l e R s m args below meth c Qm g A y ad Q) (hC : ∀ z as n M o Q', z < 77 → call z as n M o Q' → dp_Mt l g X b A d' z as n M o Q')
    {i pc n cc q : Nat} {L : dp_L} {st : List Value} {M : dp_M} {o : dp_O} (hdec : decode (dp_by y) pc = .ok (.invokespecial i, 3))
    (h : dp_ins call y Q (dp_KW p l e R s m args below meth c Qm g A (dp_mL y) ad) pc L st n cc q M o (dp_iv (dp_ow y) i) ∨ dp_ins call y Q (dp_KW p l e R s m args below meth c Qm g A (dp_mL y) ad) pc L st n cc q M o (dp_ivN (dp_ow y) i)) : dp_KW p l e R s m args below meth c Qm g A (dp_mL y) ad pc L st n cc q M o := by
  intro h0 ds H locs ls h1 h3 h4 h5 h6
  obtain ⟨hx, hb, hml, hown, hts, htr, htab, hd1, hfr, hlo, hRc, hRs, hy, hG⟩ := C
  have key : ∃ z, ((o, i, z) = (o, i, z) ∧ (((dp_ow y, i, z) ∈ dp_ml) ∨ (dp_ow y = 6 ∧ i = 48 ∧ z = 59))) ∧ dp_ins call y Q (dp_KW p l e R s m args below meth c Qm g A (dp_mL y) ad) pc L st n cc q M o (some (z, dp_na z, dp_mc z, dp_ms z, dp_sta z, dp_ow z, dp_mL z)) := by
    rcases h with h | h
    · obtain ⟨z, hmem, hz, h⟩ := dp_iv_of (f := fun z => dp_ins call y Q (dp_KW p l e R s m args below meth c Qm g A (dp_mL y) ad) pc L st n cc q M o z) (fun h => h) h
      exact ⟨z, ⟨rfl, Or.inl hmem⟩, h⟩
    · unfold dp_ivN at h
      by_cases hc : dp_ow y = 6 ∧ i = 48
      · rw [if_pos hc] at h
        exact ⟨59, ⟨rfl, Or.inr ⟨hc.1, hc.2, rfl⟩⟩, h⟩
      · rw [if_neg hc] at h
        exact h.elim
  obtain ⟨z, ⟨-, hlk⟩, h⟩ := key
  obtain ⟨t, r, ht, rfl, hz9, h65, hasz, hxl, hrl, hmc, hms, hrcv, hcall⟩ := dp_take_of _ _ _ _ h
  rw [List.append_nil] at hrcv hcall hasz
  have hz : z < 77 := by omega
  obtain ⟨z1, z2, z3, z4, z5, z6, z7, z8⟩ := dp_zok_spec (z := z) (by omega)
  have hM := hC z _ n M o _ hz hcall h0 hasz ad had
  have hPre : ∀ U : State, U.heap = H → s.WarmedH U.vm → dp_Pc g X b A ad M o U := fun U hU hW => ⟨hG.go hW hU h6, ds, h1, by rw [hU]; exact h4, h5⟩
  have hini : (Cond.initialized (dp_nm z).cls).before args s = true := by rw [z4]; exact hts _ (dp_wd_init z7)
  have hkind := hts _ (dp_wd_kind hz)
  have hrs : ((r.map (dp_cv ad)).map fun v => v.category).sum ≤ 8 := Nat.le_trans (dp_sum_le ad r) (by omega)
  have hsum : cc + dp_mc z ≤ R.cells ∧ q + dp_ms z ≤ R.slots := by rw [hRc, hRs]; exact ⟨hmc, hms⟩
  obtain ⟨i1, i2, i3, i4, i5, i6⟩ := dp_inits
  have hnm : (dp_nm z).name = "<init>" := by rcases hz9 with rfl | rfl <;> assumption
  have hst : dp_sta z = false := by rcases hz9 with rfl | rfl <;> assumption
  have hrt : dp_rt z = none := by rcases hz9 with rfl | rfl <;> assumption
  rw [h0] at hrcv
  obtain ⟨hh, as', fs, kq, hrev, hcl⟩ := dp_rcv_of (g := g) h1 had hrcv
  have hrev2 : t = as'.reverse ++ [.ref hh] := by rw [← List.reverse_reverse t, hrev, List.reverse_cons]
  have hstk2 : (t ++ r).map (dp_cv ad) = (as'.map (dp_cv ad)).reverse ++ .ref (ad hh) :: r.map (dp_cv ad) := by
    rw [hrev2, List.append_assoc, List.map_append, ← List.map_reverse]
    rfl
  have hna : 1 ≤ dp_na z := by
    rcases z8 with z8 | z8
    · rw [hst] at z8; cases z8
    · exact z8.2
  have hlen : (as'.map (dp_cv ad)).length = dp_na z - 1 := by
    have : t.reverse.length = dp_na z := by rw [List.length_reverse, ht]
    rw [hrev, List.length_cons] at this
    rw [List.length_map]
    omega
  rw [hst] at z5
  rw [hrev] at hM
  have hinst : (Cond.instanceMethod (dp_nm z)).before args s = true := by
    unfold dp_kindW at hkind
    rw [hst] at hkind
    exact hkind
  have hcode : dp_codeW z = .code (dp_nm z) (dp_by z) (dp_mL z) none := by rw [dp_codeE z6, hrt]
  rcases hlk with hmem | ⟨ho, rfl, rfl⟩
  · have hlink : (Cond.methodLink (dp_o (dp_ow y)) i (dp_nm z)).before args s = true := hts _ (dp_wd_link hmem)
    exact dp_fin hX h0 h3 h6 (vx_runI (nL := dp_mL y) (b := ad hh) (As := as'.map (dp_cv ad)) (Ts := dp_wd) (n := dp_na z - 1) (g := F0 m pc ls ((t ++ r).map (dp_cv ad))) ⟨hx, hb, hml, hown, hts⟩ hM ⟨callB_of (ws' := dp_wd) (bytes := dp_by z) (maxL := dp_mL z) (ret := none) (dp_na z - 1) hts (dp_goodz hz) (by rw [hcode]) rfl rfl hini hlink ⟨z1, z2, z5⟩ (dp_rmle hdd hfr hlo hxl), hnm, hinst⟩ ⟨dp_blind, fun U hU hW => ⟨rfl, hPre U hU hW⟩⟩ rfl hlen (h3.1) hstk2 (lv_room hrs) hdec hsum)
  · rw [ho] at hown
    have hnest := hG.2.2.2.2.2.2.2.2.2.2.2.2
    exact dp_fin hX h0 h3 h6 (vx_runIN (host := RL) (own := RL) (nL := dp_mL y) (b := ad hh) (As := as'.map (dp_cv ad)) (Ts := dp_wd) (n := dp_na 59 - 1) (g := F0 m pc ls ((t ++ r).map (dp_cv ad))) ⟨hx, hb, hml, hown, hts⟩ hM ⟨va_cnB (ws' := dp_wd) (bytes := dp_by 59) (maxL := dp_mL 59) (ret := none) (dp_na 59 - 1) hts (dp_goodz hz) (by rw [hcode]) rfl rfl hnest hini ⟨z1, z2, z5⟩ (dp_rmle hdd hfr hlo hxl), hnm, hinst⟩ ⟨dp_blind, fun U hU hW => ⟨rfl, hPre U hU hW⟩⟩ rfl hlen (h3.1) hstk2 (lv_room hrs) hdec hsum)
end DPC
end
section
/-! One instruction of the deep semantics, over the machine. -/
section DPT
variable {p : Program} {l : Launch} {e : Env} {R : Room} {s : State} {m : MethodId} {args : Array Value} {below : List Frame} {meth : Method} {c : Code} {Qm : State → Prop}
variable {g : dp_G} {X : dp_X} {b : Nat} {A : Nat → Prop} {y d : Nat} {ad : Nat → Nat} {Q : dp_Q}
theorem dp_nat_of {o i : Nat} {f : Option Nat → Prop} (hn : ¬ f none) (h : f (dp_nat o i)) : ∃ z, (o, i, z) ∈ dp_nl ∧ f (some z) := by
  unfold dp_nat at h
  cases hz : dp_lo dp_nl o i with
  | none => rw [hz] at h; exact absurd h hn
  | some z =>
    rw [hz] at h
    exact ⟨z, dp_lo_in _ _ _ _ hz, h⟩
theorem dp_natw_ok (C : dp_Cx p l R s m args c g X b A y d) {i pc n cc q : Nat} {L : dp_L} {st : List Value} {M : dp_M} {o : dp_O} (hd : decode (dp_by y) pc = .ok (.invokestatic i, 3))
    (h : dp_natw y (dp_KW p l e R s m args below meth c Qm g A (dp_mL y) ad) pc L st n cc q M o (dp_nat (dp_ow y) i)) : dp_KW p l e R s m args below meth c Qm g A (dp_mL y) ad pc L st n cc q M o := by
  obtain ⟨z, hmem, h⟩ := dp_nat_of (f := fun z => dp_natw y (dp_KW p l e R s m args below meth c Qm g A (dp_mL y) ad) pc L st n cc q M o z) (fun h => h) h
  obtain ⟨hx, hb, hml, hown, hts, htr, htab, hd1, hfr, hlo, hRc, hRs, hy, hG⟩ := C
  intro h0 ds H locs ls h1 h3 h4 h5 h6
  have hw := hts _ (dp_wd_nat hmem)
  unfold dp_linkN at hw
  have hml' : c.maxLocals = ls.size := by rw [hml, h3.1]
  have hfr1 : 1 ≤ R.frames := Nat.le_trans hd1 hfr
  have hloc : ∀ (r : List Value) (k : Nat), r.length ≤ 4 → k ≤ 80 → ((r.map (dp_cv ad)).map fun v => v.category).sum + k ≤ R.locals := fun r k hr hk => by
    have := dp_sum_le ad r
    omega
  by_cases hz0 : z = 200
  · subst hz0
    obtain ⟨v, r, rfl, k1⟩ := dp_pi_of h
    obtain ⟨u, r, rfl, hr, hcc, hqq, k2⟩ := dp_pi_of k1
    exact va_mmin hx hb hml' hown hw (hts _ (dp_wd_x0 0 rfl)) (hts _ (dp_wd_x0 1 rfl)) (hts _ (dp_wd_x0 2 rfl)) hfr1 (hloc r 13 hr (by omega)) (by rw [hRc]; exact hcc) (by rw [hRs]; exact hqq) hd (k2 h0 ds H locs ls h1 h3 h4 h5 h6)
  by_cases hz1 : z = 201
  · subst hz1
    obtain ⟨v, r, rfl, k1⟩ := dp_pi_of h
    obtain ⟨u, r, rfl, hr, hcc, hqq, k2⟩ := dp_pi_of k1
    exact va_mmax hx hb hml' hown hw (hts _ (dp_wd_x0 3 rfl)) (hts _ (dp_wd_x0 1 rfl)) (hts _ (dp_wd_x0 4 rfl)) hfr1 (hloc r 13 hr (by omega)) (by rw [hRc]; exact hcc) (by rw [hRs]; exact hqq) hd (k2 h0 ds H locs ls h1 h3 h4 h5 h6)
  by_cases hz2 : z = 202
  · subst hz2
    obtain ⟨k, r, rfl, k1⟩ := dp_pi_of h
    obtain ⟨dp, r, rfl, k2⟩ := dp_pi_of k1
    obtain ⟨a2, r, rfl, k3⟩ := dp_pr_of k2
    obtain ⟨sp, r, rfl, k4⟩ := dp_pi_of k3
    obtain ⟨a1, r, rfl, hr, q1, q2, q3, q4, q5, q6, q7, q8, q9, k5⟩ := dp_pr_of k4
    rw [h0] at q3 q4
    exact va_copyi hx hb hml' hown hw (hts _ (dp_wd_x0 5 rfl)) (hts _ (dp_wd_x0 6 rfl)) (hts _ (dp_wd_x0 7 rfl)) hG.1 h4 h5 h6 (dp_pos a1) (dp_pos a2) 0 0 (dp_wl_A q3 q1) (dp_wl_A q4 q2) rfl rfl rfl q5 q6 q7 q8 q9 (fun _ _ => rfl) hfr1 (hloc r _ hr (by decide)) hd (fun H1 locs1 g1 g2 g3 => by
      rw [dp_set_A q4 q2] at g1 g2
      exact k5 h0 ds H1 locs1 ls h1 h3 g1 g2 g3)
  exfalso
  unfold dp_natw at h
  split at h
  · rename_i hq; exact hz0 (Option.some.inj hq)
  · rename_i hq; exact hz1 (Option.some.inj hq)
  · rename_i hq; exact hz2 (Option.some.inj hq)
  · exact h
theorem dp_aald (hx : p.tables.exec = Jvm.exec) {cc : ByteArray} (hb : c.code = cc) {pc : Nat} {ls : Array Slot} {rest : List Value} {D : va_G} {cl : List vw_C} {a : Nat} {tys : List (ClassId × FieldType)} {ws : va_W} {H : Heap} {locs : List Loc} {cells slots : Nat} (hK : va_K D cl tys s) (hP : va_P D cl ws H) (q0 t0 : Nat) {cA : ClassId} {n : Nat} {f : Nat → Option Nat} (ha : ws[q0]? = some (a, .inl (cA, n, .inr (.inr (.inr (.inr f)))))) (ht : tys[t0]? = some (cA, .array .int)) {i : Int32} (hin : vp_in i n) (hdg : decode cc pc = .ok (.aaload, 1))
    (kk : W p l e R s m args below meth c H locs cells slots Qm (F0 m (pc + 1) ls (va_rf (f i.toNatClampNeg) :: rest))) : W p l e R s m args below meth c H locs cells slots Qm (F0 m pc ls (.int i :: .ref a :: rest)) := by
  have hlt : i.toNatClampNeg < n := Nat.not_le.mp fun q => hin (Or.inr q)
  exact W.aald (v := va_rf (f i.toNatClampNeg)) (ty := .array .int) hx hb (hP q0 _ ha) ((hK.2 t0 _ ht).1 n (fun j => va_rf (f j))) rfl (fun q => by cases q) (by show ¬ (i < 0 ∨ (arrV _ _ _).slots.size ≤ _); rw [arrV_size]; exact hin) (by show (arrV _ _ _).slots[_]? = _; rw [arrV_read _ _ hlt]) rfl rfl hdg kk
/-- an int array into a row of int arrays -/
theorem dp_aast (hx : p.tables.exec = Jvm.exec) {cc : ByteArray} (hb : c.code = cc) {pc : Nat} {ls : Array Slot} {rest : List Value} {D : va_G} {cl : List vw_C} {a v : Nat} {tys : List (ClassId × FieldType)} {ws : va_W} {H : Heap} {locs : List Loc} {cells slots : Nat} {B : Nat → Prop} {H0 : Heap} (hK : va_K D cl tys s) (hP : va_P D cl ws H) (hD : va_D B ws) (hS : va_S B H0 H locs) (hO : va_AOA .int s) (q0 t0 q1 t1 : Nat) {cA cI : ClassId} {n n1 : Nat} {f : Nat → Option Nat} {f1 : Nat → Int32} (ha : ws[q0]? = some (a, .inl (cA, n, .inr (.inr (.inr (.inr f)))))) (ht : tys[t0]? = some (cA, .array .int)) (hv : ws[q1]? = some (v, .inl (cI, n1, .inl f1))) (ht1 : tys[t1]? = some (cI, .int)) {i : Int32} (hin : vp_in i n) (hdg : decode cc pc = .ok (.aastore, 1))
    (kk : ∀ (H1 : Heap) (locs1 : List Loc), va_P D cl (ws.set q0 (a, .inl (cA, n, .inr (.inr (.inr (.inr (va_up f i.toNatClampNeg (some v)))))))) H1 → va_D B (ws.set q0 (a, .inl (cA, n, .inr (.inr (.inr (.inr (va_up f i.toNatClampNeg (some v)))))))) → va_S B H0 H1 locs1 → W p l e R s m args below meth c H1 locs1 cells slots Qm (F0 m (pc + 1) ls rest)) : W p l e R s m args below meth c H locs cells slots Qm (F0 m pc ls (.ref v :: .int i :: .ref a :: rest)) := by
  have hlt : i.toNatClampNeg < n := Nat.not_le.mp fun q => hin (Or.inr q)
  have h0 : ¬ i < 0 := fun q => hin (Or.inl q)
  obtain ⟨comp, c9, k9, o1, -, o3, o4, o5⟩ := ct_aoas hO
  have r0 : s.vm.findClass ("[" ++ (FieldType.array .int).toString) = some cA := (hK.2 t0 _ ht).2
  have r1 : s.vm.findClass ("[" ++ (FieldType.int).toString) = some cI := (hK.2 t1 _ ht1).2
  have e0 : c9 = cA := Option.some.inj (o5.symm.trans r0)
  subst e0
  have e1 : comp = cI := Option.some.inj (o1.symm.trans (show s.vm.findClass (FieldType.array .int).toString = some cI from r1))
  subst e1
  obtain ⟨-, kI, hkI, -⟩ := (hK.2 t1 _ ht1).1 n1 (fun j => .int (f1 j))
  refine W.aast (t := .array .int) hx hb (hP q0 _ ha) (fun q h => by cases h) (fun h => by cases h) o3 o4 rfl hkI ⟨h0, by show _ < (arrV _ _ _).slots.size; rw [arrV_size]; exact hlt⟩ (hP q1 _ hv) (fun q h => by cases h) hkI (by show s.vm.assignable comp comp = true; unfold Vm.assignable Vm.assignableAux; rw [beq_self_eq_true, Bool.true_or]) rfl rfl hdg fun H1 e z oq => ?_
  refine kk H1 _ (hP.set hD ha ?_ oq) (hD.set ha) (hS.put z oq (hD.2 q0 _ ha))
  show H1[a]? = some (vp_cell _ _)
  rw [e]
  rw [vp_cell_q, vp_cell_q, arrV_store]
  congr 2
  funext q
  by_cases hq : q = i.toNatClampNeg
  · subst hq
    simp [updV, va_up, va_rf]
  · simp [updV, va_up, hq]
/-- a row of int arrays is made -/
theorem dp_newA (hx : p.tables.exec = Jvm.exec) {cc : ByteArray} (hb : c.code = cc) {own : String} {index : Nat} (hown : s.vm.findClass own = some m.cls) (hclink : (Cond.classLink own index "[I").before args s = true) (hO : va_AOA .int s) {pc : Nat} {ls : Array Slot} {rest : List Value} {D : va_G} {cl : List vw_C} {tys : List (ClassId × FieldType)} {ws : va_W} {H : Heap} {locs : List Loc} {cells slots : Nat} {B : Nat → Prop} {H0 : Heap} (hK : va_K D cl tys s) (hP : va_P D cl ws H) (hD : va_D B ws) (hS : va_S B H0 H locs) (hA : ∀ q, H0.size ≤ q → B q) (t0 : Nat) {cA : ClassId} (ht : tys[t0]? = some (cA, .array .int))
    {n : Int32} {N' : Nat} (hn : ¬ n < 0) (hN : n.toNatClampNeg = N') (hbytes : N' * 4 ≤ 536870912) (hcells : cells + 1 ≤ R.cells) (hslots : slots + N' ≤ R.slots) (hdg : decode cc pc = .ok (.anewarray index, 3))
    (kk : ∀ (q : Nat) (H1 : Heap), va_P D cl (ws ++ [(q, .inl (cA, N', .inr (.inr (.inr (.inr (fun _ => none))))))]) H1 → va_D B (ws ++ [(q, .inl (cA, N', .inr (.inr (.inr (.inr (fun _ => none))))))]) → va_S B H0 H1 locs →
      W p l e R s m args below meth c H1 locs (cells + 1) (slots + N') Qm (F0 m (pc + 3) ls (.ref q :: rest))) : W p l e R s m args below meth c H locs cells slots Qm (F0 m pc ls (.int n :: rest)) := by
  subst hN
  refine W.anewA (t := .int) hx hb hown hclink (va_AOA.use hO) rfl hdg rfl hn hbytes hcells hslots fun cA' kA comp f1 f2 f3 f4 => ?_
  have r0 : s.vm.findClass ("[" ++ (FieldType.array .int).toString) = some cA := (hK.2 t0 _ ht).2
  have e0 : cA' = cA := Option.some.inj (f1.symm.trans r0)
  subst e0
  generalize hH1 : H.push ({ cls := cA', slots := Array.replicate n.toNatClampNeg .null, vm := .none } : Cell) = H1
  have z1 : H1.size = H.size + 1 := by rw [← hH1, Array.size_push]
  have e1 : H1[H.size]? = some (arrV cA' n.toNatClampNeg (fun _ => .null)) := by rw [← hH1, Array.getElem?_push_size, ← arrV_new]
  have o1 : ∀ q : Nat, q < H.size → H1[q]? = H[q]? := fun q hq => by rw [← hH1, Array.getElem?_push, if_neg (Nat.ne_of_lt hq)]
  have hk : ∀ (k : Nat) (x : Nat × va_E), ws[k]? = some x → H1[x.1]? = H[x.1]? := fun k x hx => o1 x.1 ((hP k x hx).lt)
  refine kk H.size H1 ((hP.kept hk).app (fun k x hx => ?_)) (hD.push hP rfl (hA _ hS.1)) ⟨Nat.le_trans hS.1 (by omega), fun x h1 h2 => (o1 x (Nat.lt_of_lt_of_le h1 hS.1)).trans (hS.2.1 x h1 h2), hS.2.2⟩
  have hz : k < 1 := (List.getElem?_eq_some_iff.mp hx).1
  rw [show k = 0 by omega] at hx
  cases hx
  show H1[H.size]? = some (vp_cell _ _)
  rw [vp_cell_q]
  exact e1
theorem dp_clT {ci : Nat} (hci : ci < 6) : vwCl[ci]? = some (vwCl.getD ci (RX0, TX0, 5)) := by
  rw [List.getD_eq_getElem?_getD, List.getElem?_eq_getElem (show ci < vwCl.length from hci)]
  rfl
/-- the facts of a class's fields -/
theorem dp_clF {ci : Nat} {q : vw_C} (hq : vwCl[ci]? = some q) : ∃ ty0 : Nat → FieldType, (∀ k, k < q.2.2 → parseFieldDescriptor (q.2.1 k).2.2.1 = some (ty0 k)) ∧ (∀ a, a < q.2.2 → ∀ b, b < q.2.2 → a ≠ b → (q.2.1 a).2.1 ≠ (q.2.1 b).2.1) := by
  match ci, hq with
  | 0, hq => cases hq; exact ⟨tyX0, tyX0_ok, nmX0⟩
  | 1, hq => cases hq; exact ⟨tyX1, tyX1_ok, nmX1⟩
  | 2, hq => cases hq; exact ⟨tyX2, tyX2_ok, nmX2⟩
  | 3, hq => cases hq; exact ⟨tyX3, tyX3_ok, nmX3⟩
  | 4, hq => cases hq; exact ⟨tyX4, tyX4_ok, nmX4⟩
  | 5, hq => cases hq; exact ⟨tyX5, tyX5_ok, nmX5⟩
  | c + 6, hq => simp [vwCl] at hq
theorem dp_objint {M : dp_M} {h ci k : Nat} {fs : List Value} {w : Int32} (hq : dp_obj M h = some (ci, fs)) (hk : dp_gtv fs k = some (.int w)) : ci < 6 ∧ k < (vwCl.getD ci (RX0, TX0, 5)).2.2 ∧ ((vwCl.getD ci (RX0, TX0, 5)).2.1 k).2.2.2 = false ∧ parseFieldDescriptor ((vwCl.getD ci (RX0, TX0, 5)).2.1 k).2.2.1 = some .int ∧ k < fs.length := by
  rcases dp_isA_or h with hA | rfl | rfl | rfl | rfl | rfl | rfl | rfl | rfl | ⟨h1, h2⟩
  · rw [dp_obj_A hA] at hq; cases hq
  · cases hq
    match k, hk with
    | 0, hk => cases hk
    | 1, hk => cases hk
    | 2, hk => cases hk
    | 3, hk => cases hk
    | 4, hk => cases hk
    | k + 5, hk => cases hk
  · cases hq
    match k, hk with
    | 0, hk => cases hk
    | 1, hk => cases hk
    | 2, hk => cases hk
    | 3, hk => cases hk
    | 4, hk => cases hk
    | 5, hk => exact ⟨by decide, by decide, rfl, tyX2_ok 5 (by decide), by simp⟩
    | k + 6, hk => cases hk
  · cases hq
    match k, hk with
    | 0, hk => cases hk
    | 1, hk => cases hk
    | 2, hk => cases hk
    | 3, hk => exact ⟨by decide, by decide, rfl, tyX1_ok 3 (by decide), by simp⟩
    | k + 4, hk => cases hk
  · cases hq
    match k, hk with
    | 0, hk => cases hk
    | 1, hk => cases hk
    | 2, hk => cases hk
    | 3, hk => cases hk
    | 4, hk => exact ⟨by decide, by decide, rfl, tyX0_ok 4 (by decide), by simp⟩
    | k + 5, hk => cases hk
  · cases hq
    match k, hk with
    | 0, hk => cases hk
    | 1, hk => cases hk
    | 2, hk => cases hk
    | 3, hk => cases hk
    | 4, hk => exact ⟨by decide, by decide, rfl, tyX0_ok 4 (by decide), by simp⟩
    | k + 5, hk => cases hk
  · cases hq
  · cases hq
  · cases hq
  · rw [dp_obj_m h1] at hq; cases hq
/-- the fields of what the law makes -/
theorem dp_lawF : ∀ ci, ci < 6 → (ci = 4 ∨ ci = 5) → ∀ k, k < 5 → ((vwCl.getD ci (RX0, TX0, 5)).2.1 k).2.2.2 = false ∧ (∃ ty, parseFieldDescriptor ((vwCl.getD ci (RX0, TX0, 5)).2.1 k).2.2.1 = some ty ∧ (if dp_ft ci k then ty = .int else ty.isReference = true)) ∧ (vwCl.getD ci (RX0, TX0, 5)).2.2 = 5 := by
  intro ci _ h4 k hk
  rcases h4 with rfl | rfl <;> rcases (by omega : k = 0 ∨ k = 1 ∨ k = 2 ∨ k = 3 ∨ k = 4) with rfl | rfl | rfl | rfl | rfl
  · exact ⟨rfl, ⟨_, tyX4_ok 0 (by decide), rfl⟩, rfl⟩
  · exact ⟨rfl, ⟨_, tyX4_ok 1 (by decide), rfl⟩, rfl⟩
  · exact ⟨rfl, ⟨_, tyX4_ok 2 (by decide), rfl⟩, rfl⟩
  · exact ⟨rfl, ⟨_, tyX4_ok 3 (by decide), rfl⟩, rfl⟩
  · exact ⟨rfl, ⟨_, tyX4_ok 4 (by decide), rfl⟩, rfl⟩
  · exact ⟨rfl, ⟨_, tyX5_ok 0 (by decide), rfl⟩, rfl⟩
  · exact ⟨rfl, ⟨_, tyX5_ok 1 (by decide), rfl⟩, rfl⟩
  · exact ⟨rfl, ⟨_, tyX5_ok 2 (by decide), rfl⟩, rfl⟩
  · exact ⟨rfl, ⟨_, tyX5_ok 3 (by decide), rfl⟩, rfl⟩
  · exact ⟨rfl, ⟨_, tyX5_ok 4 (by decide), rfl⟩, rfl⟩
/-- a value fits its field -/
theorem dp_fvn {b9 : Bool} {v : Value} {ty : FieldType} {ad9 : Nat → Nat} (hv : dp_fv b9 v) (hty : if b9 then ty = .int else ty.isReference = true) : narrow ty (dp_cv ad9 v) = dp_cv ad9 v ∧ fits ty (dp_cv ad9 v) = true := by
  cases v with
  | int x =>
    have hb9 : b9 = true := hv
    subst hb9
    have hty : ty = .int := hty
    subst hty
    exact ⟨rfl, rfl⟩
  | ref x =>
    have hb9 : b9 = false := hv
    subst hb9
    have hty : ty.isReference = true := hty
    cases ty <;> first | exact ⟨rfl, rfl⟩ | cases hty
  | _ => exact hv.elim
end DPT
end
section
/-! Every instruction of the deep semantics, over the machine. -/
section DPU
variable {p : Program} {l : Launch} {e : Env} {R : Room} {s : State} {m : MethodId} {args : Array Value} {below : List Frame} {meth : Method} {c : Code} {Qm : State → Prop}
variable {g : dp_G} {X : dp_X} {b : Nat} {A : Nat → Prop} {y d : Nat} {ad : Nat → Nat} {Q : dp_Q}
theorem dp_ec_of {i : Nat} {f : Nat → Prop} (h : dp_new i f) : f (dp_ec i) ∧ dp_ec i ≤ 2 ∧ dp_exk (dp_ec i) = i := by
  unfold dp_new at h
  split at h
  · exact ⟨h, by decide, rfl⟩
  · exact ⟨h, by decide, rfl⟩
  · exact ⟨h, by decide, rfl⟩
  · exact h.elim
theorem dp_outA {ad : Nat → Nat} {k N : Nat} {i : Int32} (h : vp_in i N) : va_rf (dp_out ad k N i.toNatClampNeg) = .ref (ad (k + i.toNatClampNeg)) := by
  have hlt : i.toNatClampNeg < N := Nat.not_le.mp fun q => h (Or.inr q)
  unfold dp_out
  rw [if_pos hlt]
  rfl
theorem dp_an_of {w i : Nat} {b9 : Bool} {args : Array Value} {s : State} (h : dp_an w i = some b9) (hts : ∀ (k : Nat) (w : Cond), dp_x0[k]? = some w → w.before args s = true) : (b9 = false ∧ ((Cond.classLink (dp_o w) i "[I").before args s = true)) ∨ (b9 = true ∧ ((Cond.classLink (dp_o w) i RX4).before args s = true)) := by
  unfold dp_an at h
  split at h
  · rename_i hc
    cases h
    exact Or.inl ⟨rfl, by rw [hc.1, hc.2]; exact hts 14 _ rfl⟩
  · split at h
    · rename_i hc
      cases h
      exact Or.inr ⟨rfl, by rw [hc.1, hc.2]; exact hts 12 _ rfl⟩
    · split at h
      · rename_i hc
        cases h
        exact Or.inl ⟨rfl, by rw [hc.1, hc.2]; exact hts 15 _ rfl⟩
      · split at h
        · rename_i hc
          cases h
          exact Or.inr ⟨rfl, by rw [hc.1, hc.2]; exact hts 16 _ rfl⟩
        · cases h
theorem dp_nw_of {w i ci : Nat} (h : dp_nw w i = some ci) : (w = 6 ∧ i = 10 ∧ ci = 5) ∨ (w = 6 ∧ i = 46 ∧ ci = 4) := by
  unfold dp_nw at h
  split at h
  · rename_i hc
    cases h
    exact Or.inl ⟨hc.1, hc.2, rfl⟩
  · split at h
    · rename_i hc
      cases h
      exact Or.inr ⟨hc.1, hc.2, rfl⟩
    · cases h
set_option maxHeartbeats 4000000 in
theorem dp_step {call : dp_C} {d' : Nat} (C : dp_Cx p l R s m args c g X b A y d) (had : dp_adk ad b) (hdd : d = d' + 1) (hE : dp_En p l e R s m args below meth c Qm g A y ad Q) (hX : dp_Ex p l e R s m args below meth c Qm g A y ad Q) (hN : dp_Nw p l e R s m args below meth c Qm g A y d ad Q)
    (hC : ∀ z as n M o Q', z < 77 → call z as n M o Q' → dp_Mt l g X b A d' z as n M o Q')
    {pc n cc q : Nat} {L : dp_L} {st : List Value} {M : dp_M} {o : dp_O}
    (h : dp_wp X call d y Q (dp_KW p l e R s m args below meth c Qm g A (dp_mL y) ad) pc L st n cc q M o (dp_tab y pc).1) : dp_KW p l e R s m args below meth c Qm g A (dp_mL y) ad pc L st n cc q M o := by
  have C' := C
  obtain ⟨hx, hb, hml, hown, hts, htr, htab, hd1, hfr, hlo, hRc, hRs, hy, hG⟩ := C
  rcases dp_dec hy pc with e0 | ⟨hd, hl, hj⟩
  · rw [e0] at h
    exact h.elim
  generalize dp_tab y pc = ii at h hd hl hj
  obtain ⟨i, len⟩ := ii
  dsimp only at h hl hj
  cases i with
  | aload_n k =>
    obtain rfl := hl.resolve_left (fun z => by cases z)
    intro h0 ds H locs ls h1 h3 h4 h5 h6
    obtain ⟨x, hx1, hk⟩ := dp_lr_of h
    exact lv_aload_n hx hb hd rfl (h3.2.2 _ _ hx1) (hk h0 ds H locs ls h1 h3 h4 h5 h6)
  | aload k =>
    obtain rfl := hl.resolve_left (fun z => by cases z)
    intro h0 ds H locs ls h1 h3 h4 h5 h6
    obtain ⟨x, hx1, hk⟩ := dp_lr_of h
    exact lv_aload hx hb hd (h3.2.2 _ _ hx1) (hk h0 ds H locs ls h1 h3 h4 h5 h6)
  | iload_n k =>
    obtain rfl := hl.resolve_left (fun z => by cases z)
    intro h0 ds H locs ls h1 h3 h4 h5 h6
    obtain ⟨x, hx1, hk⟩ := dp_li_of h
    exact lv_iload_n hx hb hd rfl (h3.2.2 _ _ hx1) (hk h0 ds H locs ls h1 h3 h4 h5 h6)
  | iload k =>
    obtain rfl := hl.resolve_left (fun z => by cases z)
    intro h0 ds H locs ls h1 h3 h4 h5 h6
    obtain ⟨x, hx1, hk⟩ := dp_li_of h
    exact lv_iload hx hb hd (h3.2.2 _ _ hx1) (hk h0 ds H locs ls h1 h3 h4 h5 h6)
  | lload_n k =>
    obtain rfl := hl.resolve_left (fun z => by cases z)
    intro h0 ds H locs ls h1 h3 h4 h5 h6
    obtain ⟨x, hx1, hk⟩ := dp_lj_of h
    exact lv_lload_n hx hb hd rfl (h3.2.2 _ _ hx1) (hk h0 ds H locs ls h1 h3 h4 h5 h6)
  | lload k =>
    obtain rfl := hl.resolve_left (fun z => by cases z)
    intro h0 ds H locs ls h1 h3 h4 h5 h6
    obtain ⟨x, hx1, hk⟩ := dp_lj_of h
    exact lv_lload hx hb hd (h3.2.2 _ _ hx1) (hk h0 ds H locs ls h1 h3 h4 h5 h6)
  | dload k =>
    obtain rfl := hl.resolve_left (fun z => by cases z)
    intro h0 ds H locs ls h1 h3 h4 h5 h6
    obtain ⟨x, hx1, hk⟩ := dp_ld_of h
    exact lv_dload hx hb hd (h3.2.2 _ _ hx1) (hk h0 ds H locs ls h1 h3 h4 h5 h6)
  | iconst v =>
    obtain rfl := hl.resolve_left (fun z => by cases z)
    intro h0 ds H locs ls h1 h3 h4 h5 h6
    exact lv_iconst hx hb hd rfl (h h0 ds H locs ls h1 h3 h4 h5 h6)
  | bipush v =>
    obtain rfl := hl.resolve_left (fun z => by cases z)
    intro h0 ds H locs ls h1 h3 h4 h5 h6
    exact lv_bipush hx hb hd rfl (h h0 ds H locs ls h1 h3 h4 h5 h6)
  | sipush v =>
    obtain rfl := hl.resolve_left (fun z => by cases z)
    intro h0 ds H locs ls h1 h3 h4 h5 h6
    exact lv_sipush hx hb hd rfl (h h0 ds H locs ls h1 h3 h4 h5 h6)
  | ldc_w i =>
    obtain rfl := hl.resolve_left (fun z => by cases z)
    intro h0 ds H locs ls h1 h3 h4 h5 h6
    obtain ⟨v, hv, hk⟩ := dp_opt_of h
    exact lv_ldcw hx hb hown (hts _ (dp_wd_ci (dp_lo_in _ _ _ _ hv))) hd (hk h0 ds H locs ls h1 h3 h4 h5 h6)
  | dconst v =>
    obtain rfl := hl.resolve_left (fun z => by cases z)
    intro h0 ds H locs ls h1 h3 h4 h5 h6
    obtain ⟨rfl, hk⟩ := h
    exact lv_dconst0 hx hb hd (hk h0 ds H locs ls h1 h3 h4 h5 h6)
  | istore_n k =>
    obtain rfl := hl.resolve_left (fun z => by cases z)
    intro h0 ds H locs ls h1 h3 h4 h5 h6
    obtain ⟨x, r, rfl, hk⟩ := dp_pi_of h
    exact lv_istore_n hx hb hd rfl h3.has (of_decide_eq_true hj) rfl (fun ls' hl' => hk h0 ds H locs ls' h1 (dp_LH.s1 rfl hl') h4 h5 h6)
  | istore k =>
    obtain rfl := hl.resolve_left (fun z => by cases z)
    intro h0 ds H locs ls h1 h3 h4 h5 h6
    obtain ⟨x, r, rfl, hk⟩ := dp_pi_of h
    exact lv_istore hx hb hd h3.has (of_decide_eq_true hj) rfl (fun ls' hl' => hk h0 ds H locs ls' h1 (dp_LH.s1 rfl hl') h4 h5 h6)
  | lstore_n k =>
    obtain rfl := hl.resolve_left (fun z => by cases z)
    intro h0 ds H locs ls h1 h3 h4 h5 h6
    obtain ⟨x, r, rfl, hk⟩ := dp_pj_of h
    exact lv_lstore_n hx hb hd rfl h3.has (of_decide_eq_true hj) rfl (fun ls' hl' => hk h0 ds H locs ls' h1 (dp_LH.s2 rfl hl') h4 h5 h6)
  | lstore k =>
    obtain rfl := hl.resolve_left (fun z => by cases z)
    intro h0 ds H locs ls h1 h3 h4 h5 h6
    obtain ⟨x, r, rfl, hk⟩ := dp_pj_of h
    exact lv_lstore hx hb hd h3.has (of_decide_eq_true hj) rfl (fun ls' hl' => hk h0 ds H locs ls' h1 (dp_LH.s2 rfl hl') h4 h5 h6)
  | dstore k =>
    obtain rfl := hl.resolve_left (fun z => by cases z)
    intro h0 ds H locs ls h1 h3 h4 h5 h6
    obtain ⟨x, r, rfl, hk⟩ := dp_pd_of h
    exact lv_dstore hx hb hd h3.has (of_decide_eq_true hj) rfl (fun ls' hl' => hk h0 ds H locs ls' h1 (dp_LH.s2 rfl hl') h4 h5 h6)
  | astore_n k =>
    obtain rfl := hl.resolve_left (fun z => by cases z)
    intro h0 ds H locs ls h1 h3 h4 h5 h6
    obtain ⟨x, r, rfl, hk⟩ := dp_pr_of h
    exact lv_astore_n hx hb hd rfl h3.has (of_decide_eq_true hj) rfl (fun ls' hl' => hk h0 ds H locs ls' h1 (dp_LH.s1 rfl hl') h4 h5 h6)
  | astore k =>
    obtain rfl := hl.resolve_left (fun z => by cases z)
    intro h0 ds H locs ls h1 h3 h4 h5 h6
    obtain ⟨x, r, rfl, hk⟩ := dp_pr_of h
    exact lv_astore hx hb hd h3.has (of_decide_eq_true hj) rfl (fun ls' hl' => hk h0 ds H locs ls' h1 (dp_LH.s1 rfl hl') h4 h5 h6)
  | iinc i v =>
    obtain rfl := hl.resolve_left (fun z => by cases z)
    intro h0 ds H locs ls h1 h3 h4 h5 h6
    obtain ⟨x, hx1, hk⟩ := dp_li_of h
    obtain ⟨k9, hk9⟩ := List.getElem?_of_mem (dp_as_in ad L 0 i _ hx1)
    rw [Nat.zero_add] at hk9
    exact lv_iinc hx hb hd h3.has hk9 rfl (of_decide_eq_true hj) rfl (fun ls' hl' => hk h0 ds H locs ls' h1 (dp_LH.s1 rfl hl') h4 h5 h6)
  | iadd =>
    obtain rfl := hl.resolve_left (fun z => by cases z)
    intro h0 ds H locs ls h1 h3 h4 h5 h6
    obtain ⟨x, r, rfl, k1⟩ := dp_pi_of h
    obtain ⟨z, r, rfl, hk⟩ := dp_pi_of k1
    exact lv_iadd hx hb hd (hk h0 ds H locs ls h1 h3 h4 h5 h6)
  | isub =>
    obtain rfl := hl.resolve_left (fun z => by cases z)
    intro h0 ds H locs ls h1 h3 h4 h5 h6
    obtain ⟨x, r, rfl, k1⟩ := dp_pi_of h
    obtain ⟨z, r, rfl, hk⟩ := dp_pi_of k1
    exact lv_isub hx hb hd (hk h0 ds H locs ls h1 h3 h4 h5 h6)
  | imul =>
    obtain rfl := hl.resolve_left (fun z => by cases z)
    intro h0 ds H locs ls h1 h3 h4 h5 h6
    obtain ⟨x, r, rfl, k1⟩ := dp_pi_of h
    obtain ⟨z, r, rfl, hk⟩ := dp_pi_of k1
    exact lv_imul hx hb hd (hk h0 ds H locs ls h1 h3 h4 h5 h6)
  | iand =>
    obtain rfl := hl.resolve_left (fun z => by cases z)
    intro h0 ds H locs ls h1 h3 h4 h5 h6
    obtain ⟨x, r, rfl, k1⟩ := dp_pi_of h
    obtain ⟨z, r, rfl, hk⟩ := dp_pi_of k1
    exact lv_iand hx hb hd (hk h0 ds H locs ls h1 h3 h4 h5 h6)
  | ior =>
    obtain rfl := hl.resolve_left (fun z => by cases z)
    intro h0 ds H locs ls h1 h3 h4 h5 h6
    obtain ⟨x, r, rfl, k1⟩ := dp_pi_of h
    obtain ⟨z, r, rfl, hk⟩ := dp_pi_of k1
    exact lv_ior hx hb hd (hk h0 ds H locs ls h1 h3 h4 h5 h6)
  | ishl =>
    obtain rfl := hl.resolve_left (fun z => by cases z)
    intro h0 ds H locs ls h1 h3 h4 h5 h6
    obtain ⟨x, r, rfl, k1⟩ := dp_pi_of h
    obtain ⟨z, r, rfl, hk⟩ := dp_pi_of k1
    exact lv_ishl hx hb hd (hk h0 ds H locs ls h1 h3 h4 h5 h6)
  | ishr =>
    obtain rfl := hl.resolve_left (fun z => by cases z)
    intro h0 ds H locs ls h1 h3 h4 h5 h6
    obtain ⟨x, r, rfl, k1⟩ := dp_pi_of h
    obtain ⟨z, r, rfl, hk⟩ := dp_pi_of k1
    exact lv_ishr hx hb hd (hk h0 ds H locs ls h1 h3 h4 h5 h6)
  | iushr =>
    obtain rfl := hl.resolve_left (fun z => by cases z)
    intro h0 ds H locs ls h1 h3 h4 h5 h6
    obtain ⟨x, r, rfl, k1⟩ := dp_pi_of h
    obtain ⟨z, r, rfl, hk⟩ := dp_pi_of k1
    exact lv_iushr hx hb hd rfl (hk h0 ds H locs ls h1 h3 h4 h5 h6)
  | idiv =>
    obtain rfl := hl.resolve_left (fun z => by cases z)
    intro h0 ds H locs ls h1 h3 h4 h5 h6
    obtain ⟨x, r, rfl, k1⟩ := dp_pi_of h
    obtain ⟨z, r, rfl, hne, hk⟩ := dp_pi_of k1
    exact lv_idiv hx hb hd hne (hk h0 ds H locs ls h1 h3 h4 h5 h6)
  | i2l =>
    obtain rfl := hl.resolve_left (fun z => by cases z)
    intro h0 ds H locs ls h1 h3 h4 h5 h6
    obtain ⟨x, r, rfl, hk⟩ := dp_pi_of h
    exact lv_i2l hx hb hd rfl (hk h0 ds H locs ls h1 h3 h4 h5 h6)
  | i2d =>
    obtain rfl := hl.resolve_left (fun z => by cases z)
    intro h0 ds H locs ls h1 h3 h4 h5 h6
    obtain ⟨x, r, rfl, hk⟩ := dp_pi_of h
    exact lv_i2d hx hb hd (hk h0 ds H locs ls h1 h3 h4 h5 h6)
  | ladd =>
    obtain rfl := hl.resolve_left (fun z => by cases z)
    intro h0 ds H locs ls h1 h3 h4 h5 h6
    obtain ⟨x, r, rfl, k1⟩ := dp_pj_of h
    obtain ⟨z, r, rfl, hk⟩ := dp_pj_of k1
    exact lv_ladd hx hb hd (hk h0 ds H locs ls h1 h3 h4 h5 h6)
  | lmul =>
    obtain rfl := hl.resolve_left (fun z => by cases z)
    intro h0 ds H locs ls h1 h3 h4 h5 h6
    obtain ⟨x, r, rfl, k1⟩ := dp_pj_of h
    obtain ⟨z, r, rfl, hk⟩ := dp_pj_of k1
    exact lv_lmul hx hb hd (hk h0 ds H locs ls h1 h3 h4 h5 h6)
  | lcmp =>
    obtain rfl := hl.resolve_left (fun z => by cases z)
    intro h0 ds H locs ls h1 h3 h4 h5 h6
    obtain ⟨x, r, rfl, k1⟩ := dp_pj_of h
    obtain ⟨z, r, rfl, hk⟩ := dp_pj_of k1
    exact W.lcmp hx hb hd (hk h0 ds H locs ls h1 h3 h4 h5 h6)
  | ddiv =>
    obtain rfl := hl.resolve_left (fun z => by cases z)
    intro h0 ds H locs ls h1 h3 h4 h5 h6
    obtain ⟨x, r, rfl, k1⟩ := dp_pd_of h
    obtain ⟨z, r, rfl, hne, hk⟩ := dp_pd_of k1
    exact lv_ddiv hx hb hd hne (hk h0 ds H locs ls h1 h3 h4 h5 h6)
  | dcmp w =>
    obtain rfl := hl.resolve_left (fun z => by cases z)
    intro h0 ds H locs ls h1 h3 h4 h5 h6
    obtain ⟨x, r, rfl, k1⟩ := dp_pd_of h
    obtain ⟨z, r, rfl, hk⟩ := dp_pd_of k1
    exact lv_dcmp hx hb hd (hk h0 ds H locs ls h1 h3 h4 h5 h6)
  | ifCond cnd off =>
    obtain rfl := hl.resolve_left (fun z => by cases z)
    intro h0 ds H locs ls h1 h3 h4 h5 h6
    cases cnd with
    | eq =>
      obtain ⟨x, r, rfl, k1⟩ := dp_pi_of h
      exact lv_if_eq hx hb hd (dp_jt_eq (of_decide_eq_true hj)) (fun w => k1.1 w h0 ds H locs ls h1 h3 h4 h5 h6) (fun w => k1.2 w h0 ds H locs ls h1 h3 h4 h5 h6)
    | ne =>
      obtain ⟨x, r, rfl, k1⟩ := dp_pi_of h
      exact lv_if_ne hx hb hd (dp_jt_eq (of_decide_eq_true hj)) (fun w => k1.2 w h0 ds H locs ls h1 h3 h4 h5 h6) (fun w => k1.1 w h0 ds H locs ls h1 h3 h4 h5 h6)
    | lt =>
      obtain ⟨x, r, rfl, k1⟩ := dp_pi_of h
      exact lv_if_lt hx hb hd (dp_jt_eq (of_decide_eq_true hj)) (fun w => k1.1 w h0 ds H locs ls h1 h3 h4 h5 h6) (fun w => k1.2 w h0 ds H locs ls h1 h3 h4 h5 h6)
    | ge =>
      obtain ⟨x, r, rfl, k1⟩ := dp_pi_of h
      exact lv_if_ge hx hb hd (dp_jt_eq (of_decide_eq_true hj)) (fun w => k1.2 (Int32.not_lt.mpr w) h0 ds H locs ls h1 h3 h4 h5 h6) (fun w => k1.1 (Int32.not_le.mp w) h0 ds H locs ls h1 h3 h4 h5 h6)
    | gt =>
      obtain ⟨x, r, rfl, k1⟩ := dp_pi_of h
      exact lv_if_gt hx hb hd (dp_jt_eq (of_decide_eq_true hj)) (fun w => k1.1 w h0 ds H locs ls h1 h3 h4 h5 h6) (fun w => k1.2 w h0 ds H locs ls h1 h3 h4 h5 h6)
    | le =>
      obtain ⟨x, r, rfl, k1⟩ := dp_pi_of h
      exact lv_if_le hx hb hd (dp_jt_eq (of_decide_eq_true hj)) (fun w => k1.2 (Int32.not_lt.mpr w) h0 ds H locs ls h1 h3 h4 h5 h6) (fun w => k1.1 (Int32.not_le.mp w) h0 ds H locs ls h1 h3 h4 h5 h6)
  | if_icmp cnd off =>
    obtain rfl := hl.resolve_left (fun z => by cases z)
    intro h0 ds H locs ls h1 h3 h4 h5 h6
    cases cnd with
    | eq =>
      obtain ⟨x, r, rfl, k1⟩ := dp_pi_of h
      obtain ⟨z, r, rfl, k2⟩ := dp_pi_of k1
      exact lv_icmp_eq hx hb hd (dp_jt_eq (of_decide_eq_true hj)) (fun w => k2.1 w h0 ds H locs ls h1 h3 h4 h5 h6) (fun w => k2.2 w h0 ds H locs ls h1 h3 h4 h5 h6)
    | ne =>
      obtain ⟨x, r, rfl, k1⟩ := dp_pi_of h
      obtain ⟨z, r, rfl, k2⟩ := dp_pi_of k1
      exact lv_icmp_ne hx hb hd (dp_jt_eq (of_decide_eq_true hj)) (fun w => k2.2 w h0 ds H locs ls h1 h3 h4 h5 h6) (fun w => k2.1 w h0 ds H locs ls h1 h3 h4 h5 h6)
    | lt =>
      obtain ⟨x, r, rfl, k1⟩ := dp_pi_of h
      obtain ⟨z, r, rfl, k2⟩ := dp_pi_of k1
      exact lv_icmp_lt hx hb hd (dp_jt_eq (of_decide_eq_true hj)) (fun w => k2.1 w h0 ds H locs ls h1 h3 h4 h5 h6) (fun w => k2.2 w h0 ds H locs ls h1 h3 h4 h5 h6)
    | ge =>
      obtain ⟨x, r, rfl, k1⟩ := dp_pi_of h
      obtain ⟨z, r, rfl, k2⟩ := dp_pi_of k1
      exact lv_icmp_ge hx hb hd (dp_jt_eq (of_decide_eq_true hj)) (fun w => k2.2 (Int32.not_lt.mpr w) h0 ds H locs ls h1 h3 h4 h5 h6) (fun w => k2.1 (Int32.not_le.mp w) h0 ds H locs ls h1 h3 h4 h5 h6)
    | gt =>
      obtain ⟨x, r, rfl, k1⟩ := dp_pi_of h
      obtain ⟨z, r, rfl, k2⟩ := dp_pi_of k1
      exact lv_icmp_gt hx hb hd (dp_jt_eq (of_decide_eq_true hj)) (fun w => k2.1 w h0 ds H locs ls h1 h3 h4 h5 h6) (fun w => k2.2 w h0 ds H locs ls h1 h3 h4 h5 h6)
    | le =>
      obtain ⟨x, r, rfl, k1⟩ := dp_pi_of h
      obtain ⟨z, r, rfl, k2⟩ := dp_pi_of k1
      exact lv_icmp_le hx hb hd (dp_jt_eq (of_decide_eq_true hj)) (fun w => k2.2 (Int32.not_lt.mpr w) h0 ds H locs ls h1 h3 h4 h5 h6) (fun w => k2.1 (Int32.not_le.mp w) h0 ds H locs ls h1 h3 h4 h5 h6)
  | goto off =>
    obtain rfl := hl.resolve_left (fun z => by cases z)
    intro h0 ds H locs ls h1 h3 h4 h5 h6
    exact lv_goto hx hb hd (dp_jt_eq (of_decide_eq_true hj)) (h h0 ds H locs ls h1 h3 h4 h5 h6)
  | tableswitch dflt lo hi offs =>
    intro h0 ds H locs ls h1 h3 h4 h5 h6
    obtain ⟨x, r, rfl, k1, k2⟩ := dp_pi_of h
    simp only [dp_jok, Bool.and_eq_true, decide_eq_true_eq] at hj
    obtain ⟨⟨j1, j2⟩, j3⟩ := hj
    by_cases hlo9 : x.toInt < lo ∨ hi < x.toInt
    · exact lv_tableOut hx hb hd hlo9 (dp_jt_eq j1) (k1 hlo9 h0 ds H locs ls h1 h3 h4 h5 h6)
    · obtain ⟨n1, n2⟩ := not_or.mp hlo9
      obtain ⟨off, f1, f2⟩ := dp_ts_of (x.toInt - lo).toNat k2 (by omega) (by omega)
      have f3 : offs[(x.toInt - lo).toNat]? = some off := by rw [← Array.getElem?_toList]; exact f1
      have f4 := List.all_eq_true.mp j2 off (List.mem_of_getElem? f1)
      exact lv_tableIn hx hb hd n1 n2 f3 (dp_jt_eq (of_decide_eq_true f4)) (f2 h0 ds H locs ls h1 h3 h4 h5 h6)
  | getfield i =>
    obtain rfl := hl.resolve_left (fun z => by cases z)
    intro h0 ds H locs ls h1 h3 h4 h5 h6
    obtain ⟨hh, r, rfl, k0⟩ := dp_pr_of h
    rcases k0 with ⟨hhn, k1⟩ | ⟨ci, k, fs, v, g1, g2, g3, g4⟩
    · obtain ⟨ci, k, fs, v, g1, g2, g3, g4⟩ := dp_get_of k1
      rw [h0] at hhn
      have hm := dp_fld_in g1
      obtain ⟨f1, f2, f3, f4⟩ := dp_fl_ok _ hm
      have hcl := dp_clT f2
      have hlk := hts _ (dp_wd_field hm)
      unfold dp_fieldW at hlk
      rw [f4] at hlk
      refine va_get (C := (vwCl.getD ci (RX0, TX0, 5)).1) (T := (vwCl.getD ci (RX0, TX0, 5)).2.1) (N := (vwCl.getD ci (RX0, TX0, 5)).2.2) (ref := (vwCl.getD ci (RX0, TX0, 5)).1) (v := dp_cv ad v) hx hb hts (dp_wd_lays hcl) hown hG.1 h4 (dp_pos hh) (by rw [dp_wl_at hhn (dp_obj_k g2), dp_cel_O g2]) hcl k f3 hlk (fun x9 h9 => by rw [← f4]; exact h9) (by rw [List.getElem?_map, dp_gtv_get _ _ _ g3]; rfl) hd ?_
      exact g4 h0 ds H locs ls h1 h3 h4 h5 h6
    · obtain ⟨p1, kd, p2, p3⟩ := dp_dyn (g := g) (M := M) h1 had g2
      have hm := dp_fld_in g1
      obtain ⟨f1, f2, f3, f4⟩ := dp_fl_ok _ hm
      have hcl := dp_clT f2
      have hlk := hts _ (dp_wd_field hm)
      unfold dp_fieldW at hlk
      rw [f4] at hlk
      refine va_get (C := (vwCl.getD ci (RX0, TX0, 5)).1) (T := (vwCl.getD ci (RX0, TX0, 5)).2.1) (N := (vwCl.getD ci (RX0, TX0, 5)).2.2) (ref := (vwCl.getD ci (RX0, TX0, 5)).1) (fs := fs.map (dp_cv ad)) (v := dp_cv ad v) hx hb hts (dp_wd_lays hcl) hown hG.1 h4 (60 + kd) p3 hcl k f3 hlk (fun x9 h9 => by rw [← f4]; exact h9) (by rw [List.getElem?_map, dp_gtv_get _ _ _ g3]; rfl) hd ?_
      exact g4 h0 ds H locs ls h1 h3 h4 h5 h6
  | putfield i =>
    obtain rfl := hl.resolve_left (fun z => by cases z)
    intro h0 ds H locs ls h1 h3 h4 h5 h6
    rcases h with h | h
    · obtain ⟨x, r, rfl, k0⟩ := dp_pi_of h
      obtain ⟨hh, r, rfl, hhn, k1⟩ := dp_pr_of k0
      rw [h0] at hhn
      obtain ⟨ci, k, fs, w, g1, g2, g3, g4⟩ := dp_put_of k1
      have hm := dp_fld_in g1
      obtain ⟨f1, f2, f3, f4⟩ := dp_fl_ok _ hm
      have hcl := dp_clT f2
      obtain ⟨ty0, t1, t2⟩ := dp_clF hcl
      obtain ⟨q1, q2, q3, q4, q5⟩ := dp_objint g2 g3
      have hlk := hts _ (dp_wd_field hm)
      unfold dp_fieldW at hlk
      rw [f4] at hlk
      refine va_put (C := (vwCl.getD ci (RX0, TX0, 5)).1) (T := (vwCl.getD ci (RX0, TX0, 5)).2.1) (N := (vwCl.getD ci (RX0, TX0, 5)).2.2) (ref := (vwCl.getD ci (RX0, TX0, 5)).1) (v := .int x) (ty := .int) hx hb hts (dp_wd_lays hcl) ty0 t1 t2 hown hG.1 h4 h5 h6 (dp_pos hh) (by rw [dp_wl_at hhn (dp_obj_k g2), dp_cel_O g2]) hcl k f3 hlk (fun x9 h9 => by rw [← f4]; exact h9) q3 q4 rfl rfl (by rw [List.length_map]; exact q5) hd (fun H1 locs1 e1 e2 e3 => ?_)
      rw [dp_set_F hhn g2 g3] at e1 e2
      exact g4 h0 ds H1 locs1 ls h1 h3 e1 e2 e3
    · obtain ⟨v, r, rfl, k0⟩ := dp_p1_of h
      obtain ⟨hh, r, rfl, ci, k, fs, g1, gc, g2, g3, gv, g4⟩ := dp_pr_of k0
      obtain ⟨p1, kd, p2, p3⟩ := dp_dyn (g := g) (M := M) h1 had g2
      have hm := dp_fld_in g1
      obtain ⟨f1, f2, f3, f4⟩ := dp_fl_ok _ hm
      have hcl := dp_clT f2
      obtain ⟨ty0, t1, t2⟩ := dp_clF hcl
      have f30 : k < 5 := by rcases gc with rfl | rfl <;> exact f3
      obtain ⟨q3, ⟨ty, q4, q5⟩, -⟩ := dp_lawF ci f2 gc k f30
      obtain ⟨n1, n2⟩ := dp_fvn (ad9 := ad) gv q5
      have hlk := hts _ (dp_wd_field hm)
      unfold dp_fieldW at hlk
      rw [f4] at hlk
      refine va_put (C := (vwCl.getD ci (RX0, TX0, 5)).1) (T := (vwCl.getD ci (RX0, TX0, 5)).2.1) (N := (vwCl.getD ci (RX0, TX0, 5)).2.2) (ref := (vwCl.getD ci (RX0, TX0, 5)).1) (fs := fs.map (dp_cv ad)) (v := dp_cv ad v) (ty := ty) hx hb hts (dp_wd_lays hcl) ty0 t1 t2 hown hG.1 h4 h5 h6 (60 + kd) p3 hcl k f3 hlk (fun x9 h9 => by rw [← f4]; exact h9) q3 q4 n1 n2 (by rw [List.length_map]; exact g3) hd (fun H1 locs1 e1 e2 e3 => ?_)
      rw [← List.map_set, had.of p1, show ((.inr (ci, (fs.set k v).map (dp_cv ad)) : va_E)) = dp_cec g ad (.inl (ci, fs.set k v)) from rfl, dp_dset] at e1 e2
      exact g4 h0 _ H1 locs1 ls (dp_rset h1 p2 p1) h3 e1 e2 e3
  | iaload =>
    obtain rfl := hl.resolve_left (fun z => by cases z)
    intro h0 ds H locs ls h1 h3 h4 h5 h6
    obtain ⟨i, r, rfl, k1⟩ := dp_pi_of h
    obtain ⟨hh, r, rfl, k2⟩ := dp_pr_of k1
    rcases k2 with ⟨rfl, q1, q2⟩ | ⟨q0, q1, q2, q3, q4⟩ | ⟨m9, f9, q1, q2, q3⟩
    · have hX9 := hG.2.2.2
      have := va_sld hx hb hX9.1 hX9.2.1 hX9.2.2.1 h6 q1 hd (q2 h0 ds H locs ls h1 h3 h4 h5 h6)
      rw [← had.1] at this
      exact this
    · rw [h0] at q2
      exact va_iald hx hb hG.1 h4 (dp_pos hh) 0 (dp_wl_A q2 q1) rfl q3 hd (q4 h0 ds H locs ls h1 h3 h4 h5 h6)
    · obtain ⟨p1, kd, p2, p3⟩ := dp_dyn (g := g) (M := M) h1 had q1
      exact va_iald hx hb hG.1 h4 (60 + kd) 0 p3 rfl q2 hd (q3 h0 ds H locs ls h1 h3 h4 h5 h6)
  | baload =>
    obtain rfl := hl.resolve_left (fun z => by cases z)
    intro h0 ds H locs ls h1 h3 h4 h5 h6
    obtain ⟨i, r, rfl, k1⟩ := dp_pi_of h
    obtain ⟨hh, r, rfl, m9, f9, q1, q2, q3⟩ := dp_pr_of k1
    obtain ⟨p1, kd, p2, p3⟩ := dp_dyn (g := g) (M := M) h1 had q1
    exact va_zald hx hb hG.1 h4 (60 + kd) 1 p3 rfl q2 hd (q3 h0 ds H locs ls h1 h3 h4 h5 h6)
  | iastore =>
    obtain rfl := hl.resolve_left (fun z => by cases z)
    intro h0 ds H locs ls h1 h3 h4 h5 h6
    obtain ⟨x, r, rfl, k0⟩ := dp_pi_of h
    obtain ⟨i, r, rfl, k1⟩ := dp_pi_of k0
    obtain ⟨hh, r, rfl, k2⟩ := dp_pr_of k1
    rcases k2 with ⟨q1, q2, q3, q4⟩ | ⟨m9, f9, q1, q2, q3⟩
    · rw [h0] at q2
      refine va_iast hx hb hG.1 h4 h5 h6 (dp_pos hh) 0 (dp_wl_A q2 q1) rfl q3 hd (fun H1 locs1 e1 e2 e3 => ?_)
      rw [dp_set_A q2 q1, dp_up_row] at e1 e2
      exact q4 h0 ds H1 locs1 ls h1 h3 e1 e2 e3
    · obtain ⟨p1, kd, p2, p3⟩ := dp_dyn (g := g) (M := M) h1 had q1
      refine va_iast hx hb hG.1 h4 h5 h6 (60 + kd) 0 p3 rfl q2 hd (fun H1 locs1 e1 e2 e3 => ?_)
      have e1 : va_P g.1 vwCl ((dp_ww g ad M ds).set (60 + kd) (hh - 10000, dp_cec g ad (.inr (.inl (false, m9, upd f9 i.toNatClampNeg x))))) H1 := by rw [← had.of p1]; exact e1
      have e2 : va_D A ((dp_ww g ad M ds).set (60 + kd) (hh - 10000, dp_cec g ad (.inr (.inl (false, m9, upd f9 i.toNatClampNeg x))))) := by rw [← had.of p1]; exact e2
      rw [dp_dset] at e1 e2
      exact q3 h0 _ H1 locs1 ls (dp_rset h1 p2 p1) h3 e1 e2 e3
  | bastore =>
    obtain rfl := hl.resolve_left (fun z => by cases z)
    intro h0 ds H locs ls h1 h3 h4 h5 h6
    obtain ⟨x, r, rfl, k0⟩ := dp_pi_of h
    obtain ⟨i, r, rfl, k1⟩ := dp_pi_of k0
    obtain ⟨hh, r, rfl, m9, f9, q1, q2, q3⟩ := dp_pr_of k1
    obtain ⟨p1, kd, p2, p3⟩ := dp_dyn (g := g) (M := M) h1 had q1
    refine va_zast hx hb hG.1 h4 h5 h6 (60 + kd) 1 p3 rfl q2 hd (fun H1 locs1 e1 e2 e3 => ?_)
    have e1 : va_P g.1 vwCl ((dp_ww g ad M ds).set (60 + kd) (hh - 10000, dp_cec g ad (.inr (.inl (true, m9, upd f9 i.toNatClampNeg (vp_nar .boolean x)))))) H1 := by rw [← had.of p1]; exact e1
    have e2 : va_D A ((dp_ww g ad M ds).set (60 + kd) (hh - 10000, dp_cec g ad (.inr (.inl (true, m9, upd f9 i.toNatClampNeg (vp_nar .boolean x)))))) := by rw [← had.of p1]; exact e2
    rw [dp_dset] at e1 e2
    exact q3 h0 _ H1 locs1 ls (dp_rset h1 p2 p1) h3 e1 e2 e3
  | aaload =>
    obtain rfl := hl.resolve_left (fun z => by cases z)
    intro h0 ds H locs ls h1 h3 h4 h5 h6
    obtain ⟨i, r, rfl, k1⟩ := dp_pi_of h
    obtain ⟨hh, r, rfl, k0⟩ := dp_pr_of k1
    rcases k0 with ⟨hhn, k2⟩ | ⟨b9, m9, f9, a9, q1, q2, q3, q4⟩
    · rw [h0] at hhn
      unfold dp_aal at k2
      split at k2
      · exact dp_aald hx hb hG.1 h4 7 2 (dp_wl_at hhn (by decide)) rfl k2.1 hd (by rw [dp_outA k2.1]; exact k2.2 h0 ds H locs ls h1 h3 h4 h5 h6)
      · exact dp_aald hx hb hG.1 h4 9 2 (dp_wl_at hhn (by decide)) rfl k2.1 hd (by rw [dp_outA k2.1]; exact k2.2 h0 ds H locs ls h1 h3 h4 h5 h6)
      · exact dp_aald hx hb hG.1 h4 11 2 (dp_wl_at hhn (by decide)) rfl k2.1 hd (by rw [dp_outA k2.1]; exact k2.2 h0 ds H locs ls h1 h3 h4 h5 h6)
      · exact k2.elim
    · obtain ⟨p1, kd, p2, p3⟩ := dp_dyn (g := g) (M := M) h1 had q1
      have e9 : va_rf ((fun j => (f9 j).map ad) i.toNatClampNeg) = .ref (ad a9) := by show va_rf ((f9 _).map ad) = _; rw [q3]; rfl
      cases b9 with
      | false => exact dp_aald hx hb hG.1 h4 (60 + kd) 2 p3 rfl q2 hd (by rw [e9]; exact q4 h0 ds H locs ls h1 h3 h4 h5 h6)
      | true => exact va_aldq hx hb hG.1 h4 (60 + kd) 3 p3 rfl q2 hd (by rw [e9]; exact q4 h0 ds H locs ls h1 h3 h4 h5 h6)
  | aastore =>
    obtain rfl := hl.resolve_left (fun z => by cases z)
    intro h0 ds H locs ls h1 h3 h4 h5 h6
    obtain ⟨v, r, rfl, k0⟩ := dp_pr_of h
    obtain ⟨i, r, rfl, k1⟩ := dp_pi_of k0
    obtain ⟨hh, r, rfl, b9, m9, f9, q1, q2, qe, q3⟩ := dp_pr_of k1
    obtain ⟨p1, kd, p2, p3⟩ := dp_dyn (g := g) (M := M) h1 had q1
    have ef : va_up (fun j => (f9 j).map ad) i.toNatClampNeg (some (ad v)) = fun j => ((fun j => if j = i.toNatClampNeg then some v else f9 j) j).map ad := by
      funext j
      unfold va_up
      by_cases hj : j = i.toNatClampNeg <;> simp [hj]
    rcases qe with ⟨rfl, m8, f8, q8⟩ | ⟨rfl, fs8, q8⟩
    · obtain ⟨-, kv, -, p8⟩ := dp_dyn (g := g) (M := M) h1 had q8
      refine dp_aast hx hb hG.1 h4 h5 h6 hG.2.2.2.2.2.2.2.2.2.2.1 (60 + kd) 2 (60 + kv) 0 p3 rfl p8 rfl q2 hd (fun H1 locs1 e1 e2 e3 => ?_)
      have e1 : va_P g.1 vwCl ((dp_ww g ad M ds).set (60 + kd) (hh - 10000, dp_cec g ad (.inr (.inr (false, m9, fun j => if j = i.toNatClampNeg then some v else f9 j))))) H1 := by rw [← had.of p1]; rw [ef] at e1; exact e1
      have e2 : va_D A ((dp_ww g ad M ds).set (60 + kd) (hh - 10000, dp_cec g ad (.inr (.inr (false, m9, fun j => if j = i.toNatClampNeg then some v else f9 j))))) := by rw [← had.of p1]; rw [ef] at e2; exact e2
      rw [dp_dset] at e1 e2
      exact q3 h0 _ H1 locs1 ls (dp_rset h1 p2 p1) h3 e1 e2 e3
    · obtain ⟨-, kv, -, p8⟩ := dp_dyn (g := g) (M := M) h1 had q8
      refine va_astq (r := (RX4, TX4, 5)) (ci := 4) hx hb hG.1 h4 h5 h6 (60 + kd) 3 (60 + kv) p3 rfl p8 rfl q2 hd (fun H1 locs1 e1 e2 e3 => ?_)
      have e1 : va_P g.1 vwCl ((dp_ww g ad M ds).set (60 + kd) (hh - 10000, dp_cec g ad (.inr (.inr (true, m9, fun j => if j = i.toNatClampNeg then some v else f9 j))))) H1 := by rw [← had.of p1]; rw [ef] at e1; exact e1
      have e2 : va_D A ((dp_ww g ad M ds).set (60 + kd) (hh - 10000, dp_cec g ad (.inr (.inr (true, m9, fun j => if j = i.toNatClampNeg then some v else f9 j))))) := by rw [← had.of p1]; rw [ef] at e2; exact e2
      rw [dp_dset] at e1 e2
      exact q3 h0 _ H1 locs1 ls (dp_rset h1 p2 p1) h3 e1 e2 e3
  | arraylength =>
    obtain rfl := hl.resolve_left (fun z => by cases z)
    intro h0 ds H locs ls h1 h3 h4 h5 h6
    obtain ⟨hh, r, rfl, k2⟩ := dp_pr_of h
    rcases k2 with ⟨rfl, q2⟩ | ⟨q0, q1, q2, q4⟩ | ⟨c9, m9, q1, q2, q3⟩
    · have hX9 := hG.2.2.2
      have := va_slen hx hb hX9.1 hX9.2.1 hX9.2.2.1 h6 hd (q2 h0 ds H locs ls h1 h3 h4 h5 h6)
      rw [← had.1] at this
      exact this
    · rw [h0] at q2
      exact va_alen hx hb hG.1 h4 (dp_pos hh) 0 (dp_wl_A q2 q1) rfl rfl hd (q4 h0 ds H locs ls h1 h3 h4 h5 h6)
    · obtain ⟨p1, kd, p2, p3⟩ := dp_dyn (g := g) (M := M) h1 had q1
      match c9, q2, p3 with
      | .inl _, q2, _ => cases q2
      | .inr (.inl (false, _, _)), rfl, p3 => exact va_alen hx hb hG.1 h4 (60 + kd) 0 p3 rfl rfl hd (q3 h0 ds H locs ls h1 h3 h4 h5 h6)
      | .inr (.inl (true, _, _)), rfl, p3 => exact va_alen hx hb hG.1 h4 (60 + kd) 1 p3 rfl rfl hd (q3 h0 ds H locs ls h1 h3 h4 h5 h6)
      | .inr (.inr (false, _, _)), rfl, p3 => exact va_alen hx hb hG.1 h4 (60 + kd) 2 p3 rfl rfl hd (q3 h0 ds H locs ls h1 h3 h4 h5 h6)
      | .inr (.inr (true, _, _)), rfl, p3 => exact va_alen hx hb hG.1 h4 (60 + kd) 3 p3 rfl rfl hd (q3 h0 ds H locs ls h1 h3 h4 h5 h6)
  | newarray ty =>
    obtain rfl := hl.resolve_left (fun z => by cases z)
    intro h0 ds H locs ls h1 h3 h4 h5 h6
    obtain ⟨k, r, rfl, k0⟩ := dp_pi_of h
    obtain ⟨b9, hb9, q1, q2, q3, q4, q5⟩ := dp_opt_of k0
    have key : ∀ q9 (H1 : Heap) e9, e9 = dp_cec g ad (.inr (.inl (b9, k.toNatClampNeg, fun _ => 0))) → va_P g.1 vwCl (dp_ww g ad M ds ++ [(q9, e9)]) H1 → va_D A (dp_ww g ad M ds ++ [(q9, e9)]) → va_S A s.heap H1 locs → W p l e R s m args below meth c H1 locs (cc + 1) (q + k.toNatClampNeg) Qm (F0 m (pc + 2) ls (.ref q9 :: r.map (dp_cv ad))) := by
      intro q9 H1 e9 he e1 e2 e3
      subst he
      have hf := dp_fresh (g := g) h1 e2
      rw [dp_dpush] at e1 e2
      have := q5 q9 hf h0 _ H1 locs ls (dp_rpush h1) h3 e1 e2 e3
      rw [List.map_cons, show dp_cv ad (.ref (10000 + q9)) = .ref q9 from congrArg Value.ref (had.2 q9)] at this
      exact this
    cases ty with
    | int =>
      have hb9 : some false = some b9 := hb9
      cases hb9
      refine va_newa (atype := .int) (ty := .int) (N' := k.toNatClampNeg) (a0 := (k.toNatClampNeg, .inl fun _ => 0)) hx hb (hts _ (dp_wd_x0 17 rfl)) rfl hG.1 h4 h5 h6 hG.2.2.2.2.2.2.2.2.2.1 (fun cA => rfl) q1 rfl (by show k.toNatClampNeg * 4 ≤ 536870912; omega) (by rw [hRc]; exact q3) (by rw [hRs]; exact q4) hd (fun q9 cA H1 hK1 e1 e2 e3 => ?_)
      have e0 : (T3 g ++ [(cA, FieldType.int)])[(4 : Nat)]? = some (cA, .int) := rfl
      have r1 : s.vm.findClass _ = some cA := (hK1.2 _ _ e0).2
      have r2 : s.vm.findClass _ = some g.2.1 := (hG.1.2 0 _ rfl).2
      obtain rfl : cA = g.2.1 := Option.some.inj (r1.symm.trans r2)
      exact key q9 H1 _ rfl e1 e2 e3
    | boolean =>
      have hb9 : some true = some b9 := hb9
      cases hb9
      refine va_newa (atype := .boolean) (ty := .boolean) (N' := k.toNatClampNeg) (a0 := (k.toNatClampNeg, .inl fun _ => 0)) hx hb (hts _ (dp_wd_x0 18 rfl)) rfl hG.1 h4 h5 h6 hG.2.2.2.2.2.2.2.2.2.1 (fun cA => rfl) q1 rfl (by show k.toNatClampNeg * 1 ≤ 536870912; omega) (by rw [hRc]; exact q3) (by rw [hRs]; exact q4) hd (fun q9 cA H1 hK1 e1 e2 e3 => ?_)
      have e0 : (T3 g ++ [(cA, FieldType.boolean)])[(4 : Nat)]? = some (cA, .boolean) := rfl
      have r1 : s.vm.findClass _ = some cA := (hK1.2 _ _ e0).2
      have r2 : s.vm.findClass _ = some g.2.2.1 := (hG.1.2 1 _ rfl).2
      obtain rfl : cA = g.2.2.1 := Option.some.inj (r1.symm.trans r2)
      exact key q9 H1 _ rfl e1 e2 e3
    | _ => cases hb9
  | anewarray i =>
    obtain rfl := hl.resolve_left (fun z => by cases z)
    intro h0 ds H locs ls h1 h3 h4 h5 h6
    obtain ⟨k, r, rfl, k0⟩ := dp_pi_of h
    obtain ⟨b9, hb9, q1, q2, q3, q4, q5⟩ := dp_opt_of k0
    have key : ∀ q9 (H1 : Heap) e9, e9 = dp_cec g ad (.inr (.inr (b9, k.toNatClampNeg, fun _ => none))) → va_P g.1 vwCl (dp_ww g ad M ds ++ [(q9, e9)]) H1 → va_D A (dp_ww g ad M ds ++ [(q9, e9)]) → va_S A s.heap H1 locs → W p l e R s m args below meth c H1 locs (cc + 1) (q + k.toNatClampNeg) Qm (F0 m (pc + 3) ls (.ref q9 :: r.map (dp_cv ad))) := by
      intro q9 H1 e9 he e1 e2 e3
      subst he
      have hf := dp_fresh (g := g) h1 e2
      rw [dp_dpush] at e1 e2
      have := q5 q9 hf h0 _ H1 locs ls (dp_rpush h1) h3 e1 e2 e3
      rw [List.map_cons, show dp_cv ad (.ref (10000 + q9)) = .ref q9 from congrArg Value.ref (had.2 q9)] at this
      exact this
    have hcl9 : (b9 = false ∧ ((Cond.classLink (dp_o (dp_ow y)) i "[I").before args s = true)) ∨ (b9 = true ∧ ((Cond.classLink (dp_o (dp_ow y)) i RX4).before args s = true)) := dp_an_of hb9 (fun k w hw => hts w (dp_wd_x0 k hw))
    rcases hcl9 with ⟨rfl, hcl9⟩ | ⟨rfl, hcl9⟩
    · exact dp_newA hx hb hown hcl9 hG.2.2.2.2.2.2.2.2.2.2.1 hG.1 h4 h5 h6 hG.2.2.2.2.2.2.2.2.2.1 2 rfl q1 rfl (by omega) (by rw [hRc]; exact q3) (by rw [hRs]; exact q4) hd (fun q9 H1 e1 e2 e3 => key q9 H1 _ rfl e1 e2 e3)
    · refine va_newq (C := RX4) hx hb hown hcl9 hG.2.2.2.2.2.2.2.2.2.2.2.1 hG.1 h4 h5 h6 hG.2.2.2.2.2.2.2.2.2.1 q1 rfl (by omega) (by rw [hRc]; exact q3) (by rw [hRs]; exact q4) hd (fun q9 cA H1 hK1 e1 e2 e3 => ?_)
      have e0 : (T3 g ++ [(cA, FieldType.object RX4)])[(4 : Nat)]? = some (cA, .object RX4) := rfl
      obtain ⟨_, _, _, _, _, r1⟩ := (hK1.2 _ _ e0).2
      obtain ⟨_, _, _, _, _, r2⟩ := (hG.1.2 3 _ rfl).2
      obtain rfl : cA = g.2.2.2.2 := Option.some.inj (r1.symm.trans r2)
      exact key q9 H1 _ rfl e1 e2 e3
  | ifnonnull off =>
    obtain rfl := hl.resolve_left (fun z => by cases z)
    intro h0 ds H locs ls h1 h3 h4 h5 h6
    obtain ⟨x, r, rfl, hk⟩ := dp_pr_of h
    exact lv_ifnonnull hx hb hd (dp_jt_eq (of_decide_eq_true hj)) (hk h0 ds H locs ls h1 h3 h4 h5 h6)
  | irem =>
    obtain rfl := hl.resolve_left (fun z => by cases z)
    intro h0 ds H locs ls h1 h3 h4 h5 h6
    obtain ⟨x, r, rfl, k1⟩ := dp_pi_of h
    obtain ⟨z, r, rfl, hne, hk⟩ := dp_pi_of k1
    exact lv_irem hx hb hd hne (hk h0 ds H locs ls h1 h3 h4 h5 h6)
  | ldc i =>
    obtain rfl := hl.resolve_left (fun z => by cases z)
    intro h0 ds H locs ls h1 h3 h4 h5 h6
    obtain ⟨v, hv, hk⟩ := dp_opt_of h
    exact lv_ldc hx hb hown (hts _ (dp_wd_ci (dp_lo_in _ _ _ _ hv))) hd (hk h0 ds H locs ls h1 h3 h4 h5 h6)
  | dup =>
    obtain rfl := hl.resolve_left (fun z => by cases z)
    intro h0 ds H locs ls h1 h3 h4 h5 h6
    obtain ⟨v, r, rfl, q1, q2⟩ := dp_p1_of h
    exact lv_dup hx hb hd (by rw [dp_cv_cat]; exact q1) (q2 h0 ds H locs ls h1 h3 h4 h5 h6)
  | dup2 =>
    obtain rfl := hl.resolve_left (fun z => by cases z)
    intro h0 ds H locs ls h1 h3 h4 h5 h6
    obtain ⟨v, r, rfl, k1⟩ := dp_p1_of h
    obtain ⟨w, r, rfl, q1, q2, q3⟩ := dp_p1_of k1
    exact lv_dup2_11 hx hb hd (by rw [dp_cv_cat]; exact q1) (by rw [dp_cv_cat]; exact q2) (q3 h0 ds H locs ls h1 h3 h4 h5 h6)
  | pop =>
    obtain rfl := hl.resolve_left (fun z => by cases z)
    intro h0 ds H locs ls h1 h3 h4 h5 h6
    obtain ⟨v, r, rfl, q1, q2⟩ := dp_p1_of h
    exact lv_pop hx hb hd (by rw [dp_cv_cat]; exact q1) (q2 h0 ds H locs ls h1 h3 h4 h5 h6)
  | return_ =>
    obtain rfl := hl.resolve_left (fun z => by cases z)
    intro h0 ds H locs ls h1 h3 h4 h5 h6
    obtain ⟨rfl, q1, q2, q3, q4⟩ := h
    exact hE none pc cc q M o ds H locs ls h1 h4 h5 h6 (Or.inl ⟨hd, rfl, q1⟩) q2 q3 q4
  | ireturn =>
    obtain rfl := hl.resolve_left (fun z => by cases z)
    intro h0 ds H locs ls h1 h3 h4 h5 h6
    obtain ⟨x, r, rfl, rfl, q1, q2, q3, q4⟩ := dp_pi_of h
    exact hE (some (.int x)) pc cc q M o ds H locs ls h1 h4 h5 h6 (Or.inr (Or.inl ⟨x, hd, rfl, q1⟩)) q2 q3 q4
  | lreturn =>
    obtain rfl := hl.resolve_left (fun z => by cases z)
    intro h0 ds H locs ls h1 h3 h4 h5 h6
    obtain ⟨x, r, rfl, rfl, q1, q2, q3, q4⟩ := dp_pj_of h
    exact hE (some (.long x)) pc cc q M o ds H locs ls h1 h4 h5 h6 (Or.inr (Or.inr (Or.inl ⟨x, hd, rfl, q1⟩))) q2 q3 q4
  | dreturn =>
    obtain rfl := hl.resolve_left (fun z => by cases z)
    intro h0 ds H locs ls h1 h3 h4 h5 h6
    obtain ⟨x, r, rfl, rfl, q1, q2, q3, q4⟩ := dp_pd_of h
    exact hE (some (.double x)) pc cc q M o ds H locs ls h1 h4 h5 h6 (Or.inr (Or.inr (Or.inr (Or.inl ⟨x, hd, rfl, q1⟩)))) q2 q3 q4
  | areturn =>
    obtain rfl := hl.resolve_left (fun z => by cases z)
    intro h0 ds H locs ls h1 h3 h4 h5 h6
    obtain ⟨x, r, rfl, rfl, q1, q2, q3, q4⟩ := dp_pr_of h
    exact hE (some (.ref x)) pc cc q M o ds H locs ls h1 h4 h5 h6 (Or.inr (Or.inr (Or.inr (Or.inr ⟨x, hd, rfl, q1⟩)))) q2 q3 q4
  | invokevirtual i =>
    obtain rfl := hl.resolve_left (fun z => by cases z)
    exact dp_inv_ok C' had hdd hX hC (sb := false) hd h
  | invokestatic i =>
    obtain rfl := hl.resolve_left (fun z => by cases z)
    rcases h with h | h
    · exact dp_inv_ok C' had hdd hX hC (sb := true) hd h
    · exact dp_natw_ok C' hd h
  | invokespecial i =>
    obtain rfl := hl.resolve_left (fun z => by cases z)
    rcases h with h | h | ⟨hn9, h⟩
    · exact dp_ins_ok C' had hdd hX hC hd (Or.inl h)
    · exact dp_ins_ok C' had hdd hX hC hd (Or.inr h)
    · intro h0 ds H locs ls h1 h3 h4 h5 h6
      obtain ⟨x, r, rfl, hr, hk⟩ := dp_pr_of h
      have hmem := dp_lo_in _ _ _ _ hn9
      have hlk := hts _ (dp_wd_nat hmem)
      unfold dp_linkN at hlk
      have := dp_sum_le ad r
      exact W.objInit (g := F0 m pc ls ((.ref x :: r).map (dp_cv ad))) hx hb hown hlk (hts _ (dp_wd_x0 8 rfl)) (hts _ (dp_wd_x0 9 rfl)) rfl (by rw [hml]; exact h3.1) rfl hd (Nat.le_trans hd1 hfr) (by show 2 * 0 + _ + 12 ≤ _; omega) (hk h0 ds H locs ls h1 h3 h4 h5 h6)
  | new i =>
    obtain rfl := hl.resolve_left (fun z => by cases z)
    intro h0 ds H locs ls h1 h3 h4 h5 h6
    rcases h with ⟨ho, h⟩ | h
    · obtain ⟨q1, q2, q3⟩ := dp_ec_of h
      simp only [dp_jok, Bool.or_eq_true, beq_iff_eq] at hj
      rcases hj with hj | hj
      · omega
      · exact hN i pc cc q M o ds H locs ls st h1 h3.1 h4 h5 h6 hd hj ho q2 q3 q1
    · obtain ⟨ci, hc9, q3, q4, q5⟩ := dp_opt_of h
      have key : ∀ q9 (H1 : Heap) e9, e9 = dp_cec g ad (.inl (ci, dp_df ci)) → va_P g.1 vwCl (dp_ww g ad M ds ++ [(q9, e9)]) H1 → va_D A (dp_ww g ad M ds ++ [(q9, e9)]) → va_S A s.heap H1 locs → W p l e R s m args below meth c H1 locs (cc + 1) (q + 5) Qm (F0 m (pc + 3) ls (.ref q9 :: st.map (dp_cv ad))) := by
        intro q9 H1 e9 he e1 e2 e3
        subst he
        have hf := dp_fresh (g := g) h1 e2
        rw [dp_dpush] at e1 e2
        have := q5 q9 hf h0 _ H1 locs ls (dp_rpush h1) h3 e1 e2 e3
        rw [List.map_cons, show dp_cv ad (.ref (10000 + q9)) = .ref q9 from congrArg Value.ref (had.2 q9)] at this
        exact this
      rcases dp_nw_of hc9 with ⟨ho, rfl, rfl⟩ | ⟨ho, rfl, rfl⟩
      · rw [ho] at hown
        exact va_new (own := RL) (ci := 5) (fs := [.null, .null, .null, .null, .int 0]) (C := RX5) (T := TX5) (N := 5) hx hb hts (dp_wd_lays (c := 5) rfl) tyX5 tyX5_ok hown (hts _ (dp_wd_x0 10 rfl)) (hts _ (dp_wd_x0 11 rfl)) (hts _ (dp_wd_init (k := 5) (by decide))) hG.1 h4 h5 h6 hG.2.2.2.2.2.2.2.2.2.1 rfl (fun j hj => by rcases (show j = 0 ∨ j = 1 ∨ j = 2 ∨ j = 3 ∨ j = 4 by omega) with rfl | rfl | rfl | rfl | rfl <;> rfl) (by rw [hRc]; exact q3) (by rw [hRs]; exact q4) hd (fun q9 H1 e1 e2 e3 => key q9 H1 _ rfl e1 e2 e3)
      · rw [ho] at hown
        exact va_new (own := RL) (ci := 4) (fs := [.int 0, .int 0, .int 0, .null, .null]) (C := RX4) (T := TX4) (N := 5) hx hb hts (dp_wd_lays (c := 4) rfl) tyX4 tyX4_ok hown (hts _ (dp_wd_x0 12 rfl)) (hts _ (dp_wd_x0 13 rfl)) (hts _ (dp_wd_init (k := 4) (by decide))) hG.1 h4 h5 h6 hG.2.2.2.2.2.2.2.2.2.1 rfl (fun j hj => by rcases (show j = 0 ∨ j = 1 ∨ j = 2 ∨ j = 3 ∨ j = 4 by omega) with rfl | rfl | rfl | rfl | rfl <;> rfl) (by rw [hRc]; exact q3) (by rw [hRs]; exact q4) hd (fun q9 H1 e1 e2 e3 => key q9 H1 _ rfl e1 e2 e3)
  | _ => exact h.elim
end DPU
end
section
/-! A method that the deep semantics lets run keeps its contract. -/
theorem dp_args_in (ad : Nat → Nat) : ∀ (as : List Value) (m i j : Nat) (v : Value), dp_gt (dp_args m as) j = some v → (i + j, dp_cv ad v) ∈ lv_args i (as.map (dp_cv ad))
  | [], m, i, j, v, h => by
    have : ∀ (m j : Nat), dp_gt (List.replicate m none) j = none := fun m => by
      induction m with
      | zero => intro j; rfl
      | succ m ih =>
        intro j
        cases j with
        | zero => rfl
        | succ j => exact ih j
    rw [show dp_args m [] = List.replicate m none from by cases m <;> rfl, this] at h
    cases h
  | w :: t, m, i, j, v, h => by
    have key1 : w.category = 1 → dp_args m (w :: t) = some w :: dp_args (m - 1) t := fun hc => by
      cases w <;> first | rfl | (cases hc)
    have key2 : w.category = 2 → dp_args m (w :: t) = some w :: none :: dp_args (m - 2) t := fun hc => by
      cases w <;> first | rfl | (cases hc)
    rw [List.map_cons, lv_args, dp_cv_cat]
    rcases lv_cat w with hc | hc
    · rw [key1 hc] at h
      rw [if_neg (by omega)]
      cases j with
      | zero => cases h; exact List.mem_cons_self
      | succ j =>
        refine List.mem_cons_of_mem _ ?_
        rw [show i + (j + 1) = i + 1 + j by omega]
        exact dp_args_in ad t (m - 1) (i + 1) j v h
    · rw [key2 hc] at h
      rw [if_pos hc]
      match j, h with
      | 0, h => cases h; exact List.mem_cons_self
      | 1, h => cases h
      | j + 2, h =>
        refine List.mem_cons_of_mem _ ?_
        rw [show i + (j + 2) = i + 2 + j by omega]
        exact dp_args_in ad t (m - 2) (i + 2) j v h
theorem dp_asz_sl (ad : Nat → Nat) : ∀ (as : List Value), (lg_sl (as.map (dp_cv ad))).length = dp_asz as
  | [] => rfl
  | w :: t => by
    have ih := dp_asz_sl ad t
    rw [List.map_cons]
    have e : lg_sl (dp_cv ad w :: t.map (dp_cv ad)) = (if (dp_cv ad w).category = 2 then [.val (dp_cv ad w), .second] else [.val (dp_cv ad w)]) ++ lg_sl (t.map (dp_cv ad)) := rfl
    rw [e, List.length_append, ih, dp_cv_cat]
    cases w <;> simp [dp_asz, Value.category] <;> omega
theorem dp_lk_dec {y : Nat} (hy : y < 78) {pc : Nat} {i : Jvm.ClassFile.Instr × Nat} (h : dp_lk (dp_tl y) pc = i) (hne : i ≠ (.nop, 0)) : decode (dp_by y) pc = .ok i := by
  rcases dp_dec hy pc with e | ⟨e, -⟩
  · exact absurd (h.symm.trans e) hne
  · rw [show dp_tab y pc = i from h] at e
    exact e
theorem dp_npat_of {y : Nat} (hy : y < 78) {pc i : Nat} (h : dp_npat (dp_tl y) pc i = true) : ∃ (is : Nat) (tx : String), (3, is, tx) ∈ dp_st ∧ decode (dp_by y) (pc + 3) = .ok (.dup, 1) ∧ decode (dp_by y) (pc + 4) = .ok (.ldc is, 2) ∧ decode (dp_by y) (pc + 6) = .ok (.invokespecial (dp_exc (dp_ec i)), 3) ∧ decode (dp_by y) (pc + 9) = .ok (.athrow, 1) := by
  unfold dp_npat at h
  simp only [Bool.and_eq_true, decide_eq_true_eq] at h
  obtain ⟨⟨⟨h1, h2⟩, h3⟩, h4⟩ := h
  split at h2
  · rename_i is he
    obtain ⟨⟨a, j, tx⟩, hm, hq⟩ := List.any_eq_true.mp h2
    simp only [Bool.and_eq_true, beq_iff_eq] at hq
    obtain ⟨rfl, rfl⟩ := hq
    exact ⟨j, tx, hm, dp_lk_dec hy h1 (by intro z; cases z), dp_lk_dec hy he (by intro z; cases z), dp_lk_dec hy h3 (by intro z; cases z), dp_lk_dec hy h4 (by intro z; cases z)⟩
  · cases h2
theorem dp_hat {args : Array Value} {s : State} (hts : ∀ w ∈ dp_wd, w.before args s = true) (hbw : ∀ w ∈ dp_bw, va_Nw w s) {k : Nat} (hk : k ≤ 2) : ∀ w ∈ vx_atS RX3 (dp_exc k) (dp_exn k) dp_nam, w.before args s = true := by
  have hb2 : ∀ w ∈ dp_bw, w.before args s = true := fun w hw => va_Nw.use (List.all_eq_true.mp (show dp_bw.all Cond.onTables = true by decide +kernel) w hw) (hbw w hw)
  rcases (by omega : k = 0 ∨ k = 1 ∨ k = 2) with rfl | rfl | rfl
  · exact vx_hat (B := dp_bw) (fun w hw => hts w (dp_wd_x2 (by unfold dp_x2; exact List.mem_append_left _ hw))) (by decide +kernel) hb2
  · exact vx_hat (B := dp_bw) (fun w hw => hts w (dp_wd_x2 (by unfold dp_x2; exact List.mem_append_right _ (List.mem_append_left _ hw)))) (by decide +kernel) hb2
  · exact vx_hat (B := dp_bw) (fun w hw => hts w (dp_wd_x2 (by unfold dp_x2; exact List.mem_append_right _ (List.mem_append_right _ hw)))) (by decide +kernel) hb2
theorem dp_ot {k : Nat} (hk : k ≤ 2) : ∀ w ∈ Cond.classLink RX3 (dp_exk k) (dp_exn k) :: Cond.initialized (dp_exn k) :: vx_atS RX3 (dp_exc k) (dp_exn k) dp_nam, vx_ot w = true := by
  rcases (by omega : k = 0 ∨ k = 1 ∨ k = 2) with rfl | rfl | rfl <;> decide +kernel
section DPM
variable {p : Program} {l : Launch} {e : Env} {s : State} {m : MethodId} {args : Array Value} {below : List Frame} {meth : Method} {c : Code}
variable {g : dp_G} {X : dp_X} {b : Nat} {A : Nat → Prop} {y d : Nat} {ad : Nat → Nat} {Q : dp_Q}
theorem dp_ends (C : dp_Cx p l (dp_rm y d) s m args c g X b A y d) (hr : meth.sig.returnType = dp_rt y) (hlocks : meth.locks = false) :
    dp_En p l e (dp_rm y d) s m args below meth c (vx_MQ below (dp_Qc g A ad Q) (dp_XC g A ad Q) args s (dp_mc y) (dp_ms y) A) g A y ad Q ∧
    dp_Ex p l e (dp_rm y d) s m args below meth c (vx_MQ below (dp_Qc g A ad Q) (dp_XC g A ad Q) args s (dp_mc y) (dp_ms y) A) g A y ad Q ∧
    dp_Nw p l e (dp_rm y d) s m args below meth c (vx_MQ below (dp_Qc g A ad Q) (dp_XC g A ad Q) args s (dp_mc y) (dp_ms y) A) g A y d ad Q := by
  have C' := C
  obtain ⟨hx, hb, hml, hown, hts, htr, htab, hd1, hfr, hlo, hRc, hRs, hy, hG⟩ := C
  refine ⟨?_, ?_, ?_⟩
  · intro v pc cc q M o ds H locs ls h1 h4 h5 h6 hisr hcc hqq hq
    refine W.widen hcc hqq (vx_ret ?_)
    have post : ∀ t : State, t.heap = H → dp_Qc g A ad Q args s (.returned (v.map (dp_cv ad))) t := fun t ht =>
      ⟨⟨v, M, o, rfl, hq, ds, h1, by rw [ht]; exact h4, h5⟩, h6.F ht⟩
    unfold dp_rt at hr
    rcases hisr with ⟨hd, rfl, hk⟩ | ⟨x, hd, rfl, hk⟩ | ⟨x, hd, rfl, hk⟩ | ⟨x, hd, rfl, hk⟩ | ⟨x, hd, rfl, hk⟩
    · rw [hk] at hr
      exact W.vret hx hb hr (fun t ht _ => post t ht) h6.2.2 hd hlocks
    · unfold dp_rz at hk
      split at hk
      · rename_i hk1
        rw [hk1] at hr
        exact W.iret hx hb hr (fun t ht _ => post t ht) h6.2.2 hd hlocks
      · rename_i hk1
        rw [hk1] at hr
        exact W.zret (ty := .boolean) hx hb hr (by rcases hk with rfl | rfl <;> rfl) (fun t ht _ => post t ht) h6.2.2 hd hlocks
      · exact hk.elim
    · rw [hk] at hr
      exact W.lret hx hb hr (fun t ht _ => post t ht) h6.2.2 hd hlocks
    · rw [hk] at hr
      exact W.dret hx hb hr (fun t ht _ => post t ht) h6.2.2 hd hlocks
    · rcases hk with hk | hk
      · rw [hk] at hr
        exact W.aret (rt := .array .int) hx hb hr (Or.inr ⟨_, rfl⟩) (Or.inr ⟨_, rfl⟩) (fun t ht _ => post t ht) h6.2.2 hd hlocks
      · rw [hk] at hr
        exact W.aret (rt := .object "ClipBureauLaw$Sim") hx hb hr (Or.inl ⟨_, rfl⟩) (Or.inr ⟨_, rfl⟩) (fun t ht _ => post t ht) h6.2.2 hd hlocks
  · intro k pc cc q M o ds H locs ls st ce q9 h1 h4 h5 h6 hk hcell hv hcl hcc hqq hq
    refine vx_outP (own := dp_o (dp_ow y)) (E := dp_exn k) (ce := ce) hown hlocks ?_ hcell hv hcl (fun t ht _ => ⟨⟨k, M, o, rfl, hk, hq, ds, h1, by rw [ht]; exact h4, h5⟩, h6.F ht⟩) h6.2.2 hcc hqq
    intro x hx9
    rw [htab] at hx9
    cases hx9
  · intro i pc cc q M o ds H locs ls st h1 hsz h4 h5 h6 hd hpat ho hec hexk hthr
    obtain ⟨t1, t2, t3, t4, hq⟩ := hthr
    obtain ⟨is, tx, hst, d3, d4, d6, d9⟩ := dp_npat_of hy hpat
    obtain ⟨sa, hsa⟩ := hG.2.2.2.2.2.2.2.2.1 _ hst
    have hbw := hG.2.2.2.2.2.2.1
    have hown3 : s.vm.findClass RX3 = some m.cls := by rw [ho] at hown; exact hown
    have hck : (Cond.classLink RX3 i (dp_exn (dp_ec i))).before args s = true ∧ (Cond.initialized (dp_exn (dp_ec i))).before args s = true := by
      rw [← hexk]
      generalize dp_ec i = k at hec
      rcases (by omega : k = 0 ∨ k = 1 ∨ k = 2) with rfl | rfl | rfl
      · exact ⟨hts _ (dp_wd_x1 0 rfl), hts _ (dp_wd_x1 1 rfl)⟩
      · exact ⟨hts _ (dp_wd_x1 2 rfl), hts _ (dp_wd_x1 3 rfl)⟩
      · exact ⟨hts _ (dp_wd_x1 4 rfl), hts _ (dp_wd_x1 5 rfl)⟩
    have hfit : Bundle.fit (dp_exn (dp_ec i)) = true := by
      generalize dp_ec i = k at hec
      rcases (by omega : k = 0 ∨ k = 1 ∨ k = 2) with rfl | rfl | rfl <;> decide +kernel
    have hot := dp_ot hec
    rw [hexk] at hot
    refine vx_throwS (own := RX3) (cls := dp_exn (dp_ec i)) (text := tx) (names := dp_nam) (ik := i) (is := is) (ic := dp_exc (dp_ec i)) (sa := sa) (A := A) hx hb htr hown3 hfit (by decide +kernel) hck.1 hck.2 hsa (dp_hat hts hbw hec) hot hG.2.1 hG.2.2.1 h6 (by rw [hsz, hml]) hd d3 d4 d6 d9 ?_ ?_ ?_ ?_ ?_ hlocks ?_ h6.2.2 t3 t4
    · intro x hx9
      rw [htab] at hx9
      cases hx9
    · show dp_nam.length + 3 < d
      exact t1
    · have := dp_sum_le ad st
      show _ + (13 * (dp_nam.length + 1) + 43) ≤ 30 * d + 60 + dp_xl y
      have e : dp_nam.length = 2 := rfl
      rw [e]
      omega
    · exact t3
    · exact t4
    · intro t hal hsz9 hkeep
      refine ⟨⟨dp_ec i, M, o, rfl, hec, hq, ds, h1, ?_, h5⟩, Nat.le_trans h6.1 hsz9, fun q9 g1 g2 => by rw [hkeep q9 (Nat.lt_of_lt_of_le g1 h6.1)]; exact h6.2.1 q9 g1 g2⟩
      exact h4.kept (fun k9 z hz => hkeep _ (h4 k9 z hz).lt)
end DPM
theorem dp_met {l : Launch} (htr : l.stackTraces = false) {g : dp_G} {X : dp_X} {b : Nat} {A : Nat → Prop} : ∀ (d z : Nat) (as : List Value) (n : Nat) (M : dp_M) (o : dp_O) (Q : dp_Q), z < 77 → dp_run X d z as n M o Q → dp_Mt l g X b A d z as n M o Q
  | 0, _, _, _, _, _, _, _, h => h.elim
  | d + 1, z, as, n, M, o, Q, hz, h => by
    intro h65 hasz ad hb
    obtain ⟨z1, z2, z3, z4, z5, z6, z7, z8⟩ := dp_zok_spec (z := z) (by omega)
    refine vx_ofW (cc := dp_by z) (maxL := dp_mL z) (ret := dp_rt z) (ws' := dp_wd) z3 (by rw [dp_codeE z6]) ?_
    intro p e s m args below meth c s₁ B hml ht hv
    have htab : c.exceptionTable.toList = [] := by
      cases hl : c.exceptionTable.toList with
      | nil => rfl
      | cons x t => exact (ht x (by rw [hl]; exact List.mem_cons_self)).elim
    obtain ⟨rfl, hG, ds, hrep, hP, hD⟩ := hv
    have hts0 := atoms_spec (ws := dp_codeW z :: dp_wd) B.pre
    have C : dp_Cx p l (dp_rm z (d + 1)) s m (as.map (dp_cv ad)).toArray c g X b A z (d + 1) := ⟨B.exec, B.bytes, hml, by rw [← z4]; exact findClass_of_methodNamed B.named, fun w hw => hts0 w (List.mem_cons_of_mem _ hw), htr, htab, by omega, Nat.le_refl _, Nat.le_refl _, rfl, rfl, by omega, hG⟩
    obtain ⟨hE, hX, hN⟩ := dp_ends (e := e) (below := below) (meth := meth) (ad := ad) (Q := Q) C B.returns B.notSynchronized
    have hrun := h (dp_KW p l e (dp_rm z (d + 1)) s m (as.map (dp_cv ad)).toArray below meth c (vx_MQ below (dp_Qc g A ad Q) (dp_XC g A ad Q) (as.map (dp_cv ad)).toArray s (dp_mc z) (dp_ms z) A) g A (dp_mL z) ad)
      ⟨fun pc L st n cc q M o hw => dp_step C hb rfl hE hX hN (fun z as n M o Q' hz hc => dp_met htr d z as n M o Q' hz hc) hw, fun b9 pc L st n cc q M o hk => dp_KW.msk hk, fun pc L st n cc q cc' q' M o h1 h2 hk => dp_KW.wid h1 h2 hk⟩
    have hle : (lg_sl (as.map (dp_cv ad))).length ≤ dp_mL z := by rw [dp_asz_sl]; exact hasz
    have hl := lv_entry (as.map (dp_cv ad)) hle
    rw [lg_entry_eq]
    exact hrun h65 ds s.heap [] _ hrep (dp_LH.of hl (fun j v hj => by simpa using dp_args_in ad as (dp_mL z) 0 j v hj)) hP hD va_S.rf
end
section
/-! rows that evaluate the tables (printed by wip/whole/tl_gen.py) -/
theorem kI_m1 : dp_kI (-1) = (-1 : Int32) := by decide +kernel
theorem kI_0 : dp_kI 0 = nI 0 := by decide +kernel
theorem kI_1 : dp_kI 1 = nI 1 := by decide +kernel
theorem kI_2 : dp_kI 2 = nI 2 := by decide +kernel
theorem kI_3 : dp_kI 3 = nI 3 := by decide +kernel
theorem kI_4 : dp_kI 4 = nI 4 := by decide +kernel
theorem kI_5 : dp_kI 5 = nI 5 := by decide +kernel
theorem kB_6 : dp_kB 6 = nI 6 := by decide +kernel
theorem kB_7 : dp_kB 7 = nI 7 := by decide +kernel
theorem kB_8 : dp_kB 8 = nI 8 := by decide +kernel
theorem kB_9 : dp_kB 9 = nI 9 := by decide +kernel
theorem kB_10 : dp_kB 10 = nI 10 := by decide +kernel
theorem kB_12 : dp_kB 12 = nI 12 := by decide +kernel
theorem kB_16 : dp_kB 16 = nI 16 := by decide +kernel
theorem kB_20 : dp_kB 20 = nI 20 := by decide +kernel
theorem kB_24 : dp_kB 24 = nI 24 := by decide +kernel
theorem kB_30 : dp_kB 30 = nI 30 := by decide +kernel
theorem kB_40 : dp_kB 40 = nI 40 := by decide +kernel
theorem kB_60 : dp_kB 60 = nI 60 := by decide +kernel
theorem kB_63 : dp_kB 63 = nI 63 := by decide +kernel
theorem kB_64 : dp_kB 64 = nI 64 := by decide +kernel
theorem kS_223 : dp_kS 223 = nI 223 := by decide +kernel
theorem kS_307 : dp_kS 307 = nI 307 := by decide +kernel
theorem kS_512 : dp_kS 512 = nI 512 := by decide +kernel
theorem kS_999 : dp_kS 999 = nI 999 := by decide +kernel
theorem kS_1000 : dp_kS 1000 = nI 1000 := by decide +kernel
theorem kS_9999 : dp_kS 9999 = nI 9999 := by decide +kernel
theorem jt_1_8 : dp_jt 1 8 = 9 := rfl
theorem jt_1_9 : dp_jt 1 9 = 10 := rfl
theorem jt_1_10 : dp_jt 1 10 = 11 := rfl
theorem jt_1_14 : dp_jt 1 14 = 15 := rfl
theorem jt_1_27 : dp_jt 1 27 = 28 := rfl
theorem jt_1_35 : dp_jt 1 35 = 36 := rfl
theorem jt_1_37 : dp_jt 1 37 = 38 := rfl
theorem jt_1_39 : dp_jt 1 39 = 40 := rfl
theorem jt_1_45 : dp_jt 1 45 = 46 := rfl
theorem jt_1_46 : dp_jt 1 46 = 47 := rfl
theorem jt_1_47 : dp_jt 1 47 = 48 := rfl
theorem jt_1_55 : dp_jt 1 55 = 56 := rfl
theorem jt_1_56 : dp_jt 1 56 = 57 := rfl
theorem jt_1_63 : dp_jt 1 63 = 64 := rfl
theorem jt_1_65 : dp_jt 1 65 = 66 := rfl
theorem jt_1_71 : dp_jt 1 71 = 72 := rfl
theorem jt_1_78 : dp_jt 1 78 = 79 := rfl
theorem jt_1_79 : dp_jt 1 79 = 80 := rfl
theorem jt_1_87 : dp_jt 1 87 = 88 := rfl
theorem jt_1_88 : dp_jt 1 88 = 89 := rfl
theorem jt_2_9 : dp_jt 2 9 = 11 := rfl
theorem jt_3_9 : dp_jt 3 9 = 12 := rfl
theorem jt_4_19 : dp_jt 4 19 = 23 := rfl
theorem jt_4_57 : dp_jt 4 57 = 61 := rfl
theorem jt_6_10 : dp_jt 6 10 = 16 := rfl
theorem jt_6_13 : dp_jt 6 13 = 19 := rfl
theorem jt_6_17 : dp_jt 6 17 = 23 := rfl
theorem jt_7_7 : dp_jt 7 7 = 14 := rfl
theorem jt_7_10 : dp_jt 7 10 = 17 := rfl
theorem jt_7_13 : dp_jt 7 13 = 20 := rfl
theorem jt_7_18 : dp_jt 7 18 = 25 := rfl
theorem jt_7_21 : dp_jt 7 21 = 28 := rfl
theorem jt_7_23 : dp_jt 7 23 = 30 := rfl
theorem jt_8_13 : dp_jt 8 13 = 21 := rfl
theorem jt_8_30 : dp_jt 8 30 = 38 := rfl
theorem jt_9_5 : dp_jt 9 5 = 14 := rfl
theorem jt_9_7 : dp_jt 9 7 = 16 := rfl
theorem jt_9_9 : dp_jt 9 9 = 18 := rfl
theorem jt_9_13 : dp_jt 9 13 = 22 := rfl
theorem jt_9_18 : dp_jt 9 18 = 27 := rfl
theorem jt_9_23 : dp_jt 9 23 = 32 := rfl
theorem jt_10_39 : dp_jt 10 39 = 49 := rfl
theorem jt_10_50 : dp_jt 10 50 = 60 := rfl
theorem jt_11_7 : dp_jt 11 7 = 18 := rfl
theorem jt_11_9 : dp_jt 11 9 = 20 := rfl
theorem jt_11_11 : dp_jt 11 11 = 22 := rfl
theorem jt_11_16 : dp_jt 11 16 = 27 := rfl
theorem jt_12_5 : dp_jt 12 5 = 17 := rfl
theorem jt_12_13 : dp_jt 12 13 = 25 := rfl
theorem jt_12_15 : dp_jt 12 15 = 27 := rfl
theorem jt_12_26 : dp_jt 12 26 = 38 := rfl
theorem jt_12_39 : dp_jt 12 39 = 51 := rfl
theorem jt_12_48 : dp_jt 12 48 = 60 := rfl
theorem jt_13_4 : dp_jt 13 4 = 17 := rfl
theorem jt_13_13 : dp_jt 13 13 = 26 := rfl
theorem jt_13_50 : dp_jt 13 50 = 63 := rfl
theorem jt_13_58 : dp_jt 13 58 = 71 := rfl
theorem jt_14_7 : dp_jt 14 7 = 21 := rfl
theorem jt_14_13 : dp_jt 14 13 = 27 := rfl
theorem jt_14_18 : dp_jt 14 18 = 32 := rfl
theorem jt_15_4 : dp_jt 15 4 = 19 := rfl
theorem jt_15_5 : dp_jt 15 5 = 20 := rfl
theorem jt_15_14 : dp_jt 15 14 = 29 := rfl
theorem jt_15_71 : dp_jt 15 71 = 86 := rfl
theorem jt_16_6 : dp_jt 16 6 = 22 := rfl
theorem jt_16_31 : dp_jt 16 31 = 47 := rfl
theorem jt_16_49 : dp_jt 16 49 = 65 := rfl
theorem jt_17_m12 : dp_jt 17 (-12) = 5 := rfl
theorem jt_17_46 : dp_jt 17 46 = 63 := rfl
theorem jt_18_6 : dp_jt 18 6 = 24 := rfl
theorem jt_18_8 : dp_jt 18 8 = 26 := rfl
theorem jt_18_12 : dp_jt 18 12 = 30 := rfl
theorem jt_19_25 : dp_jt 19 25 = 44 := rfl
theorem jt_20_m18 : dp_jt 20 (-18) = 2 := rfl
theorem jt_20_7 : dp_jt 20 7 = 27 := rfl
theorem jt_20_24 : dp_jt 20 24 = 44 := rfl
theorem jt_20_59 : dp_jt 20 59 = 79 := rfl
theorem jt_21_5 : dp_jt 21 5 = 26 := rfl
theorem jt_21_13 : dp_jt 21 13 = 34 := rfl
theorem jt_21_43 : dp_jt 21 43 = 64 := rfl
theorem jt_22_m18 : dp_jt 22 (-18) = 4 := rfl
theorem jt_22_13 : dp_jt 22 13 = 35 := rfl
theorem jt_22_21 : dp_jt 22 21 = 43 := rfl
theorem jt_23_28 : dp_jt 23 28 = 51 := rfl
theorem jt_24_m20 : dp_jt 24 (-20) = 4 := rfl
theorem jt_24_m15 : dp_jt 24 (-15) = 9 := rfl
theorem jt_24_4 : dp_jt 24 4 = 28 := rfl
theorem jt_24_6 : dp_jt 24 6 = 30 := rfl
theorem jt_25_m21 : dp_jt 25 (-21) = 4 := rfl
theorem jt_25_820 : dp_jt 25 820 = 845 := rfl
theorem jt_26_m16 : dp_jt 26 (-16) = 10 := rfl
theorem jt_27_m23 : dp_jt 27 (-23) = 4 := rfl
theorem jt_27_5 : dp_jt 27 5 = 32 := rfl
theorem jt_28_26 : dp_jt 28 26 = 54 := rfl
theorem jt_29_m27 : dp_jt 29 (-27) = 2 := rfl
theorem jt_29_28 : dp_jt 29 28 = 57 := rfl
theorem jt_30_7 : dp_jt 30 7 = 37 := rfl
theorem jt_31_5 : dp_jt 31 5 = 36 := rfl
theorem jt_32_7 : dp_jt 32 7 = 39 := rfl
theorem jt_32_13 : dp_jt 32 13 = 45 := rfl
theorem jt_33_5 : dp_jt 33 5 = 38 := rfl
theorem jt_34_11 : dp_jt 34 11 = 45 := rfl
theorem jt_34_15 : dp_jt 34 15 = 49 := rfl
theorem jt_34_23 : dp_jt 34 23 = 57 := rfl
theorem jt_35_m28 : dp_jt 35 (-28) = 7 := rfl
theorem jt_35_m26 : dp_jt 35 (-26) = 9 := rfl
theorem jt_36_4 : dp_jt 36 4 = 40 := rfl
theorem jt_37_17 : dp_jt 37 17 = 54 := rfl
theorem jt_37_61 : dp_jt 37 61 = 98 := rfl
theorem jt_38_5 : dp_jt 38 5 = 43 := rfl
theorem jt_39_6 : dp_jt 39 6 = 45 := rfl
theorem jt_40_13 : dp_jt 40 13 = 53 := rfl
theorem jt_40_18 : dp_jt 40 18 = 58 := rfl
theorem jt_41_m31 : dp_jt 41 (-31) = 10 := rfl
theorem jt_41_m25 : dp_jt 41 (-25) = 16 := rfl
theorem jt_41_7 : dp_jt 41 7 = 48 := rfl
theorem jt_41_18 : dp_jt 41 18 = 59 := rfl
theorem jt_42_13 : dp_jt 42 13 = 55 := rfl
theorem jt_44_m31 : dp_jt 44 (-31) = 13 := rfl
theorem jt_44_13 : dp_jt 44 13 = 57 := rfl
theorem jt_45_4 : dp_jt 45 4 = 49 := rfl
theorem jt_46_m44 : dp_jt 46 (-44) = 2 := rfl
theorem jt_46_7 : dp_jt 46 7 = 53 := rfl
theorem jt_47_10 : dp_jt 47 10 = 57 := rfl
theorem jt_47_11 : dp_jt 47 11 = 58 := rfl
theorem jt_48_m44 : dp_jt 48 (-44) = 4 := rfl
theorem jt_48_m29 : dp_jt 48 (-29) = 19 := rfl
theorem jt_49_5 : dp_jt 49 5 = 54 := rfl
theorem jt_49_7 : dp_jt 49 7 = 56 := rfl
theorem jt_49_14 : dp_jt 49 14 = 63 := rfl
theorem jt_50_4 : dp_jt 50 4 = 54 := rfl
theorem jt_52_4 : dp_jt 52 4 = 56 := rfl
theorem jt_53_4 : dp_jt 53 4 = 57 := rfl
theorem jt_54_m29 : dp_jt 54 (-29) = 25 := rfl
theorem jt_54_12 : dp_jt 54 12 = 66 := rfl
theorem jt_54_251 : dp_jt 54 251 = 305 := rfl
theorem jt_55_8 : dp_jt 55 8 = 63 := rfl
theorem jt_56_m18 : dp_jt 56 (-18) = 38 := rfl
theorem jt_56_7 : dp_jt 56 7 = 63 := rfl
theorem jt_57_m55 : dp_jt 57 (-55) = 2 := rfl
theorem jt_57_m48 : dp_jt 57 (-48) = 9 := rfl
theorem jt_57_33 : dp_jt 57 33 = 90 := rfl
theorem jt_58_m56 : dp_jt 58 (-56) = 2 := rfl
theorem jt_58_8 : dp_jt 58 8 = 66 := rfl
theorem jt_58_22 : dp_jt 58 22 = 80 := rfl
theorem jt_60_m53 : dp_jt 60 (-53) = 7 := rfl
theorem jt_60_m52 : dp_jt 60 (-52) = 8 := rfl
theorem jt_60_4 : dp_jt 60 4 = 64 := rfl
theorem jt_60_5 : dp_jt 60 5 = 65 := rfl
theorem jt_61_m47 : dp_jt 61 (-47) = 14 := rfl
theorem jt_62_m49 : dp_jt 62 (-49) = 13 := rfl
theorem jt_62_18 : dp_jt 62 18 = 80 := rfl
theorem jt_63_5 : dp_jt 63 5 = 68 := rfl
theorem jt_63_7 : dp_jt 63 7 = 70 := rfl
theorem jt_67_5 : dp_jt 67 5 = 72 := rfl
theorem jt_68_m58 : dp_jt 68 (-58) = 10 := rfl
theorem jt_68_12 : dp_jt 68 12 = 80 := rfl
theorem jt_68_29 : dp_jt 68 29 = 97 := rfl
theorem jt_69_25 : dp_jt 69 25 = 94 := rfl
theorem jt_73_19 : dp_jt 73 19 = 92 := rfl
theorem jt_74_6 : dp_jt 74 6 = 80 := rfl
theorem jt_75_13 : dp_jt 75 13 = 88 := rfl
theorem jt_76_m60 : dp_jt 76 (-60) = 16 := rfl
theorem jt_77_7 : dp_jt 77 7 = 84 := rfl
theorem jt_78_39 : dp_jt 78 39 = 117 := rfl
theorem jt_79_5 : dp_jt 79 5 = 84 := rfl
theorem jt_81_7 : dp_jt 81 7 = 88 := rfl
theorem jt_83_m77 : dp_jt 83 (-77) = 6 := rfl
theorem jt_84_8 : dp_jt 84 8 = 92 := rfl
theorem jt_87_m33 : dp_jt 87 (-33) = 54 := rfl
theorem jt_88_7 : dp_jt 88 7 = 95 := rfl
theorem jt_89_m22 : dp_jt 89 (-22) = 67 := rfl
theorem jt_89_5 : dp_jt 89 5 = 94 := rfl
theorem jt_91_m25 : dp_jt 91 (-25) = 66 := rfl
theorem jt_92_4 : dp_jt 92 4 = 96 := rfl
theorem jt_94_m29 : dp_jt 94 (-29) = 65 := rfl
theorem jt_95_m62 : dp_jt 95 (-62) = 33 := rfl
theorem jt_100_13 : dp_jt 100 13 = 113 := rfl
theorem jt_108_76 : dp_jt 108 76 = 184 := rfl
theorem jt_108_113 : dp_jt 108 113 = 221 := rfl
theorem jt_108_183 : dp_jt 108 183 = 291 := rfl
theorem jt_108_266 : dp_jt 108 266 = 374 := rfl
theorem jt_108_386 : dp_jt 108 386 = 494 := rfl
theorem jt_108_510 : dp_jt 108 510 = 618 := rfl
theorem jt_108_609 : dp_jt 108 609 = 717 := rfl
theorem jt_108_690 : dp_jt 108 690 = 798 := rfl
theorem jt_108_782 : dp_jt 108 782 = 890 := rfl
theorem jt_108_813 : dp_jt 108 813 = 921 := rfl
theorem jt_110_5 : dp_jt 110 5 = 115 := rfl
theorem jt_114_m40 : dp_jt 114 (-40) = 74 := rfl
theorem jt_121_307 : dp_jt 121 307 = 428 := rfl
theorem jt_124_7 : dp_jt 124 7 = 131 := rfl
theorem jt_127_301 : dp_jt 127 301 = 428 := rfl
theorem jt_128_5 : dp_jt 128 5 = 133 := rfl
theorem jt_135_37 : dp_jt 135 37 = 172 := rfl
theorem jt_148_7 : dp_jt 148 7 = 155 := rfl
theorem jt_152_10 : dp_jt 152 10 = 162 := rfl
theorem jt_155_7 : dp_jt 155 7 = 162 := rfl
theorem jt_159_4 : dp_jt 159 4 = 163 := rfl
theorem jt_166_7 : dp_jt 166 7 = 173 := rfl
theorem jt_169_m38 : dp_jt 169 (-38) = 131 := rfl
theorem jt_170_16 : dp_jt 170 16 = 186 := rfl
theorem jt_212_7 : dp_jt 212 7 = 219 := rfl
theorem jt_214_27 : dp_jt 214 27 = 241 := rfl
theorem jt_216_4 : dp_jt 216 4 = 220 := rfl
theorem jt_217_14 : dp_jt 217 14 = 231 := rfl
theorem jt_224_5 : dp_jt 224 5 = 229 := rfl
theorem jt_224_7 : dp_jt 224 7 = 231 := rfl
theorem jt_228_4 : dp_jt 228 4 = 232 := rfl
theorem jt_230_5 : dp_jt 230 5 = 235 := rfl
theorem jt_238_m27 : dp_jt 238 (-27) = 211 := rfl
theorem jt_242_8 : dp_jt 242 8 = 250 := rfl
theorem jt_243_21 : dp_jt 243 21 = 264 := rfl
theorem jt_247_4 : dp_jt 247 4 = 251 := rfl
theorem jt_251_28 : dp_jt 251 28 = 279 := rfl
theorem jt_254_32 : dp_jt 254 32 = 286 := rfl
theorem jt_261_m21 : dp_jt 261 (-21) = 240 := rfl
theorem jt_267_8 : dp_jt 267 8 = 275 := rfl
theorem jt_272_4 : dp_jt 272 4 = 276 := rfl
theorem jt_275_5 : dp_jt 275 5 = 280 := rfl
theorem jt_276_5 : dp_jt 276 5 = 281 := rfl
theorem jt_282_7 : dp_jt 282 7 = 289 := rfl
theorem jt_283_m39 : dp_jt 283 (-39) = 244 := rfl
theorem jt_283_8 : dp_jt 283 8 = 291 := rfl
theorem jt_286_4 : dp_jt 286 4 = 290 := rfl
theorem jt_288_4 : dp_jt 288 4 = 292 := rfl
theorem jt_292_14 : dp_jt 292 14 = 306 := rfl
theorem jt_302_m255 : dp_jt 302 (-255) = 47 := rfl
theorem jt_303_5 : dp_jt 303 5 = 308 := rfl
theorem jt_306_76 : dp_jt 306 76 = 382 := rfl
theorem jt_321_61 : dp_jt 321 61 = 382 := rfl
theorem jt_321_308 : dp_jt 321 308 = 629 := rfl
theorem jt_335_7 : dp_jt 335 7 = 342 := rfl
theorem jt_339_4 : dp_jt 339 4 = 343 := rfl
theorem jt_344_38 : dp_jt 344 38 = 382 := rfl
theorem jt_356_7 : dp_jt 356 7 = 363 := rfl
theorem jt_357_81 : dp_jt 357 81 = 438 := rfl
theorem jt_360_4 : dp_jt 360 4 = 364 := rfl
theorem jt_365_7 : dp_jt 365 7 = 372 := rfl
theorem jt_365_17 : dp_jt 365 17 = 382 := rfl
theorem jt_369_4 : dp_jt 369 4 = 373 := rfl
theorem jt_370_7 : dp_jt 370 7 = 377 := rfl
theorem jt_374_4 : dp_jt 374 4 = 378 := rfl
theorem jt_378_5 : dp_jt 378 5 = 383 := rfl
theorem jt_379_5 : dp_jt 379 5 = 384 := rfl
theorem jt_386_39 : dp_jt 386 39 = 425 := rfl
theorem jt_388_7 : dp_jt 388 7 = 395 := rfl
theorem jt_392_4 : dp_jt 392 4 = 396 := rfl
theorem jt_399_21 : dp_jt 399 21 = 420 := rfl
theorem jt_401_24 : dp_jt 401 24 = 425 := rfl
theorem jt_414_5 : dp_jt 414 5 = 419 := rfl
theorem jt_417_m22 : dp_jt 417 (-22) = 395 := rfl
theorem jt_422_m30 : dp_jt 422 (-30) = 392 := rfl
theorem jt_425_341 : dp_jt 425 341 = 766 := rfl
theorem jt_427_5 : dp_jt 427 5 = 432 := rfl
theorem jt_435_m85 : dp_jt 435 (-85) = 350 := rfl
theorem jt_448_9 : dp_jt 448 9 = 457 := rfl
theorem jt_453_33 : dp_jt 453 33 = 486 := rfl
theorem jt_454_5 : dp_jt 454 5 = 459 := rfl
theorem jt_483_m34 : dp_jt 483 (-34) = 449 := rfl
theorem jt_485_7 : dp_jt 485 7 = 492 := rfl
theorem jt_489_4 : dp_jt 489 4 = 493 := rfl
theorem jt_493_21 : dp_jt 493 21 = 514 := rfl
theorem jt_494_27 : dp_jt 494 27 = 521 := rfl
theorem jt_496_18 : dp_jt 496 18 = 514 := rfl
theorem jt_510_5 : dp_jt 510 5 = 515 := rfl
theorem jt_511_m22 : dp_jt 511 (-22) = 489 := rfl
theorem jt_511_5 : dp_jt 511 5 = 516 := rfl
theorem jt_518_m28 : dp_jt 518 (-28) = 490 := rfl
theorem jt_532_30 : dp_jt 532 30 = 562 := rfl
theorem jt_540_25 : dp_jt 540 25 = 565 := rfl
theorem jt_551_5 : dp_jt 551 5 = 556 := rfl
theorem jt_552_113 : dp_jt 552 113 = 665 := rfl
theorem jt_554_5 : dp_jt 554 5 = 559 := rfl
theorem jt_559_m35 : dp_jt 559 (-35) = 524 := rfl
theorem jt_562_m26 : dp_jt 562 (-26) = 536 := rfl
theorem jt_569_37 : dp_jt 569 37 = 606 := rfl
theorem jt_589_5 : dp_jt 589 5 = 594 := rfl
theorem jt_603_m38 : dp_jt 603 (-38) = 565 := rfl
theorem jt_608_49 : dp_jt 608 49 = 657 := rfl
theorem jt_609_7 : dp_jt 609 7 = 616 := rfl
theorem jt_613_4 : dp_jt 613 4 = 617 := rfl
theorem jt_614_43 : dp_jt 614 43 = 657 := rfl
theorem jt_620_5 : dp_jt 620 5 = 625 := rfl
theorem jt_626_m312 : dp_jt 626 (-312) = 314 := rfl
theorem jt_634_23 : dp_jt 634 23 = 657 := rfl
theorem jt_639_20 : dp_jt 639 20 = 659 := rfl
theorem jt_641_74 : dp_jt 641 74 = 715 := rfl
theorem jt_647_31 : dp_jt 647 31 = 678 := rfl
theorem jt_654_5 : dp_jt 654 5 = 659 := rfl
theorem jt_659_6 : dp_jt 659 6 = 665 := rfl
theorem jt_661_7 : dp_jt 661 7 = 668 := rfl
theorem jt_662_m114 : dp_jt 662 (-114) = 548 := rfl
theorem jt_662_47 : dp_jt 662 47 = 709 := rfl
theorem jt_665_4 : dp_jt 665 4 = 669 := rfl
theorem jt_669_42 : dp_jt 669 42 = 711 := rfl
theorem jt_675_m32 : dp_jt 675 (-32) = 643 := rfl
theorem jt_682_29 : dp_jt 682 29 = 711 := rfl
theorem jt_696_15 : dp_jt 696 15 = 711 := rfl
theorem jt_700_7 : dp_jt 700 7 = 707 := rfl
theorem jt_704_4 : dp_jt 704 4 = 708 := rfl
theorem jt_708_5 : dp_jt 708 5 = 713 := rfl
theorem jt_712_m84 : dp_jt 712 (-84) = 628 := rfl
theorem jt_719_5 : dp_jt 719 5 = 724 := rfl
theorem jt_720_28 : dp_jt 720 28 = 748 := rfl
theorem jt_735_25 : dp_jt 735 25 = 760 := rfl
theorem jt_737_5 : dp_jt 737 5 = 742 := rfl
theorem jt_745_m29 : dp_jt 745 (-29) = 716 := rfl
theorem jt_749_5 : dp_jt 749 5 = 754 := rfl
theorem jt_750_16 : dp_jt 750 16 = 766 := rfl
theorem jt_754_9 : dp_jt 754 9 = 763 := rfl
theorem jt_757_m26 : dp_jt 757 (-26) = 731 := rfl
theorem jt_760_5 : dp_jt 760 5 = 765 := rfl
theorem jt_761_5 : dp_jt 761 5 = 766 := rfl
theorem jt_766_7 : dp_jt 766 7 = 773 := rfl
theorem jt_770_10 : dp_jt 770 10 = 780 := rfl
theorem jt_776_50 : dp_jt 776 50 = 826 := rfl
theorem jt_781_7 : dp_jt 781 7 = 788 := rfl
theorem jt_785_4 : dp_jt 785 4 = 789 := rfl
theorem jt_789_7 : dp_jt 789 7 = 796 := rfl
theorem jt_793_4 : dp_jt 793 4 = 797 := rfl
theorem jt_798_22 : dp_jt 798 22 = 820 := rfl
theorem jt_800_5 : dp_jt 800 5 = 805 := rfl
theorem jt_809_5 : dp_jt 809 5 = 814 := rfl
theorem jt_817_m23 : dp_jt 817 (-23) = 794 := rfl
theorem jt_817_9 : dp_jt 817 9 = 826 := rfl
theorem jt_823_m51 : dp_jt 823 (-51) = 772 := rfl
theorem jt_823_5 : dp_jt 823 5 = 828 := rfl
theorem jt_834_5 : dp_jt 834 5 = 839 := rfl
theorem jt_842_m820 : dp_jt 842 (-820) = 22 := rfl
theorem jt_881_7 : dp_jt 881 7 = 888 := rfl
theorem jt_885_4 : dp_jt 885 4 = 889 := rfl
theorem jt_892_23 : dp_jt 892 23 = 915 := rfl
theorem jt_912_7 : dp_jt 912 7 = 919 := rfl
theorem jt_916_4 : dp_jt 916 4 = 920 := rfl
theorem jt_922_16 : dp_jt 922 16 = 938 := rfl
theorem jt_935_5 : dp_jt 935 5 = 940 := rfl
theorem jt_975_7 : dp_jt 975 7 = 982 := rfl
theorem jt_979_4 : dp_jt 979 4 = 983 := rfl
theorem f4_0 : dp_f4 0 = 0 := rfl
theorem f4_1 : dp_f4 1 = 1 := rfl
theorem f4_2 : dp_f4 2 = 2 := rfl
theorem f4_3 : dp_f4 3 = 3 := rfl
theorem fd_2_9 : dp_fld 2 9 = some (2, 0) := by decide +kernel
theorem fd_3_44 : dp_fld 3 44 = some (2, 0) := by decide +kernel
theorem fd_2_17 : dp_fld 2 17 = some (2, 1) := by decide +kernel
theorem fd_3_69 : dp_fld 3 69 = some (2, 1) := by decide +kernel
theorem fd_2_20 : dp_fld 2 20 = some (2, 2) := by decide +kernel
theorem fd_3_64 : dp_fld 3 64 = some (2, 2) := by decide +kernel
theorem fd_2_23 : dp_fld 2 23 = some (2, 3) := by decide +kernel
theorem fd_2_26 : dp_fld 2 26 = some (2, 4) := by decide +kernel
theorem fd_2_35 : dp_fld 2 35 = some (2, 5) := by decide +kernel
theorem fd_3_50 : dp_fld 3 50 = some (2, 5) := by decide +kernel
theorem fd_1_11 : dp_fld 1 11 = some (1, 0) := by decide +kernel
theorem fd_3_108 : dp_fld 3 108 = some (1, 0) := by decide +kernel
theorem fd_1_16 : dp_fld 1 16 = some (1, 1) := by decide +kernel
theorem fd_3_97 : dp_fld 3 97 = some (1, 1) := by decide +kernel
theorem fd_1_20 : dp_fld 1 20 = some (1, 2) := by decide +kernel
theorem fd_3_115 : dp_fld 3 115 = some (1, 2) := by decide +kernel
theorem fd_3_86 : dp_fld 3 86 = some (1, 3) := by decide +kernel
theorem fd_0_9 : dp_fld 0 9 = some (0, 0) := by decide +kernel
theorem fd_3_217 : dp_fld 3 217 = some (0, 0) := by decide +kernel
theorem fd_0_15 : dp_fld 0 15 = some (0, 1) := by decide +kernel
theorem fd_3_91 : dp_fld 3 91 = some (0, 1) := by decide +kernel
theorem fd_0_18 : dp_fld 0 18 = some (0, 2) := by decide +kernel
theorem fd_3_231 : dp_fld 3 231 = some (0, 2) := by decide +kernel
theorem fd_0_21 : dp_fld 0 21 = some (0, 3) := by decide +kernel
theorem fd_3_223 : dp_fld 3 223 = some (0, 3) := by decide +kernel
theorem fd_0_30 : dp_fld 0 30 = some (0, 4) := by decide +kernel
theorem fd_3_240 : dp_fld 3 240 = some (0, 4) := by decide +kernel
theorem fd_3_10 : dp_fld 3 10 = some (3, 0) := by decide +kernel
theorem fd_3_19 : dp_fld 3 19 = some (3, 1) := by decide +kernel
theorem fd_3_26 : dp_fld 3 26 = some (3, 2) := by decide +kernel
theorem fd_3_30 : dp_fld 3 30 = some (3, 3) := by decide +kernel
theorem fd_3_33 : dp_fld 3 33 = some (3, 4) := by decide +kernel
theorem fd_6_49 : dp_fld 6 49 = some (4, 0) := by decide +kernel
theorem fd_5_70 : dp_fld 5 70 = some (4, 0) := by decide +kernel
theorem fd_4_7 : dp_fld 4 7 = some (4, 1) := by decide +kernel
theorem fd_5_59 : dp_fld 5 59 = some (4, 1) := by decide +kernel
theorem fd_6_69 : dp_fld 6 69 = some (4, 1) := by decide +kernel
theorem fd_5_73 : dp_fld 5 73 = some (4, 2) := by decide +kernel
theorem fd_4_13 : dp_fld 4 13 = some (4, 3) := by decide +kernel
theorem fd_5_44 : dp_fld 5 44 = some (4, 3) := by decide +kernel
theorem fd_6_57 : dp_fld 6 57 = some (4, 3) := by decide +kernel
theorem fd_4_17 : dp_fld 4 17 = some (4, 4) := by decide +kernel
theorem fd_5_55 : dp_fld 5 55 = some (4, 4) := by decide +kernel
theorem fd_5_7 : dp_fld 5 7 = some (5, 0) := by decide +kernel
theorem fd_6_25 : dp_fld 6 25 = some (5, 0) := by decide +kernel
theorem fd_5_14 : dp_fld 5 14 = some (5, 1) := by decide +kernel
theorem fd_6_9 : dp_fld 6 9 = some (5, 1) := by decide +kernel
theorem fd_5_18 : dp_fld 5 18 = some (5, 2) := by decide +kernel
theorem fd_5_23 : dp_fld 5 23 = some (5, 3) := by decide +kernel
theorem fd_6_15 : dp_fld 6 15 = some (5, 3) := by decide +kernel
theorem fd_5_36 : dp_fld 5 36 = some (5, 4) := by decide +kernel
theorem iv_3_1 : dp_iv 3 1 = none := by decide +kernel
theorem nt_3_1 : dp_nat 3 1 = some 210 := by decide +kernel
theorem iv_2_3 : dp_iv 2 3 = none := by decide +kernel
theorem nt_2_3 : dp_nat 2 3 = some 210 := by decide +kernel
theorem iv_1_3 : dp_iv 1 3 = none := by decide +kernel
theorem nt_1_3 : dp_nat 1 3 = some 210 := by decide +kernel
set_option maxRecDepth 100000 in
theorem iv_1_23 : dp_iv 1 23 = some (70, 2, 0, 0, true, 8, 4) := rfl
theorem nt_1_23 : dp_nat 1 23 = none := by decide +kernel
theorem iv_0_3 : dp_iv 0 3 = none := by decide +kernel
theorem nt_0_3 : dp_nat 0 3 = some 210 := by decide +kernel
set_option maxRecDepth 100000 in
theorem iv_6_83 : dp_iv 6 83 = some (26, 2, 1, 6, false, 3, 2) := rfl
theorem nt_6_83 : dp_nat 6 83 = none := by decide +kernel
set_option maxRecDepth 100000 in
theorem iv_3_94 : dp_iv 3 94 = some (41, 2, 1, 6, false, 3, 2) := rfl
theorem nt_3_94 : dp_nat 3 94 = none := by decide +kernel
set_option maxRecDepth 100000 in
theorem iv_3_125 : dp_iv 3 125 = some (55, 3, 0, 0, false, 3, 5) := rfl
theorem nt_3_125 : dp_nat 3 125 = none := by decide +kernel
set_option maxRecDepth 100000 in
theorem iv_3_268 : dp_iv 3 268 = some (51, 3, 0, 0, false, 3, 7) := rfl
theorem nt_3_268 : dp_nat 3 268 = none := by decide +kernel
set_option maxRecDepth 100000 in
theorem iv_3_156 : dp_iv 3 156 = some (48, 4, 0, 0, false, 3, 4) := rfl
theorem nt_3_156 : dp_nat 3 156 = none := by decide +kernel
set_option maxRecDepth 100000 in
theorem iv_3_243 : dp_iv 3 243 = some (13, 5, 0, 0, false, 2, 9) := rfl
theorem nt_3_243 : dp_nat 3 243 = none := by decide +kernel
set_option maxRecDepth 100000 in
theorem iv_2_47 : dp_iv 2 47 = some (12, 3, 0, 0, false, 2, 3) := rfl
theorem nt_2_47 : dp_nat 2 47 = none := by decide +kernel
theorem iv_2_51 : dp_iv 2 51 = none := by decide +kernel
theorem nt_2_51 : dp_nat 2 51 = some 200 := by decide +kernel
set_option maxRecDepth 100000 in
theorem iv_2_56 : dp_iv 2 56 = some (11, 2, 0, 0, false, 2, 3) := rfl
theorem nt_2_56 : dp_nat 2 56 = none := by decide +kernel
theorem iv_2_59 : dp_iv 2 59 = none := by decide +kernel
theorem nt_2_59 : dp_nat 2 59 = some 201 := by decide +kernel
set_option maxRecDepth 100000 in
theorem iv_3_251 : dp_iv 3 251 = some (49, 5, 0, 0, false, 3, 5) := rfl
theorem nt_3_251 : dp_nat 3 251 = none := by decide +kernel
set_option maxRecDepth 100000 in
theorem iv_3_247 : dp_iv 3 247 = some (1, 3, 0, 0, false, 0, 3) := rfl
theorem nt_3_247 : dp_nat 3 247 = none := by decide +kernel
set_option maxRecDepth 100000 in
theorem iv_3_271 : dp_iv 3 271 = some (54, 4, 0, 0, false, 3, 4) := rfl
theorem nt_3_271 : dp_nat 3 271 = none := by decide +kernel
set_option maxRecDepth 100000 in
theorem iv_3_274 : dp_iv 3 274 = some (2, 4, 0, 0, false, 0, 4) := rfl
theorem nt_3_274 : dp_nat 3 274 = none := by decide +kernel
set_option maxRecDepth 100000 in
theorem iv_6_124 : dp_iv 6 124 = some (27, 2, 1, 6, false, 3, 3) := rfl
theorem nt_6_124 : dp_nat 6 124 = none := by decide +kernel
set_option maxRecDepth 100000 in
theorem iv_3_129 : dp_iv 3 129 = some (44, 1, 1, 6, true, 3, 1) := rfl
theorem nt_3_129 : dp_nat 3 129 = none := by decide +kernel
set_option maxRecDepth 100000 in
theorem iv_3_132 : dp_iv 3 132 = some (5, 1, 0, 0, false, 0, 3) := rfl
theorem nt_3_132 : dp_nat 3 132 = none := by decide +kernel
set_option maxRecDepth 100000 in
theorem iv_0_38 : dp_iv 0 38 = some (69, 1, 0, 0, true, 7, 1) := rfl
theorem nt_0_38 : dp_nat 0 38 = none := by decide +kernel
set_option maxRecDepth 100000 in
theorem iv_3_136 : dp_iv 3 136 = some (56, 3, 0, 0, false, 3, 5) := rfl
theorem nt_3_136 : dp_nat 3 136 = none := by decide +kernel
set_option maxRecDepth 100000 in
theorem iv_3_278 : dp_iv 3 278 = some (3, 2, 0, 0, false, 0, 3) := rfl
theorem nt_3_278 : dp_nat 3 278 = none := by decide +kernel
set_option maxRecDepth 100000 in
theorem iv_6_118 : dp_iv 6 118 = some (28, 3, 2, 12, false, 3, 3) := rfl
theorem nt_6_118 : dp_nat 6 118 = none := by decide +kernel
set_option maxRecDepth 100000 in
theorem iv_3_61 : dp_iv 3 61 = some (40, 2, 1, 6, false, 3, 2) := rfl
theorem nt_3_61 : dp_nat 3 61 = none := by decide +kernel
set_option maxRecDepth 100000 in
theorem iv_3_140 : dp_iv 3 140 = some (43, 2, 1, 6, true, 3, 2) := rfl
theorem nt_3_140 : dp_nat 3 140 = none := by decide +kernel
set_option maxRecDepth 100000 in
theorem iv_3_143 : dp_iv 3 143 = some (45, 3, 0, 0, false, 3, 3) := rfl
theorem nt_3_143 : dp_nat 3 143 = none := by decide +kernel
set_option maxRecDepth 100000 in
theorem iv_3_214 : dp_iv 3 214 = some (14, 2, 0, 0, false, 2, 4) := rfl
theorem nt_3_214 : dp_nat 3 214 = none := by decide +kernel
set_option maxRecDepth 100000 in
theorem iv_3_220 : dp_iv 3 220 = some (4, 2, 0, 0, false, 0, 4) := rfl
theorem nt_3_220 : dp_nat 3 220 = none := by decide +kernel
set_option maxRecDepth 100000 in
theorem iv_0_34 : dp_iv 0 34 = some (1, 3, 0, 0, false, 0, 3) := rfl
theorem nt_0_34 : dp_nat 0 34 = none := by decide +kernel
set_option maxRecDepth 100000 in
theorem iv_6_109 : dp_iv 6 109 = some (30, 3, 2, 12, false, 3, 3) := rfl
theorem nt_6_109 : dp_nat 6 109 = none := by decide +kernel
set_option maxRecDepth 100000 in
theorem iv_3_146 : dp_iv 3 146 = some (46, 3, 0, 0, false, 3, 3) := rfl
theorem nt_3_146 : dp_nat 3 146 = none := by decide +kernel
set_option maxRecDepth 100000 in
theorem iv_3_226 : dp_iv 3 226 = some (69, 1, 0, 0, true, 7, 1) := rfl
theorem nt_3_226 : dp_nat 3 226 = none := by decide +kernel
set_option maxRecDepth 100000 in
theorem iv_3_160 : dp_iv 3 160 = some (50, 2, 0, 0, false, 3, 5) := rfl
theorem nt_3_160 : dp_nat 3 160 = none := by decide +kernel
set_option maxRecDepth 100000 in
theorem iv_6_106 : dp_iv 6 106 = some (32, 2, 1, 6, false, 3, 2) := rfl
theorem nt_6_106 : dp_nat 6 106 = none := by decide +kernel
set_option maxRecDepth 100000 in
theorem iv_3_149 : dp_iv 3 149 = some (47, 2, 0, 0, false, 3, 2) := rfl
theorem nt_3_149 : dp_nat 3 149 = none := by decide +kernel
set_option maxRecDepth 100000 in
theorem iv_3_234 : dp_iv 3 234 = some (16, 1, 0, 0, false, 2, 3) := rfl
theorem nt_3_234 : dp_nat 3 234 = none := by decide +kernel
set_option maxRecDepth 100000 in
theorem iv_3_237 : dp_iv 3 237 = some (15, 1, 0, 0, false, 2, 3) := rfl
theorem nt_3_237 : dp_nat 3 237 = none := by decide +kernel
set_option maxRecDepth 100000 in
theorem iv_3_180 : dp_iv 3 180 = some (6, 1, 0, 0, false, 0, 3) := rfl
theorem nt_3_180 : dp_nat 3 180 = none := by decide +kernel
set_option maxRecDepth 100000 in
theorem iv_6_115 : dp_iv 6 115 = some (34, 3, 2, 12, false, 3, 3) := rfl
theorem nt_6_115 : dp_nat 6 115 = none := by decide +kernel
set_option maxRecDepth 100000 in
theorem iv_6_112 : dp_iv 6 112 = some (35, 3, 2, 12, false, 3, 3) := rfl
theorem nt_6_112 : dp_nat 6 112 = none := by decide +kernel
set_option maxRecDepth 100000 in
theorem iv_3_73 : dp_iv 3 73 = some (42, 2, 1, 6, true, 3, 2) := rfl
theorem nt_3_73 : dp_nat 3 73 = none := by decide +kernel
set_option maxRecDepth 100000 in
theorem iv_3_163 : dp_iv 3 163 = some (52, 3, 0, 0, false, 3, 5) := rfl
theorem nt_3_163 : dp_nat 3 163 = none := by decide +kernel
set_option maxRecDepth 100000 in
theorem iv_3_255 : dp_iv 3 255 = some (53, 4, 0, 0, false, 3, 8) := rfl
theorem nt_3_255 : dp_nat 3 255 = none := by decide +kernel
set_option maxRecDepth 100000 in
theorem iv_6_121 : dp_iv 6 121 = some (36, 1, 0, 0, false, 3, 2) := rfl
theorem nt_6_121 : dp_nat 6 121 = none := by decide +kernel
set_option maxRecDepth 100000 in
theorem iv_3_172 : dp_iv 3 172 = some (0, 2, 0, 0, false, 0, 2) := rfl
theorem nt_3_172 : dp_nat 3 172 = none := by decide +kernel
theorem iv_0_24 : dp_iv 0 24 = none := by decide +kernel
theorem nt_0_24 : dp_nat 0 24 = some 202 := by decide +kernel
set_option maxRecDepth 100000 in
theorem iv_3_176 : dp_iv 3 176 = some (57, 2, 0, 0, false, 3, 4) := rfl
theorem nt_3_176 : dp_nat 3 176 = none := by decide +kernel
set_option maxRecDepth 100000 in
theorem iv_6_86 : dp_iv 6 86 = some (66, 2, 34, 676, false, 5, 5) := rfl
theorem nt_6_86 : dp_nat 6 86 = none := by decide +kernel
set_option maxRecDepth 100000 in
theorem iv_5_62 : dp_iv 5 62 = some (64, 2, 34, 676, false, 5, 6) := rfl
theorem nt_5_62 : dp_nat 5 62 = none := by decide +kernel
set_option maxRecDepth 100000 in
theorem iv_5_47 : dp_iv 5 47 = some (62, 1, 17, 340, false, 5, 5) := rfl
theorem nt_5_47 : dp_nat 5 47 = none := by decide +kernel
set_option maxRecDepth 100000 in
theorem iv_5_40 : dp_iv 5 40 = some (61, 2, 1, 20, false, 5, 7) := rfl
theorem nt_5_40 : dp_nat 5 40 = none := by decide +kernel
set_option maxRecDepth 100000 in
theorem iv_5_51 : dp_iv 5 51 = some (63, 5, 0, 0, false, 5, 11) := rfl
theorem nt_5_51 : dp_nat 5 51 = none := by decide +kernel
set_option maxRecDepth 100000 in
theorem iv_5_66 : dp_iv 5 66 = some (65, 1, 0, 0, true, 5, 3) := rfl
theorem nt_5_66 : dp_nat 5 66 = none := by decide +kernel
set_option maxRecDepth 100000 in
theorem iv_6_127 : dp_iv 6 127 = some (67, 1, 408, 8112, false, 5, 6) := rfl
theorem nt_6_127 : dp_nat 6 127 = none := by decide +kernel
set_option maxRecDepth 100000 in
theorem iv_5_76 : dp_iv 5 76 = some (66, 2, 34, 676, false, 5, 5) := rfl
theorem nt_5_76 : dp_nat 5 76 = none := by decide +kernel
set_option maxRecDepth 100000 in
theorem iv_6_129 : dp_iv 6 129 = some (68, 2, 4000, 40000, false, 5, 15) := rfl
theorem nt_6_129 : dp_nat 6 129 = none := by decide +kernel
set_option maxRecDepth 100000 in
theorem iv_5_80 : dp_iv 5 80 = some (33, 2, 1, 6, false, 3, 2) := rfl
theorem nt_5_80 : dp_nat 5 80 = none := by decide +kernel
set_option maxRecDepth 100000 in
theorem iv_3_41 : dp_iv 3 41 = some (39, 1, 1, 6, true, 3, 1) := rfl
theorem nt_3_41 : dp_nat 3 41 = none := by decide +kernel
set_option maxRecDepth 100000 in
theorem iv_3_153 : dp_iv 3 153 = some (11, 2, 0, 0, false, 2, 3) := rfl
theorem nt_3_153 : dp_nat 3 153 = none := by decide +kernel
set_option maxRecDepth 100000 in
theorem iv_5_86 : dp_iv 5 86 = some (28, 3, 2, 12, false, 3, 3) := rfl
theorem nt_5_86 : dp_nat 5 86 = none := by decide +kernel
set_option maxRecDepth 100000 in
theorem iv_5_90 : dp_iv 5 90 = some (29, 3, 2, 12, false, 3, 3) := rfl
theorem nt_5_90 : dp_nat 5 90 = none := by decide +kernel
set_option maxRecDepth 100000 in
theorem iv_5_93 : dp_iv 5 93 = some (34, 3, 2, 12, false, 3, 3) := rfl
theorem nt_5_93 : dp_nat 5 93 = none := by decide +kernel
set_option maxRecDepth 100000 in
theorem iv_5_95 : dp_iv 5 95 = some (30, 3, 2, 12, false, 3, 3) := rfl
theorem nt_5_95 : dp_nat 5 95 = none := by decide +kernel
set_option maxRecDepth 100000 in
theorem iv_5_98 : dp_iv 5 98 = some (31, 3, 2, 12, false, 3, 3) := rfl
theorem nt_5_98 : dp_nat 5 98 = none := by decide +kernel
set_option maxRecDepth 100000 in
theorem iv_5_101 : dp_iv 5 101 = some (35, 3, 2, 12, false, 3, 3) := rfl
theorem nt_5_101 : dp_nat 5 101 = none := by decide +kernel
set_option maxRecDepth 100000 in
theorem iv_5_104 : dp_iv 5 104 = some (32, 2, 1, 6, false, 3, 2) := rfl
theorem nt_5_104 : dp_nat 5 104 = none := by decide +kernel
set_option maxRecDepth 100000 in
theorem iv_5_107 : dp_iv 5 107 = some (37, 1, 0, 0, false, 3, 2) := rfl
theorem nt_5_107 : dp_nat 5 107 = none := by decide +kernel
set_option maxRecDepth 100000 in
theorem iv_6_19 : dp_iv 6 19 = some (71, 2, 0, 0, true, 6, 2) := rfl
theorem nt_6_19 : dp_nat 6 19 = none := by decide +kernel
set_option maxRecDepth 100000 in
theorem iv_6_93 : dp_iv 6 93 = some (72, 2, 0, 0, true, 6, 2) := rfl
theorem nt_6_93 : dp_nat 6 93 = none := by decide +kernel
set_option maxRecDepth 100000 in
theorem iv_6_97 : dp_iv 6 97 = some (75, 3, 200, 3000, true, 6, 18) := rfl
theorem nt_6_97 : dp_nat 6 97 = none := by decide +kernel
set_option maxRecDepth 100000 in
theorem iv_6_29 : dp_iv 6 29 = some (17, 3, 2, 12, false, 3, 4) := rfl
theorem nt_6_29 : dp_nat 6 29 = none := by decide +kernel
set_option maxRecDepth 100000 in
theorem iv_3_37 : dp_iv 3 37 = some (38, 1, 1, 6, true, 3, 1) := rfl
theorem nt_3_37 : dp_nat 3 37 = none := by decide +kernel
set_option maxRecDepth 100000 in
theorem iv_3_47 : dp_iv 3 47 = some (8, 1, 0, 0, false, 2, 2) := rfl
theorem nt_3_47 : dp_nat 3 47 = none := by decide +kernel
set_option maxRecDepth 100000 in
theorem iv_2_29 : dp_iv 2 29 = some (70, 2, 0, 0, true, 8, 4) := rfl
theorem nt_2_29 : dp_nat 2 29 = none := by decide +kernel
set_option maxRecDepth 100000 in
theorem iv_2_39 : dp_iv 2 39 = some (9, 2, 0, 0, false, 2, 5) := rfl
theorem nt_2_39 : dp_nat 2 39 = none := by decide +kernel
set_option maxRecDepth 100000 in
theorem iv_2_43 : dp_iv 2 43 = some (10, 2, 0, 0, false, 2, 2) := rfl
theorem nt_2_43 : dp_nat 2 43 = none := by decide +kernel
set_option maxRecDepth 100000 in
theorem iv_6_35 : dp_iv 6 35 = some (18, 1, 1, 6, false, 3, 1) := rfl
theorem nt_6_35 : dp_nat 6 35 = none := by decide +kernel
set_option maxRecDepth 100000 in
theorem iv_6_39 : dp_iv 6 39 = some (74, 2, 1, 16, true, 6, 4) := rfl
theorem nt_6_39 : dp_nat 6 39 = none := by decide +kernel
set_option maxRecDepth 100000 in
theorem iv_6_43 : dp_iv 6 43 = some (20, 3, 2, 12, false, 3, 4) := rfl
theorem nt_6_43 : dp_nat 6 43 = none := by decide +kernel
set_option maxRecDepth 100000 in
theorem iv_3_77 : dp_iv 3 77 = some (58, 3, 0, 0, true, 3, 4) := rfl
theorem nt_3_77 : dp_nat 3 77 = none := by decide +kernel
theorem iv_4_1 : dp_iv 4 1 = none := by decide +kernel
theorem nt_4_1 : dp_nat 4 1 = some 210 := by decide +kernel
set_option maxRecDepth 100000 in
theorem iv_6_53 : dp_iv 6 53 = some (21, 2, 2, 12, false, 3, 3) := rfl
theorem nt_6_53 : dp_nat 6 53 = none := by decide +kernel
set_option maxRecDepth 100000 in
theorem iv_6_60 : dp_iv 6 60 = some (73, 2, 1, 16, true, 6, 4) := rfl
theorem nt_6_60 : dp_nat 6 60 = none := by decide +kernel
set_option maxRecDepth 100000 in
theorem iv_6_63 : dp_iv 6 63 = some (22, 3, 4, 24, false, 3, 4) := rfl
theorem nt_6_63 : dp_nat 6 63 = none := by decide +kernel
set_option maxRecDepth 100000 in
theorem iv_3_102 : dp_iv 3 102 = some (7, 3, 0, 0, false, 1, 4) := rfl
theorem nt_3_102 : dp_nat 3 102 = none := by decide +kernel
set_option maxRecDepth 100000 in
theorem iv_6_66 : dp_iv 6 66 = some (23, 3, 3, 18, false, 3, 4) := rfl
theorem nt_6_66 : dp_nat 6 66 = none := by decide +kernel
set_option maxRecDepth 100000 in
theorem iv_6_72 : dp_iv 6 72 = some (24, 3, 2, 12, false, 3, 4) := rfl
theorem nt_6_72 : dp_nat 6 72 = none := by decide +kernel
theorem iv_6_75 : dp_iv 6 75 = none := by decide +kernel
theorem nt_6_75 : dp_nat 6 75 = some 200 := by decide +kernel
set_option maxRecDepth 100000 in
theorem iv_6_80 : dp_iv 6 80 = some (25, 3, 2, 12, false, 3, 3) := rfl
theorem nt_6_80 : dp_nat 6 80 = none := by decide +kernel
theorem iv_3_120 : dp_iv 3 120 = none := by decide +kernel
theorem nt_3_120 : dp_nat 3 120 = some 200 := by decide +kernel
set_option maxRecDepth 100000 in
theorem iv_6_89 : dp_iv 6 89 = some (19, 3, 3, 18, false, 3, 4) := rfl
theorem nt_6_89 : dp_nat 6 89 = none := by decide +kernel
set_option maxRecDepth 100000 in
theorem iv_6_102 : dp_iv 6 102 = some (76, 2, 13000, 200000, true, 6, 4) := rfl
theorem nt_6_102 : dp_nat 6 102 = none := by decide +kernel
set_option maxRecDepth 100000 in
theorem iv_6_92 : dp_iv 6 92 = some (60, 1, 4, 56, false, 5, 2) := rfl
theorem nt_6_92 : dp_nat 6 92 = none := by decide +kernel
theorem iv_5_1 : dp_iv 5 1 = none := by decide +kernel
theorem nt_5_1 : dp_nat 5 1 = some 210 := by decide +kernel
set_option maxRecDepth 100000 in
theorem ow_0 : dp_ow 0 = 0 := by decide +kernel
set_option maxRecDepth 100000 in
theorem mc_0 : dp_mc 0 = 0 := by decide +kernel
set_option maxRecDepth 100000 in
theorem ms_0 : dp_ms 0 = 0 := by decide +kernel
set_option maxRecDepth 100000 in
theorem rk_0 : dp_rk 0 = 0 := by decide +kernel
set_option maxRecDepth 100000 in
theorem mL_0 : dp_mL 0 = 2 := by decide +kernel
set_option maxRecDepth 100000 in
theorem hh_0 : dp_hh 0 = [] := by decide +kernel
set_option maxRecDepth 100000 in
theorem ow_1 : dp_ow 1 = 0 := by decide +kernel
set_option maxRecDepth 100000 in
theorem mc_1 : dp_mc 1 = 0 := by decide +kernel
set_option maxRecDepth 100000 in
theorem ms_1 : dp_ms 1 = 0 := by decide +kernel
set_option maxRecDepth 100000 in
theorem rk_1 : dp_rk 1 = 4 := by decide +kernel
set_option maxRecDepth 100000 in
theorem mL_1 : dp_mL 1 = 3 := by decide +kernel
set_option maxRecDepth 100000 in
theorem hh_1 : dp_hh 1 = [] := by decide +kernel
set_option maxRecDepth 100000 in
theorem ow_2 : dp_ow 2 = 0 := by decide +kernel
set_option maxRecDepth 100000 in
theorem mc_2 : dp_mc 2 = 0 := by decide +kernel
set_option maxRecDepth 100000 in
theorem ms_2 : dp_ms 2 = 0 := by decide +kernel
set_option maxRecDepth 100000 in
theorem rk_2 : dp_rk 2 = 0 := by decide +kernel
set_option maxRecDepth 100000 in
theorem mL_2 : dp_mL 2 = 4 := by decide +kernel
set_option maxRecDepth 100000 in
theorem hh_2 : dp_hh 2 = [] := by decide +kernel
set_option maxRecDepth 100000 in
theorem ow_3 : dp_ow 3 = 0 := by decide +kernel
set_option maxRecDepth 100000 in
theorem mc_3 : dp_mc 3 = 0 := by decide +kernel
set_option maxRecDepth 100000 in
theorem ms_3 : dp_ms 3 = 0 := by decide +kernel
set_option maxRecDepth 100000 in
theorem rk_3 : dp_rk 3 = 0 := by decide +kernel
set_option maxRecDepth 100000 in
theorem mL_3 : dp_mL 3 = 3 := by decide +kernel
set_option maxRecDepth 100000 in
theorem hh_3 : dp_hh 3 = [] := by decide +kernel
set_option maxRecDepth 100000 in
theorem ow_4 : dp_ow 4 = 0 := by decide +kernel
set_option maxRecDepth 100000 in
theorem mc_4 : dp_mc 4 = 0 := by decide +kernel
set_option maxRecDepth 100000 in
theorem ms_4 : dp_ms 4 = 0 := by decide +kernel
set_option maxRecDepth 100000 in
theorem rk_4 : dp_rk 4 = 1 := by decide +kernel
set_option maxRecDepth 100000 in
theorem mL_4 : dp_mL 4 = 4 := by decide +kernel
set_option maxRecDepth 100000 in
theorem hh_4 : dp_hh 4 = [] := by decide +kernel
set_option maxRecDepth 100000 in
theorem ow_5 : dp_ow 5 = 0 := by decide +kernel
set_option maxRecDepth 100000 in
theorem mc_5 : dp_mc 5 = 0 := by decide +kernel
set_option maxRecDepth 100000 in
theorem ms_5 : dp_ms 5 = 0 := by decide +kernel
set_option maxRecDepth 100000 in
theorem rk_5 : dp_rk 5 = 1 := by decide +kernel
set_option maxRecDepth 100000 in
theorem mL_5 : dp_mL 5 = 3 := by decide +kernel
set_option maxRecDepth 100000 in
theorem hh_5 : dp_hh 5 = [] := by decide +kernel
set_option maxRecDepth 100000 in
theorem ow_6 : dp_ow 6 = 0 := by decide +kernel
set_option maxRecDepth 100000 in
theorem mc_6 : dp_mc 6 = 0 := by decide +kernel
set_option maxRecDepth 100000 in
theorem ms_6 : dp_ms 6 = 0 := by decide +kernel
set_option maxRecDepth 100000 in
theorem rk_6 : dp_rk 6 = 1 := by decide +kernel
set_option maxRecDepth 100000 in
theorem mL_6 : dp_mL 6 = 3 := by decide +kernel
set_option maxRecDepth 100000 in
theorem hh_6 : dp_hh 6 = [] := by decide +kernel
set_option maxRecDepth 100000 in
theorem ow_7 : dp_ow 7 = 1 := by decide +kernel
set_option maxRecDepth 100000 in
theorem mc_7 : dp_mc 7 = 0 := by decide +kernel
set_option maxRecDepth 100000 in
theorem ms_7 : dp_ms 7 = 0 := by decide +kernel
set_option maxRecDepth 100000 in
theorem rk_7 : dp_rk 7 = 1 := by decide +kernel
set_option maxRecDepth 100000 in
theorem mL_7 : dp_mL 7 = 4 := by decide +kernel
set_option maxRecDepth 100000 in
theorem hh_7 : dp_hh 7 = [] := by decide +kernel
set_option maxRecDepth 100000 in
theorem ow_8 : dp_ow 8 = 2 := by decide +kernel
set_option maxRecDepth 100000 in
theorem mc_8 : dp_mc 8 = 0 := by decide +kernel
set_option maxRecDepth 100000 in
theorem ms_8 : dp_ms 8 = 0 := by decide +kernel
set_option maxRecDepth 100000 in
theorem rk_8 : dp_rk 8 = 0 := by decide +kernel
set_option maxRecDepth 100000 in
theorem mL_8 : dp_mL 8 = 2 := by decide +kernel
set_option maxRecDepth 100000 in
theorem hh_8 : dp_hh 8 = [] := by decide +kernel
set_option maxRecDepth 100000 in
theorem ow_9 : dp_ow 9 = 2 := by decide +kernel
set_option maxRecDepth 100000 in
theorem mc_9 : dp_mc 9 = 0 := by decide +kernel
set_option maxRecDepth 100000 in
theorem ms_9 : dp_ms 9 = 0 := by decide +kernel
set_option maxRecDepth 100000 in
theorem rk_9 : dp_rk 9 = 0 := by decide +kernel
set_option maxRecDepth 100000 in
theorem mL_9 : dp_mL 9 = 5 := by decide +kernel
set_option maxRecDepth 100000 in
theorem hh_9 : dp_hh 9 = [] := by decide +kernel
set_option maxRecDepth 100000 in
theorem ow_10 : dp_ow 10 = 2 := by decide +kernel
set_option maxRecDepth 100000 in
theorem mc_10 : dp_mc 10 = 0 := by decide +kernel
set_option maxRecDepth 100000 in
theorem ms_10 : dp_ms 10 = 0 := by decide +kernel
set_option maxRecDepth 100000 in
theorem rk_10 : dp_rk 10 = 1 := by decide +kernel
set_option maxRecDepth 100000 in
theorem mL_10 : dp_mL 10 = 2 := by decide +kernel
set_option maxRecDepth 100000 in
theorem hh_10 : dp_hh 10 = [] := by decide +kernel
set_option maxRecDepth 100000 in
theorem ow_11 : dp_ow 11 = 2 := by decide +kernel
set_option maxRecDepth 100000 in
theorem mc_11 : dp_mc 11 = 0 := by decide +kernel
set_option maxRecDepth 100000 in
theorem ms_11 : dp_ms 11 = 0 := by decide +kernel
set_option maxRecDepth 100000 in
theorem rk_11 : dp_rk 11 = 1 := by decide +kernel
set_option maxRecDepth 100000 in
theorem mL_11 : dp_mL 11 = 3 := by decide +kernel
set_option maxRecDepth 100000 in
theorem hh_11 : dp_hh 11 = [] := by decide +kernel
set_option maxRecDepth 100000 in
theorem ow_12 : dp_ow 12 = 2 := by decide +kernel
set_option maxRecDepth 100000 in
theorem mc_12 : dp_mc 12 = 0 := by decide +kernel
set_option maxRecDepth 100000 in
theorem ms_12 : dp_ms 12 = 0 := by decide +kernel
set_option maxRecDepth 100000 in
theorem rk_12 : dp_rk 12 = 1 := by decide +kernel
set_option maxRecDepth 100000 in
theorem mL_12 : dp_mL 12 = 3 := by decide +kernel
set_option maxRecDepth 100000 in
theorem hh_12 : dp_hh 12 = [] := by decide +kernel
set_option maxRecDepth 100000 in
theorem ow_13 : dp_ow 13 = 2 := by decide +kernel
set_option maxRecDepth 100000 in
theorem mc_13 : dp_mc 13 = 0 := by decide +kernel
set_option maxRecDepth 100000 in
theorem ms_13 : dp_ms 13 = 0 := by decide +kernel
set_option maxRecDepth 100000 in
theorem rk_13 : dp_rk 13 = 1 := by decide +kernel
set_option maxRecDepth 100000 in
theorem mL_13 : dp_mL 13 = 9 := by decide +kernel
set_option maxRecDepth 100000 in
theorem hh_13 : dp_hh 13 = [] := by decide +kernel
set_option maxRecDepth 100000 in
theorem ow_14 : dp_ow 14 = 2 := by decide +kernel
set_option maxRecDepth 100000 in
theorem mc_14 : dp_mc 14 = 0 := by decide +kernel
set_option maxRecDepth 100000 in
theorem ms_14 : dp_ms 14 = 0 := by decide +kernel
set_option maxRecDepth 100000 in
theorem rk_14 : dp_rk 14 = 1 := by decide +kernel
set_option maxRecDepth 100000 in
theorem mL_14 : dp_mL 14 = 4 := by decide +kernel
set_option maxRecDepth 100000 in
theorem hh_14 : dp_hh 14 = [] := by decide +kernel
set_option maxRecDepth 100000 in
theorem ow_15 : dp_ow 15 = 2 := by decide +kernel
set_option maxRecDepth 100000 in
theorem mc_15 : dp_mc 15 = 0 := by decide +kernel
set_option maxRecDepth 100000 in
theorem ms_15 : dp_ms 15 = 0 := by decide +kernel
set_option maxRecDepth 100000 in
theorem rk_15 : dp_rk 15 = 1 := by decide +kernel
set_option maxRecDepth 100000 in
theorem mL_15 : dp_mL 15 = 3 := by decide +kernel
set_option maxRecDepth 100000 in
theorem hh_15 : dp_hh 15 = [] := by decide +kernel
set_option maxRecDepth 100000 in
theorem ow_16 : dp_ow 16 = 2 := by decide +kernel
set_option maxRecDepth 100000 in
theorem mc_16 : dp_mc 16 = 0 := by decide +kernel
set_option maxRecDepth 100000 in
theorem ms_16 : dp_ms 16 = 0 := by decide +kernel
set_option maxRecDepth 100000 in
theorem rk_16 : dp_rk 16 = 1 := by decide +kernel
set_option maxRecDepth 100000 in
theorem mL_16 : dp_mL 16 = 3 := by decide +kernel
set_option maxRecDepth 100000 in
theorem hh_16 : dp_hh 16 = [] := by decide +kernel
set_option maxRecDepth 100000 in
theorem ow_17 : dp_ow 17 = 3 := by decide +kernel
set_option maxRecDepth 100000 in
theorem mc_17 : dp_mc 17 = 2 := by decide +kernel
set_option maxRecDepth 100000 in
theorem ms_17 : dp_ms 17 = 12 := by decide +kernel
set_option maxRecDepth 100000 in
theorem rk_17 : dp_rk 17 = 1 := by decide +kernel
set_option maxRecDepth 100000 in
theorem mL_17 : dp_mL 17 = 4 := by decide +kernel
set_option maxRecDepth 100000 in
theorem hh_17 : dp_hh 17 = [] := by decide +kernel
set_option maxRecDepth 100000 in
theorem ow_18 : dp_ow 18 = 3 := by decide +kernel
set_option maxRecDepth 100000 in
theorem mc_18 : dp_mc 18 = 1 := by decide +kernel
set_option maxRecDepth 100000 in
theorem ms_18 : dp_ms 18 = 6 := by decide +kernel
set_option maxRecDepth 100000 in
theorem rk_18 : dp_rk 18 = 1 := by decide +kernel
set_option maxRecDepth 100000 in
theorem mL_18 : dp_mL 18 = 1 := by decide +kernel
set_option maxRecDepth 100000 in
theorem hh_18 : dp_hh 18 = [] := by decide +kernel
set_option maxRecDepth 100000 in
theorem ow_19 : dp_ow 19 = 3 := by decide +kernel
set_option maxRecDepth 100000 in
theorem mc_19 : dp_mc 19 = 3 := by decide +kernel
set_option maxRecDepth 100000 in
theorem ms_19 : dp_ms 19 = 18 := by decide +kernel
set_option maxRecDepth 100000 in
theorem rk_19 : dp_rk 19 = 1 := by decide +kernel
set_option maxRecDepth 100000 in
theorem mL_19 : dp_mL 19 = 4 := by decide +kernel
set_option maxRecDepth 100000 in
theorem hh_19 : dp_hh 19 = [] := by decide +kernel
set_option maxRecDepth 100000 in
theorem ow_20 : dp_ow 20 = 3 := by decide +kernel
set_option maxRecDepth 100000 in
theorem mc_20 : dp_mc 20 = 2 := by decide +kernel
set_option maxRecDepth 100000 in
theorem ms_20 : dp_ms 20 = 12 := by decide +kernel
set_option maxRecDepth 100000 in
theorem rk_20 : dp_rk 20 = 1 := by decide +kernel
set_option maxRecDepth 100000 in
theorem mL_20 : dp_mL 20 = 4 := by decide +kernel
set_option maxRecDepth 100000 in
theorem hh_20 : dp_hh 20 = [] := by decide +kernel
set_option maxRecDepth 100000 in
theorem ow_21 : dp_ow 21 = 3 := by decide +kernel
set_option maxRecDepth 100000 in
theorem mc_21 : dp_mc 21 = 2 := by decide +kernel
set_option maxRecDepth 100000 in
theorem ms_21 : dp_ms 21 = 12 := by decide +kernel
set_option maxRecDepth 100000 in
theorem rk_21 : dp_rk 21 = 1 := by decide +kernel
set_option maxRecDepth 100000 in
theorem mL_21 : dp_mL 21 = 3 := by decide +kernel
set_option maxRecDepth 100000 in
theorem hh_21 : dp_hh 21 = [] := by decide +kernel
set_option maxRecDepth 100000 in
theorem ow_22 : dp_ow 22 = 3 := by decide +kernel
set_option maxRecDepth 100000 in
theorem mc_22 : dp_mc 22 = 4 := by decide +kernel
set_option maxRecDepth 100000 in
theorem ms_22 : dp_ms 22 = 24 := by decide +kernel
set_option maxRecDepth 100000 in
theorem rk_22 : dp_rk 22 = 1 := by decide +kernel
set_option maxRecDepth 100000 in
theorem mL_22 : dp_mL 22 = 4 := by decide +kernel
set_option maxRecDepth 100000 in
theorem hh_22 : dp_hh 22 = [] := by decide +kernel
set_option maxRecDepth 100000 in
theorem ow_23 : dp_ow 23 = 3 := by decide +kernel
set_option maxRecDepth 100000 in
theorem mc_23 : dp_mc 23 = 3 := by decide +kernel
set_option maxRecDepth 100000 in
theorem ms_23 : dp_ms 23 = 18 := by decide +kernel
set_option maxRecDepth 100000 in
theorem rk_23 : dp_rk 23 = 1 := by decide +kernel
set_option maxRecDepth 100000 in
theorem mL_23 : dp_mL 23 = 4 := by decide +kernel
set_option maxRecDepth 100000 in
theorem hh_23 : dp_hh 23 = [] := by decide +kernel
set_option maxRecDepth 100000 in
theorem ow_24 : dp_ow 24 = 3 := by decide +kernel
set_option maxRecDepth 100000 in
theorem mc_24 : dp_mc 24 = 2 := by decide +kernel
set_option maxRecDepth 100000 in
theorem ms_24 : dp_ms 24 = 12 := by decide +kernel
set_option maxRecDepth 100000 in
theorem rk_24 : dp_rk 24 = 1 := by decide +kernel
set_option maxRecDepth 100000 in
theorem mL_24 : dp_mL 24 = 4 := by decide +kernel
set_option maxRecDepth 100000 in
theorem hh_24 : dp_hh 24 = [] := by decide +kernel
set_option maxRecDepth 100000 in
theorem ow_25 : dp_ow 25 = 3 := by decide +kernel
set_option maxRecDepth 100000 in
theorem mc_25 : dp_mc 25 = 2 := by decide +kernel
set_option maxRecDepth 100000 in
theorem ms_25 : dp_ms 25 = 12 := by decide +kernel
set_option maxRecDepth 100000 in
theorem rk_25 : dp_rk 25 = 1 := by decide +kernel
set_option maxRecDepth 100000 in
theorem mL_25 : dp_mL 25 = 3 := by decide +kernel
set_option maxRecDepth 100000 in
theorem hh_25 : dp_hh 25 = [] := by decide +kernel
set_option maxRecDepth 100000 in
theorem ow_26 : dp_ow 26 = 3 := by decide +kernel
set_option maxRecDepth 100000 in
theorem mc_26 : dp_mc 26 = 1 := by decide +kernel
set_option maxRecDepth 100000 in
theorem ms_26 : dp_ms 26 = 6 := by decide +kernel
set_option maxRecDepth 100000 in
theorem rk_26 : dp_rk 26 = 1 := by decide +kernel
set_option maxRecDepth 100000 in
theorem mL_26 : dp_mL 26 = 2 := by decide +kernel
set_option maxRecDepth 100000 in
theorem hh_26 : dp_hh 26 = [] := by decide +kernel
set_option maxRecDepth 100000 in
theorem ow_27 : dp_ow 27 = 3 := by decide +kernel
set_option maxRecDepth 100000 in
theorem mc_27 : dp_mc 27 = 1 := by decide +kernel
set_option maxRecDepth 100000 in
theorem ms_27 : dp_ms 27 = 6 := by decide +kernel
set_option maxRecDepth 100000 in
theorem rk_27 : dp_rk 27 = 1 := by decide +kernel
set_option maxRecDepth 100000 in
theorem mL_27 : dp_mL 27 = 3 := by decide +kernel
set_option maxRecDepth 100000 in
theorem hh_27 : dp_hh 27 = [] := by decide +kernel
set_option maxRecDepth 100000 in
theorem ow_28 : dp_ow 28 = 3 := by decide +kernel
set_option maxRecDepth 100000 in
theorem mc_28 : dp_mc 28 = 2 := by decide +kernel
set_option maxRecDepth 100000 in
theorem ms_28 : dp_ms 28 = 12 := by decide +kernel
set_option maxRecDepth 100000 in
theorem rk_28 : dp_rk 28 = 1 := by decide +kernel
set_option maxRecDepth 100000 in
theorem mL_28 : dp_mL 28 = 3 := by decide +kernel
set_option maxRecDepth 100000 in
theorem hh_28 : dp_hh 28 = [] := by decide +kernel
set_option maxRecDepth 100000 in
theorem ow_29 : dp_ow 29 = 3 := by decide +kernel
set_option maxRecDepth 100000 in
theorem mc_29 : dp_mc 29 = 2 := by decide +kernel
set_option maxRecDepth 100000 in
theorem ms_29 : dp_ms 29 = 12 := by decide +kernel
set_option maxRecDepth 100000 in
theorem rk_29 : dp_rk 29 = 1 := by decide +kernel
set_option maxRecDepth 100000 in
theorem mL_29 : dp_mL 29 = 3 := by decide +kernel
set_option maxRecDepth 100000 in
theorem hh_29 : dp_hh 29 = [] := by decide +kernel
set_option maxRecDepth 100000 in
theorem ow_30 : dp_ow 30 = 3 := by decide +kernel
set_option maxRecDepth 100000 in
theorem mc_30 : dp_mc 30 = 2 := by decide +kernel
set_option maxRecDepth 100000 in
theorem ms_30 : dp_ms 30 = 12 := by decide +kernel
set_option maxRecDepth 100000 in
theorem rk_30 : dp_rk 30 = 1 := by decide +kernel
set_option maxRecDepth 100000 in
theorem mL_30 : dp_mL 30 = 3 := by decide +kernel
set_option maxRecDepth 100000 in
theorem hh_30 : dp_hh 30 = [] := by decide +kernel
set_option maxRecDepth 100000 in
theorem ow_31 : dp_ow 31 = 3 := by decide +kernel
set_option maxRecDepth 100000 in
theorem mc_31 : dp_mc 31 = 2 := by decide +kernel
set_option maxRecDepth 100000 in
theorem ms_31 : dp_ms 31 = 12 := by decide +kernel
set_option maxRecDepth 100000 in
theorem rk_31 : dp_rk 31 = 1 := by decide +kernel
set_option maxRecDepth 100000 in
theorem mL_31 : dp_mL 31 = 3 := by decide +kernel
set_option maxRecDepth 100000 in
theorem hh_31 : dp_hh 31 = [] := by decide +kernel
set_option maxRecDepth 100000 in
theorem ow_32 : dp_ow 32 = 3 := by decide +kernel
set_option maxRecDepth 100000 in
theorem mc_32 : dp_mc 32 = 1 := by decide +kernel
set_option maxRecDepth 100000 in
theorem ms_32 : dp_ms 32 = 6 := by decide +kernel
set_option maxRecDepth 100000 in
theorem rk_32 : dp_rk 32 = 1 := by decide +kernel
set_option maxRecDepth 100000 in
theorem mL_32 : dp_mL 32 = 2 := by decide +kernel
set_option maxRecDepth 100000 in
theorem hh_32 : dp_hh 32 = [] := by decide +kernel
set_option maxRecDepth 100000 in
theorem ow_33 : dp_ow 33 = 3 := by decide +kernel
set_option maxRecDepth 100000 in
theorem mc_33 : dp_mc 33 = 1 := by decide +kernel
set_option maxRecDepth 100000 in
theorem ms_33 : dp_ms 33 = 6 := by decide +kernel
set_option maxRecDepth 100000 in
theorem rk_33 : dp_rk 33 = 1 := by decide +kernel
set_option maxRecDepth 100000 in
theorem mL_33 : dp_mL 33 = 2 := by decide +kernel
set_option maxRecDepth 100000 in
theorem hh_33 : dp_hh 33 = [] := by decide +kernel
set_option maxRecDepth 100000 in
theorem ow_34 : dp_ow 34 = 3 := by decide +kernel
set_option maxRecDepth 100000 in
theorem mc_34 : dp_mc 34 = 2 := by decide +kernel
set_option maxRecDepth 100000 in
theorem ms_34 : dp_ms 34 = 12 := by decide +kernel
set_option maxRecDepth 100000 in
theorem rk_34 : dp_rk 34 = 1 := by decide +kernel
set_option maxRecDepth 100000 in
theorem mL_34 : dp_mL 34 = 3 := by decide +kernel
set_option maxRecDepth 100000 in
theorem hh_34 : dp_hh 34 = [] := by decide +kernel
set_option maxRecDepth 100000 in
theorem ow_35 : dp_ow 35 = 3 := by decide +kernel
set_option maxRecDepth 100000 in
theorem mc_35 : dp_mc 35 = 2 := by decide +kernel
set_option maxRecDepth 100000 in
theorem ms_35 : dp_ms 35 = 12 := by decide +kernel
set_option maxRecDepth 100000 in
theorem rk_35 : dp_rk 35 = 1 := by decide +kernel
set_option maxRecDepth 100000 in
theorem mL_35 : dp_mL 35 = 3 := by decide +kernel
set_option maxRecDepth 100000 in
theorem hh_35 : dp_hh 35 = [] := by decide +kernel
set_option maxRecDepth 100000 in
theorem ow_36 : dp_ow 36 = 3 := by decide +kernel
set_option maxRecDepth 100000 in
theorem mc_36 : dp_mc 36 = 0 := by decide +kernel
set_option maxRecDepth 100000 in
theorem ms_36 : dp_ms 36 = 0 := by decide +kernel
set_option maxRecDepth 100000 in
theorem rk_36 : dp_rk 36 = 1 := by decide +kernel
set_option maxRecDepth 100000 in
theorem mL_36 : dp_mL 36 = 2 := by decide +kernel
set_option maxRecDepth 100000 in
theorem hh_36 : dp_hh 36 = [] := by decide +kernel
set_option maxRecDepth 100000 in
theorem ow_37 : dp_ow 37 = 3 := by decide +kernel
set_option maxRecDepth 100000 in
theorem mc_37 : dp_mc 37 = 0 := by decide +kernel
set_option maxRecDepth 100000 in
theorem ms_37 : dp_ms 37 = 0 := by decide +kernel
set_option maxRecDepth 100000 in
theorem rk_37 : dp_rk 37 = 3 := by decide +kernel
set_option maxRecDepth 100000 in
theorem mL_37 : dp_mL 37 = 2 := by decide +kernel
set_option maxRecDepth 100000 in
theorem hh_37 : dp_hh 37 = [] := by decide +kernel
set_option maxRecDepth 100000 in
theorem ow_38 : dp_ow 38 = 3 := by decide +kernel
set_option maxRecDepth 100000 in
theorem mc_38 : dp_mc 38 = 1 := by decide +kernel
set_option maxRecDepth 100000 in
theorem ms_38 : dp_ms 38 = 6 := by decide +kernel
set_option maxRecDepth 100000 in
theorem rk_38 : dp_rk 38 = 0 := by decide +kernel
set_option maxRecDepth 100000 in
theorem mL_38 : dp_mL 38 = 1 := by decide +kernel
set_option maxRecDepth 100000 in
theorem hh_38 : dp_hh 38 = [] := by decide +kernel
set_option maxRecDepth 100000 in
theorem ow_39 : dp_ow 39 = 3 := by decide +kernel
set_option maxRecDepth 100000 in
theorem mc_39 : dp_mc 39 = 1 := by decide +kernel
set_option maxRecDepth 100000 in
theorem ms_39 : dp_ms 39 = 6 := by decide +kernel
set_option maxRecDepth 100000 in
theorem rk_39 : dp_rk 39 = 0 := by decide +kernel
set_option maxRecDepth 100000 in
theorem mL_39 : dp_mL 39 = 1 := by decide +kernel
set_option maxRecDepth 100000 in
theorem hh_39 : dp_hh 39 = [] := by decide +kernel
set_option maxRecDepth 100000 in
theorem ow_40 : dp_ow 40 = 3 := by decide +kernel
set_option maxRecDepth 100000 in
theorem mc_40 : dp_mc 40 = 1 := by decide +kernel
set_option maxRecDepth 100000 in
theorem ms_40 : dp_ms 40 = 6 := by decide +kernel
set_option maxRecDepth 100000 in
theorem rk_40 : dp_rk 40 = 0 := by decide +kernel
set_option maxRecDepth 100000 in
theorem mL_40 : dp_mL 40 = 2 := by decide +kernel
set_option maxRecDepth 100000 in
theorem hh_40 : dp_hh 40 = [] := by decide +kernel
set_option maxRecDepth 100000 in
theorem ow_41 : dp_ow 41 = 3 := by decide +kernel
set_option maxRecDepth 100000 in
theorem mc_41 : dp_mc 41 = 1 := by decide +kernel
set_option maxRecDepth 100000 in
theorem ms_41 : dp_ms 41 = 6 := by decide +kernel
set_option maxRecDepth 100000 in
theorem rk_41 : dp_rk 41 = 0 := by decide +kernel
set_option maxRecDepth 100000 in
theorem mL_41 : dp_mL 41 = 2 := by decide +kernel
set_option maxRecDepth 100000 in
theorem hh_41 : dp_hh 41 = [] := by decide +kernel
set_option maxRecDepth 100000 in
theorem ow_42 : dp_ow 42 = 3 := by decide +kernel
set_option maxRecDepth 100000 in
theorem mc_42 : dp_mc 42 = 1 := by decide +kernel
set_option maxRecDepth 100000 in
theorem ms_42 : dp_ms 42 = 6 := by decide +kernel
set_option maxRecDepth 100000 in
theorem rk_42 : dp_rk 42 = 0 := by decide +kernel
set_option maxRecDepth 100000 in
theorem mL_42 : dp_mL 42 = 2 := by decide +kernel
set_option maxRecDepth 100000 in
theorem hh_42 : dp_hh 42 = [] := by decide +kernel
set_option maxRecDepth 100000 in
theorem ow_43 : dp_ow 43 = 3 := by decide +kernel
set_option maxRecDepth 100000 in
theorem mc_43 : dp_mc 43 = 1 := by decide +kernel
set_option maxRecDepth 100000 in
theorem ms_43 : dp_ms 43 = 6 := by decide +kernel
set_option maxRecDepth 100000 in
theorem rk_43 : dp_rk 43 = 0 := by decide +kernel
set_option maxRecDepth 100000 in
theorem mL_43 : dp_mL 43 = 2 := by decide +kernel
set_option maxRecDepth 100000 in
theorem hh_43 : dp_hh 43 = [] := by decide +kernel
set_option maxRecDepth 100000 in
theorem ow_44 : dp_ow 44 = 3 := by decide +kernel
set_option maxRecDepth 100000 in
theorem mc_44 : dp_mc 44 = 1 := by decide +kernel
set_option maxRecDepth 100000 in
theorem ms_44 : dp_ms 44 = 6 := by decide +kernel
set_option maxRecDepth 100000 in
theorem rk_44 : dp_rk 44 = 0 := by decide +kernel
set_option maxRecDepth 100000 in
theorem mL_44 : dp_mL 44 = 1 := by decide +kernel
set_option maxRecDepth 100000 in
theorem hh_44 : dp_hh 44 = [] := by decide +kernel
set_option maxRecDepth 100000 in
theorem ow_45 : dp_ow 45 = 3 := by decide +kernel
set_option maxRecDepth 100000 in
theorem mc_45 : dp_mc 45 = 0 := by decide +kernel
set_option maxRecDepth 100000 in
theorem ms_45 : dp_ms 45 = 0 := by decide +kernel
set_option maxRecDepth 100000 in
theorem rk_45 : dp_rk 45 = 1 := by decide +kernel
set_option maxRecDepth 100000 in
theorem mL_45 : dp_mL 45 = 3 := by decide +kernel
set_option maxRecDepth 100000 in
theorem hh_45 : dp_hh 45 = [] := by decide +kernel
set_option maxRecDepth 100000 in
theorem ow_46 : dp_ow 46 = 3 := by decide +kernel
set_option maxRecDepth 100000 in
theorem mc_46 : dp_mc 46 = 0 := by decide +kernel
set_option maxRecDepth 100000 in
theorem ms_46 : dp_ms 46 = 0 := by decide +kernel
set_option maxRecDepth 100000 in
theorem rk_46 : dp_rk 46 = 1 := by decide +kernel
set_option maxRecDepth 100000 in
theorem mL_46 : dp_mL 46 = 3 := by decide +kernel
set_option maxRecDepth 100000 in
theorem hh_46 : dp_hh 46 = [] := by decide +kernel
set_option maxRecDepth 100000 in
theorem ow_47 : dp_ow 47 = 3 := by decide +kernel
set_option maxRecDepth 100000 in
theorem mc_47 : dp_mc 47 = 0 := by decide +kernel
set_option maxRecDepth 100000 in
theorem ms_47 : dp_ms 47 = 0 := by decide +kernel
set_option maxRecDepth 100000 in
theorem rk_47 : dp_rk 47 = 1 := by decide +kernel
set_option maxRecDepth 100000 in
theorem mL_47 : dp_mL 47 = 2 := by decide +kernel
set_option maxRecDepth 100000 in
theorem hh_47 : dp_hh 47 = [] := by decide +kernel
set_option maxRecDepth 100000 in
theorem ow_48 : dp_ow 48 = 3 := by decide +kernel
set_option maxRecDepth 100000 in
theorem mc_48 : dp_mc 48 = 0 := by decide +kernel
set_option maxRecDepth 100000 in
theorem ms_48 : dp_ms 48 = 0 := by decide +kernel
set_option maxRecDepth 100000 in
theorem rk_48 : dp_rk 48 = 1 := by decide +kernel
set_option maxRecDepth 100000 in
theorem mL_48 : dp_mL 48 = 4 := by decide +kernel
set_option maxRecDepth 100000 in
theorem hh_48 : dp_hh 48 = [] := by decide +kernel
set_option maxRecDepth 100000 in
theorem ow_49 : dp_ow 49 = 3 := by decide +kernel
set_option maxRecDepth 100000 in
theorem mc_49 : dp_mc 49 = 0 := by decide +kernel
set_option maxRecDepth 100000 in
theorem ms_49 : dp_ms 49 = 0 := by decide +kernel
set_option maxRecDepth 100000 in
theorem rk_49 : dp_rk 49 = 4 := by decide +kernel
set_option maxRecDepth 100000 in
theorem mL_49 : dp_mL 49 = 5 := by decide +kernel
set_option maxRecDepth 100000 in
theorem hh_49 : dp_hh 49 = [] := by decide +kernel
set_option maxRecDepth 100000 in
theorem ow_50 : dp_ow 50 = 3 := by decide +kernel
set_option maxRecDepth 100000 in
theorem mc_50 : dp_mc 50 = 0 := by decide +kernel
set_option maxRecDepth 100000 in
theorem ms_50 : dp_ms 50 = 0 := by decide +kernel
set_option maxRecDepth 100000 in
theorem rk_50 : dp_rk 50 = 1 := by decide +kernel
set_option maxRecDepth 100000 in
theorem mL_50 : dp_mL 50 = 5 := by decide +kernel
set_option maxRecDepth 100000 in
theorem hh_50 : dp_hh 50 = [] := by decide +kernel
set_option maxRecDepth 100000 in
theorem ow_51 : dp_ow 51 = 3 := by decide +kernel
set_option maxRecDepth 100000 in
theorem mc_51 : dp_mc 51 = 0 := by decide +kernel
set_option maxRecDepth 100000 in
theorem ms_51 : dp_ms 51 = 0 := by decide +kernel
set_option maxRecDepth 100000 in
theorem rk_51 : dp_rk 51 = 1 := by decide +kernel
set_option maxRecDepth 100000 in
theorem mL_51 : dp_mL 51 = 7 := by decide +kernel
set_option maxRecDepth 100000 in
theorem hh_51 : dp_hh 51 = [] := by decide +kernel
set_option maxRecDepth 100000 in
theorem ow_52 : dp_ow 52 = 3 := by decide +kernel
set_option maxRecDepth 100000 in
theorem mc_52 : dp_mc 52 = 0 := by decide +kernel
set_option maxRecDepth 100000 in
theorem ms_52 : dp_ms 52 = 0 := by decide +kernel
set_option maxRecDepth 100000 in
theorem rk_52 : dp_rk 52 = 1 := by decide +kernel
set_option maxRecDepth 100000 in
theorem mL_52 : dp_mL 52 = 5 := by decide +kernel
set_option maxRecDepth 100000 in
theorem hh_52 : dp_hh 52 = [] := by decide +kernel
set_option maxRecDepth 100000 in
theorem ow_53 : dp_ow 53 = 3 := by decide +kernel
set_option maxRecDepth 100000 in
theorem mc_53 : dp_mc 53 = 0 := by decide +kernel
set_option maxRecDepth 100000 in
theorem ms_53 : dp_ms 53 = 0 := by decide +kernel
set_option maxRecDepth 100000 in
theorem rk_53 : dp_rk 53 = 1 := by decide +kernel
set_option maxRecDepth 100000 in
theorem mL_53 : dp_mL 53 = 8 := by decide +kernel
set_option maxRecDepth 100000 in
theorem hh_53 : dp_hh 53 = [] := by decide +kernel
set_option maxRecDepth 100000 in
theorem ow_54 : dp_ow 54 = 3 := by decide +kernel
set_option maxRecDepth 100000 in
theorem mc_54 : dp_mc 54 = 0 := by decide +kernel
set_option maxRecDepth 100000 in
theorem ms_54 : dp_ms 54 = 0 := by decide +kernel
set_option maxRecDepth 100000 in
theorem rk_54 : dp_rk 54 = 1 := by decide +kernel
set_option maxRecDepth 100000 in
theorem mL_54 : dp_mL 54 = 4 := by decide +kernel
set_option maxRecDepth 100000 in
theorem hh_54 : dp_hh 54 = [] := by decide +kernel
set_option maxRecDepth 100000 in
theorem ow_55 : dp_ow 55 = 3 := by decide +kernel
set_option maxRecDepth 100000 in
theorem mc_55 : dp_mc 55 = 0 := by decide +kernel
set_option maxRecDepth 100000 in
theorem ms_55 : dp_ms 55 = 0 := by decide +kernel
set_option maxRecDepth 100000 in
theorem rk_55 : dp_rk 55 = 1 := by decide +kernel
set_option maxRecDepth 100000 in
theorem mL_55 : dp_mL 55 = 5 := by decide +kernel
set_option maxRecDepth 100000 in
theorem hh_55 : dp_hh 55 = [] := by decide +kernel
set_option maxRecDepth 100000 in
theorem ow_56 : dp_ow 56 = 3 := by decide +kernel
set_option maxRecDepth 100000 in
theorem mc_56 : dp_mc 56 = 0 := by decide +kernel
set_option maxRecDepth 100000 in
theorem ms_56 : dp_ms 56 = 0 := by decide +kernel
set_option maxRecDepth 100000 in
theorem rk_56 : dp_rk 56 = 0 := by decide +kernel
set_option maxRecDepth 100000 in
theorem mL_56 : dp_mL 56 = 5 := by decide +kernel
set_option maxRecDepth 100000 in
theorem hh_56 : dp_hh 56 = [] := by decide +kernel
set_option maxRecDepth 100000 in
theorem ow_57 : dp_ow 57 = 3 := by decide +kernel
set_option maxRecDepth 100000 in
theorem mc_57 : dp_mc 57 = 0 := by decide +kernel
set_option maxRecDepth 100000 in
theorem ms_57 : dp_ms 57 = 0 := by decide +kernel
set_option maxRecDepth 100000 in
theorem rk_57 : dp_rk 57 = 4 := by decide +kernel
set_option maxRecDepth 100000 in
theorem mL_57 : dp_mL 57 = 4 := by decide +kernel
set_option maxRecDepth 100000 in
theorem hh_57 : dp_hh 57 = [] := by decide +kernel
set_option maxRecDepth 100000 in
theorem ow_58 : dp_ow 58 = 3 := by decide +kernel
set_option maxRecDepth 100000 in
theorem mc_58 : dp_mc 58 = 0 := by decide +kernel
set_option maxRecDepth 100000 in
theorem ms_58 : dp_ms 58 = 0 := by decide +kernel
set_option maxRecDepth 100000 in
theorem rk_58 : dp_rk 58 = 1 := by decide +kernel
set_option maxRecDepth 100000 in
theorem mL_58 : dp_mL 58 = 4 := by decide +kernel
set_option maxRecDepth 100000 in
theorem hh_58 : dp_hh 58 = [] := by decide +kernel
set_option maxRecDepth 100000 in
theorem ow_59 : dp_ow 59 = 4 := by decide +kernel
set_option maxRecDepth 100000 in
theorem mc_59 : dp_mc 59 = 2 := by decide +kernel
set_option maxRecDepth 100000 in
theorem ms_59 : dp_ms 59 = 16 := by decide +kernel
set_option maxRecDepth 100000 in
theorem rk_59 : dp_rk 59 = 0 := by decide +kernel
set_option maxRecDepth 100000 in
theorem mL_59 : dp_mL 59 = 1 := by decide +kernel
set_option maxRecDepth 100000 in
theorem hh_59 : dp_hh 59 = [] := by decide +kernel
set_option maxRecDepth 100000 in
theorem ow_60 : dp_ow 60 = 5 := by decide +kernel
set_option maxRecDepth 100000 in
theorem mc_60 : dp_mc 60 = 4 := by decide +kernel
set_option maxRecDepth 100000 in
theorem ms_60 : dp_ms 60 = 56 := by decide +kernel
set_option maxRecDepth 100000 in
theorem rk_60 : dp_rk 60 = 0 := by decide +kernel
set_option maxRecDepth 100000 in
theorem mL_60 : dp_mL 60 = 2 := by decide +kernel
set_option maxRecDepth 100000 in
theorem hh_60 : dp_hh 60 = [] := by decide +kernel
set_option maxRecDepth 100000 in
theorem ow_61 : dp_ow 61 = 5 := by decide +kernel
set_option maxRecDepth 100000 in
theorem mc_61 : dp_mc 61 = 1 := by decide +kernel
set_option maxRecDepth 100000 in
theorem ms_61 : dp_ms 61 = 20 := by decide +kernel
set_option maxRecDepth 100000 in
theorem rk_61 : dp_rk 61 = 5 := by decide +kernel
set_option maxRecDepth 100000 in
theorem mL_61 : dp_mL 61 = 7 := by decide +kernel
set_option maxRecDepth 100000 in
theorem hh_61 : dp_hh 61 = [] := by decide +kernel
set_option maxRecDepth 100000 in
theorem ow_62 : dp_ow 62 = 5 := by decide +kernel
set_option maxRecDepth 100000 in
theorem mc_62 : dp_mc 62 = 17 := by decide +kernel
set_option maxRecDepth 100000 in
theorem ms_62 : dp_ms 62 = 340 := by decide +kernel
set_option maxRecDepth 100000 in
theorem rk_62 : dp_rk 62 = 5 := by decide +kernel
set_option maxRecDepth 100000 in
theorem mL_62 : dp_mL 62 = 5 := by decide +kernel
set_option maxRecDepth 100000 in
theorem hh_62 : dp_hh 62 = [] := by decide +kernel
set_option maxRecDepth 100000 in
theorem ow_63 : dp_ow 63 = 5 := by decide +kernel
set_option maxRecDepth 100000 in
theorem mc_63 : dp_mc 63 = 0 := by decide +kernel
set_option maxRecDepth 100000 in
theorem ms_63 : dp_ms 63 = 0 := by decide +kernel
set_option maxRecDepth 100000 in
theorem rk_63 : dp_rk 63 = 1 := by decide +kernel
set_option maxRecDepth 100000 in
theorem mL_63 : dp_mL 63 = 11 := by decide +kernel
set_option maxRecDepth 100000 in
theorem hh_63 : dp_hh 63 = [] := by decide +kernel
set_option maxRecDepth 100000 in
theorem ow_64 : dp_ow 64 = 5 := by decide +kernel
set_option maxRecDepth 100000 in
theorem mc_64 : dp_mc 64 = 34 := by decide +kernel
set_option maxRecDepth 100000 in
theorem ms_64 : dp_ms 64 = 676 := by decide +kernel
set_option maxRecDepth 100000 in
theorem rk_64 : dp_rk 64 = 5 := by decide +kernel
set_option maxRecDepth 100000 in
theorem mL_64 : dp_mL 64 = 6 := by decide +kernel
set_option maxRecDepth 100000 in
theorem hh_64 : dp_hh 64 = [] := by decide +kernel
set_option maxRecDepth 100000 in
theorem ow_65 : dp_ow 65 = 5 := by decide +kernel
set_option maxRecDepth 100000 in
theorem mc_65 : dp_mc 65 = 0 := by decide +kernel
set_option maxRecDepth 100000 in
theorem ms_65 : dp_ms 65 = 0 := by decide +kernel
set_option maxRecDepth 100000 in
theorem rk_65 : dp_rk 65 = 1 := by decide +kernel
set_option maxRecDepth 100000 in
theorem mL_65 : dp_mL 65 = 3 := by decide +kernel
set_option maxRecDepth 100000 in
theorem hh_65 : dp_hh 65 = [] := by decide +kernel
set_option maxRecDepth 100000 in
theorem ow_66 : dp_ow 66 = 5 := by decide +kernel
set_option maxRecDepth 100000 in
theorem mc_66 : dp_mc 66 = 34 := by decide +kernel
set_option maxRecDepth 100000 in
theorem ms_66 : dp_ms 66 = 676 := by decide +kernel
set_option maxRecDepth 100000 in
theorem rk_66 : dp_rk 66 = 1 := by decide +kernel
set_option maxRecDepth 100000 in
theorem mL_66 : dp_mL 66 = 5 := by decide +kernel
set_option maxRecDepth 100000 in
theorem hh_66 : dp_hh 66 = [] := by decide +kernel
set_option maxRecDepth 100000 in
theorem ow_67 : dp_ow 67 = 5 := by decide +kernel
set_option maxRecDepth 100000 in
theorem mc_67 : dp_mc 67 = 408 := by decide +kernel
set_option maxRecDepth 100000 in
theorem ms_67 : dp_ms 67 = 8112 := by decide +kernel
set_option maxRecDepth 100000 in
theorem rk_67 : dp_rk 67 = 1 := by decide +kernel
set_option maxRecDepth 100000 in
theorem mL_67 : dp_mL 67 = 6 := by decide +kernel
set_option maxRecDepth 100000 in
theorem hh_67 : dp_hh 67 = [] := by decide +kernel
set_option maxRecDepth 100000 in
theorem ow_68 : dp_ow 68 = 5 := by decide +kernel
set_option maxRecDepth 100000 in
theorem mc_68 : dp_mc 68 = 4000 := by decide +kernel
set_option maxRecDepth 100000 in
theorem ms_68 : dp_ms 68 = 40000 := by decide +kernel
set_option maxRecDepth 100000 in
theorem rk_68 : dp_rk 68 = 4 := by decide +kernel
set_option maxRecDepth 100000 in
theorem mL_68 : dp_mL 68 = 15 := by decide +kernel
set_option maxRecDepth 100000 in
theorem hh_68 : dp_hh 68 = [] := by decide +kernel
set_option maxRecDepth 100000 in
theorem ow_69 : dp_ow 69 = 7 := by decide +kernel
set_option maxRecDepth 100000 in
theorem mc_69 : dp_mc 69 = 0 := by decide +kernel
set_option maxRecDepth 100000 in
theorem ms_69 : dp_ms 69 = 0 := by decide +kernel
set_option maxRecDepth 100000 in
theorem rk_69 : dp_rk 69 = 1 := by decide +kernel
set_option maxRecDepth 100000 in
theorem mL_69 : dp_mL 69 = 1 := by decide +kernel
set_option maxRecDepth 100000 in
theorem hh_69 : dp_hh 69 = [] := by decide +kernel
set_option maxRecDepth 100000 in
theorem ow_70 : dp_ow 70 = 8 := by decide +kernel
set_option maxRecDepth 100000 in
theorem mc_70 : dp_mc 70 = 0 := by decide +kernel
set_option maxRecDepth 100000 in
theorem ms_70 : dp_ms 70 = 0 := by decide +kernel
set_option maxRecDepth 100000 in
theorem rk_70 : dp_rk 70 = 0 := by decide +kernel
set_option maxRecDepth 100000 in
theorem mL_70 : dp_mL 70 = 4 := by decide +kernel
set_option maxRecDepth 100000 in
theorem hh_70 : dp_hh 70 = [] := by decide +kernel
set_option maxRecDepth 100000 in
theorem ow_71 : dp_ow 71 = 6 := by decide +kernel
set_option maxRecDepth 100000 in
theorem mc_71 : dp_mc 71 = 0 := by decide +kernel
set_option maxRecDepth 100000 in
theorem ms_71 : dp_ms 71 = 0 := by decide +kernel
set_option maxRecDepth 100000 in
theorem rk_71 : dp_rk 71 = 1 := by decide +kernel
set_option maxRecDepth 100000 in
theorem mL_71 : dp_mL 71 = 2 := by decide +kernel
set_option maxRecDepth 100000 in
theorem hh_71 : dp_hh 71 = [] := by decide +kernel
set_option maxRecDepth 100000 in
theorem ow_72 : dp_ow 72 = 6 := by decide +kernel
set_option maxRecDepth 100000 in
theorem mc_72 : dp_mc 72 = 0 := by decide +kernel
set_option maxRecDepth 100000 in
theorem ms_72 : dp_ms 72 = 0 := by decide +kernel
set_option maxRecDepth 100000 in
theorem rk_72 : dp_rk 72 = 1 := by decide +kernel
set_option maxRecDepth 100000 in
theorem mL_72 : dp_mL 72 = 2 := by decide +kernel
set_option maxRecDepth 100000 in
theorem hh_72 : dp_hh 72 = [] := by decide +kernel
set_option maxRecDepth 100000 in
theorem ow_73 : dp_ow 73 = 6 := by decide +kernel
set_option maxRecDepth 100000 in
theorem mc_73 : dp_mc 73 = 1 := by decide +kernel
set_option maxRecDepth 100000 in
theorem ms_73 : dp_ms 73 = 16 := by decide +kernel
set_option maxRecDepth 100000 in
theorem rk_73 : dp_rk 73 = 5 := by decide +kernel
set_option maxRecDepth 100000 in
theorem mL_73 : dp_mL 73 = 4 := by decide +kernel
set_option maxRecDepth 100000 in
theorem hh_73 : dp_hh 73 = [] := by decide +kernel
set_option maxRecDepth 100000 in
theorem ow_74 : dp_ow 74 = 6 := by decide +kernel
set_option maxRecDepth 100000 in
theorem mc_74 : dp_mc 74 = 1 := by decide +kernel
set_option maxRecDepth 100000 in
theorem ms_74 : dp_ms 74 = 16 := by decide +kernel
set_option maxRecDepth 100000 in
theorem rk_74 : dp_rk 74 = 5 := by decide +kernel
set_option maxRecDepth 100000 in
theorem mL_74 : dp_mL 74 = 4 := by decide +kernel
set_option maxRecDepth 100000 in
theorem hh_74 : dp_hh 74 = [] := by decide +kernel
set_option maxRecDepth 100000 in
theorem ow_75 : dp_ow 75 = 6 := by decide +kernel
set_option maxRecDepth 100000 in
theorem mc_75 : dp_mc 75 = 200 := by decide +kernel
set_option maxRecDepth 100000 in
theorem ms_75 : dp_ms 75 = 3000 := by decide +kernel
set_option maxRecDepth 100000 in
theorem rk_75 : dp_rk 75 = 4 := by decide +kernel
set_option maxRecDepth 100000 in
theorem mL_75 : dp_mL 75 = 18 := by decide +kernel
set_option maxRecDepth 100000 in
theorem hh_75 : dp_hh 75 = [] := by decide +kernel
set_option maxRecDepth 100000 in
theorem ow_76 : dp_ow 76 = 6 := by decide +kernel
set_option maxRecDepth 100000 in
theorem mc_76 : dp_mc 76 = 13000 := by decide +kernel
set_option maxRecDepth 100000 in
theorem ms_76 : dp_ms 76 = 200000 := by decide +kernel
set_option maxRecDepth 100000 in
theorem rk_76 : dp_rk 76 = 6 := by decide +kernel
set_option maxRecDepth 100000 in
theorem mL_76 : dp_mL 76 = 4 := by decide +kernel
set_option maxRecDepth 100000 in
theorem hh_76 : dp_hh 76 = [] := by decide +kernel
set_option maxRecDepth 100000 in
theorem ow_77 : dp_ow 77 = 6 := by decide +kernel
set_option maxRecDepth 100000 in
theorem mc_77 : dp_mc 77 = 600172 := by decide +kernel
set_option maxRecDepth 100000 in
theorem ms_77 : dp_ms 77 = 7300668 := by decide +kernel
set_option maxRecDepth 100000 in
theorem rk_77 : dp_rk 77 = 4 := by decide +kernel
set_option maxRecDepth 100000 in
theorem mL_77 : dp_mL 77 = 19 := by decide +kernel
set_option maxRecDepth 100000 in
theorem hh_77 : dp_hh 77 = [] := by decide +kernel
set_option maxRecDepth 100000 in
theorem ti_0_0 : dp_tab 0 0 = (.aload_n 1, 1) := by decide +kernel
set_option maxRecDepth 100000 in
theorem ti_0_1 : dp_tab 0 1 = (.getfield 9, 3) := by decide +kernel
set_option maxRecDepth 100000 in
theorem ti_0_4 : dp_tab 0 4 = (.iconst 0, 1) := by decide +kernel
set_option maxRecDepth 100000 in
theorem ti_0_5 : dp_tab 0 5 = (.aload_n 0, 1) := by decide +kernel
set_option maxRecDepth 100000 in
theorem ti_0_6 : dp_tab 0 6 = (.getfield 9, 3) := by decide +kernel
set_option maxRecDepth 100000 in
theorem ti_0_9 : dp_tab 0 9 = (.iconst 0, 1) := by decide +kernel
set_option maxRecDepth 100000 in
theorem ti_0_10 : dp_tab 0 10 = (.bipush 16, 2) := by decide +kernel
set_option maxRecDepth 100000 in
theorem ti_0_12 : dp_tab 0 12 = (.invokestatic 24, 3) := by decide +kernel
set_option maxRecDepth 100000 in
theorem ti_0_15 : dp_tab 0 15 = (.aload_n 1, 1) := by decide +kernel
set_option maxRecDepth 100000 in
theorem ti_0_16 : dp_tab 0 16 = (.getfield 15, 3) := by decide +kernel
set_option maxRecDepth 100000 in
theorem ti_0_19 : dp_tab 0 19 = (.iconst 0, 1) := by decide +kernel
set_option maxRecDepth 100000 in
theorem ti_0_20 : dp_tab 0 20 = (.aload_n 0, 1) := by decide +kernel
set_option maxRecDepth 100000 in
theorem ti_0_21 : dp_tab 0 21 = (.getfield 15, 3) := by decide +kernel
set_option maxRecDepth 100000 in
theorem ti_0_24 : dp_tab 0 24 = (.iconst 0, 1) := by decide +kernel
set_option maxRecDepth 100000 in
theorem ti_0_25 : dp_tab 0 25 = (.bipush 6, 2) := by decide +kernel
set_option maxRecDepth 100000 in
theorem ti_0_27 : dp_tab 0 27 = (.invokestatic 24, 3) := by decide +kernel
set_option maxRecDepth 100000 in
theorem ti_0_30 : dp_tab 0 30 = (.aload_n 1, 1) := by decide +kernel
set_option maxRecDepth 100000 in
theorem ti_0_31 : dp_tab 0 31 = (.getfield 18, 3) := by decide +kernel
set_option maxRecDepth 100000 in
theorem ti_0_34 : dp_tab 0 34 = (.iconst 0, 1) := by decide +kernel
set_option maxRecDepth 100000 in
theorem ti_0_35 : dp_tab 0 35 = (.aload_n 0, 1) := by decide +kernel
set_option maxRecDepth 100000 in
theorem ti_0_36 : dp_tab 0 36 = (.getfield 18, 3) := by decide +kernel
set_option maxRecDepth 100000 in
theorem ti_0_39 : dp_tab 0 39 = (.iconst 0, 1) := by decide +kernel
set_option maxRecDepth 100000 in
theorem ti_0_40 : dp_tab 0 40 = (.bipush 6, 2) := by decide +kernel
set_option maxRecDepth 100000 in
theorem ti_0_42 : dp_tab 0 42 = (.invokestatic 24, 3) := by decide +kernel
set_option maxRecDepth 100000 in
theorem ti_0_45 : dp_tab 0 45 = (.aload_n 1, 1) := by decide +kernel
set_option maxRecDepth 100000 in
theorem ti_0_46 : dp_tab 0 46 = (.getfield 21, 3) := by decide +kernel
set_option maxRecDepth 100000 in
theorem ti_0_49 : dp_tab 0 49 = (.iconst 0, 1) := by decide +kernel
set_option maxRecDepth 100000 in
theorem ti_0_50 : dp_tab 0 50 = (.aload_n 0, 1) := by decide +kernel
set_option maxRecDepth 100000 in
theorem ti_0_51 : dp_tab 0 51 = (.getfield 21, 3) := by decide +kernel
set_option maxRecDepth 100000 in
theorem ti_0_54 : dp_tab 0 54 = (.iconst 0, 1) := by decide +kernel
set_option maxRecDepth 100000 in
theorem ti_0_55 : dp_tab 0 55 = (.bipush 6, 2) := by decide +kernel
set_option maxRecDepth 100000 in
theorem ti_0_57 : dp_tab 0 57 = (.invokestatic 24, 3) := by decide +kernel
set_option maxRecDepth 100000 in
theorem ti_0_60 : dp_tab 0 60 = (.aload_n 0, 1) := by decide +kernel
set_option maxRecDepth 100000 in
theorem ti_0_61 : dp_tab 0 61 = (.aload_n 1, 1) := by decide +kernel
set_option maxRecDepth 100000 in
theorem ti_0_62 : dp_tab 0 62 = (.getfield 30, 3) := by decide +kernel
set_option maxRecDepth 100000 in
theorem ti_0_65 : dp_tab 0 65 = (.putfield 30, 3) := by decide +kernel
set_option maxRecDepth 100000 in
theorem ti_0_68 : dp_tab 0 68 = (.return_, 1) := by decide +kernel
set_option maxRecDepth 100000 in
theorem ti_1_0 : dp_tab 1 0 = (.aload_n 0, 1) := by decide +kernel
set_option maxRecDepth 100000 in
theorem ti_1_1 : dp_tab 1 1 = (.getfield 21, 3) := by decide +kernel
set_option maxRecDepth 100000 in
theorem ti_1_4 : dp_tab 1 4 = (.iload_n 1, 1) := by decide +kernel
set_option maxRecDepth 100000 in
theorem ti_1_5 : dp_tab 1 5 = (.iaload, 1) := by decide +kernel
set_option maxRecDepth 100000 in
theorem ti_1_6 : dp_tab 1 6 = (.iload_n 2, 1) := by decide +kernel
set_option maxRecDepth 100000 in
theorem ti_1_7 : dp_tab 1 7 = (.ishr, 1) := by decide +kernel
set_option maxRecDepth 100000 in
theorem ti_1_8 : dp_tab 1 8 = (.iconst 1, 1) := by decide +kernel
set_option maxRecDepth 100000 in
theorem ti_1_9 : dp_tab 1 9 = (.iand, 1) := by decide +kernel
set_option maxRecDepth 100000 in
theorem ti_1_10 : dp_tab 1 10 = (.iconst 1, 1) := by decide +kernel
set_option maxRecDepth 100000 in
theorem ti_1_11 : dp_tab 1 11 = (.if_icmp .ne 7, 3) := by decide +kernel
set_option maxRecDepth 100000 in
theorem ti_1_14 : dp_tab 1 14 = (.iconst 1, 1) := by decide +kernel
set_option maxRecDepth 100000 in
theorem ti_1_15 : dp_tab 1 15 = (.goto 4, 3) := by decide +kernel
set_option maxRecDepth 100000 in
theorem ti_1_18 : dp_tab 1 18 = (.iconst 0, 1) := by decide +kernel
set_option maxRecDepth 100000 in
theorem ti_1_19 : dp_tab 1 19 = (.ireturn, 1) := by decide +kernel
set_option maxRecDepth 100000 in
theorem ti_2_0 : dp_tab 2 0 = (.aload_n 0, 1) := by decide +kernel
set_option maxRecDepth 100000 in
theorem ti_2_1 : dp_tab 2 1 = (.getfield 15, 3) := by decide +kernel
set_option maxRecDepth 100000 in
theorem ti_2_4 : dp_tab 2 4 = (.iload_n 1, 1) := by decide +kernel
set_option maxRecDepth 100000 in
theorem ti_2_5 : dp_tab 2 5 = (.dup2, 1) := by decide +kernel
set_option maxRecDepth 100000 in
theorem ti_2_6 : dp_tab 2 6 = (.iaload, 1) := by decide +kernel
set_option maxRecDepth 100000 in
theorem ti_2_7 : dp_tab 2 7 = (.iload_n 3, 1) := by decide +kernel
set_option maxRecDepth 100000 in
theorem ti_2_8 : dp_tab 2 8 = (.isub, 1) := by decide +kernel
set_option maxRecDepth 100000 in
theorem ti_2_9 : dp_tab 2 9 = (.iastore, 1) := by decide +kernel
set_option maxRecDepth 100000 in
theorem ti_2_10 : dp_tab 2 10 = (.aload_n 0, 1) := by decide +kernel
set_option maxRecDepth 100000 in
theorem ti_2_11 : dp_tab 2 11 = (.getfield 18, 3) := by decide +kernel
set_option maxRecDepth 100000 in
theorem ti_2_14 : dp_tab 2 14 = (.iload_n 1, 1) := by decide +kernel
set_option maxRecDepth 100000 in
theorem ti_2_15 : dp_tab 2 15 = (.dup2, 1) := by decide +kernel
set_option maxRecDepth 100000 in
theorem ti_2_16 : dp_tab 2 16 = (.iaload, 1) := by decide +kernel
set_option maxRecDepth 100000 in
theorem ti_2_17 : dp_tab 2 17 = (.iload_n 3, 1) := by decide +kernel
set_option maxRecDepth 100000 in
theorem ti_2_18 : dp_tab 2 18 = (.iadd, 1) := by decide +kernel
set_option maxRecDepth 100000 in
theorem ti_2_19 : dp_tab 2 19 = (.iastore, 1) := by decide +kernel
set_option maxRecDepth 100000 in
theorem ti_2_20 : dp_tab 2 20 = (.aload_n 0, 1) := by decide +kernel
set_option maxRecDepth 100000 in
theorem ti_2_21 : dp_tab 2 21 = (.getfield 21, 3) := by decide +kernel
set_option maxRecDepth 100000 in
theorem ti_2_24 : dp_tab 2 24 = (.iload_n 1, 1) := by decide +kernel
set_option maxRecDepth 100000 in
theorem ti_2_25 : dp_tab 2 25 = (.dup2, 1) := by decide +kernel
set_option maxRecDepth 100000 in
theorem ti_2_26 : dp_tab 2 26 = (.iaload, 1) := by decide +kernel
set_option maxRecDepth 100000 in
theorem ti_2_27 : dp_tab 2 27 = (.iconst 1, 1) := by decide +kernel
set_option maxRecDepth 100000 in
theorem ti_2_28 : dp_tab 2 28 = (.iload_n 2, 1) := by decide +kernel
set_option maxRecDepth 100000 in
theorem ti_2_29 : dp_tab 2 29 = (.ishl, 1) := by decide +kernel
set_option maxRecDepth 100000 in
theorem ti_2_30 : dp_tab 2 30 = (.ior, 1) := by decide +kernel
set_option maxRecDepth 100000 in
theorem ti_2_31 : dp_tab 2 31 = (.iastore, 1) := by decide +kernel
set_option maxRecDepth 100000 in
theorem ti_2_32 : dp_tab 2 32 = (.return_, 1) := by decide +kernel
set_option maxRecDepth 100000 in
theorem ti_3_0 : dp_tab 3 0 = (.iconst 0, 1) := by decide +kernel
set_option maxRecDepth 100000 in
theorem ti_3_1 : dp_tab 3 1 = (.istore_n 2, 1) := by decide +kernel
set_option maxRecDepth 100000 in
theorem ti_3_2 : dp_tab 3 2 = (.iload_n 2, 1) := by decide +kernel
set_option maxRecDepth 100000 in
theorem ti_3_3 : dp_tab 3 3 = (.iload_n 1, 1) := by decide +kernel
set_option maxRecDepth 100000 in
theorem ti_3_4 : dp_tab 3 4 = (.if_icmp .ge 19, 3) := by decide +kernel
set_option maxRecDepth 100000 in
theorem ti_3_7 : dp_tab 3 7 = (.aload_n 0, 1) := by decide +kernel
set_option maxRecDepth 100000 in
theorem ti_3_8 : dp_tab 3 8 = (.getfield 9, 3) := by decide +kernel
set_option maxRecDepth 100000 in
theorem ti_3_11 : dp_tab 3 11 = (.iload_n 2, 1) := by decide +kernel
set_option maxRecDepth 100000 in
theorem ti_3_12 : dp_tab 3 12 = (.dup2, 1) := by decide +kernel
set_option maxRecDepth 100000 in
theorem ti_3_13 : dp_tab 3 13 = (.iaload, 1) := by decide +kernel
set_option maxRecDepth 100000 in
theorem ti_3_14 : dp_tab 3 14 = (.iconst 1, 1) := by decide +kernel
set_option maxRecDepth 100000 in
theorem ti_3_15 : dp_tab 3 15 = (.iadd, 1) := by decide +kernel
set_option maxRecDepth 100000 in
theorem ti_3_16 : dp_tab 3 16 = (.iastore, 1) := by decide +kernel
set_option maxRecDepth 100000 in
theorem ti_3_17 : dp_tab 3 17 = (.iinc 2 1, 3) := by decide +kernel
set_option maxRecDepth 100000 in
theorem ti_3_20 : dp_tab 3 20 = (.goto (-18), 3) := by decide +kernel
set_option maxRecDepth 100000 in
theorem ti_3_23 : dp_tab 3 23 = (.aload_n 0, 1) := by decide +kernel
set_option maxRecDepth 100000 in
theorem ti_3_24 : dp_tab 3 24 = (.dup, 1) := by decide +kernel
set_option maxRecDepth 100000 in
theorem ti_3_25 : dp_tab 3 25 = (.getfield 30, 3) := by decide +kernel
set_option maxRecDepth 100000 in
theorem ti_3_28 : dp_tab 3 28 = (.iconst 1, 1) := by decide +kernel
set_option maxRecDepth 100000 in
theorem ti_3_29 : dp_tab 3 29 = (.iadd, 1) := by decide +kernel
set_option maxRecDepth 100000 in
theorem ti_3_30 : dp_tab 3 30 = (.putfield 30, 3) := by decide +kernel
set_option maxRecDepth 100000 in
theorem ti_3_33 : dp_tab 3 33 = (.return_, 1) := by decide +kernel
set_option maxRecDepth 100000 in
theorem ti_4_0 : dp_tab 4 0 = (.iconst 0, 1) := by decide +kernel
set_option maxRecDepth 100000 in
theorem ti_4_1 : dp_tab 4 1 = (.istore_n 2, 1) := by decide +kernel
set_option maxRecDepth 100000 in
theorem ti_4_2 : dp_tab 4 2 = (.iconst 0, 1) := by decide +kernel
set_option maxRecDepth 100000 in
theorem ti_4_3 : dp_tab 4 3 = (.istore_n 3, 1) := by decide +kernel
set_option maxRecDepth 100000 in
theorem ti_4_4 : dp_tab 4 4 = (.iload_n 3, 1) := by decide +kernel
set_option maxRecDepth 100000 in
theorem ti_4_5 : dp_tab 4 5 = (.bipush 6, 2) := by decide +kernel
set_option maxRecDepth 100000 in
theorem ti_4_7 : dp_tab 4 7 = (.if_icmp .ge 21, 3) := by decide +kernel
set_option maxRecDepth 100000 in
theorem ti_4_10 : dp_tab 4 10 = (.aload_n 0, 1) := by decide +kernel
set_option maxRecDepth 100000 in
theorem ti_4_11 : dp_tab 4 11 = (.iload_n 3, 1) := by decide +kernel
set_option maxRecDepth 100000 in
theorem ti_4_12 : dp_tab 4 12 = (.iload_n 1, 1) := by decide +kernel
set_option maxRecDepth 100000 in
theorem ti_4_13 : dp_tab 4 13 = (.invokevirtual 34, 3) := by decide +kernel
set_option maxRecDepth 100000 in
theorem ti_4_16 : dp_tab 4 16 = (.ifCond .eq 6, 3) := by decide +kernel
set_option maxRecDepth 100000 in
theorem ti_4_19 : dp_tab 4 19 = (.iinc 2 1, 3) := by decide +kernel
set_option maxRecDepth 100000 in
theorem ti_4_22 : dp_tab 4 22 = (.iinc 3 1, 3) := by decide +kernel
set_option maxRecDepth 100000 in
theorem ti_4_25 : dp_tab 4 25 = (.goto (-21), 3) := by decide +kernel
set_option maxRecDepth 100000 in
theorem ti_4_28 : dp_tab 4 28 = (.iload_n 2, 1) := by decide +kernel
set_option maxRecDepth 100000 in
theorem ti_4_29 : dp_tab 4 29 = (.ireturn, 1) := by decide +kernel
set_option maxRecDepth 100000 in
theorem ti_5_0 : dp_tab 5 0 = (.iconst 0, 1) := by decide +kernel
set_option maxRecDepth 100000 in
theorem ti_5_1 : dp_tab 5 1 = (.istore_n 1, 1) := by decide +kernel
set_option maxRecDepth 100000 in
theorem ti_5_2 : dp_tab 5 2 = (.iconst 0, 1) := by decide +kernel
set_option maxRecDepth 100000 in
theorem ti_5_3 : dp_tab 5 3 = (.istore_n 2, 1) := by decide +kernel
set_option maxRecDepth 100000 in
theorem ti_5_4 : dp_tab 5 4 = (.iload_n 2, 1) := by decide +kernel
set_option maxRecDepth 100000 in
theorem ti_5_5 : dp_tab 5 5 = (.bipush 6, 2) := by decide +kernel
set_option maxRecDepth 100000 in
theorem ti_5_7 : dp_tab 5 7 = (.if_icmp .ge 21, 3) := by decide +kernel
set_option maxRecDepth 100000 in
theorem ti_5_10 : dp_tab 5 10 = (.iload_n 1, 1) := by decide +kernel
set_option maxRecDepth 100000 in
theorem ti_5_11 : dp_tab 5 11 = (.aload_n 0, 1) := by decide +kernel
set_option maxRecDepth 100000 in
theorem ti_5_12 : dp_tab 5 12 = (.getfield 21, 3) := by decide +kernel
set_option maxRecDepth 100000 in
theorem ti_5_15 : dp_tab 5 15 = (.iload_n 2, 1) := by decide +kernel
set_option maxRecDepth 100000 in
theorem ti_5_16 : dp_tab 5 16 = (.iaload, 1) := by decide +kernel
set_option maxRecDepth 100000 in
theorem ti_5_17 : dp_tab 5 17 = (.invokestatic 38, 3) := by decide +kernel
set_option maxRecDepth 100000 in
theorem ti_5_20 : dp_tab 5 20 = (.iadd, 1) := by decide +kernel
set_option maxRecDepth 100000 in
theorem ti_5_21 : dp_tab 5 21 = (.istore_n 1, 1) := by decide +kernel
set_option maxRecDepth 100000 in
theorem ti_5_22 : dp_tab 5 22 = (.iinc 2 1, 3) := by decide +kernel
set_option maxRecDepth 100000 in
theorem ti_5_25 : dp_tab 5 25 = (.goto (-21), 3) := by decide +kernel
set_option maxRecDepth 100000 in
theorem ti_5_28 : dp_tab 5 28 = (.iload_n 1, 1) := by decide +kernel
set_option maxRecDepth 100000 in
theorem ti_5_29 : dp_tab 5 29 = (.ireturn, 1) := by decide +kernel
set_option maxRecDepth 100000 in
theorem ti_6_0 : dp_tab 6 0 = (.iconst 0, 1) := by decide +kernel
set_option maxRecDepth 100000 in
theorem ti_6_1 : dp_tab 6 1 = (.istore_n 1, 1) := by decide +kernel
set_option maxRecDepth 100000 in
theorem ti_6_2 : dp_tab 6 2 = (.iconst 0, 1) := by decide +kernel
set_option maxRecDepth 100000 in
theorem ti_6_3 : dp_tab 6 3 = (.istore_n 2, 1) := by decide +kernel
set_option maxRecDepth 100000 in
theorem ti_6_4 : dp_tab 6 4 = (.iload_n 2, 1) := by decide +kernel
set_option maxRecDepth 100000 in
theorem ti_6_5 : dp_tab 6 5 = (.bipush 6, 2) := by decide +kernel
set_option maxRecDepth 100000 in
theorem ti_6_7 : dp_tab 6 7 = (.if_icmp .ge 18, 3) := by decide +kernel
set_option maxRecDepth 100000 in
theorem ti_6_10 : dp_tab 6 10 = (.iload_n 1, 1) := by decide +kernel
set_option maxRecDepth 100000 in
theorem ti_6_11 : dp_tab 6 11 = (.aload_n 0, 1) := by decide +kernel
set_option maxRecDepth 100000 in
theorem ti_6_12 : dp_tab 6 12 = (.getfield 18, 3) := by decide +kernel
set_option maxRecDepth 100000 in
theorem ti_6_15 : dp_tab 6 15 = (.iload_n 2, 1) := by decide +kernel
set_option maxRecDepth 100000 in
theorem ti_6_16 : dp_tab 6 16 = (.iaload, 1) := by decide +kernel
set_option maxRecDepth 100000 in
theorem ti_6_17 : dp_tab 6 17 = (.iadd, 1) := by decide +kernel
set_option maxRecDepth 100000 in
theorem ti_6_18 : dp_tab 6 18 = (.istore_n 1, 1) := by decide +kernel
set_option maxRecDepth 100000 in
theorem ti_6_19 : dp_tab 6 19 = (.iinc 2 1, 3) := by decide +kernel
set_option maxRecDepth 100000 in
theorem ti_6_22 : dp_tab 6 22 = (.goto (-18), 3) := by decide +kernel
set_option maxRecDepth 100000 in
theorem ti_6_25 : dp_tab 6 25 = (.iload_n 1, 1) := by decide +kernel
set_option maxRecDepth 100000 in
theorem ti_6_26 : dp_tab 6 26 = (.ireturn, 1) := by decide +kernel
set_option maxRecDepth 100000 in
theorem ti_7_0 : dp_tab 7 0 = (.iconst 0, 1) := by decide +kernel
set_option maxRecDepth 100000 in
theorem ti_7_1 : dp_tab 7 1 = (.istore_n 3, 1) := by decide +kernel
set_option maxRecDepth 100000 in
theorem ti_7_2 : dp_tab 7 2 = (.iload_n 3, 1) := by decide +kernel
set_option maxRecDepth 100000 in
theorem ti_7_3 : dp_tab 7 3 = (.aload_n 0, 1) := by decide +kernel
set_option maxRecDepth 100000 in
theorem ti_7_4 : dp_tab 7 4 = (.getfield 16, 3) := by decide +kernel
set_option maxRecDepth 100000 in
theorem ti_7_7 : dp_tab 7 7 = (.iload_n 1, 1) := by decide +kernel
set_option maxRecDepth 100000 in
theorem ti_7_8 : dp_tab 7 8 = (.iaload, 1) := by decide +kernel
set_option maxRecDepth 100000 in
theorem ti_7_9 : dp_tab 7 9 = (.if_icmp .ge 23, 3) := by decide +kernel
set_option maxRecDepth 100000 in
theorem ti_7_12 : dp_tab 7 12 = (.aload_n 0, 1) := by decide +kernel
set_option maxRecDepth 100000 in
theorem ti_7_13 : dp_tab 7 13 = (.getfield 11, 3) := by decide +kernel
set_option maxRecDepth 100000 in
theorem ti_7_16 : dp_tab 7 16 = (.iload_n 1, 1) := by decide +kernel
set_option maxRecDepth 100000 in
theorem ti_7_17 : dp_tab 7 17 = (.aaload, 1) := by decide +kernel
set_option maxRecDepth 100000 in
theorem ti_7_18 : dp_tab 7 18 = (.iload_n 3, 1) := by decide +kernel
set_option maxRecDepth 100000 in
theorem ti_7_19 : dp_tab 7 19 = (.iaload, 1) := by decide +kernel
set_option maxRecDepth 100000 in
theorem ti_7_20 : dp_tab 7 20 = (.iload_n 2, 1) := by decide +kernel
set_option maxRecDepth 100000 in
theorem ti_7_21 : dp_tab 7 21 = (.if_icmp .ne 5, 3) := by decide +kernel
set_option maxRecDepth 100000 in
theorem ti_7_24 : dp_tab 7 24 = (.iload_n 3, 1) := by decide +kernel
set_option maxRecDepth 100000 in
theorem ti_7_25 : dp_tab 7 25 = (.ireturn, 1) := by decide +kernel
set_option maxRecDepth 100000 in
theorem ti_7_26 : dp_tab 7 26 = (.iinc 3 1, 3) := by decide +kernel
set_option maxRecDepth 100000 in
theorem ti_7_29 : dp_tab 7 29 = (.goto (-27), 3) := by decide +kernel
set_option maxRecDepth 100000 in
theorem ti_7_32 : dp_tab 7 32 = (.iconst (-1), 1) := by decide +kernel
set_option maxRecDepth 100000 in
theorem ti_7_33 : dp_tab 7 33 = (.ireturn, 1) := by decide +kernel
set_option maxRecDepth 100000 in
theorem ti_8_0 : dp_tab 8 0 = (.aload_n 0, 1) := by decide +kernel
set_option maxRecDepth 100000 in
theorem ti_8_1 : dp_tab 8 1 = (.getfield 26, 3) := by decide +kernel
set_option maxRecDepth 100000 in
theorem ti_8_4 : dp_tab 8 4 = (.iconst 0, 1) := by decide +kernel
set_option maxRecDepth 100000 in
theorem ti_8_5 : dp_tab 8 5 = (.invokestatic 29, 3) := by decide +kernel
set_option maxRecDepth 100000 in
theorem ti_8_8 : dp_tab 8 8 = (.iconst 0, 1) := by decide +kernel
set_option maxRecDepth 100000 in
theorem ti_8_9 : dp_tab 8 9 = (.istore_n 1, 1) := by decide +kernel
set_option maxRecDepth 100000 in
theorem ti_8_10 : dp_tab 8 10 = (.iload_n 1, 1) := by decide +kernel
set_option maxRecDepth 100000 in
theorem ti_8_11 : dp_tab 8 11 = (.aload_n 0, 1) := by decide +kernel
set_option maxRecDepth 100000 in
theorem ti_8_12 : dp_tab 8 12 = (.getfield 35, 3) := by decide +kernel
set_option maxRecDepth 100000 in
theorem ti_8_15 : dp_tab 8 15 = (.if_icmp .ge 14, 3) := by decide +kernel
set_option maxRecDepth 100000 in
theorem ti_8_18 : dp_tab 8 18 = (.aload_n 0, 1) := by decide +kernel
set_option maxRecDepth 100000 in
theorem ti_8_19 : dp_tab 8 19 = (.iload_n 1, 1) := by decide +kernel
set_option maxRecDepth 100000 in
theorem ti_8_20 : dp_tab 8 20 = (.invokevirtual 39, 3) := by decide +kernel
set_option maxRecDepth 100000 in
theorem ti_8_23 : dp_tab 8 23 = (.iinc 1 1, 3) := by decide +kernel
set_option maxRecDepth 100000 in
theorem ti_8_26 : dp_tab 8 26 = (.goto (-16), 3) := by decide +kernel
set_option maxRecDepth 100000 in
theorem ti_8_29 : dp_tab 8 29 = (.return_, 1) := by decide +kernel
set_option maxRecDepth 100000 in
theorem ti_9_0 : dp_tab 9 0 = (.aload_n 0, 1) := by decide +kernel
set_option maxRecDepth 100000 in
theorem ti_9_1 : dp_tab 9 1 = (.getfield 23, 3) := by decide +kernel
set_option maxRecDepth 100000 in
theorem ti_9_4 : dp_tab 9 4 = (.iload_n 1, 1) := by decide +kernel
set_option maxRecDepth 100000 in
theorem ti_9_5 : dp_tab 9 5 = (.aaload, 1) := by decide +kernel
set_option maxRecDepth 100000 in
theorem ti_9_6 : dp_tab 9 6 = (.astore_n 2, 1) := by decide +kernel
set_option maxRecDepth 100000 in
theorem ti_9_7 : dp_tab 9 7 = (.aload_n 2, 1) := by decide +kernel
set_option maxRecDepth 100000 in
theorem ti_9_8 : dp_tab 9 8 = (.iconst 0, 1) := by decide +kernel
set_option maxRecDepth 100000 in
theorem ti_9_9 : dp_tab 9 9 = (.invokestatic 29, 3) := by decide +kernel
set_option maxRecDepth 100000 in
theorem ti_9_12 : dp_tab 9 12 = (.iconst 0, 1) := by decide +kernel
set_option maxRecDepth 100000 in
theorem ti_9_13 : dp_tab 9 13 = (.istore_n 3, 1) := by decide +kernel
set_option maxRecDepth 100000 in
theorem ti_9_14 : dp_tab 9 14 = (.iload_n 3, 1) := by decide +kernel
set_option maxRecDepth 100000 in
theorem ti_9_15 : dp_tab 9 15 = (.aload_n 0, 1) := by decide +kernel
set_option maxRecDepth 100000 in
theorem ti_9_16 : dp_tab 9 16 = (.getfield 20, 3) := by decide +kernel
set_option maxRecDepth 100000 in
theorem ti_9_19 : dp_tab 9 19 = (.iload_n 1, 1) := by decide +kernel
set_option maxRecDepth 100000 in
theorem ti_9_20 : dp_tab 9 20 = (.iaload, 1) := by decide +kernel
set_option maxRecDepth 100000 in
theorem ti_9_21 : dp_tab 9 21 = (.if_icmp .ge 43, 3) := by decide +kernel
set_option maxRecDepth 100000 in
theorem ti_9_24 : dp_tab 9 24 = (.aload_n 0, 1) := by decide +kernel
set_option maxRecDepth 100000 in
theorem ti_9_25 : dp_tab 9 25 = (.aload_n 0, 1) := by decide +kernel
set_option maxRecDepth 100000 in
theorem ti_9_26 : dp_tab 9 26 = (.getfield 17, 3) := by decide +kernel
set_option maxRecDepth 100000 in
theorem ti_9_29 : dp_tab 9 29 = (.iload_n 1, 1) := by decide +kernel
set_option maxRecDepth 100000 in
theorem ti_9_30 : dp_tab 9 30 = (.aaload, 1) := by decide +kernel
set_option maxRecDepth 100000 in
theorem ti_9_31 : dp_tab 9 31 = (.iload_n 3, 1) := by decide +kernel
set_option maxRecDepth 100000 in
theorem ti_9_32 : dp_tab 9 32 = (.iaload, 1) := by decide +kernel
set_option maxRecDepth 100000 in
theorem ti_9_33 : dp_tab 9 33 = (.invokevirtual 43, 3) := by decide +kernel
set_option maxRecDepth 100000 in
theorem ti_9_36 : dp_tab 9 36 = (.istore 4, 2) := by decide +kernel
set_option maxRecDepth 100000 in
theorem ti_9_38 : dp_tab 9 38 = (.iload 4, 2) := by decide +kernel
set_option maxRecDepth 100000 in
theorem ti_9_40 : dp_tab 9 40 = (.ifCond .lt 18, 3) := by decide +kernel
set_option maxRecDepth 100000 in
theorem ti_9_43 : dp_tab 9 43 = (.iload 4, 2) := by decide +kernel
set_option maxRecDepth 100000 in
theorem ti_9_45 : dp_tab 9 45 = (.bipush 20, 2) := by decide +kernel
set_option maxRecDepth 100000 in
theorem ti_9_47 : dp_tab 9 47 = (.if_icmp .ge 11, 3) := by decide +kernel
set_option maxRecDepth 100000 in
theorem ti_9_50 : dp_tab 9 50 = (.aload_n 2, 1) := by decide +kernel
set_option maxRecDepth 100000 in
theorem ti_9_51 : dp_tab 9 51 = (.iload 4, 2) := by decide +kernel
set_option maxRecDepth 100000 in
theorem ti_9_53 : dp_tab 9 53 = (.dup2, 1) := by decide +kernel
set_option maxRecDepth 100000 in
theorem ti_9_54 : dp_tab 9 54 = (.iaload, 1) := by decide +kernel
set_option maxRecDepth 100000 in
theorem ti_9_55 : dp_tab 9 55 = (.iconst 1, 1) := by decide +kernel
set_option maxRecDepth 100000 in
theorem ti_9_56 : dp_tab 9 56 = (.iadd, 1) := by decide +kernel
set_option maxRecDepth 100000 in
theorem ti_9_57 : dp_tab 9 57 = (.iastore, 1) := by decide +kernel
set_option maxRecDepth 100000 in
theorem ti_9_58 : dp_tab 9 58 = (.iinc 3 1, 3) := by decide +kernel
set_option maxRecDepth 100000 in
theorem ti_9_61 : dp_tab 9 61 = (.goto (-47), 3) := by decide +kernel
set_option maxRecDepth 100000 in
theorem ti_9_64 : dp_tab 9 64 = (.iconst 0, 1) := by decide +kernel
set_option maxRecDepth 100000 in
theorem ti_9_65 : dp_tab 9 65 = (.istore_n 3, 1) := by decide +kernel
set_option maxRecDepth 100000 in
theorem ti_9_66 : dp_tab 9 66 = (.iload_n 3, 1) := by decide +kernel
set_option maxRecDepth 100000 in
theorem ti_9_67 : dp_tab 9 67 = (.bipush 20, 2) := by decide +kernel
set_option maxRecDepth 100000 in
theorem ti_9_69 : dp_tab 9 69 = (.if_icmp .ge 25, 3) := by decide +kernel
set_option maxRecDepth 100000 in
theorem ti_9_72 : dp_tab 9 72 = (.aload_n 2, 1) := by decide +kernel
set_option maxRecDepth 100000 in
theorem ti_9_73 : dp_tab 9 73 = (.iload_n 3, 1) := by decide +kernel
set_option maxRecDepth 100000 in
theorem ti_9_74 : dp_tab 9 74 = (.iaload, 1) := by decide +kernel
set_option maxRecDepth 100000 in
theorem ti_9_75 : dp_tab 9 75 = (.ifCond .le 13, 3) := by decide +kernel
set_option maxRecDepth 100000 in
theorem ti_9_78 : dp_tab 9 78 = (.aload_n 0, 1) := by decide +kernel
set_option maxRecDepth 100000 in
theorem ti_9_79 : dp_tab 9 79 = (.getfield 26, 3) := by decide +kernel
set_option maxRecDepth 100000 in
theorem ti_9_82 : dp_tab 9 82 = (.iload_n 3, 1) := by decide +kernel
set_option maxRecDepth 100000 in
theorem ti_9_83 : dp_tab 9 83 = (.dup2, 1) := by decide +kernel
set_option maxRecDepth 100000 in
theorem ti_9_84 : dp_tab 9 84 = (.iaload, 1) := by decide +kernel
set_option maxRecDepth 100000 in
theorem ti_9_85 : dp_tab 9 85 = (.iconst 1, 1) := by decide +kernel
set_option maxRecDepth 100000 in
theorem ti_9_86 : dp_tab 9 86 = (.iadd, 1) := by decide +kernel
set_option maxRecDepth 100000 in
theorem ti_9_87 : dp_tab 9 87 = (.iastore, 1) := by decide +kernel
set_option maxRecDepth 100000 in
theorem ti_9_88 : dp_tab 9 88 = (.iinc 3 1, 3) := by decide +kernel
set_option maxRecDepth 100000 in
theorem ti_9_91 : dp_tab 9 91 = (.goto (-25), 3) := by decide +kernel
set_option maxRecDepth 100000 in
theorem ti_9_94 : dp_tab 9 94 = (.return_, 1) := by decide +kernel
set_option maxRecDepth 100000 in
theorem ti_10_0 : dp_tab 10 0 = (.iload_n 1, 1) := by decide +kernel
set_option maxRecDepth 100000 in
theorem ti_10_1 : dp_tab 10 1 = (.ifCond .lt 9, 3) := by decide +kernel
set_option maxRecDepth 100000 in
theorem ti_10_4 : dp_tab 10 4 = (.iload_n 1, 1) := by decide +kernel
set_option maxRecDepth 100000 in
theorem ti_10_5 : dp_tab 10 5 = (.bipush 40, 2) := by decide +kernel
set_option maxRecDepth 100000 in
theorem ti_10_7 : dp_tab 10 7 = (.if_icmp .lt 7, 3) := by decide +kernel
set_option maxRecDepth 100000 in
theorem ti_10_10 : dp_tab 10 10 = (.iconst (-1), 1) := by decide +kernel
set_option maxRecDepth 100000 in
theorem ti_10_11 : dp_tab 10 11 = (.goto 9, 3) := by decide +kernel
set_option maxRecDepth 100000 in
theorem ti_10_14 : dp_tab 10 14 = (.aload_n 0, 1) := by decide +kernel
set_option maxRecDepth 100000 in
theorem ti_10_15 : dp_tab 10 15 = (.getfield 9, 3) := by decide +kernel
set_option maxRecDepth 100000 in
theorem ti_10_18 : dp_tab 10 18 = (.iload_n 1, 1) := by decide +kernel
set_option maxRecDepth 100000 in
theorem ti_10_19 : dp_tab 10 19 = (.iaload, 1) := by decide +kernel
set_option maxRecDepth 100000 in
theorem ti_10_20 : dp_tab 10 20 = (.ireturn, 1) := by decide +kernel
set_option maxRecDepth 100000 in
theorem ti_11_0 : dp_tab 11 0 = (.iload_n 1, 1) := by decide +kernel
set_option maxRecDepth 100000 in
theorem ti_11_1 : dp_tab 11 1 = (.ifCond .lt 9, 3) := by decide +kernel
set_option maxRecDepth 100000 in
theorem ti_11_4 : dp_tab 11 4 = (.iload_n 1, 1) := by decide +kernel
set_option maxRecDepth 100000 in
theorem ti_11_5 : dp_tab 11 5 = (.bipush 20, 2) := by decide +kernel
set_option maxRecDepth 100000 in
theorem ti_11_7 : dp_tab 11 7 = (.if_icmp .lt 7, 3) := by decide +kernel
set_option maxRecDepth 100000 in
theorem ti_11_10 : dp_tab 11 10 = (.iconst 0, 1) := by decide +kernel
set_option maxRecDepth 100000 in
theorem ti_11_11 : dp_tab 11 11 = (.goto 9, 3) := by decide +kernel
set_option maxRecDepth 100000 in
theorem ti_11_14 : dp_tab 11 14 = (.aload_n 0, 1) := by decide +kernel
set_option maxRecDepth 100000 in
theorem ti_11_15 : dp_tab 11 15 = (.getfield 26, 3) := by decide +kernel
set_option maxRecDepth 100000 in
theorem ti_11_18 : dp_tab 11 18 = (.iload_n 1, 1) := by decide +kernel
set_option maxRecDepth 100000 in
theorem ti_11_19 : dp_tab 11 19 = (.iaload, 1) := by decide +kernel
set_option maxRecDepth 100000 in
theorem ti_11_20 : dp_tab 11 20 = (.istore_n 2, 1) := by decide +kernel
set_option maxRecDepth 100000 in
theorem ti_11_21 : dp_tab 11 21 = (.bipush 10, 2) := by decide +kernel
set_option maxRecDepth 100000 in
theorem ti_11_23 : dp_tab 11 23 = (.aload_n 0, 1) := by decide +kernel
set_option maxRecDepth 100000 in
theorem ti_11_24 : dp_tab 11 24 = (.getfield 35, 3) := by decide +kernel
set_option maxRecDepth 100000 in
theorem ti_11_27 : dp_tab 11 27 = (.iconst 1, 1) := by decide +kernel
set_option maxRecDepth 100000 in
theorem ti_11_28 : dp_tab 11 28 = (.iadd, 1) := by decide +kernel
set_option maxRecDepth 100000 in
theorem ti_11_29 : dp_tab 11 29 = (.imul, 1) := by decide +kernel
set_option maxRecDepth 100000 in
theorem ti_11_30 : dp_tab 11 30 = (.iload_n 2, 1) := by decide +kernel
set_option maxRecDepth 100000 in
theorem ti_11_31 : dp_tab 11 31 = (.iconst 1, 1) := by decide +kernel
set_option maxRecDepth 100000 in
theorem ti_11_32 : dp_tab 11 32 = (.iadd, 1) := by decide +kernel
set_option maxRecDepth 100000 in
theorem ti_11_33 : dp_tab 11 33 = (.idiv, 1) := by decide +kernel
set_option maxRecDepth 100000 in
theorem ti_11_34 : dp_tab 11 34 = (.ireturn, 1) := by decide +kernel
set_option maxRecDepth 100000 in
theorem ti_12_0 : dp_tab 12 0 = (.iload_n 2, 1) := by decide +kernel
set_option maxRecDepth 100000 in
theorem ti_12_1 : dp_tab 12 1 = (.ifCond .lt 9, 3) := by decide +kernel
set_option maxRecDepth 100000 in
theorem ti_12_4 : dp_tab 12 4 = (.iload_n 2, 1) := by decide +kernel
set_option maxRecDepth 100000 in
theorem ti_12_5 : dp_tab 12 5 = (.bipush 20, 2) := by decide +kernel
set_option maxRecDepth 100000 in
theorem ti_12_7 : dp_tab 12 7 = (.if_icmp .lt 7, 3) := by decide +kernel
set_option maxRecDepth 100000 in
theorem ti_12_10 : dp_tab 12 10 = (.iconst 0, 1) := by decide +kernel
set_option maxRecDepth 100000 in
theorem ti_12_11 : dp_tab 12 11 = (.goto 11, 3) := by decide +kernel
set_option maxRecDepth 100000 in
theorem ti_12_14 : dp_tab 12 14 = (.aload_n 0, 1) := by decide +kernel
set_option maxRecDepth 100000 in
theorem ti_12_15 : dp_tab 12 15 = (.getfield 23, 3) := by decide +kernel
set_option maxRecDepth 100000 in
theorem ti_12_18 : dp_tab 12 18 = (.iload_n 1, 1) := by decide +kernel
set_option maxRecDepth 100000 in
theorem ti_12_19 : dp_tab 12 19 = (.aaload, 1) := by decide +kernel
set_option maxRecDepth 100000 in
theorem ti_12_20 : dp_tab 12 20 = (.iload_n 2, 1) := by decide +kernel
set_option maxRecDepth 100000 in
theorem ti_12_21 : dp_tab 12 21 = (.iaload, 1) := by decide +kernel
set_option maxRecDepth 100000 in
theorem ti_12_22 : dp_tab 12 22 = (.ireturn, 1) := by decide +kernel
set_option maxRecDepth 100000 in
theorem ti_13_0 : dp_tab 13 0 = (.iconst 0, 1) := by decide +kernel
set_option maxRecDepth 100000 in
theorem ti_13_1 : dp_tab 13 1 = (.istore 5, 2) := by decide +kernel
set_option maxRecDepth 100000 in
theorem ti_13_3 : dp_tab 13 3 = (.iconst 0, 1) := by decide +kernel
set_option maxRecDepth 100000 in
theorem ti_13_4 : dp_tab 13 4 = (.istore 6, 2) := by decide +kernel
set_option maxRecDepth 100000 in
theorem ti_13_6 : dp_tab 13 6 = (.iconst 0, 1) := by decide +kernel
set_option maxRecDepth 100000 in
theorem ti_13_7 : dp_tab 13 7 = (.istore 7, 2) := by decide +kernel
set_option maxRecDepth 100000 in
theorem ti_13_9 : dp_tab 13 9 = (.iload 7, 2) := by decide +kernel
set_option maxRecDepth 100000 in
theorem ti_13_11 : dp_tab 13 11 = (.iload_n 3, 1) := by decide +kernel
set_option maxRecDepth 100000 in
theorem ti_13_12 : dp_tab 13 12 = (.if_icmp .ge 48, 3) := by decide +kernel
set_option maxRecDepth 100000 in
theorem ti_13_15 : dp_tab 13 15 = (.aload_n 0, 1) := by decide +kernel
set_option maxRecDepth 100000 in
theorem ti_13_16 : dp_tab 13 16 = (.iload_n 1, 1) := by decide +kernel
set_option maxRecDepth 100000 in
theorem ti_13_17 : dp_tab 13 17 = (.aload_n 2, 1) := by decide +kernel
set_option maxRecDepth 100000 in
theorem ti_13_18 : dp_tab 13 18 = (.iload 7, 2) := by decide +kernel
set_option maxRecDepth 100000 in
theorem ti_13_20 : dp_tab 13 20 = (.iaload, 1) := by decide +kernel
set_option maxRecDepth 100000 in
theorem ti_13_21 : dp_tab 13 21 = (.invokevirtual 47, 3) := by decide +kernel
set_option maxRecDepth 100000 in
theorem ti_13_24 : dp_tab 13 24 = (.istore 8, 2) := by decide +kernel
set_option maxRecDepth 100000 in
theorem ti_13_26 : dp_tab 13 26 = (.iload 8, 2) := by decide +kernel
set_option maxRecDepth 100000 in
theorem ti_13_28 : dp_tab 13 28 = (.ifCond .le 26, 3) := by decide +kernel
set_option maxRecDepth 100000 in
theorem ti_13_31 : dp_tab 13 31 = (.iinc 6 1, 3) := by decide +kernel
set_option maxRecDepth 100000 in
theorem ti_13_34 : dp_tab 13 34 = (.iload 5, 2) := by decide +kernel
set_option maxRecDepth 100000 in
theorem ti_13_36 : dp_tab 13 36 = (.iload 8, 2) := by decide +kernel
set_option maxRecDepth 100000 in
theorem ti_13_38 : dp_tab 13 38 = (.iconst 3, 1) := by decide +kernel
set_option maxRecDepth 100000 in
theorem ti_13_39 : dp_tab 13 39 = (.invokestatic 51, 3) := by decide +kernel
set_option maxRecDepth 100000 in
theorem ti_13_42 : dp_tab 13 42 = (.aload_n 0, 1) := by decide +kernel
set_option maxRecDepth 100000 in
theorem ti_13_43 : dp_tab 13 43 = (.aload_n 2, 1) := by decide +kernel
set_option maxRecDepth 100000 in
theorem ti_13_44 : dp_tab 13 44 = (.iload 7, 2) := by decide +kernel
set_option maxRecDepth 100000 in
theorem ti_13_46 : dp_tab 13 46 = (.iaload, 1) := by decide +kernel
set_option maxRecDepth 100000 in
theorem ti_13_47 : dp_tab 13 47 = (.invokevirtual 56, 3) := by decide +kernel
set_option maxRecDepth 100000 in
theorem ti_13_50 : dp_tab 13 50 = (.imul, 1) := by decide +kernel
set_option maxRecDepth 100000 in
theorem ti_13_51 : dp_tab 13 51 = (.iadd, 1) := by decide +kernel
set_option maxRecDepth 100000 in
theorem ti_13_52 : dp_tab 13 52 = (.istore 5, 2) := by decide +kernel
set_option maxRecDepth 100000 in
theorem ti_13_54 : dp_tab 13 54 = (.iinc 7 1, 3) := by decide +kernel
set_option maxRecDepth 100000 in
theorem ti_13_57 : dp_tab 13 57 = (.goto (-48), 3) := by decide +kernel
set_option maxRecDepth 100000 in
theorem ti_13_60 : dp_tab 13 60 = (.iload_n 3, 1) := by decide +kernel
set_option maxRecDepth 100000 in
theorem ti_13_61 : dp_tab 13 61 = (.iconst 2, 1) := by decide +kernel
set_option maxRecDepth 100000 in
theorem ti_13_62 : dp_tab 13 62 = (.if_icmp .lt 18, 3) := by decide +kernel
set_option maxRecDepth 100000 in
theorem ti_13_65 : dp_tab 13 65 = (.iload 6, 2) := by decide +kernel
set_option maxRecDepth 100000 in
theorem ti_13_67 : dp_tab 13 67 = (.iload_n 3, 1) := by decide +kernel
set_option maxRecDepth 100000 in
theorem ti_13_68 : dp_tab 13 68 = (.if_icmp .ne 12, 3) := by decide +kernel
set_option maxRecDepth 100000 in
theorem ti_13_71 : dp_tab 13 71 = (.iload 5, 2) := by decide +kernel
set_option maxRecDepth 100000 in
theorem ti_13_73 : dp_tab 13 73 = (.iload 5, 2) := by decide +kernel
set_option maxRecDepth 100000 in
theorem ti_13_75 : dp_tab 13 75 = (.iconst 2, 1) := by decide +kernel
set_option maxRecDepth 100000 in
theorem ti_13_76 : dp_tab 13 76 = (.idiv, 1) := by decide +kernel
set_option maxRecDepth 100000 in
theorem ti_13_77 : dp_tab 13 77 = (.iadd, 1) := by decide +kernel
set_option maxRecDepth 100000 in
theorem ti_13_78 : dp_tab 13 78 = (.istore 5, 2) := by decide +kernel
set_option maxRecDepth 100000 in
theorem ti_13_80 : dp_tab 13 80 = (.iload 5, 2) := by decide +kernel
set_option maxRecDepth 100000 in
theorem ti_13_82 : dp_tab 13 82 = (.iconst 3, 1) := by decide +kernel
set_option maxRecDepth 100000 in
theorem ti_13_83 : dp_tab 13 83 = (.iload 4, 2) := by decide +kernel
set_option maxRecDepth 100000 in
theorem ti_13_85 : dp_tab 13 85 = (.imul, 1) := by decide +kernel
set_option maxRecDepth 100000 in
theorem ti_13_86 : dp_tab 13 86 = (.isub, 1) := by decide +kernel
set_option maxRecDepth 100000 in
theorem ti_13_87 : dp_tab 13 87 = (.iconst 0, 1) := by decide +kernel
set_option maxRecDepth 100000 in
theorem ti_13_88 : dp_tab 13 88 = (.invokestatic 59, 3) := by decide +kernel
set_option maxRecDepth 100000 in
theorem ti_13_91 : dp_tab 13 91 = (.ireturn, 1) := by decide +kernel
set_option maxRecDepth 100000 in
theorem ti_14_0 : dp_tab 14 0 = (.iconst 0, 1) := by decide +kernel
set_option maxRecDepth 100000 in
theorem ti_14_1 : dp_tab 14 1 = (.istore_n 2, 1) := by decide +kernel
set_option maxRecDepth 100000 in
theorem ti_14_2 : dp_tab 14 2 = (.iconst 0, 1) := by decide +kernel
set_option maxRecDepth 100000 in
theorem ti_14_3 : dp_tab 14 3 = (.istore_n 3, 1) := by decide +kernel
set_option maxRecDepth 100000 in
theorem ti_14_4 : dp_tab 14 4 = (.iload_n 3, 1) := by decide +kernel
set_option maxRecDepth 100000 in
theorem ti_14_5 : dp_tab 14 5 = (.bipush 20, 2) := by decide +kernel
set_option maxRecDepth 100000 in
theorem ti_14_7 : dp_tab 14 7 = (.if_icmp .ge 23, 3) := by decide +kernel
set_option maxRecDepth 100000 in
theorem ti_14_10 : dp_tab 14 10 = (.aload_n 0, 1) := by decide +kernel
set_option maxRecDepth 100000 in
theorem ti_14_11 : dp_tab 14 11 = (.getfield 23, 3) := by decide +kernel
set_option maxRecDepth 100000 in
theorem ti_14_14 : dp_tab 14 14 = (.iload_n 1, 1) := by decide +kernel
set_option maxRecDepth 100000 in
theorem ti_14_15 : dp_tab 14 15 = (.aaload, 1) := by decide +kernel
set_option maxRecDepth 100000 in
theorem ti_14_16 : dp_tab 14 16 = (.iload_n 3, 1) := by decide +kernel
set_option maxRecDepth 100000 in
theorem ti_14_17 : dp_tab 14 17 = (.iaload, 1) := by decide +kernel
set_option maxRecDepth 100000 in
theorem ti_14_18 : dp_tab 14 18 = (.ifCond .le 6, 3) := by decide +kernel
set_option maxRecDepth 100000 in
theorem ti_14_21 : dp_tab 14 21 = (.iinc 2 1, 3) := by decide +kernel
set_option maxRecDepth 100000 in
theorem ti_14_24 : dp_tab 14 24 = (.iinc 3 1, 3) := by decide +kernel
set_option maxRecDepth 100000 in
theorem ti_14_27 : dp_tab 14 27 = (.goto (-23), 3) := by decide +kernel
set_option maxRecDepth 100000 in
theorem ti_14_30 : dp_tab 14 30 = (.iload_n 2, 1) := by decide +kernel
set_option maxRecDepth 100000 in
theorem ti_14_31 : dp_tab 14 31 = (.ireturn, 1) := by decide +kernel
set_option maxRecDepth 100000 in
theorem ti_15_0 : dp_tab 15 0 = (.iconst 0, 1) := by decide +kernel
set_option maxRecDepth 100000 in
theorem ti_15_1 : dp_tab 15 1 = (.istore_n 1, 1) := by decide +kernel
set_option maxRecDepth 100000 in
theorem ti_15_2 : dp_tab 15 2 = (.iconst 0, 1) := by decide +kernel
set_option maxRecDepth 100000 in
theorem ti_15_3 : dp_tab 15 3 = (.istore_n 2, 1) := by decide +kernel
set_option maxRecDepth 100000 in
theorem ti_15_4 : dp_tab 15 4 = (.iload_n 2, 1) := by decide +kernel
set_option maxRecDepth 100000 in
theorem ti_15_5 : dp_tab 15 5 = (.bipush 20, 2) := by decide +kernel
set_option maxRecDepth 100000 in
theorem ti_15_7 : dp_tab 15 7 = (.if_icmp .ge 21, 3) := by decide +kernel
set_option maxRecDepth 100000 in
theorem ti_15_10 : dp_tab 15 10 = (.aload_n 0, 1) := by decide +kernel
set_option maxRecDepth 100000 in
theorem ti_15_11 : dp_tab 15 11 = (.getfield 26, 3) := by decide +kernel
set_option maxRecDepth 100000 in
theorem ti_15_14 : dp_tab 15 14 = (.iload_n 2, 1) := by decide +kernel
set_option maxRecDepth 100000 in
theorem ti_15_15 : dp_tab 15 15 = (.iaload, 1) := by decide +kernel
set_option maxRecDepth 100000 in
theorem ti_15_16 : dp_tab 15 16 = (.ifCond .le 6, 3) := by decide +kernel
set_option maxRecDepth 100000 in
theorem ti_15_19 : dp_tab 15 19 = (.iinc 1 1, 3) := by decide +kernel
set_option maxRecDepth 100000 in
theorem ti_15_22 : dp_tab 15 22 = (.iinc 2 1, 3) := by decide +kernel
set_option maxRecDepth 100000 in
theorem ti_15_25 : dp_tab 15 25 = (.goto (-21), 3) := by decide +kernel
set_option maxRecDepth 100000 in
theorem ti_15_28 : dp_tab 15 28 = (.iload_n 1, 1) := by decide +kernel
set_option maxRecDepth 100000 in
theorem ti_15_29 : dp_tab 15 29 = (.ireturn, 1) := by decide +kernel
set_option maxRecDepth 100000 in
theorem ti_16_0 : dp_tab 16 0 = (.iconst 0, 1) := by decide +kernel
set_option maxRecDepth 100000 in
theorem ti_16_1 : dp_tab 16 1 = (.istore_n 1, 1) := by decide +kernel
set_option maxRecDepth 100000 in
theorem ti_16_2 : dp_tab 16 2 = (.iconst 0, 1) := by decide +kernel
set_option maxRecDepth 100000 in
theorem ti_16_3 : dp_tab 16 3 = (.istore_n 2, 1) := by decide +kernel
set_option maxRecDepth 100000 in
theorem ti_16_4 : dp_tab 16 4 = (.iload_n 2, 1) := by decide +kernel
set_option maxRecDepth 100000 in
theorem ti_16_5 : dp_tab 16 5 = (.aload_n 0, 1) := by decide +kernel
set_option maxRecDepth 100000 in
theorem ti_16_6 : dp_tab 16 6 = (.getfield 35, 3) := by decide +kernel
set_option maxRecDepth 100000 in
theorem ti_16_9 : dp_tab 16 9 = (.if_icmp .ge 18, 3) := by decide +kernel
set_option maxRecDepth 100000 in
theorem ti_16_12 : dp_tab 16 12 = (.iload_n 1, 1) := by decide +kernel
set_option maxRecDepth 100000 in
theorem ti_16_13 : dp_tab 16 13 = (.aload_n 0, 1) := by decide +kernel
set_option maxRecDepth 100000 in
theorem ti_16_14 : dp_tab 16 14 = (.getfield 20, 3) := by decide +kernel
set_option maxRecDepth 100000 in
theorem ti_16_17 : dp_tab 16 17 = (.iload_n 2, 1) := by decide +kernel
set_option maxRecDepth 100000 in
theorem ti_16_18 : dp_tab 16 18 = (.iaload, 1) := by decide +kernel
set_option maxRecDepth 100000 in
theorem ti_16_19 : dp_tab 16 19 = (.iadd, 1) := by decide +kernel
set_option maxRecDepth 100000 in
theorem ti_16_20 : dp_tab 16 20 = (.istore_n 1, 1) := by decide +kernel
set_option maxRecDepth 100000 in
theorem ti_16_21 : dp_tab 16 21 = (.iinc 2 1, 3) := by decide +kernel
set_option maxRecDepth 100000 in
theorem ti_16_24 : dp_tab 16 24 = (.goto (-20), 3) := by decide +kernel
set_option maxRecDepth 100000 in
theorem ti_16_27 : dp_tab 16 27 = (.iload_n 1, 1) := by decide +kernel
set_option maxRecDepth 100000 in
theorem ti_16_28 : dp_tab 16 28 = (.ireturn, 1) := by decide +kernel
set_option maxRecDepth 100000 in
theorem ti_17_0 : dp_tab 17 0 = (.iload_n 1, 1) := by decide +kernel
set_option maxRecDepth 100000 in
theorem ti_17_1 : dp_tab 17 1 = (.invokestatic 37, 3) := by decide +kernel
set_option maxRecDepth 100000 in
theorem ti_17_4 : dp_tab 17 4 = (.iload_n 2, 1) := by decide +kernel
set_option maxRecDepth 100000 in
theorem ti_17_5 : dp_tab 17 5 = (.invokestatic 41, 3) := by decide +kernel
set_option maxRecDepth 100000 in
theorem ti_17_8 : dp_tab 17 8 = (.aload_n 0, 1) := by decide +kernel
set_option maxRecDepth 100000 in
theorem ti_17_9 : dp_tab 17 9 = (.getfield 10, 3) := by decide +kernel
set_option maxRecDepth 100000 in
theorem ti_17_12 : dp_tab 17 12 = (.getfield 44, 3) := by decide +kernel
set_option maxRecDepth 100000 in
theorem ti_17_15 : dp_tab 17 15 = (.iload_n 1, 1) := by decide +kernel
set_option maxRecDepth 100000 in
theorem ti_17_16 : dp_tab 17 16 = (.iaload, 1) := by decide +kernel
set_option maxRecDepth 100000 in
theorem ti_17_17 : dp_tab 17 17 = (.istore_n 3, 1) := by decide +kernel
set_option maxRecDepth 100000 in
theorem ti_17_18 : dp_tab 17 18 = (.aload_n 0, 1) := by decide +kernel
set_option maxRecDepth 100000 in
theorem ti_17_19 : dp_tab 17 19 = (.getfield 10, 3) := by decide +kernel
set_option maxRecDepth 100000 in
theorem ti_17_22 : dp_tab 17 22 = (.getfield 44, 3) := by decide +kernel
set_option maxRecDepth 100000 in
theorem ti_17_25 : dp_tab 17 25 = (.iload_n 1, 1) := by decide +kernel
set_option maxRecDepth 100000 in
theorem ti_17_26 : dp_tab 17 26 = (.iload_n 2, 1) := by decide +kernel
set_option maxRecDepth 100000 in
theorem ti_17_27 : dp_tab 17 27 = (.iastore, 1) := by decide +kernel
set_option maxRecDepth 100000 in
theorem ti_17_28 : dp_tab 17 28 = (.aload_n 0, 1) := by decide +kernel
set_option maxRecDepth 100000 in
theorem ti_17_29 : dp_tab 17 29 = (.getfield 10, 3) := by decide +kernel
set_option maxRecDepth 100000 in
theorem ti_17_32 : dp_tab 17 32 = (.invokevirtual 47, 3) := by decide +kernel
set_option maxRecDepth 100000 in
theorem ti_17_35 : dp_tab 17 35 = (.iload_n 3, 1) := by decide +kernel
set_option maxRecDepth 100000 in
theorem ti_17_36 : dp_tab 17 36 = (.ireturn, 1) := by decide +kernel
set_option maxRecDepth 100000 in
theorem ti_18_0 : dp_tab 18 0 = (.aload_n 0, 1) := by decide +kernel
set_option maxRecDepth 100000 in
theorem ti_18_1 : dp_tab 18 1 = (.getfield 10, 3) := by decide +kernel
set_option maxRecDepth 100000 in
theorem ti_18_4 : dp_tab 18 4 = (.getfield 50, 3) := by decide +kernel
set_option maxRecDepth 100000 in
theorem ti_18_7 : dp_tab 18 7 = (.bipush 16, 2) := by decide +kernel
set_option maxRecDepth 100000 in
theorem ti_18_9 : dp_tab 18 9 = (.if_icmp .lt 13, 3) := by decide +kernel
set_option maxRecDepth 100000 in
theorem ti_18_12 : dp_tab 18 12 = (.new 54, 3) := by decide +kernel
set_option maxRecDepth 100000 in
theorem ti_18_15 : dp_tab 18 15 = (.dup, 1) := by decide +kernel
set_option maxRecDepth 100000 in
theorem ti_18_16 : dp_tab 18 16 = (.ldc 56, 2) := by decide +kernel
set_option maxRecDepth 100000 in
theorem ti_18_18 : dp_tab 18 18 = (.invokespecial 58, 3) := by decide +kernel
set_option maxRecDepth 100000 in
theorem ti_18_21 : dp_tab 18 21 = (.athrow, 1) := by decide +kernel
set_option maxRecDepth 100000 in
theorem ti_18_22 : dp_tab 18 22 = (.aload_n 0, 1) := by decide +kernel
set_option maxRecDepth 100000 in
theorem ti_18_23 : dp_tab 18 23 = (.getfield 10, 3) := by decide +kernel
set_option maxRecDepth 100000 in
theorem ti_18_26 : dp_tab 18 26 = (.dup, 1) := by decide +kernel
set_option maxRecDepth 100000 in
theorem ti_18_27 : dp_tab 18 27 = (.getfield 50, 3) := by decide +kernel
set_option maxRecDepth 100000 in
theorem ti_18_30 : dp_tab 18 30 = (.iconst 1, 1) := by decide +kernel
set_option maxRecDepth 100000 in
theorem ti_18_31 : dp_tab 18 31 = (.iadd, 1) := by decide +kernel
set_option maxRecDepth 100000 in
theorem ti_18_32 : dp_tab 18 32 = (.putfield 50, 3) := by decide +kernel
set_option maxRecDepth 100000 in
theorem ti_18_35 : dp_tab 18 35 = (.aload_n 0, 1) := by decide +kernel
set_option maxRecDepth 100000 in
theorem ti_18_36 : dp_tab 18 36 = (.getfield 10, 3) := by decide +kernel
set_option maxRecDepth 100000 in
theorem ti_18_39 : dp_tab 18 39 = (.getfield 50, 3) := by decide +kernel
set_option maxRecDepth 100000 in
theorem ti_18_42 : dp_tab 18 42 = (.iconst 1, 1) := by decide +kernel
set_option maxRecDepth 100000 in
theorem ti_18_43 : dp_tab 18 43 = (.isub, 1) := by decide +kernel
set_option maxRecDepth 100000 in
theorem ti_18_44 : dp_tab 18 44 = (.ireturn, 1) := by decide +kernel
set_option maxRecDepth 100000 in
theorem ti_19_0 : dp_tab 19 0 = (.aload_n 0, 1) := by decide +kernel
set_option maxRecDepth 100000 in
theorem ti_19_1 : dp_tab 19 1 = (.iload_n 1, 1) := by decide +kernel
set_option maxRecDepth 100000 in
theorem ti_19_2 : dp_tab 19 2 = (.invokevirtual 61, 3) := by decide +kernel
set_option maxRecDepth 100000 in
theorem ti_19_5 : dp_tab 19 5 = (.iload_n 2, 1) := by decide +kernel
set_option maxRecDepth 100000 in
theorem ti_19_6 : dp_tab 19 6 = (.invokestatic 37, 3) := by decide +kernel
set_option maxRecDepth 100000 in
theorem ti_19_9 : dp_tab 19 9 = (.aload_n 0, 1) := by decide +kernel
set_option maxRecDepth 100000 in
theorem ti_19_10 : dp_tab 19 10 = (.getfield 10, 3) := by decide +kernel
set_option maxRecDepth 100000 in
theorem ti_19_13 : dp_tab 19 13 = (.getfield 64, 3) := by decide +kernel
set_option maxRecDepth 100000 in
theorem ti_19_16 : dp_tab 19 16 = (.iload_n 1, 1) := by decide +kernel
set_option maxRecDepth 100000 in
theorem ti_19_17 : dp_tab 19 17 = (.iaload, 1) := by decide +kernel
set_option maxRecDepth 100000 in
theorem ti_19_18 : dp_tab 19 18 = (.istore_n 3, 1) := by decide +kernel
set_option maxRecDepth 100000 in
theorem ti_19_19 : dp_tab 19 19 = (.iload_n 3, 1) := by decide +kernel
set_option maxRecDepth 100000 in
theorem ti_19_20 : dp_tab 19 20 = (.bipush 12, 2) := by decide +kernel
set_option maxRecDepth 100000 in
theorem ti_19_22 : dp_tab 19 22 = (.if_icmp .lt 13, 3) := by decide +kernel
set_option maxRecDepth 100000 in
theorem ti_19_25 : dp_tab 19 25 = (.new 54, 3) := by decide +kernel
set_option maxRecDepth 100000 in
theorem ti_19_28 : dp_tab 19 28 = (.dup, 1) := by decide +kernel
set_option maxRecDepth 100000 in
theorem ti_19_29 : dp_tab 19 29 = (.ldc 67, 2) := by decide +kernel
set_option maxRecDepth 100000 in
theorem ti_19_31 : dp_tab 19 31 = (.invokespecial 58, 3) := by decide +kernel
set_option maxRecDepth 100000 in
theorem ti_19_34 : dp_tab 19 34 = (.athrow, 1) := by decide +kernel
set_option maxRecDepth 100000 in
theorem ti_19_35 : dp_tab 19 35 = (.aload_n 0, 1) := by decide +kernel
set_option maxRecDepth 100000 in
theorem ti_19_36 : dp_tab 19 36 = (.getfield 10, 3) := by decide +kernel
set_option maxRecDepth 100000 in
theorem ti_19_39 : dp_tab 19 39 = (.getfield 69, 3) := by decide +kernel
set_option maxRecDepth 100000 in
theorem ti_19_42 : dp_tab 19 42 = (.iload_n 1, 1) := by decide +kernel
set_option maxRecDepth 100000 in
theorem ti_19_43 : dp_tab 19 43 = (.aaload, 1) := by decide +kernel
set_option maxRecDepth 100000 in
theorem ti_19_44 : dp_tab 19 44 = (.iload_n 3, 1) := by decide +kernel
set_option maxRecDepth 100000 in
theorem ti_19_45 : dp_tab 19 45 = (.iload_n 2, 1) := by decide +kernel
set_option maxRecDepth 100000 in
theorem ti_19_46 : dp_tab 19 46 = (.iastore, 1) := by decide +kernel
set_option maxRecDepth 100000 in
theorem ti_19_47 : dp_tab 19 47 = (.aload_n 0, 1) := by decide +kernel
set_option maxRecDepth 100000 in
theorem ti_19_48 : dp_tab 19 48 = (.getfield 10, 3) := by decide +kernel
set_option maxRecDepth 100000 in
theorem ti_19_51 : dp_tab 19 51 = (.getfield 64, 3) := by decide +kernel
set_option maxRecDepth 100000 in
theorem ti_19_54 : dp_tab 19 54 = (.iload_n 1, 1) := by decide +kernel
set_option maxRecDepth 100000 in
theorem ti_19_55 : dp_tab 19 55 = (.iload_n 3, 1) := by decide +kernel
set_option maxRecDepth 100000 in
theorem ti_19_56 : dp_tab 19 56 = (.iconst 1, 1) := by decide +kernel
set_option maxRecDepth 100000 in
theorem ti_19_57 : dp_tab 19 57 = (.iadd, 1) := by decide +kernel
set_option maxRecDepth 100000 in
theorem ti_19_58 : dp_tab 19 58 = (.iastore, 1) := by decide +kernel
set_option maxRecDepth 100000 in
theorem ti_19_59 : dp_tab 19 59 = (.aload_n 0, 1) := by decide +kernel
set_option maxRecDepth 100000 in
theorem ti_19_60 : dp_tab 19 60 = (.getfield 10, 3) := by decide +kernel
set_option maxRecDepth 100000 in
theorem ti_19_63 : dp_tab 19 63 = (.invokevirtual 47, 3) := by decide +kernel
set_option maxRecDepth 100000 in
theorem ti_19_66 : dp_tab 19 66 = (.iload_n 3, 1) := by decide +kernel
set_option maxRecDepth 100000 in
theorem ti_19_67 : dp_tab 19 67 = (.iconst 1, 1) := by decide +kernel
set_option maxRecDepth 100000 in
theorem ti_19_68 : dp_tab 19 68 = (.iadd, 1) := by decide +kernel
set_option maxRecDepth 100000 in
theorem ti_19_69 : dp_tab 19 69 = (.ireturn, 1) := by decide +kernel
set_option maxRecDepth 100000 in
theorem ti_20_0 : dp_tab 20 0 = (.aload_n 0, 1) := by decide +kernel
set_option maxRecDepth 100000 in
theorem ti_20_1 : dp_tab 20 1 = (.iload_n 1, 1) := by decide +kernel
set_option maxRecDepth 100000 in
theorem ti_20_2 : dp_tab 20 2 = (.invokevirtual 61, 3) := by decide +kernel
set_option maxRecDepth 100000 in
theorem ti_20_5 : dp_tab 20 5 = (.iload_n 2, 1) := by decide +kernel
set_option maxRecDepth 100000 in
theorem ti_20_6 : dp_tab 20 6 = (.aload_n 0, 1) := by decide +kernel
set_option maxRecDepth 100000 in
theorem ti_20_7 : dp_tab 20 7 = (.getfield 10, 3) := by decide +kernel
set_option maxRecDepth 100000 in
theorem ti_20_10 : dp_tab 20 10 = (.getfield 64, 3) := by decide +kernel
set_option maxRecDepth 100000 in
theorem ti_20_13 : dp_tab 20 13 = (.iload_n 1, 1) := by decide +kernel
set_option maxRecDepth 100000 in
theorem ti_20_14 : dp_tab 20 14 = (.iaload, 1) := by decide +kernel
set_option maxRecDepth 100000 in
theorem ti_20_15 : dp_tab 20 15 = (.invokestatic 73, 3) := by decide +kernel
set_option maxRecDepth 100000 in
theorem ti_20_18 : dp_tab 20 18 = (.aload_n 0, 1) := by decide +kernel
set_option maxRecDepth 100000 in
theorem ti_20_19 : dp_tab 20 19 = (.getfield 10, 3) := by decide +kernel
set_option maxRecDepth 100000 in
theorem ti_20_22 : dp_tab 20 22 = (.getfield 69, 3) := by decide +kernel
set_option maxRecDepth 100000 in
theorem ti_20_25 : dp_tab 20 25 = (.iload_n 1, 1) := by decide +kernel
set_option maxRecDepth 100000 in
theorem ti_20_26 : dp_tab 20 26 = (.aaload, 1) := by decide +kernel
set_option maxRecDepth 100000 in
theorem ti_20_27 : dp_tab 20 27 = (.iload_n 2, 1) := by decide +kernel
set_option maxRecDepth 100000 in
theorem ti_20_28 : dp_tab 20 28 = (.iaload, 1) := by decide +kernel
set_option maxRecDepth 100000 in
theorem ti_20_29 : dp_tab 20 29 = (.istore_n 3, 1) := by decide +kernel
set_option maxRecDepth 100000 in
theorem ti_20_30 : dp_tab 20 30 = (.aload_n 0, 1) := by decide +kernel
set_option maxRecDepth 100000 in
theorem ti_20_31 : dp_tab 20 31 = (.getfield 10, 3) := by decide +kernel
set_option maxRecDepth 100000 in
theorem ti_20_34 : dp_tab 20 34 = (.getfield 64, 3) := by decide +kernel
set_option maxRecDepth 100000 in
theorem ti_20_37 : dp_tab 20 37 = (.iload_n 1, 1) := by decide +kernel
set_option maxRecDepth 100000 in
theorem ti_20_38 : dp_tab 20 38 = (.aload_n 0, 1) := by decide +kernel
set_option maxRecDepth 100000 in
theorem ti_20_39 : dp_tab 20 39 = (.getfield 10, 3) := by decide +kernel
set_option maxRecDepth 100000 in
theorem ti_20_42 : dp_tab 20 42 = (.getfield 69, 3) := by decide +kernel
set_option maxRecDepth 100000 in
theorem ti_20_45 : dp_tab 20 45 = (.iload_n 1, 1) := by decide +kernel
set_option maxRecDepth 100000 in
theorem ti_20_46 : dp_tab 20 46 = (.aaload, 1) := by decide +kernel
set_option maxRecDepth 100000 in
theorem ti_20_47 : dp_tab 20 47 = (.aload_n 0, 1) := by decide +kernel
set_option maxRecDepth 100000 in
theorem ti_20_48 : dp_tab 20 48 = (.getfield 10, 3) := by decide +kernel
set_option maxRecDepth 100000 in
theorem ti_20_51 : dp_tab 20 51 = (.getfield 64, 3) := by decide +kernel
set_option maxRecDepth 100000 in
theorem ti_20_54 : dp_tab 20 54 = (.iload_n 1, 1) := by decide +kernel
set_option maxRecDepth 100000 in
theorem ti_20_55 : dp_tab 20 55 = (.iaload, 1) := by decide +kernel
set_option maxRecDepth 100000 in
theorem ti_20_56 : dp_tab 20 56 = (.iload_n 2, 1) := by decide +kernel
set_option maxRecDepth 100000 in
theorem ti_20_57 : dp_tab 20 57 = (.invokestatic 77, 3) := by decide +kernel
set_option maxRecDepth 100000 in
theorem ti_20_60 : dp_tab 20 60 = (.iastore, 1) := by decide +kernel
set_option maxRecDepth 100000 in
theorem ti_20_61 : dp_tab 20 61 = (.aload_n 0, 1) := by decide +kernel
set_option maxRecDepth 100000 in
theorem ti_20_62 : dp_tab 20 62 = (.getfield 10, 3) := by decide +kernel
set_option maxRecDepth 100000 in
theorem ti_20_65 : dp_tab 20 65 = (.invokevirtual 47, 3) := by decide +kernel
set_option maxRecDepth 100000 in
theorem ti_20_68 : dp_tab 20 68 = (.iload_n 3, 1) := by decide +kernel
set_option maxRecDepth 100000 in
theorem ti_20_69 : dp_tab 20 69 = (.ireturn, 1) := by decide +kernel
set_option maxRecDepth 100000 in
theorem ti_21_0 : dp_tab 21 0 = (.iload_n 1, 1) := by decide +kernel
set_option maxRecDepth 100000 in
theorem ti_21_1 : dp_tab 21 1 = (.ifCond .lt 10, 3) := by decide +kernel
set_option maxRecDepth 100000 in
theorem ti_21_4 : dp_tab 21 4 = (.iload_n 1, 1) := by decide +kernel
set_option maxRecDepth 100000 in
theorem ti_21_5 : dp_tab 21 5 = (.sipush 999, 3) := by decide +kernel
set_option maxRecDepth 100000 in
theorem ti_21_8 : dp_tab 21 8 = (.if_icmp .le 13, 3) := by decide +kernel
set_option maxRecDepth 100000 in
theorem ti_21_11 : dp_tab 21 11 = (.new 81, 3) := by decide +kernel
set_option maxRecDepth 100000 in
theorem ti_21_14 : dp_tab 21 14 = (.dup, 1) := by decide +kernel
set_option maxRecDepth 100000 in
theorem ti_21_15 : dp_tab 21 15 = (.ldc 83, 2) := by decide +kernel
set_option maxRecDepth 100000 in
theorem ti_21_17 : dp_tab 21 17 = (.invokespecial 85, 3) := by decide +kernel
set_option maxRecDepth 100000 in
theorem ti_21_20 : dp_tab 21 20 = (.athrow, 1) := by decide +kernel
set_option maxRecDepth 100000 in
theorem ti_21_21 : dp_tab 21 21 = (.aload_n 0, 1) := by decide +kernel
set_option maxRecDepth 100000 in
theorem ti_21_22 : dp_tab 21 22 = (.getfield 19, 3) := by decide +kernel
set_option maxRecDepth 100000 in
theorem ti_21_25 : dp_tab 21 25 = (.getfield 86, 3) := by decide +kernel
set_option maxRecDepth 100000 in
theorem ti_21_28 : dp_tab 21 28 = (.istore_n 2, 1) := by decide +kernel
set_option maxRecDepth 100000 in
theorem ti_21_29 : dp_tab 21 29 = (.iload_n 2, 1) := by decide +kernel
set_option maxRecDepth 100000 in
theorem ti_21_30 : dp_tab 21 30 = (.bipush 6, 2) := by decide +kernel
set_option maxRecDepth 100000 in
theorem ti_21_32 : dp_tab 21 32 = (.if_icmp .lt 13, 3) := by decide +kernel
set_option maxRecDepth 100000 in
theorem ti_21_35 : dp_tab 21 35 = (.new 54, 3) := by decide +kernel
set_option maxRecDepth 100000 in
theorem ti_21_38 : dp_tab 21 38 = (.dup, 1) := by decide +kernel
set_option maxRecDepth 100000 in
theorem ti_21_39 : dp_tab 21 39 = (.ldc 89, 2) := by decide +kernel
set_option maxRecDepth 100000 in
theorem ti_21_41 : dp_tab 21 41 = (.invokespecial 58, 3) := by decide +kernel
set_option maxRecDepth 100000 in
theorem ti_21_44 : dp_tab 21 44 = (.athrow, 1) := by decide +kernel
set_option maxRecDepth 100000 in
theorem ti_21_45 : dp_tab 21 45 = (.aload_n 0, 1) := by decide +kernel
set_option maxRecDepth 100000 in
theorem ti_21_46 : dp_tab 21 46 = (.getfield 26, 3) := by decide +kernel
set_option maxRecDepth 100000 in
theorem ti_21_49 : dp_tab 21 49 = (.getfield 91, 3) := by decide +kernel
set_option maxRecDepth 100000 in
theorem ti_21_52 : dp_tab 21 52 = (.iload_n 2, 1) := by decide +kernel
set_option maxRecDepth 100000 in
theorem ti_21_53 : dp_tab 21 53 = (.iload_n 1, 1) := by decide +kernel
set_option maxRecDepth 100000 in
theorem ti_21_54 : dp_tab 21 54 = (.iastore, 1) := by decide +kernel
set_option maxRecDepth 100000 in
theorem ti_21_55 : dp_tab 21 55 = (.aload_n 0, 1) := by decide +kernel
set_option maxRecDepth 100000 in
theorem ti_21_56 : dp_tab 21 56 = (.getfield 19, 3) := by decide +kernel
set_option maxRecDepth 100000 in
theorem ti_21_59 : dp_tab 21 59 = (.iload_n 2, 1) := by decide +kernel
set_option maxRecDepth 100000 in
theorem ti_21_60 : dp_tab 21 60 = (.iconst 1, 1) := by decide +kernel
set_option maxRecDepth 100000 in
theorem ti_21_61 : dp_tab 21 61 = (.iadd, 1) := by decide +kernel
set_option maxRecDepth 100000 in
theorem ti_21_62 : dp_tab 21 62 = (.putfield 86, 3) := by decide +kernel
set_option maxRecDepth 100000 in
theorem ti_21_65 : dp_tab 21 65 = (.iload_n 2, 1) := by decide +kernel
set_option maxRecDepth 100000 in
theorem ti_21_66 : dp_tab 21 66 = (.ireturn, 1) := by decide +kernel
set_option maxRecDepth 100000 in
theorem ti_22_0 : dp_tab 22 0 = (.aload_n 0, 1) := by decide +kernel
set_option maxRecDepth 100000 in
theorem ti_22_1 : dp_tab 22 1 = (.iload_n 1, 1) := by decide +kernel
set_option maxRecDepth 100000 in
theorem ti_22_2 : dp_tab 22 2 = (.invokevirtual 94, 3) := by decide +kernel
set_option maxRecDepth 100000 in
theorem ti_22_5 : dp_tab 22 5 = (.iload_n 2, 1) := by decide +kernel
set_option maxRecDepth 100000 in
theorem ti_22_6 : dp_tab 22 6 = (.invokestatic 41, 3) := by decide +kernel
set_option maxRecDepth 100000 in
theorem ti_22_9 : dp_tab 22 9 = (.aload_n 0, 1) := by decide +kernel
set_option maxRecDepth 100000 in
theorem ti_22_10 : dp_tab 22 10 = (.getfield 19, 3) := by decide +kernel
set_option maxRecDepth 100000 in
theorem ti_22_13 : dp_tab 22 13 = (.getfield 97, 3) := by decide +kernel
set_option maxRecDepth 100000 in
theorem ti_22_16 : dp_tab 22 16 = (.iload_n 1, 1) := by decide +kernel
set_option maxRecDepth 100000 in
theorem ti_22_17 : dp_tab 22 17 = (.iaload, 1) := by decide +kernel
set_option maxRecDepth 100000 in
theorem ti_22_18 : dp_tab 22 18 = (.istore_n 3, 1) := by decide +kernel
set_option maxRecDepth 100000 in
theorem ti_22_19 : dp_tab 22 19 = (.iload_n 3, 1) := by decide +kernel
set_option maxRecDepth 100000 in
theorem ti_22_20 : dp_tab 22 20 = (.iconst 5, 1) := by decide +kernel
set_option maxRecDepth 100000 in
theorem ti_22_21 : dp_tab 22 21 = (.if_icmp .lt 13, 3) := by decide +kernel
set_option maxRecDepth 100000 in
theorem ti_22_24 : dp_tab 22 24 = (.new 54, 3) := by decide +kernel
set_option maxRecDepth 100000 in
theorem ti_22_27 : dp_tab 22 27 = (.dup, 1) := by decide +kernel
set_option maxRecDepth 100000 in
theorem ti_22_28 : dp_tab 22 28 = (.ldc 100, 2) := by decide +kernel
set_option maxRecDepth 100000 in
theorem ti_22_30 : dp_tab 22 30 = (.invokespecial 58, 3) := by decide +kernel
set_option maxRecDepth 100000 in
theorem ti_22_33 : dp_tab 22 33 = (.athrow, 1) := by decide +kernel
set_option maxRecDepth 100000 in
theorem ti_22_34 : dp_tab 22 34 = (.aload_n 0, 1) := by decide +kernel
set_option maxRecDepth 100000 in
theorem ti_22_35 : dp_tab 22 35 = (.getfield 19, 3) := by decide +kernel
set_option maxRecDepth 100000 in
theorem ti_22_38 : dp_tab 22 38 = (.iload_n 1, 1) := by decide +kernel
set_option maxRecDepth 100000 in
theorem ti_22_39 : dp_tab 22 39 = (.iload_n 2, 1) := by decide +kernel
set_option maxRecDepth 100000 in
theorem ti_22_40 : dp_tab 22 40 = (.invokevirtual 102, 3) := by decide +kernel
set_option maxRecDepth 100000 in
theorem ti_22_43 : dp_tab 22 43 = (.iconst (-1), 1) := by decide +kernel
set_option maxRecDepth 100000 in
theorem ti_22_44 : dp_tab 22 44 = (.if_icmp .eq 13, 3) := by decide +kernel
set_option maxRecDepth 100000 in
theorem ti_22_47 : dp_tab 22 47 = (.new 54, 3) := by decide +kernel
set_option maxRecDepth 100000 in
theorem ti_22_50 : dp_tab 22 50 = (.dup, 1) := by decide +kernel
set_option maxRecDepth 100000 in
theorem ti_22_51 : dp_tab 22 51 = (.ldc 106, 2) := by decide +kernel
set_option maxRecDepth 100000 in
theorem ti_22_53 : dp_tab 22 53 = (.invokespecial 58, 3) := by decide +kernel
set_option maxRecDepth 100000 in
theorem ti_22_56 : dp_tab 22 56 = (.athrow, 1) := by decide +kernel
set_option maxRecDepth 100000 in
theorem ti_22_57 : dp_tab 22 57 = (.aload_n 0, 1) := by decide +kernel
set_option maxRecDepth 100000 in
theorem ti_22_58 : dp_tab 22 58 = (.getfield 19, 3) := by decide +kernel
set_option maxRecDepth 100000 in
theorem ti_22_61 : dp_tab 22 61 = (.getfield 108, 3) := by decide +kernel
set_option maxRecDepth 100000 in
theorem ti_22_64 : dp_tab 22 64 = (.iload_n 1, 1) := by decide +kernel
set_option maxRecDepth 100000 in
theorem ti_22_65 : dp_tab 22 65 = (.aaload, 1) := by decide +kernel
set_option maxRecDepth 100000 in
theorem ti_22_66 : dp_tab 22 66 = (.iload_n 3, 1) := by decide +kernel
set_option maxRecDepth 100000 in
theorem ti_22_67 : dp_tab 22 67 = (.iload_n 2, 1) := by decide +kernel
set_option maxRecDepth 100000 in
theorem ti_22_68 : dp_tab 22 68 = (.iastore, 1) := by decide +kernel
set_option maxRecDepth 100000 in
theorem ti_22_69 : dp_tab 22 69 = (.aload_n 0, 1) := by decide +kernel
set_option maxRecDepth 100000 in
theorem ti_22_70 : dp_tab 22 70 = (.getfield 19, 3) := by decide +kernel
set_option maxRecDepth 100000 in
theorem ti_22_73 : dp_tab 22 73 = (.getfield 97, 3) := by decide +kernel
set_option maxRecDepth 100000 in
theorem ti_22_76 : dp_tab 22 76 = (.iload_n 1, 1) := by decide +kernel
set_option maxRecDepth 100000 in
theorem ti_22_77 : dp_tab 22 77 = (.iload_n 3, 1) := by decide +kernel
set_option maxRecDepth 100000 in
theorem ti_22_78 : dp_tab 22 78 = (.iconst 1, 1) := by decide +kernel
set_option maxRecDepth 100000 in
theorem ti_22_79 : dp_tab 22 79 = (.iadd, 1) := by decide +kernel
set_option maxRecDepth 100000 in
theorem ti_22_80 : dp_tab 22 80 = (.iastore, 1) := by decide +kernel
set_option maxRecDepth 100000 in
theorem ti_22_81 : dp_tab 22 81 = (.iload_n 3, 1) := by decide +kernel
set_option maxRecDepth 100000 in
theorem ti_22_82 : dp_tab 22 82 = (.iconst 1, 1) := by decide +kernel
set_option maxRecDepth 100000 in
theorem ti_22_83 : dp_tab 22 83 = (.iadd, 1) := by decide +kernel
set_option maxRecDepth 100000 in
theorem ti_22_84 : dp_tab 22 84 = (.ireturn, 1) := by decide +kernel
set_option maxRecDepth 100000 in
theorem ti_23_0 : dp_tab 23 0 = (.aload_n 0, 1) := by decide +kernel
set_option maxRecDepth 100000 in
theorem ti_23_1 : dp_tab 23 1 = (.iload_n 1, 1) := by decide +kernel
set_option maxRecDepth 100000 in
theorem ti_23_2 : dp_tab 23 2 = (.invokevirtual 94, 3) := by decide +kernel
set_option maxRecDepth 100000 in
theorem ti_23_5 : dp_tab 23 5 = (.iload_n 2, 1) := by decide +kernel
set_option maxRecDepth 100000 in
theorem ti_23_6 : dp_tab 23 6 = (.invokestatic 41, 3) := by decide +kernel
set_option maxRecDepth 100000 in
theorem ti_23_9 : dp_tab 23 9 = (.aload_n 0, 1) := by decide +kernel
set_option maxRecDepth 100000 in
theorem ti_23_10 : dp_tab 23 10 = (.getfield 19, 3) := by decide +kernel
set_option maxRecDepth 100000 in
theorem ti_23_13 : dp_tab 23 13 = (.iload_n 1, 1) := by decide +kernel
set_option maxRecDepth 100000 in
theorem ti_23_14 : dp_tab 23 14 = (.iload_n 2, 1) := by decide +kernel
set_option maxRecDepth 100000 in
theorem ti_23_15 : dp_tab 23 15 = (.invokevirtual 102, 3) := by decide +kernel
set_option maxRecDepth 100000 in
theorem ti_23_18 : dp_tab 23 18 = (.istore_n 3, 1) := by decide +kernel
set_option maxRecDepth 100000 in
theorem ti_23_19 : dp_tab 23 19 = (.iload_n 3, 1) := by decide +kernel
set_option maxRecDepth 100000 in
theorem ti_23_20 : dp_tab 23 20 = (.iconst (-1), 1) := by decide +kernel
set_option maxRecDepth 100000 in
theorem ti_23_21 : dp_tab 23 21 = (.if_icmp .ne 13, 3) := by decide +kernel
set_option maxRecDepth 100000 in
theorem ti_23_24 : dp_tab 23 24 = (.new 54, 3) := by decide +kernel
set_option maxRecDepth 100000 in
theorem ti_23_27 : dp_tab 23 27 = (.dup, 1) := by decide +kernel
set_option maxRecDepth 100000 in
theorem ti_23_28 : dp_tab 23 28 = (.ldc 111, 2) := by decide +kernel
set_option maxRecDepth 100000 in
theorem ti_23_30 : dp_tab 23 30 = (.invokespecial 58, 3) := by decide +kernel
set_option maxRecDepth 100000 in
theorem ti_23_33 : dp_tab 23 33 = (.athrow, 1) := by decide +kernel
set_option maxRecDepth 100000 in
theorem ti_23_34 : dp_tab 23 34 = (.aload_n 0, 1) := by decide +kernel
set_option maxRecDepth 100000 in
theorem ti_23_35 : dp_tab 23 35 = (.getfield 19, 3) := by decide +kernel
set_option maxRecDepth 100000 in
theorem ti_23_38 : dp_tab 23 38 = (.getfield 97, 3) := by decide +kernel
set_option maxRecDepth 100000 in
theorem ti_23_41 : dp_tab 23 41 = (.iload_n 1, 1) := by decide +kernel
set_option maxRecDepth 100000 in
theorem ti_23_42 : dp_tab 23 42 = (.aload_n 0, 1) := by decide +kernel
set_option maxRecDepth 100000 in
theorem ti_23_43 : dp_tab 23 43 = (.getfield 19, 3) := by decide +kernel
set_option maxRecDepth 100000 in
theorem ti_23_46 : dp_tab 23 46 = (.getfield 108, 3) := by decide +kernel
set_option maxRecDepth 100000 in
theorem ti_23_49 : dp_tab 23 49 = (.iload_n 1, 1) := by decide +kernel
set_option maxRecDepth 100000 in
theorem ti_23_50 : dp_tab 23 50 = (.aaload, 1) := by decide +kernel
set_option maxRecDepth 100000 in
theorem ti_23_51 : dp_tab 23 51 = (.aload_n 0, 1) := by decide +kernel
set_option maxRecDepth 100000 in
theorem ti_23_52 : dp_tab 23 52 = (.getfield 19, 3) := by decide +kernel
set_option maxRecDepth 100000 in
theorem ti_23_55 : dp_tab 23 55 = (.getfield 97, 3) := by decide +kernel
set_option maxRecDepth 100000 in
theorem ti_23_58 : dp_tab 23 58 = (.iload_n 1, 1) := by decide +kernel
set_option maxRecDepth 100000 in
theorem ti_23_59 : dp_tab 23 59 = (.iaload, 1) := by decide +kernel
set_option maxRecDepth 100000 in
theorem ti_23_60 : dp_tab 23 60 = (.iload_n 3, 1) := by decide +kernel
set_option maxRecDepth 100000 in
theorem ti_23_61 : dp_tab 23 61 = (.invokestatic 77, 3) := by decide +kernel
set_option maxRecDepth 100000 in
theorem ti_23_64 : dp_tab 23 64 = (.iastore, 1) := by decide +kernel
set_option maxRecDepth 100000 in
theorem ti_23_65 : dp_tab 23 65 = (.iload_n 3, 1) := by decide +kernel
set_option maxRecDepth 100000 in
theorem ti_23_66 : dp_tab 23 66 = (.ireturn, 1) := by decide +kernel
set_option maxRecDepth 100000 in
theorem ti_24_0 : dp_tab 24 0 = (.aload_n 0, 1) := by decide +kernel
set_option maxRecDepth 100000 in
theorem ti_24_1 : dp_tab 24 1 = (.iload_n 1, 1) := by decide +kernel
set_option maxRecDepth 100000 in
theorem ti_24_2 : dp_tab 24 2 = (.invokevirtual 94, 3) := by decide +kernel
set_option maxRecDepth 100000 in
theorem ti_24_5 : dp_tab 24 5 = (.iload_n 2, 1) := by decide +kernel
set_option maxRecDepth 100000 in
theorem ti_24_6 : dp_tab 24 6 = (.ifCond .lt 10, 3) := by decide +kernel
set_option maxRecDepth 100000 in
theorem ti_24_9 : dp_tab 24 9 = (.iload_n 2, 1) := by decide +kernel
set_option maxRecDepth 100000 in
theorem ti_24_10 : dp_tab 24 10 = (.sipush 999, 3) := by decide +kernel
set_option maxRecDepth 100000 in
theorem ti_24_13 : dp_tab 24 13 = (.if_icmp .le 13, 3) := by decide +kernel
set_option maxRecDepth 100000 in
theorem ti_24_16 : dp_tab 24 16 = (.new 81, 3) := by decide +kernel
set_option maxRecDepth 100000 in
theorem ti_24_19 : dp_tab 24 19 = (.dup, 1) := by decide +kernel
set_option maxRecDepth 100000 in
theorem ti_24_20 : dp_tab 24 20 = (.ldc 113, 2) := by decide +kernel
set_option maxRecDepth 100000 in
theorem ti_24_22 : dp_tab 24 22 = (.invokespecial 85, 3) := by decide +kernel
set_option maxRecDepth 100000 in
theorem ti_24_25 : dp_tab 24 25 = (.athrow, 1) := by decide +kernel
set_option maxRecDepth 100000 in
theorem ti_24_26 : dp_tab 24 26 = (.aload_n 0, 1) := by decide +kernel
set_option maxRecDepth 100000 in
theorem ti_24_27 : dp_tab 24 27 = (.getfield 19, 3) := by decide +kernel
set_option maxRecDepth 100000 in
theorem ti_24_30 : dp_tab 24 30 = (.getfield 115, 3) := by decide +kernel
set_option maxRecDepth 100000 in
theorem ti_24_33 : dp_tab 24 33 = (.iload_n 1, 1) := by decide +kernel
set_option maxRecDepth 100000 in
theorem ti_24_34 : dp_tab 24 34 = (.iaload, 1) := by decide +kernel
set_option maxRecDepth 100000 in
theorem ti_24_35 : dp_tab 24 35 = (.istore_n 3, 1) := by decide +kernel
set_option maxRecDepth 100000 in
theorem ti_24_36 : dp_tab 24 36 = (.aload_n 0, 1) := by decide +kernel
set_option maxRecDepth 100000 in
theorem ti_24_37 : dp_tab 24 37 = (.getfield 19, 3) := by decide +kernel
set_option maxRecDepth 100000 in
theorem ti_24_40 : dp_tab 24 40 = (.getfield 115, 3) := by decide +kernel
set_option maxRecDepth 100000 in
theorem ti_24_43 : dp_tab 24 43 = (.iload_n 1, 1) := by decide +kernel
set_option maxRecDepth 100000 in
theorem ti_24_44 : dp_tab 24 44 = (.iload_n 2, 1) := by decide +kernel
set_option maxRecDepth 100000 in
theorem ti_24_45 : dp_tab 24 45 = (.iastore, 1) := by decide +kernel
set_option maxRecDepth 100000 in
theorem ti_24_46 : dp_tab 24 46 = (.iload_n 3, 1) := by decide +kernel
set_option maxRecDepth 100000 in
theorem ti_24_47 : dp_tab 24 47 = (.ireturn, 1) := by decide +kernel
set_option maxRecDepth 100000 in
theorem ti_25_0 : dp_tab 25 0 = (.aload_n 0, 1) := by decide +kernel
set_option maxRecDepth 100000 in
theorem ti_25_1 : dp_tab 25 1 = (.iload_n 1, 1) := by decide +kernel
set_option maxRecDepth 100000 in
theorem ti_25_2 : dp_tab 25 2 = (.invokevirtual 94, 3) := by decide +kernel
set_option maxRecDepth 100000 in
theorem ti_25_5 : dp_tab 25 5 = (.iload_n 2, 1) := by decide +kernel
set_option maxRecDepth 100000 in
theorem ti_25_6 : dp_tab 25 6 = (.iconst 1, 1) := by decide +kernel
set_option maxRecDepth 100000 in
theorem ti_25_7 : dp_tab 25 7 = (.if_icmp .lt 10, 3) := by decide +kernel
set_option maxRecDepth 100000 in
theorem ti_25_10 : dp_tab 25 10 = (.iload_n 2, 1) := by decide +kernel
set_option maxRecDepth 100000 in
theorem ti_25_11 : dp_tab 25 11 = (.sipush 999, 3) := by decide +kernel
set_option maxRecDepth 100000 in
theorem ti_25_14 : dp_tab 25 14 = (.if_icmp .le 13, 3) := by decide +kernel
set_option maxRecDepth 100000 in
theorem ti_25_17 : dp_tab 25 17 = (.new 81, 3) := by decide +kernel
set_option maxRecDepth 100000 in
theorem ti_25_20 : dp_tab 25 20 = (.dup, 1) := by decide +kernel
set_option maxRecDepth 100000 in
theorem ti_25_21 : dp_tab 25 21 = (.ldc 118, 2) := by decide +kernel
set_option maxRecDepth 100000 in
theorem ti_25_23 : dp_tab 25 23 = (.invokespecial 85, 3) := by decide +kernel
set_option maxRecDepth 100000 in
theorem ti_25_26 : dp_tab 25 26 = (.athrow, 1) := by decide +kernel
set_option maxRecDepth 100000 in
theorem ti_25_27 : dp_tab 25 27 = (.aload_n 0, 1) := by decide +kernel
set_option maxRecDepth 100000 in
theorem ti_25_28 : dp_tab 25 28 = (.getfield 26, 3) := by decide +kernel
set_option maxRecDepth 100000 in
theorem ti_25_31 : dp_tab 25 31 = (.getfield 91, 3) := by decide +kernel
set_option maxRecDepth 100000 in
theorem ti_25_34 : dp_tab 25 34 = (.iload_n 1, 1) := by decide +kernel
set_option maxRecDepth 100000 in
theorem ti_25_35 : dp_tab 25 35 = (.aload_n 0, 1) := by decide +kernel
set_option maxRecDepth 100000 in
theorem ti_25_36 : dp_tab 25 36 = (.getfield 26, 3) := by decide +kernel
set_option maxRecDepth 100000 in
theorem ti_25_39 : dp_tab 25 39 = (.getfield 91, 3) := by decide +kernel
set_option maxRecDepth 100000 in
theorem ti_25_42 : dp_tab 25 42 = (.iload_n 1, 1) := by decide +kernel
set_option maxRecDepth 100000 in
theorem ti_25_43 : dp_tab 25 43 = (.iaload, 1) := by decide +kernel
set_option maxRecDepth 100000 in
theorem ti_25_44 : dp_tab 25 44 = (.iload_n 2, 1) := by decide +kernel
set_option maxRecDepth 100000 in
theorem ti_25_45 : dp_tab 25 45 = (.iadd, 1) := by decide +kernel
set_option maxRecDepth 100000 in
theorem ti_25_46 : dp_tab 25 46 = (.sipush 9999, 3) := by decide +kernel
set_option maxRecDepth 100000 in
theorem ti_25_49 : dp_tab 25 49 = (.invokestatic 120, 3) := by decide +kernel
set_option maxRecDepth 100000 in
theorem ti_25_52 : dp_tab 25 52 = (.iastore, 1) := by decide +kernel
set_option maxRecDepth 100000 in
theorem ti_25_53 : dp_tab 25 53 = (.aload_n 0, 1) := by decide +kernel
set_option maxRecDepth 100000 in
theorem ti_25_54 : dp_tab 25 54 = (.getfield 26, 3) := by decide +kernel
set_option maxRecDepth 100000 in
theorem ti_25_57 : dp_tab 25 57 = (.getfield 91, 3) := by decide +kernel
set_option maxRecDepth 100000 in
theorem ti_25_60 : dp_tab 25 60 = (.iload_n 1, 1) := by decide +kernel
set_option maxRecDepth 100000 in
theorem ti_25_61 : dp_tab 25 61 = (.iaload, 1) := by decide +kernel
set_option maxRecDepth 100000 in
theorem ti_25_62 : dp_tab 25 62 = (.ireturn, 1) := by decide +kernel
set_option maxRecDepth 100000 in
theorem ti_26_0 : dp_tab 26 0 = (.aload_n 0, 1) := by decide +kernel
set_option maxRecDepth 100000 in
theorem ti_26_1 : dp_tab 26 1 = (.iload_n 1, 1) := by decide +kernel
set_option maxRecDepth 100000 in
theorem ti_26_2 : dp_tab 26 2 = (.invokevirtual 94, 3) := by decide +kernel
set_option maxRecDepth 100000 in
theorem ti_26_5 : dp_tab 26 5 = (.aload_n 0, 1) := by decide +kernel
set_option maxRecDepth 100000 in
theorem ti_26_6 : dp_tab 26 6 = (.aload_n 0, 1) := by decide +kernel
set_option maxRecDepth 100000 in
theorem ti_26_7 : dp_tab 26 7 = (.getfield 26, 3) := by decide +kernel
set_option maxRecDepth 100000 in
theorem ti_26_10 : dp_tab 26 10 = (.iload_n 1, 1) := by decide +kernel
set_option maxRecDepth 100000 in
theorem ti_26_11 : dp_tab 26 11 = (.invokevirtual 125, 3) := by decide +kernel
set_option maxRecDepth 100000 in
theorem ti_26_14 : dp_tab 26 14 = (.ireturn, 1) := by decide +kernel
set_option maxRecDepth 100000 in
theorem ti_27_0 : dp_tab 27 0 = (.iload_n 1, 1) := by decide +kernel
set_option maxRecDepth 100000 in
theorem ti_27_1 : dp_tab 27 1 = (.invokestatic 129, 3) := by decide +kernel
set_option maxRecDepth 100000 in
theorem ti_27_4 : dp_tab 27 4 = (.aload_n 0, 1) := by decide +kernel
set_option maxRecDepth 100000 in
theorem ti_27_5 : dp_tab 27 5 = (.getfield 26, 3) := by decide +kernel
set_option maxRecDepth 100000 in
theorem ti_27_8 : dp_tab 27 8 = (.invokevirtual 132, 3) := by decide +kernel
set_option maxRecDepth 100000 in
theorem ti_27_11 : dp_tab 27 11 = (.istore_n 2, 1) := by decide +kernel
set_option maxRecDepth 100000 in
theorem ti_27_12 : dp_tab 27 12 = (.aload_n 0, 1) := by decide +kernel
set_option maxRecDepth 100000 in
theorem ti_27_13 : dp_tab 27 13 = (.aload_n 0, 1) := by decide +kernel
set_option maxRecDepth 100000 in
theorem ti_27_14 : dp_tab 27 14 = (.getfield 26, 3) := by decide +kernel
set_option maxRecDepth 100000 in
theorem ti_27_17 : dp_tab 27 17 = (.iload_n 1, 1) := by decide +kernel
set_option maxRecDepth 100000 in
theorem ti_27_18 : dp_tab 27 18 = (.invokevirtual 136, 3) := by decide +kernel
set_option maxRecDepth 100000 in
theorem ti_27_21 : dp_tab 27 21 = (.aload_n 0, 1) := by decide +kernel
set_option maxRecDepth 100000 in
theorem ti_27_22 : dp_tab 27 22 = (.getfield 26, 3) := by decide +kernel
set_option maxRecDepth 100000 in
theorem ti_27_25 : dp_tab 27 25 = (.invokevirtual 132, 3) := by decide +kernel
set_option maxRecDepth 100000 in
theorem ti_27_28 : dp_tab 27 28 = (.iload_n 2, 1) := by decide +kernel
set_option maxRecDepth 100000 in
theorem ti_27_29 : dp_tab 27 29 = (.isub, 1) := by decide +kernel
set_option maxRecDepth 100000 in
theorem ti_27_30 : dp_tab 27 30 = (.ireturn, 1) := by decide +kernel
set_option maxRecDepth 100000 in
theorem ti_28_0 : dp_tab 28 0 = (.aload_n 0, 1) := by decide +kernel
set_option maxRecDepth 100000 in
theorem ti_28_1 : dp_tab 28 1 = (.iload_n 1, 1) := by decide +kernel
set_option maxRecDepth 100000 in
theorem ti_28_2 : dp_tab 28 2 = (.invokevirtual 61, 3) := by decide +kernel
set_option maxRecDepth 100000 in
theorem ti_28_5 : dp_tab 28 5 = (.iload_n 2, 1) := by decide +kernel
set_option maxRecDepth 100000 in
theorem ti_28_6 : dp_tab 28 6 = (.iconst 4, 1) := by decide +kernel
set_option maxRecDepth 100000 in
theorem ti_28_7 : dp_tab 28 7 = (.invokestatic 140, 3) := by decide +kernel
set_option maxRecDepth 100000 in
theorem ti_28_10 : dp_tab 28 10 = (.aload_n 0, 1) := by decide +kernel
set_option maxRecDepth 100000 in
theorem ti_28_11 : dp_tab 28 11 = (.iload_n 1, 1) := by decide +kernel
set_option maxRecDepth 100000 in
theorem ti_28_12 : dp_tab 28 12 = (.iload_n 2, 1) := by decide +kernel
set_option maxRecDepth 100000 in
theorem ti_28_13 : dp_tab 28 13 = (.invokevirtual 143, 3) := by decide +kernel
set_option maxRecDepth 100000 in
theorem ti_28_16 : dp_tab 28 16 = (.ireturn, 1) := by decide +kernel
set_option maxRecDepth 100000 in
theorem ti_29_0 : dp_tab 29 0 = (.aload_n 0, 1) := by decide +kernel
set_option maxRecDepth 100000 in
theorem ti_29_1 : dp_tab 29 1 = (.iload_n 1, 1) := by decide +kernel
set_option maxRecDepth 100000 in
theorem ti_29_2 : dp_tab 29 2 = (.invokevirtual 61, 3) := by decide +kernel
set_option maxRecDepth 100000 in
theorem ti_29_5 : dp_tab 29 5 = (.iload_n 2, 1) := by decide +kernel
set_option maxRecDepth 100000 in
theorem ti_29_6 : dp_tab 29 6 = (.aload_n 0, 1) := by decide +kernel
set_option maxRecDepth 100000 in
theorem ti_29_7 : dp_tab 29 7 = (.getfield 10, 3) := by decide +kernel
set_option maxRecDepth 100000 in
theorem ti_29_10 : dp_tab 29 10 = (.getfield 64, 3) := by decide +kernel
set_option maxRecDepth 100000 in
theorem ti_29_13 : dp_tab 29 13 = (.iload_n 1, 1) := by decide +kernel
set_option maxRecDepth 100000 in
theorem ti_29_14 : dp_tab 29 14 = (.iaload, 1) := by decide +kernel
set_option maxRecDepth 100000 in
theorem ti_29_15 : dp_tab 29 15 = (.invokestatic 73, 3) := by decide +kernel
set_option maxRecDepth 100000 in
theorem ti_29_18 : dp_tab 29 18 = (.aload_n 0, 1) := by decide +kernel
set_option maxRecDepth 100000 in
theorem ti_29_19 : dp_tab 29 19 = (.getfield 10, 3) := by decide +kernel
set_option maxRecDepth 100000 in
theorem ti_29_22 : dp_tab 29 22 = (.getfield 69, 3) := by decide +kernel
set_option maxRecDepth 100000 in
theorem ti_29_25 : dp_tab 29 25 = (.iload_n 1, 1) := by decide +kernel
set_option maxRecDepth 100000 in
theorem ti_29_26 : dp_tab 29 26 = (.aaload, 1) := by decide +kernel
set_option maxRecDepth 100000 in
theorem ti_29_27 : dp_tab 29 27 = (.iload_n 2, 1) := by decide +kernel
set_option maxRecDepth 100000 in
theorem ti_29_28 : dp_tab 29 28 = (.iaload, 1) := by decide +kernel
set_option maxRecDepth 100000 in
theorem ti_29_29 : dp_tab 29 29 = (.ireturn, 1) := by decide +kernel
set_option maxRecDepth 100000 in
theorem ti_30_0 : dp_tab 30 0 = (.aload_n 0, 1) := by decide +kernel
set_option maxRecDepth 100000 in
theorem ti_30_1 : dp_tab 30 1 = (.iload_n 1, 1) := by decide +kernel
set_option maxRecDepth 100000 in
theorem ti_30_2 : dp_tab 30 2 = (.invokevirtual 94, 3) := by decide +kernel
set_option maxRecDepth 100000 in
theorem ti_30_5 : dp_tab 30 5 = (.iload_n 2, 1) := by decide +kernel
set_option maxRecDepth 100000 in
theorem ti_30_6 : dp_tab 30 6 = (.bipush 6, 2) := by decide +kernel
set_option maxRecDepth 100000 in
theorem ti_30_8 : dp_tab 30 8 = (.invokestatic 140, 3) := by decide +kernel
set_option maxRecDepth 100000 in
theorem ti_30_11 : dp_tab 30 11 = (.aload_n 0, 1) := by decide +kernel
set_option maxRecDepth 100000 in
theorem ti_30_12 : dp_tab 30 12 = (.iload_n 1, 1) := by decide +kernel
set_option maxRecDepth 100000 in
theorem ti_30_13 : dp_tab 30 13 = (.iload_n 2, 1) := by decide +kernel
set_option maxRecDepth 100000 in
theorem ti_30_14 : dp_tab 30 14 = (.invokevirtual 146, 3) := by decide +kernel
set_option maxRecDepth 100000 in
theorem ti_30_17 : dp_tab 30 17 = (.ireturn, 1) := by decide +kernel
set_option maxRecDepth 100000 in
theorem ti_31_0 : dp_tab 31 0 = (.aload_n 0, 1) := by decide +kernel
set_option maxRecDepth 100000 in
theorem ti_31_1 : dp_tab 31 1 = (.iload_n 1, 1) := by decide +kernel
set_option maxRecDepth 100000 in
theorem ti_31_2 : dp_tab 31 2 = (.invokevirtual 94, 3) := by decide +kernel
set_option maxRecDepth 100000 in
theorem ti_31_5 : dp_tab 31 5 = (.iload_n 2, 1) := by decide +kernel
set_option maxRecDepth 100000 in
theorem ti_31_6 : dp_tab 31 6 = (.aload_n 0, 1) := by decide +kernel
set_option maxRecDepth 100000 in
theorem ti_31_7 : dp_tab 31 7 = (.getfield 19, 3) := by decide +kernel
set_option maxRecDepth 100000 in
theorem ti_31_10 : dp_tab 31 10 = (.getfield 97, 3) := by decide +kernel
set_option maxRecDepth 100000 in
theorem ti_31_13 : dp_tab 31 13 = (.iload_n 1, 1) := by decide +kernel
set_option maxRecDepth 100000 in
theorem ti_31_14 : dp_tab 31 14 = (.iaload, 1) := by decide +kernel
set_option maxRecDepth 100000 in
theorem ti_31_15 : dp_tab 31 15 = (.invokestatic 73, 3) := by decide +kernel
set_option maxRecDepth 100000 in
theorem ti_31_18 : dp_tab 31 18 = (.aload_n 0, 1) := by decide +kernel
set_option maxRecDepth 100000 in
theorem ti_31_19 : dp_tab 31 19 = (.getfield 19, 3) := by decide +kernel
set_option maxRecDepth 100000 in
theorem ti_31_22 : dp_tab 31 22 = (.getfield 108, 3) := by decide +kernel
set_option maxRecDepth 100000 in
theorem ti_31_25 : dp_tab 31 25 = (.iload_n 1, 1) := by decide +kernel
set_option maxRecDepth 100000 in
theorem ti_31_26 : dp_tab 31 26 = (.aaload, 1) := by decide +kernel
set_option maxRecDepth 100000 in
theorem ti_31_27 : dp_tab 31 27 = (.iload_n 2, 1) := by decide +kernel
set_option maxRecDepth 100000 in
theorem ti_31_28 : dp_tab 31 28 = (.iaload, 1) := by decide +kernel
set_option maxRecDepth 100000 in
theorem ti_31_29 : dp_tab 31 29 = (.ireturn, 1) := by decide +kernel
set_option maxRecDepth 100000 in
theorem ti_32_0 : dp_tab 32 0 = (.iload_n 1, 1) := by decide +kernel
set_option maxRecDepth 100000 in
theorem ti_32_1 : dp_tab 32 1 = (.bipush 7, 2) := by decide +kernel
set_option maxRecDepth 100000 in
theorem ti_32_3 : dp_tab 32 3 = (.invokestatic 140, 3) := by decide +kernel
set_option maxRecDepth 100000 in
theorem ti_32_6 : dp_tab 32 6 = (.aload_n 0, 1) := by decide +kernel
set_option maxRecDepth 100000 in
theorem ti_32_7 : dp_tab 32 7 = (.iload_n 1, 1) := by decide +kernel
set_option maxRecDepth 100000 in
theorem ti_32_8 : dp_tab 32 8 = (.invokevirtual 149, 3) := by decide +kernel
set_option maxRecDepth 100000 in
theorem ti_32_11 : dp_tab 32 11 = (.ireturn, 1) := by decide +kernel
set_option maxRecDepth 100000 in
theorem ti_33_0 : dp_tab 33 0 = (.iload_n 1, 1) := by decide +kernel
set_option maxRecDepth 100000 in
theorem ti_33_1 : dp_tab 33 1 = (.invokestatic 41, 3) := by decide +kernel
set_option maxRecDepth 100000 in
theorem ti_33_4 : dp_tab 33 4 = (.aload_n 0, 1) := by decide +kernel
set_option maxRecDepth 100000 in
theorem ti_33_5 : dp_tab 33 5 = (.getfield 10, 3) := by decide +kernel
set_option maxRecDepth 100000 in
theorem ti_33_8 : dp_tab 33 8 = (.iload_n 1, 1) := by decide +kernel
set_option maxRecDepth 100000 in
theorem ti_33_9 : dp_tab 33 9 = (.invokevirtual 153, 3) := by decide +kernel
set_option maxRecDepth 100000 in
theorem ti_33_12 : dp_tab 33 12 = (.ireturn, 1) := by decide +kernel
set_option maxRecDepth 100000 in
theorem ti_34_0 : dp_tab 34 0 = (.aload_n 0, 1) := by decide +kernel
set_option maxRecDepth 100000 in
theorem ti_34_1 : dp_tab 34 1 = (.iload_n 1, 1) := by decide +kernel
set_option maxRecDepth 100000 in
theorem ti_34_2 : dp_tab 34 2 = (.invokevirtual 94, 3) := by decide +kernel
set_option maxRecDepth 100000 in
theorem ti_34_5 : dp_tab 34 5 = (.aload_n 0, 1) := by decide +kernel
set_option maxRecDepth 100000 in
theorem ti_34_6 : dp_tab 34 6 = (.iload_n 2, 1) := by decide +kernel
set_option maxRecDepth 100000 in
theorem ti_34_7 : dp_tab 34 7 = (.invokevirtual 61, 3) := by decide +kernel
set_option maxRecDepth 100000 in
theorem ti_34_10 : dp_tab 34 10 = (.aload_n 0, 1) := by decide +kernel
set_option maxRecDepth 100000 in
theorem ti_34_11 : dp_tab 34 11 = (.aload_n 0, 1) := by decide +kernel
set_option maxRecDepth 100000 in
theorem ti_34_12 : dp_tab 34 12 = (.getfield 26, 3) := by decide +kernel
set_option maxRecDepth 100000 in
theorem ti_34_15 : dp_tab 34 15 = (.iload_n 1, 1) := by decide +kernel
set_option maxRecDepth 100000 in
theorem ti_34_16 : dp_tab 34 16 = (.iload_n 2, 1) := by decide +kernel
set_option maxRecDepth 100000 in
theorem ti_34_17 : dp_tab 34 17 = (.invokevirtual 156, 3) := by decide +kernel
set_option maxRecDepth 100000 in
theorem ti_34_20 : dp_tab 34 20 = (.ireturn, 1) := by decide +kernel
set_option maxRecDepth 100000 in
theorem ti_35_0 : dp_tab 35 0 = (.aload_n 0, 1) := by decide +kernel
set_option maxRecDepth 100000 in
theorem ti_35_1 : dp_tab 35 1 = (.iload_n 1, 1) := by decide +kernel
set_option maxRecDepth 100000 in
theorem ti_35_2 : dp_tab 35 2 = (.invokevirtual 94, 3) := by decide +kernel
set_option maxRecDepth 100000 in
theorem ti_35_5 : dp_tab 35 5 = (.iload_n 2, 1) := by decide +kernel
set_option maxRecDepth 100000 in
theorem ti_35_6 : dp_tab 35 6 = (.aload_n 0, 1) := by decide +kernel
set_option maxRecDepth 100000 in
theorem ti_35_7 : dp_tab 35 7 = (.iload_n 1, 1) := by decide +kernel
set_option maxRecDepth 100000 in
theorem ti_35_8 : dp_tab 35 8 = (.invokevirtual 160, 3) := by decide +kernel
set_option maxRecDepth 100000 in
theorem ti_35_11 : dp_tab 35 11 = (.invokestatic 73, 3) := by decide +kernel
set_option maxRecDepth 100000 in
theorem ti_35_14 : dp_tab 35 14 = (.aload_n 0, 1) := by decide +kernel
set_option maxRecDepth 100000 in
theorem ti_35_15 : dp_tab 35 15 = (.iload_n 1, 1) := by decide +kernel
set_option maxRecDepth 100000 in
theorem ti_35_16 : dp_tab 35 16 = (.iload_n 2, 1) := by decide +kernel
set_option maxRecDepth 100000 in
theorem ti_35_17 : dp_tab 35 17 = (.invokevirtual 163, 3) := by decide +kernel
set_option maxRecDepth 100000 in
theorem ti_35_20 : dp_tab 35 20 = (.ireturn, 1) := by decide +kernel
set_option maxRecDepth 100000 in
theorem ti_36_0 : dp_tab 36 0 = (.aload_n 0, 1) := by decide +kernel
set_option maxRecDepth 100000 in
theorem ti_36_1 : dp_tab 36 1 = (.getfield 30, 3) := by decide +kernel
set_option maxRecDepth 100000 in
theorem ti_36_4 : dp_tab 36 4 = (.aload_n 0, 1) := by decide +kernel
set_option maxRecDepth 100000 in
theorem ti_36_5 : dp_tab 36 5 = (.getfield 26, 3) := by decide +kernel
set_option maxRecDepth 100000 in
theorem ti_36_8 : dp_tab 36 8 = (.invokevirtual 172, 3) := by decide +kernel
set_option maxRecDepth 100000 in
theorem ti_36_11 : dp_tab 36 11 = (.iconst 0, 1) := by decide +kernel
set_option maxRecDepth 100000 in
theorem ti_36_12 : dp_tab 36 12 = (.istore_n 1, 1) := by decide +kernel
set_option maxRecDepth 100000 in
theorem ti_36_13 : dp_tab 36 13 = (.iload_n 1, 1) := by decide +kernel
set_option maxRecDepth 100000 in
theorem ti_36_14 : dp_tab 36 14 = (.bipush 40, 2) := by decide +kernel
set_option maxRecDepth 100000 in
theorem ti_36_16 : dp_tab 36 16 = (.if_icmp .ge 31, 3) := by decide +kernel
set_option maxRecDepth 100000 in
theorem ti_36_19 : dp_tab 36 19 = (.aload_n 0, 1) := by decide +kernel
set_option maxRecDepth 100000 in
theorem ti_36_20 : dp_tab 36 20 = (.aload_n 0, 1) := by decide +kernel
set_option maxRecDepth 100000 in
theorem ti_36_21 : dp_tab 36 21 = (.getfield 30, 3) := by decide +kernel
set_option maxRecDepth 100000 in
theorem ti_36_24 : dp_tab 36 24 = (.invokevirtual 176, 3) := by decide +kernel
set_option maxRecDepth 100000 in
theorem ti_36_27 : dp_tab 36 27 = (.ifCond .eq 5, 3) := by decide +kernel
set_option maxRecDepth 100000 in
theorem ti_36_30 : dp_tab 36 30 = (.iload_n 1, 1) := by decide +kernel
set_option maxRecDepth 100000 in
theorem ti_36_31 : dp_tab 36 31 = (.ireturn, 1) := by decide +kernel
set_option maxRecDepth 100000 in
theorem ti_36_32 : dp_tab 36 32 = (.aload_n 0, 1) := by decide +kernel
set_option maxRecDepth 100000 in
theorem ti_36_33 : dp_tab 36 33 = (.aload_n 0, 1) := by decide +kernel
set_option maxRecDepth 100000 in
theorem ti_36_34 : dp_tab 36 34 = (.getfield 30, 3) := by decide +kernel
set_option maxRecDepth 100000 in
theorem ti_36_37 : dp_tab 36 37 = (.iconst 1, 1) := by decide +kernel
set_option maxRecDepth 100000 in
theorem ti_36_38 : dp_tab 36 38 = (.invokevirtual 136, 3) := by decide +kernel
set_option maxRecDepth 100000 in
theorem ti_36_41 : dp_tab 36 41 = (.iinc 1 1, 3) := by decide +kernel
set_option maxRecDepth 100000 in
theorem ti_36_44 : dp_tab 36 44 = (.goto (-31), 3) := by decide +kernel
set_option maxRecDepth 100000 in
theorem ti_36_47 : dp_tab 36 47 = (.aload_n 0, 1) := by decide +kernel
set_option maxRecDepth 100000 in
theorem ti_36_48 : dp_tab 36 48 = (.aload_n 0, 1) := by decide +kernel
set_option maxRecDepth 100000 in
theorem ti_36_49 : dp_tab 36 49 = (.getfield 30, 3) := by decide +kernel
set_option maxRecDepth 100000 in
theorem ti_36_52 : dp_tab 36 52 = (.invokevirtual 176, 3) := by decide +kernel
set_option maxRecDepth 100000 in
theorem ti_36_55 : dp_tab 36 55 = (.ifCond .eq 8, 3) := by decide +kernel
set_option maxRecDepth 100000 in
theorem ti_36_58 : dp_tab 36 58 = (.bipush 40, 2) := by decide +kernel
set_option maxRecDepth 100000 in
theorem ti_36_60 : dp_tab 36 60 = (.goto 4, 3) := by decide +kernel
set_option maxRecDepth 100000 in
theorem ti_36_63 : dp_tab 36 63 = (.iconst (-1), 1) := by decide +kernel
set_option maxRecDepth 100000 in
theorem ti_36_64 : dp_tab 36 64 = (.ireturn, 1) := by decide +kernel
set_option maxRecDepth 100000 in
theorem ti_37_0 : dp_tab 37 0 = (.aload_n 0, 1) := by decide +kernel
set_option maxRecDepth 100000 in
theorem ti_37_1 : dp_tab 37 1 = (.getfield 26, 3) := by decide +kernel
set_option maxRecDepth 100000 in
theorem ti_37_4 : dp_tab 37 4 = (.invokevirtual 132, 3) := by decide +kernel
set_option maxRecDepth 100000 in
theorem ti_37_7 : dp_tab 37 7 = (.istore_n 1, 1) := by decide +kernel
set_option maxRecDepth 100000 in
theorem ti_37_8 : dp_tab 37 8 = (.iload_n 1, 1) := by decide +kernel
set_option maxRecDepth 100000 in
theorem ti_37_9 : dp_tab 37 9 = (.ifCond .gt 5, 3) := by decide +kernel
set_option maxRecDepth 100000 in
theorem ti_37_12 : dp_tab 37 12 = (.dconst 0, 1) := by decide +kernel
set_option maxRecDepth 100000 in
theorem ti_37_13 : dp_tab 37 13 = (.dreturn, 1) := by decide +kernel
set_option maxRecDepth 100000 in
theorem ti_37_14 : dp_tab 37 14 = (.aload_n 0, 1) := by decide +kernel
set_option maxRecDepth 100000 in
theorem ti_37_15 : dp_tab 37 15 = (.getfield 26, 3) := by decide +kernel
set_option maxRecDepth 100000 in
theorem ti_37_18 : dp_tab 37 18 = (.invokevirtual 180, 3) := by decide +kernel
set_option maxRecDepth 100000 in
theorem ti_37_21 : dp_tab 37 21 = (.i2d, 1) := by decide +kernel
set_option maxRecDepth 100000 in
theorem ti_37_22 : dp_tab 37 22 = (.iload_n 1, 1) := by decide +kernel
set_option maxRecDepth 100000 in
theorem ti_37_23 : dp_tab 37 23 = (.i2d, 1) := by decide +kernel
set_option maxRecDepth 100000 in
theorem ti_37_24 : dp_tab 37 24 = (.ddiv, 1) := by decide +kernel
set_option maxRecDepth 100000 in
theorem ti_37_25 : dp_tab 37 25 = (.dreturn, 1) := by decide +kernel
set_option maxRecDepth 100000 in
theorem ti_38_0 : dp_tab 38 0 = (.iload_n 0, 1) := by decide +kernel
set_option maxRecDepth 100000 in
theorem ti_38_1 : dp_tab 38 1 = (.ifCond .lt 9, 3) := by decide +kernel
set_option maxRecDepth 100000 in
theorem ti_38_4 : dp_tab 38 4 = (.iload_n 0, 1) := by decide +kernel
set_option maxRecDepth 100000 in
theorem ti_38_5 : dp_tab 38 5 = (.bipush 40, 2) := by decide +kernel
set_option maxRecDepth 100000 in
theorem ti_38_7 : dp_tab 38 7 = (.if_icmp .lt 13, 3) := by decide +kernel
set_option maxRecDepth 100000 in
theorem ti_38_10 : dp_tab 38 10 = (.new 197, 3) := by decide +kernel
set_option maxRecDepth 100000 in
theorem ti_38_13 : dp_tab 38 13 = (.dup, 1) := by decide +kernel
set_option maxRecDepth 100000 in
theorem ti_38_14 : dp_tab 38 14 = (.ldc 199, 2) := by decide +kernel
set_option maxRecDepth 100000 in
theorem ti_38_16 : dp_tab 38 16 = (.invokespecial 201, 3) := by decide +kernel
set_option maxRecDepth 100000 in
theorem ti_38_19 : dp_tab 38 19 = (.athrow, 1) := by decide +kernel
set_option maxRecDepth 100000 in
theorem ti_38_20 : dp_tab 38 20 = (.return_, 1) := by decide +kernel
set_option maxRecDepth 100000 in
theorem ti_39_0 : dp_tab 39 0 = (.iload_n 0, 1) := by decide +kernel
set_option maxRecDepth 100000 in
theorem ti_39_1 : dp_tab 39 1 = (.ifCond .lt 9, 3) := by decide +kernel
set_option maxRecDepth 100000 in
theorem ti_39_4 : dp_tab 39 4 = (.iload_n 0, 1) := by decide +kernel
set_option maxRecDepth 100000 in
theorem ti_39_5 : dp_tab 39 5 = (.bipush 20, 2) := by decide +kernel
set_option maxRecDepth 100000 in
theorem ti_39_7 : dp_tab 39 7 = (.if_icmp .lt 13, 3) := by decide +kernel
set_option maxRecDepth 100000 in
theorem ti_39_10 : dp_tab 39 10 = (.new 197, 3) := by decide +kernel
set_option maxRecDepth 100000 in
theorem ti_39_13 : dp_tab 39 13 = (.dup, 1) := by decide +kernel
set_option maxRecDepth 100000 in
theorem ti_39_14 : dp_tab 39 14 = (.ldc 202, 2) := by decide +kernel
set_option maxRecDepth 100000 in
theorem ti_39_16 : dp_tab 39 16 = (.invokespecial 201, 3) := by decide +kernel
set_option maxRecDepth 100000 in
theorem ti_39_19 : dp_tab 39 19 = (.athrow, 1) := by decide +kernel
set_option maxRecDepth 100000 in
theorem ti_39_20 : dp_tab 39 20 = (.return_, 1) := by decide +kernel
set_option maxRecDepth 100000 in
theorem ti_40_0 : dp_tab 40 0 = (.iload_n 1, 1) := by decide +kernel
set_option maxRecDepth 100000 in
theorem ti_40_1 : dp_tab 40 1 = (.ifCond .lt 14, 3) := by decide +kernel
set_option maxRecDepth 100000 in
theorem ti_40_4 : dp_tab 40 4 = (.iload_n 1, 1) := by decide +kernel
set_option maxRecDepth 100000 in
theorem ti_40_5 : dp_tab 40 5 = (.aload_n 0, 1) := by decide +kernel
set_option maxRecDepth 100000 in
theorem ti_40_6 : dp_tab 40 6 = (.getfield 10, 3) := by decide +kernel
set_option maxRecDepth 100000 in
theorem ti_40_9 : dp_tab 40 9 = (.getfield 50, 3) := by decide +kernel
set_option maxRecDepth 100000 in
theorem ti_40_12 : dp_tab 40 12 = (.if_icmp .lt 13, 3) := by decide +kernel
set_option maxRecDepth 100000 in
theorem ti_40_15 : dp_tab 40 15 = (.new 197, 3) := by decide +kernel
set_option maxRecDepth 100000 in
theorem ti_40_18 : dp_tab 40 18 = (.dup, 1) := by decide +kernel
set_option maxRecDepth 100000 in
theorem ti_40_19 : dp_tab 40 19 = (.ldc 204, 2) := by decide +kernel
set_option maxRecDepth 100000 in
theorem ti_40_21 : dp_tab 40 21 = (.invokespecial 201, 3) := by decide +kernel
set_option maxRecDepth 100000 in
theorem ti_40_24 : dp_tab 40 24 = (.athrow, 1) := by decide +kernel
set_option maxRecDepth 100000 in
theorem ti_40_25 : dp_tab 40 25 = (.return_, 1) := by decide +kernel
set_option maxRecDepth 100000 in
theorem ti_41_0 : dp_tab 41 0 = (.iload_n 1, 1) := by decide +kernel
set_option maxRecDepth 100000 in
theorem ti_41_1 : dp_tab 41 1 = (.ifCond .lt 14, 3) := by decide +kernel
set_option maxRecDepth 100000 in
theorem ti_41_4 : dp_tab 41 4 = (.iload_n 1, 1) := by decide +kernel
set_option maxRecDepth 100000 in
theorem ti_41_5 : dp_tab 41 5 = (.aload_n 0, 1) := by decide +kernel
set_option maxRecDepth 100000 in
theorem ti_41_6 : dp_tab 41 6 = (.getfield 19, 3) := by decide +kernel
set_option maxRecDepth 100000 in
theorem ti_41_9 : dp_tab 41 9 = (.getfield 86, 3) := by decide +kernel
set_option maxRecDepth 100000 in
theorem ti_41_12 : dp_tab 41 12 = (.if_icmp .lt 13, 3) := by decide +kernel
set_option maxRecDepth 100000 in
theorem ti_41_15 : dp_tab 41 15 = (.new 197, 3) := by decide +kernel
set_option maxRecDepth 100000 in
theorem ti_41_18 : dp_tab 41 18 = (.dup, 1) := by decide +kernel
set_option maxRecDepth 100000 in
theorem ti_41_19 : dp_tab 41 19 = (.ldc 206, 2) := by decide +kernel
set_option maxRecDepth 100000 in
theorem ti_41_21 : dp_tab 41 21 = (.invokespecial 201, 3) := by decide +kernel
set_option maxRecDepth 100000 in
theorem ti_41_24 : dp_tab 41 24 = (.athrow, 1) := by decide +kernel
set_option maxRecDepth 100000 in
theorem ti_41_25 : dp_tab 41 25 = (.return_, 1) := by decide +kernel
set_option maxRecDepth 100000 in
theorem ti_42_0 : dp_tab 42 0 = (.iload_n 0, 1) := by decide +kernel
set_option maxRecDepth 100000 in
theorem ti_42_1 : dp_tab 42 1 = (.ifCond .lt 8, 3) := by decide +kernel
set_option maxRecDepth 100000 in
theorem ti_42_4 : dp_tab 42 4 = (.iload_n 0, 1) := by decide +kernel
set_option maxRecDepth 100000 in
theorem ti_42_5 : dp_tab 42 5 = (.iload_n 1, 1) := by decide +kernel
set_option maxRecDepth 100000 in
theorem ti_42_6 : dp_tab 42 6 = (.if_icmp .lt 13, 3) := by decide +kernel
set_option maxRecDepth 100000 in
theorem ti_42_9 : dp_tab 42 9 = (.new 197, 3) := by decide +kernel
set_option maxRecDepth 100000 in
theorem ti_42_12 : dp_tab 42 12 = (.dup, 1) := by decide +kernel
set_option maxRecDepth 100000 in
theorem ti_42_13 : dp_tab 42 13 = (.ldc 208, 2) := by decide +kernel
set_option maxRecDepth 100000 in
theorem ti_42_15 : dp_tab 42 15 = (.invokespecial 201, 3) := by decide +kernel
set_option maxRecDepth 100000 in
theorem ti_42_18 : dp_tab 42 18 = (.athrow, 1) := by decide +kernel
set_option maxRecDepth 100000 in
theorem ti_42_19 : dp_tab 42 19 = (.return_, 1) := by decide +kernel
set_option maxRecDepth 100000 in
theorem ti_43_0 : dp_tab 43 0 = (.iload_n 0, 1) := by decide +kernel
set_option maxRecDepth 100000 in
theorem ti_43_1 : dp_tab 43 1 = (.ifCond .lt 8, 3) := by decide +kernel
set_option maxRecDepth 100000 in
theorem ti_43_4 : dp_tab 43 4 = (.iload_n 0, 1) := by decide +kernel
set_option maxRecDepth 100000 in
theorem ti_43_5 : dp_tab 43 5 = (.iload_n 1, 1) := by decide +kernel
set_option maxRecDepth 100000 in
theorem ti_43_6 : dp_tab 43 6 = (.if_icmp .lt 13, 3) := by decide +kernel
set_option maxRecDepth 100000 in
theorem ti_43_9 : dp_tab 43 9 = (.new 197, 3) := by decide +kernel
set_option maxRecDepth 100000 in
theorem ti_43_12 : dp_tab 43 12 = (.dup, 1) := by decide +kernel
set_option maxRecDepth 100000 in
theorem ti_43_13 : dp_tab 43 13 = (.ldc 210, 2) := by decide +kernel
set_option maxRecDepth 100000 in
theorem ti_43_15 : dp_tab 43 15 = (.invokespecial 201, 3) := by decide +kernel
set_option maxRecDepth 100000 in
theorem ti_43_18 : dp_tab 43 18 = (.athrow, 1) := by decide +kernel
set_option maxRecDepth 100000 in
theorem ti_43_19 : dp_tab 43 19 = (.return_, 1) := by decide +kernel
set_option maxRecDepth 100000 in
theorem ti_44_0 : dp_tab 44 0 = (.iload_n 0, 1) := by decide +kernel
set_option maxRecDepth 100000 in
theorem ti_44_1 : dp_tab 44 1 = (.iconst 1, 1) := by decide +kernel
set_option maxRecDepth 100000 in
theorem ti_44_2 : dp_tab 44 2 = (.if_icmp .lt 9, 3) := by decide +kernel
set_option maxRecDepth 100000 in
theorem ti_44_5 : dp_tab 44 5 = (.iload_n 0, 1) := by decide +kernel
set_option maxRecDepth 100000 in
theorem ti_44_6 : dp_tab 44 6 = (.bipush 30, 2) := by decide +kernel
set_option maxRecDepth 100000 in
theorem ti_44_8 : dp_tab 44 8 = (.if_icmp .le 13, 3) := by decide +kernel
set_option maxRecDepth 100000 in
theorem ti_44_11 : dp_tab 44 11 = (.new 81, 3) := by decide +kernel
set_option maxRecDepth 100000 in
theorem ti_44_14 : dp_tab 44 14 = (.dup, 1) := by decide +kernel
set_option maxRecDepth 100000 in
theorem ti_44_15 : dp_tab 44 15 = (.ldc 212, 2) := by decide +kernel
set_option maxRecDepth 100000 in
theorem ti_44_17 : dp_tab 44 17 = (.invokespecial 85, 3) := by decide +kernel
set_option maxRecDepth 100000 in
theorem ti_44_20 : dp_tab 44 20 = (.athrow, 1) := by decide +kernel
set_option maxRecDepth 100000 in
theorem ti_44_21 : dp_tab 44 21 = (.return_, 1) := by decide +kernel
set_option maxRecDepth 100000 in
theorem ti_45_0 : dp_tab 45 0 = (.iload_n 2, 1) := by decide +kernel
set_option maxRecDepth 100000 in
theorem ti_45_1 : dp_tab 45 1 = (.tableswitch 56 0 2 #[27, 37, 46], 27) := by decide +kernel
set_option maxRecDepth 100000 in
theorem ti_45_28 : dp_tab 45 28 = (.aload_n 0, 1) := by decide +kernel
set_option maxRecDepth 100000 in
theorem ti_45_29 : dp_tab 45 29 = (.getfield 10, 3) := by decide +kernel
set_option maxRecDepth 100000 in
theorem ti_45_32 : dp_tab 45 32 = (.getfield 64, 3) := by decide +kernel
set_option maxRecDepth 100000 in
theorem ti_45_35 : dp_tab 45 35 = (.iload_n 1, 1) := by decide +kernel
set_option maxRecDepth 100000 in
theorem ti_45_36 : dp_tab 45 36 = (.iaload, 1) := by decide +kernel
set_option maxRecDepth 100000 in
theorem ti_45_37 : dp_tab 45 37 = (.ireturn, 1) := by decide +kernel
set_option maxRecDepth 100000 in
theorem ti_45_38 : dp_tab 45 38 = (.aload_n 0, 1) := by decide +kernel
set_option maxRecDepth 100000 in
theorem ti_45_39 : dp_tab 45 39 = (.getfield 10, 3) := by decide +kernel
set_option maxRecDepth 100000 in
theorem ti_45_42 : dp_tab 45 42 = (.iload_n 1, 1) := by decide +kernel
set_option maxRecDepth 100000 in
theorem ti_45_43 : dp_tab 45 43 = (.invokevirtual 214, 3) := by decide +kernel
set_option maxRecDepth 100000 in
theorem ti_45_46 : dp_tab 45 46 = (.ireturn, 1) := by decide +kernel
set_option maxRecDepth 100000 in
theorem ti_45_47 : dp_tab 45 47 = (.aload_n 0, 1) := by decide +kernel
set_option maxRecDepth 100000 in
theorem ti_45_48 : dp_tab 45 48 = (.getfield 26, 3) := by decide +kernel
set_option maxRecDepth 100000 in
theorem ti_45_51 : dp_tab 45 51 = (.getfield 217, 3) := by decide +kernel
set_option maxRecDepth 100000 in
theorem ti_45_54 : dp_tab 45 54 = (.iload_n 1, 1) := by decide +kernel
set_option maxRecDepth 100000 in
theorem ti_45_55 : dp_tab 45 55 = (.iaload, 1) := by decide +kernel
set_option maxRecDepth 100000 in
theorem ti_45_56 : dp_tab 45 56 = (.ireturn, 1) := by decide +kernel
set_option maxRecDepth 100000 in
theorem ti_45_57 : dp_tab 45 57 = (.aload_n 0, 1) := by decide +kernel
set_option maxRecDepth 100000 in
theorem ti_45_58 : dp_tab 45 58 = (.getfield 26, 3) := by decide +kernel
set_option maxRecDepth 100000 in
theorem ti_45_61 : dp_tab 45 61 = (.iload_n 1, 1) := by decide +kernel
set_option maxRecDepth 100000 in
theorem ti_45_62 : dp_tab 45 62 = (.invokevirtual 220, 3) := by decide +kernel
set_option maxRecDepth 100000 in
theorem ti_45_65 : dp_tab 45 65 = (.ireturn, 1) := by decide +kernel
set_option maxRecDepth 100000 in
theorem ti_46_0 : dp_tab 46 0 = (.iload_n 2, 1) := by decide +kernel
set_option maxRecDepth 100000 in
theorem ti_46_1 : dp_tab 46 1 = (.tableswitch 88 0 4 #[35, 45, 55, 65, 78], 35) := by decide +kernel
set_option maxRecDepth 100000 in
theorem ti_46_36 : dp_tab 46 36 = (.aload_n 0, 1) := by decide +kernel
set_option maxRecDepth 100000 in
theorem ti_46_37 : dp_tab 46 37 = (.getfield 26, 3) := by decide +kernel
set_option maxRecDepth 100000 in
theorem ti_46_40 : dp_tab 46 40 = (.getfield 91, 3) := by decide +kernel
set_option maxRecDepth 100000 in
theorem ti_46_43 : dp_tab 46 43 = (.iload_n 1, 1) := by decide +kernel
set_option maxRecDepth 100000 in
theorem ti_46_44 : dp_tab 46 44 = (.iaload, 1) := by decide +kernel
set_option maxRecDepth 100000 in
theorem ti_46_45 : dp_tab 46 45 = (.ireturn, 1) := by decide +kernel
set_option maxRecDepth 100000 in
theorem ti_46_46 : dp_tab 46 46 = (.aload_n 0, 1) := by decide +kernel
set_option maxRecDepth 100000 in
theorem ti_46_47 : dp_tab 46 47 = (.getfield 19, 3) := by decide +kernel
set_option maxRecDepth 100000 in
theorem ti_46_50 : dp_tab 46 50 = (.getfield 97, 3) := by decide +kernel
set_option maxRecDepth 100000 in
theorem ti_46_53 : dp_tab 46 53 = (.iload_n 1, 1) := by decide +kernel
set_option maxRecDepth 100000 in
theorem ti_46_54 : dp_tab 46 54 = (.iaload, 1) := by decide +kernel
set_option maxRecDepth 100000 in
theorem ti_46_55 : dp_tab 46 55 = (.ireturn, 1) := by decide +kernel
set_option maxRecDepth 100000 in
theorem ti_46_56 : dp_tab 46 56 = (.aload_n 0, 1) := by decide +kernel
set_option maxRecDepth 100000 in
theorem ti_46_57 : dp_tab 46 57 = (.getfield 19, 3) := by decide +kernel
set_option maxRecDepth 100000 in
theorem ti_46_60 : dp_tab 46 60 = (.getfield 115, 3) := by decide +kernel
set_option maxRecDepth 100000 in
theorem ti_46_63 : dp_tab 46 63 = (.iload_n 1, 1) := by decide +kernel
set_option maxRecDepth 100000 in
theorem ti_46_64 : dp_tab 46 64 = (.iaload, 1) := by decide +kernel
set_option maxRecDepth 100000 in
theorem ti_46_65 : dp_tab 46 65 = (.ireturn, 1) := by decide +kernel
set_option maxRecDepth 100000 in
theorem ti_46_66 : dp_tab 46 66 = (.aload_n 0, 1) := by decide +kernel
set_option maxRecDepth 100000 in
theorem ti_46_67 : dp_tab 46 67 = (.getfield 26, 3) := by decide +kernel
set_option maxRecDepth 100000 in
theorem ti_46_70 : dp_tab 46 70 = (.getfield 223, 3) := by decide +kernel
set_option maxRecDepth 100000 in
theorem ti_46_73 : dp_tab 46 73 = (.iload_n 1, 1) := by decide +kernel
set_option maxRecDepth 100000 in
theorem ti_46_74 : dp_tab 46 74 = (.iaload, 1) := by decide +kernel
set_option maxRecDepth 100000 in
theorem ti_46_75 : dp_tab 46 75 = (.invokestatic 226, 3) := by decide +kernel
set_option maxRecDepth 100000 in
theorem ti_46_78 : dp_tab 46 78 = (.ireturn, 1) := by decide +kernel
set_option maxRecDepth 100000 in
theorem ti_46_79 : dp_tab 46 79 = (.aload_n 0, 1) := by decide +kernel
set_option maxRecDepth 100000 in
theorem ti_46_80 : dp_tab 46 80 = (.getfield 26, 3) := by decide +kernel
set_option maxRecDepth 100000 in
theorem ti_46_83 : dp_tab 46 83 = (.getfield 231, 3) := by decide +kernel
set_option maxRecDepth 100000 in
theorem ti_46_86 : dp_tab 46 86 = (.iload_n 1, 1) := by decide +kernel
set_option maxRecDepth 100000 in
theorem ti_46_87 : dp_tab 46 87 = (.iaload, 1) := by decide +kernel
set_option maxRecDepth 100000 in
theorem ti_46_88 : dp_tab 46 88 = (.ireturn, 1) := by decide +kernel
set_option maxRecDepth 100000 in
theorem ti_46_89 : dp_tab 46 89 = (.aload_n 0, 1) := by decide +kernel
set_option maxRecDepth 100000 in
theorem ti_46_90 : dp_tab 46 90 = (.iload_n 1, 1) := by decide +kernel
set_option maxRecDepth 100000 in
theorem ti_46_91 : dp_tab 46 91 = (.invokevirtual 160, 3) := by decide +kernel
set_option maxRecDepth 100000 in
theorem ti_46_94 : dp_tab 46 94 = (.ireturn, 1) := by decide +kernel
set_option maxRecDepth 100000 in
theorem ti_47_0 : dp_tab 47 0 = (.iload_n 1, 1) := by decide +kernel
set_option maxRecDepth 100000 in
theorem ti_47_1 : dp_tab 47 1 = (.tableswitch 87 0 5 #[39, 47, 55, 63, 71, 79], 39) := by decide +kernel
set_option maxRecDepth 100000 in
theorem ti_47_40 : dp_tab 47 40 = (.aload_n 0, 1) := by decide +kernel
set_option maxRecDepth 100000 in
theorem ti_47_41 : dp_tab 47 41 = (.getfield 10, 3) := by decide +kernel
set_option maxRecDepth 100000 in
theorem ti_47_44 : dp_tab 47 44 = (.getfield 50, 3) := by decide +kernel
set_option maxRecDepth 100000 in
theorem ti_47_47 : dp_tab 47 47 = (.ireturn, 1) := by decide +kernel
set_option maxRecDepth 100000 in
theorem ti_47_48 : dp_tab 47 48 = (.aload_n 0, 1) := by decide +kernel
set_option maxRecDepth 100000 in
theorem ti_47_49 : dp_tab 47 49 = (.getfield 19, 3) := by decide +kernel
set_option maxRecDepth 100000 in
theorem ti_47_52 : dp_tab 47 52 = (.getfield 86, 3) := by decide +kernel
set_option maxRecDepth 100000 in
theorem ti_47_55 : dp_tab 47 55 = (.ireturn, 1) := by decide +kernel
set_option maxRecDepth 100000 in
theorem ti_47_56 : dp_tab 47 56 = (.aload_n 0, 1) := by decide +kernel
set_option maxRecDepth 100000 in
theorem ti_47_57 : dp_tab 47 57 = (.getfield 10, 3) := by decide +kernel
set_option maxRecDepth 100000 in
theorem ti_47_60 : dp_tab 47 60 = (.invokevirtual 234, 3) := by decide +kernel
set_option maxRecDepth 100000 in
theorem ti_47_63 : dp_tab 47 63 = (.ireturn, 1) := by decide +kernel
set_option maxRecDepth 100000 in
theorem ti_47_64 : dp_tab 47 64 = (.aload_n 0, 1) := by decide +kernel
set_option maxRecDepth 100000 in
theorem ti_47_65 : dp_tab 47 65 = (.getfield 10, 3) := by decide +kernel
set_option maxRecDepth 100000 in
theorem ti_47_68 : dp_tab 47 68 = (.invokevirtual 237, 3) := by decide +kernel
set_option maxRecDepth 100000 in
theorem ti_47_71 : dp_tab 47 71 = (.ireturn, 1) := by decide +kernel
set_option maxRecDepth 100000 in
theorem ti_47_72 : dp_tab 47 72 = (.aload_n 0, 1) := by decide +kernel
set_option maxRecDepth 100000 in
theorem ti_47_73 : dp_tab 47 73 = (.getfield 26, 3) := by decide +kernel
set_option maxRecDepth 100000 in
theorem ti_47_76 : dp_tab 47 76 = (.getfield 240, 3) := by decide +kernel
set_option maxRecDepth 100000 in
theorem ti_47_79 : dp_tab 47 79 = (.ireturn, 1) := by decide +kernel
set_option maxRecDepth 100000 in
theorem ti_47_80 : dp_tab 47 80 = (.aload_n 0, 1) := by decide +kernel
set_option maxRecDepth 100000 in
theorem ti_47_81 : dp_tab 47 81 = (.getfield 26, 3) := by decide +kernel
set_option maxRecDepth 100000 in
theorem ti_47_84 : dp_tab 47 84 = (.invokevirtual 132, 3) := by decide +kernel
set_option maxRecDepth 100000 in
theorem ti_47_87 : dp_tab 47 87 = (.ireturn, 1) := by decide +kernel
set_option maxRecDepth 100000 in
theorem ti_47_88 : dp_tab 47 88 = (.aload_n 0, 1) := by decide +kernel
set_option maxRecDepth 100000 in
theorem ti_47_89 : dp_tab 47 89 = (.getfield 26, 3) := by decide +kernel
set_option maxRecDepth 100000 in
theorem ti_47_92 : dp_tab 47 92 = (.invokevirtual 180, 3) := by decide +kernel
set_option maxRecDepth 100000 in
theorem ti_47_95 : dp_tab 47 95 = (.ireturn, 1) := by decide +kernel
set_option maxRecDepth 100000 in
theorem ti_48_0 : dp_tab 48 0 = (.aload_n 0, 1) := by decide +kernel
set_option maxRecDepth 100000 in
theorem ti_48_1 : dp_tab 48 1 = (.getfield 10, 3) := by decide +kernel
set_option maxRecDepth 100000 in
theorem ti_48_4 : dp_tab 48 4 = (.iload_n 3, 1) := by decide +kernel
set_option maxRecDepth 100000 in
theorem ti_48_5 : dp_tab 48 5 = (.aload_n 0, 1) := by decide +kernel
set_option maxRecDepth 100000 in
theorem ti_48_6 : dp_tab 48 6 = (.getfield 19, 3) := by decide +kernel
set_option maxRecDepth 100000 in
theorem ti_48_9 : dp_tab 48 9 = (.getfield 108, 3) := by decide +kernel
set_option maxRecDepth 100000 in
theorem ti_48_12 : dp_tab 48 12 = (.iload_n 2, 1) := by decide +kernel
set_option maxRecDepth 100000 in
theorem ti_48_13 : dp_tab 48 13 = (.aaload, 1) := by decide +kernel
set_option maxRecDepth 100000 in
theorem ti_48_14 : dp_tab 48 14 = (.aload_n 0, 1) := by decide +kernel
set_option maxRecDepth 100000 in
theorem ti_48_15 : dp_tab 48 15 = (.getfield 19, 3) := by decide +kernel
set_option maxRecDepth 100000 in
theorem ti_48_18 : dp_tab 48 18 = (.getfield 97, 3) := by decide +kernel
set_option maxRecDepth 100000 in
theorem ti_48_21 : dp_tab 48 21 = (.iload_n 2, 1) := by decide +kernel
set_option maxRecDepth 100000 in
theorem ti_48_22 : dp_tab 48 22 = (.iaload, 1) := by decide +kernel
set_option maxRecDepth 100000 in
theorem ti_48_23 : dp_tab 48 23 = (.aload_n 1, 1) := by decide +kernel
set_option maxRecDepth 100000 in
theorem ti_48_24 : dp_tab 48 24 = (.getfield 217, 3) := by decide +kernel
set_option maxRecDepth 100000 in
theorem ti_48_27 : dp_tab 48 27 = (.iload_n 3, 1) := by decide +kernel
set_option maxRecDepth 100000 in
theorem ti_48_28 : dp_tab 48 28 = (.iaload, 1) := by decide +kernel
set_option maxRecDepth 100000 in
theorem ti_48_29 : dp_tab 48 29 = (.invokevirtual 243, 3) := by decide +kernel
set_option maxRecDepth 100000 in
theorem ti_48_32 : dp_tab 48 32 = (.ireturn, 1) := by decide +kernel
set_option maxRecDepth 100000 in
theorem ti_49_0 : dp_tab 49 0 = (.iload 4, 2) := by decide +kernel
set_option maxRecDepth 100000 in
theorem ti_49_2 : dp_tab 49 2 = (.aload_n 0, 1) := by decide +kernel
set_option maxRecDepth 100000 in
theorem ti_49_3 : dp_tab 49 3 = (.getfield 19, 3) := by decide +kernel
set_option maxRecDepth 100000 in
theorem ti_49_6 : dp_tab 49 6 = (.getfield 115, 3) := by decide +kernel
set_option maxRecDepth 100000 in
theorem ti_49_9 : dp_tab 49 9 = (.iload_n 2, 1) := by decide +kernel
set_option maxRecDepth 100000 in
theorem ti_49_10 : dp_tab 49 10 = (.iaload, 1) := by decide +kernel
set_option maxRecDepth 100000 in
theorem ti_49_11 : dp_tab 49 11 = (.if_icmp .lt 16, 3) := by decide +kernel
set_option maxRecDepth 100000 in
theorem ti_49_14 : dp_tab 49 14 = (.aload_n 1, 1) := by decide +kernel
set_option maxRecDepth 100000 in
theorem ti_49_15 : dp_tab 49 15 = (.iload_n 2, 1) := by decide +kernel
set_option maxRecDepth 100000 in
theorem ti_49_16 : dp_tab 49 16 = (.iload_n 3, 1) := by decide +kernel
set_option maxRecDepth 100000 in
theorem ti_49_17 : dp_tab 49 17 = (.invokevirtual 247, 3) := by decide +kernel
set_option maxRecDepth 100000 in
theorem ti_49_20 : dp_tab 49 20 = (.ifCond .ne 7, 3) := by decide +kernel
set_option maxRecDepth 100000 in
theorem ti_49_23 : dp_tab 49 23 = (.iconst 1, 1) := by decide +kernel
set_option maxRecDepth 100000 in
theorem ti_49_24 : dp_tab 49 24 = (.goto 4, 3) := by decide +kernel
set_option maxRecDepth 100000 in
theorem ti_49_27 : dp_tab 49 27 = (.iconst 0, 1) := by decide +kernel
set_option maxRecDepth 100000 in
theorem ti_49_28 : dp_tab 49 28 = (.ireturn, 1) := by decide +kernel
set_option maxRecDepth 100000 in
theorem ti_50_0 : dp_tab 50 0 = (.iconst 0, 1) := by decide +kernel
set_option maxRecDepth 100000 in
theorem ti_50_1 : dp_tab 50 1 = (.istore_n 2, 1) := by decide +kernel
set_option maxRecDepth 100000 in
theorem ti_50_2 : dp_tab 50 2 = (.iconst 0, 1) := by decide +kernel
set_option maxRecDepth 100000 in
theorem ti_50_3 : dp_tab 50 3 = (.istore_n 3, 1) := by decide +kernel
set_option maxRecDepth 100000 in
theorem ti_50_4 : dp_tab 50 4 = (.iload_n 3, 1) := by decide +kernel
set_option maxRecDepth 100000 in
theorem ti_50_5 : dp_tab 50 5 = (.aload_n 0, 1) := by decide +kernel
set_option maxRecDepth 100000 in
theorem ti_50_6 : dp_tab 50 6 = (.getfield 10, 3) := by decide +kernel
set_option maxRecDepth 100000 in
theorem ti_50_9 : dp_tab 50 9 = (.getfield 50, 3) := by decide +kernel
set_option maxRecDepth 100000 in
theorem ti_50_12 : dp_tab 50 12 = (.if_icmp .ge 39, 3) := by decide +kernel
set_option maxRecDepth 100000 in
theorem ti_50_15 : dp_tab 50 15 = (.aload_n 0, 1) := by decide +kernel
set_option maxRecDepth 100000 in
theorem ti_50_16 : dp_tab 50 16 = (.aload_n 0, 1) := by decide +kernel
set_option maxRecDepth 100000 in
theorem ti_50_17 : dp_tab 50 17 = (.getfield 26, 3) := by decide +kernel
set_option maxRecDepth 100000 in
theorem ti_50_20 : dp_tab 50 20 = (.iload_n 1, 1) := by decide +kernel
set_option maxRecDepth 100000 in
theorem ti_50_21 : dp_tab 50 21 = (.iload_n 3, 1) := by decide +kernel
set_option maxRecDepth 100000 in
theorem ti_50_22 : dp_tab 50 22 = (.invokevirtual 156, 3) := by decide +kernel
set_option maxRecDepth 100000 in
theorem ti_50_25 : dp_tab 50 25 = (.istore 4, 2) := by decide +kernel
set_option maxRecDepth 100000 in
theorem ti_50_27 : dp_tab 50 27 = (.aload_n 0, 1) := by decide +kernel
set_option maxRecDepth 100000 in
theorem ti_50_28 : dp_tab 50 28 = (.aload_n 0, 1) := by decide +kernel
set_option maxRecDepth 100000 in
theorem ti_50_29 : dp_tab 50 29 = (.getfield 26, 3) := by decide +kernel
set_option maxRecDepth 100000 in
theorem ti_50_32 : dp_tab 50 32 = (.iload_n 1, 1) := by decide +kernel
set_option maxRecDepth 100000 in
theorem ti_50_33 : dp_tab 50 33 = (.iload_n 3, 1) := by decide +kernel
set_option maxRecDepth 100000 in
theorem ti_50_34 : dp_tab 50 34 = (.iload 4, 2) := by decide +kernel
set_option maxRecDepth 100000 in
theorem ti_50_36 : dp_tab 50 36 = (.invokevirtual 251, 3) := by decide +kernel
set_option maxRecDepth 100000 in
theorem ti_50_39 : dp_tab 50 39 = (.ifCond .eq 6, 3) := by decide +kernel
set_option maxRecDepth 100000 in
theorem ti_50_42 : dp_tab 50 42 = (.iinc 2 1, 3) := by decide +kernel
set_option maxRecDepth 100000 in
theorem ti_50_45 : dp_tab 50 45 = (.iinc 3 1, 3) := by decide +kernel
set_option maxRecDepth 100000 in
theorem ti_50_48 : dp_tab 50 48 = (.goto (-44), 3) := by decide +kernel
set_option maxRecDepth 100000 in
theorem ti_50_51 : dp_tab 50 51 = (.iload_n 2, 1) := by decide +kernel
set_option maxRecDepth 100000 in
theorem ti_50_52 : dp_tab 50 52 = (.ireturn, 1) := by decide +kernel
set_option maxRecDepth 100000 in
theorem ti_51_0 : dp_tab 51 0 = (.iconst (-1), 1) := by decide +kernel
set_option maxRecDepth 100000 in
theorem ti_51_1 : dp_tab 51 1 = (.istore_n 3, 1) := by decide +kernel
set_option maxRecDepth 100000 in
theorem ti_51_2 : dp_tab 51 2 = (.iconst (-1), 1) := by decide +kernel
set_option maxRecDepth 100000 in
theorem ti_51_3 : dp_tab 51 3 = (.istore 4, 2) := by decide +kernel
set_option maxRecDepth 100000 in
theorem ti_51_5 : dp_tab 51 5 = (.iconst 0, 1) := by decide +kernel
set_option maxRecDepth 100000 in
theorem ti_51_6 : dp_tab 51 6 = (.istore 5, 2) := by decide +kernel
set_option maxRecDepth 100000 in
theorem ti_51_8 : dp_tab 51 8 = (.iload 5, 2) := by decide +kernel
set_option maxRecDepth 100000 in
theorem ti_51_10 : dp_tab 51 10 = (.aload_n 0, 1) := by decide +kernel
set_option maxRecDepth 100000 in
theorem ti_51_11 : dp_tab 51 11 = (.getfield 10, 3) := by decide +kernel
set_option maxRecDepth 100000 in
theorem ti_51_14 : dp_tab 51 14 = (.getfield 50, 3) := by decide +kernel
set_option maxRecDepth 100000 in
theorem ti_51_17 : dp_tab 51 17 = (.if_icmp .ge 46, 3) := by decide +kernel
set_option maxRecDepth 100000 in
theorem ti_51_20 : dp_tab 51 20 = (.aload_n 0, 1) := by decide +kernel
set_option maxRecDepth 100000 in
theorem ti_51_21 : dp_tab 51 21 = (.aload_n 1, 1) := by decide +kernel
set_option maxRecDepth 100000 in
theorem ti_51_22 : dp_tab 51 22 = (.iload_n 2, 1) := by decide +kernel
set_option maxRecDepth 100000 in
theorem ti_51_23 : dp_tab 51 23 = (.iload 5, 2) := by decide +kernel
set_option maxRecDepth 100000 in
theorem ti_51_25 : dp_tab 51 25 = (.invokevirtual 156, 3) := by decide +kernel
set_option maxRecDepth 100000 in
theorem ti_51_28 : dp_tab 51 28 = (.istore 6, 2) := by decide +kernel
set_option maxRecDepth 100000 in
theorem ti_51_30 : dp_tab 51 30 = (.iload 6, 2) := by decide +kernel
set_option maxRecDepth 100000 in
theorem ti_51_32 : dp_tab 51 32 = (.iload 4, 2) := by decide +kernel
set_option maxRecDepth 100000 in
theorem ti_51_34 : dp_tab 51 34 = (.if_icmp .le 23, 3) := by decide +kernel
set_option maxRecDepth 100000 in
theorem ti_51_37 : dp_tab 51 37 = (.aload_n 0, 1) := by decide +kernel
set_option maxRecDepth 100000 in
theorem ti_51_38 : dp_tab 51 38 = (.aload_n 1, 1) := by decide +kernel
set_option maxRecDepth 100000 in
theorem ti_51_39 : dp_tab 51 39 = (.iload_n 2, 1) := by decide +kernel
set_option maxRecDepth 100000 in
theorem ti_51_40 : dp_tab 51 40 = (.iload 5, 2) := by decide +kernel
set_option maxRecDepth 100000 in
theorem ti_51_42 : dp_tab 51 42 = (.iload 6, 2) := by decide +kernel
set_option maxRecDepth 100000 in
theorem ti_51_44 : dp_tab 51 44 = (.invokevirtual 251, 3) := by decide +kernel
set_option maxRecDepth 100000 in
theorem ti_51_47 : dp_tab 51 47 = (.ifCond .eq 10, 3) := by decide +kernel
set_option maxRecDepth 100000 in
theorem ti_51_50 : dp_tab 51 50 = (.iload 6, 2) := by decide +kernel
set_option maxRecDepth 100000 in
theorem ti_51_52 : dp_tab 51 52 = (.istore 4, 2) := by decide +kernel
set_option maxRecDepth 100000 in
theorem ti_51_54 : dp_tab 51 54 = (.iload 5, 2) := by decide +kernel
set_option maxRecDepth 100000 in
theorem ti_51_56 : dp_tab 51 56 = (.istore_n 3, 1) := by decide +kernel
set_option maxRecDepth 100000 in
theorem ti_51_57 : dp_tab 51 57 = (.iinc 5 1, 3) := by decide +kernel
set_option maxRecDepth 100000 in
theorem ti_51_60 : dp_tab 51 60 = (.goto (-52), 3) := by decide +kernel
set_option maxRecDepth 100000 in
theorem ti_51_63 : dp_tab 51 63 = (.iload_n 3, 1) := by decide +kernel
set_option maxRecDepth 100000 in
theorem ti_51_64 : dp_tab 51 64 = (.ireturn, 1) := by decide +kernel
set_option maxRecDepth 100000 in
theorem ti_52_0 : dp_tab 52 0 = (.iconst 0, 1) := by decide +kernel
set_option maxRecDepth 100000 in
theorem ti_52_1 : dp_tab 52 1 = (.istore_n 3, 1) := by decide +kernel
set_option maxRecDepth 100000 in
theorem ti_52_2 : dp_tab 52 2 = (.iload_n 3, 1) := by decide +kernel
set_option maxRecDepth 100000 in
theorem ti_52_3 : dp_tab 52 3 = (.aload_n 0, 1) := by decide +kernel
set_option maxRecDepth 100000 in
theorem ti_52_4 : dp_tab 52 4 = (.getfield 10, 3) := by decide +kernel
set_option maxRecDepth 100000 in
theorem ti_52_7 : dp_tab 52 7 = (.getfield 50, 3) := by decide +kernel
set_option maxRecDepth 100000 in
theorem ti_52_10 : dp_tab 52 10 = (.if_icmp .ge 50, 3) := by decide +kernel
set_option maxRecDepth 100000 in
theorem ti_52_13 : dp_tab 52 13 = (.aload_n 0, 1) := by decide +kernel
set_option maxRecDepth 100000 in
theorem ti_52_14 : dp_tab 52 14 = (.aload_n 0, 1) := by decide +kernel
set_option maxRecDepth 100000 in
theorem ti_52_15 : dp_tab 52 15 = (.getfield 26, 3) := by decide +kernel
set_option maxRecDepth 100000 in
theorem ti_52_18 : dp_tab 52 18 = (.iload_n 1, 1) := by decide +kernel
set_option maxRecDepth 100000 in
theorem ti_52_19 : dp_tab 52 19 = (.iload_n 3, 1) := by decide +kernel
set_option maxRecDepth 100000 in
theorem ti_52_20 : dp_tab 52 20 = (.invokevirtual 156, 3) := by decide +kernel
set_option maxRecDepth 100000 in
theorem ti_52_23 : dp_tab 52 23 = (.istore 4, 2) := by decide +kernel
set_option maxRecDepth 100000 in
theorem ti_52_25 : dp_tab 52 25 = (.aload_n 0, 1) := by decide +kernel
set_option maxRecDepth 100000 in
theorem ti_52_26 : dp_tab 52 26 = (.aload_n 0, 1) := by decide +kernel
set_option maxRecDepth 100000 in
theorem ti_52_27 : dp_tab 52 27 = (.getfield 26, 3) := by decide +kernel
set_option maxRecDepth 100000 in
theorem ti_52_30 : dp_tab 52 30 = (.iload_n 1, 1) := by decide +kernel
set_option maxRecDepth 100000 in
theorem ti_52_31 : dp_tab 52 31 = (.iload_n 3, 1) := by decide +kernel
set_option maxRecDepth 100000 in
theorem ti_52_32 : dp_tab 52 32 = (.iload 4, 2) := by decide +kernel
set_option maxRecDepth 100000 in
theorem ti_52_34 : dp_tab 52 34 = (.invokevirtual 251, 3) := by decide +kernel
set_option maxRecDepth 100000 in
theorem ti_52_37 : dp_tab 52 37 = (.ifCond .eq 17, 3) := by decide +kernel
set_option maxRecDepth 100000 in
theorem ti_52_40 : dp_tab 52 40 = (.aload_n 0, 1) := by decide +kernel
set_option maxRecDepth 100000 in
theorem ti_52_41 : dp_tab 52 41 = (.iload_n 1, 1) := by decide +kernel
set_option maxRecDepth 100000 in
theorem ti_52_42 : dp_tab 52 42 = (.iload_n 3, 1) := by decide +kernel
set_option maxRecDepth 100000 in
theorem ti_52_43 : dp_tab 52 43 = (.iload 4, 2) := by decide +kernel
set_option maxRecDepth 100000 in
theorem ti_52_45 : dp_tab 52 45 = (.invokevirtual 255, 3) := by decide +kernel
set_option maxRecDepth 100000 in
theorem ti_52_48 : dp_tab 52 48 = (.iload_n 2, 1) := by decide +kernel
set_option maxRecDepth 100000 in
theorem ti_52_49 : dp_tab 52 49 = (.if_icmp .ne 5, 3) := by decide +kernel
set_option maxRecDepth 100000 in
theorem ti_52_52 : dp_tab 52 52 = (.iload_n 3, 1) := by decide +kernel
set_option maxRecDepth 100000 in
theorem ti_52_53 : dp_tab 52 53 = (.ireturn, 1) := by decide +kernel
set_option maxRecDepth 100000 in
theorem ti_52_54 : dp_tab 52 54 = (.iinc 3 1, 3) := by decide +kernel
set_option maxRecDepth 100000 in
theorem ti_52_57 : dp_tab 52 57 = (.goto (-55), 3) := by decide +kernel
set_option maxRecDepth 100000 in
theorem ti_52_60 : dp_tab 52 60 = (.iconst (-1), 1) := by decide +kernel
set_option maxRecDepth 100000 in
theorem ti_52_61 : dp_tab 52 61 = (.ireturn, 1) := by decide +kernel
set_option maxRecDepth 100000 in
theorem ti_53_0 : dp_tab 53 0 = (.iconst 0, 1) := by decide +kernel
set_option maxRecDepth 100000 in
theorem ti_53_1 : dp_tab 53 1 = (.istore 4, 2) := by decide +kernel
set_option maxRecDepth 100000 in
theorem ti_53_3 : dp_tab 53 3 = (.iconst 0, 1) := by decide +kernel
set_option maxRecDepth 100000 in
theorem ti_53_4 : dp_tab 53 4 = (.istore 5, 2) := by decide +kernel
set_option maxRecDepth 100000 in
theorem ti_53_6 : dp_tab 53 6 = (.iload 5, 2) := by decide +kernel
set_option maxRecDepth 100000 in
theorem ti_53_8 : dp_tab 53 8 = (.aload_n 0, 1) := by decide +kernel
set_option maxRecDepth 100000 in
theorem ti_53_9 : dp_tab 53 9 = (.getfield 10, 3) := by decide +kernel
set_option maxRecDepth 100000 in
theorem ti_53_12 : dp_tab 53 12 = (.getfield 50, 3) := by decide +kernel
set_option maxRecDepth 100000 in
theorem ti_53_15 : dp_tab 53 15 = (.if_icmp .ge 71, 3) := by decide +kernel
set_option maxRecDepth 100000 in
theorem ti_53_18 : dp_tab 53 18 = (.aload_n 0, 1) := by decide +kernel
set_option maxRecDepth 100000 in
theorem ti_53_19 : dp_tab 53 19 = (.aload_n 0, 1) := by decide +kernel
set_option maxRecDepth 100000 in
theorem ti_53_20 : dp_tab 53 20 = (.getfield 26, 3) := by decide +kernel
set_option maxRecDepth 100000 in
theorem ti_53_23 : dp_tab 53 23 = (.iload_n 1, 1) := by decide +kernel
set_option maxRecDepth 100000 in
theorem ti_53_24 : dp_tab 53 24 = (.iload 5, 2) := by decide +kernel
set_option maxRecDepth 100000 in
theorem ti_53_26 : dp_tab 53 26 = (.invokevirtual 156, 3) := by decide +kernel
set_option maxRecDepth 100000 in
theorem ti_53_29 : dp_tab 53 29 = (.istore 6, 2) := by decide +kernel
set_option maxRecDepth 100000 in
theorem ti_53_31 : dp_tab 53 31 = (.iload 6, 2) := by decide +kernel
set_option maxRecDepth 100000 in
theorem ti_53_33 : dp_tab 53 33 = (.iload_n 3, 1) := by decide +kernel
set_option maxRecDepth 100000 in
theorem ti_53_34 : dp_tab 53 34 = (.if_icmp .gt 15, 3) := by decide +kernel
set_option maxRecDepth 100000 in
theorem ti_53_37 : dp_tab 53 37 = (.iload 6, 2) := by decide +kernel
set_option maxRecDepth 100000 in
theorem ti_53_39 : dp_tab 53 39 = (.iload_n 3, 1) := by decide +kernel
set_option maxRecDepth 100000 in
theorem ti_53_40 : dp_tab 53 40 = (.if_icmp .ne 13, 3) := by decide +kernel
set_option maxRecDepth 100000 in
theorem ti_53_43 : dp_tab 53 43 = (.iload 5, 2) := by decide +kernel
set_option maxRecDepth 100000 in
theorem ti_53_45 : dp_tab 53 45 = (.iload_n 2, 1) := by decide +kernel
set_option maxRecDepth 100000 in
theorem ti_53_46 : dp_tab 53 46 = (.if_icmp .ge 7, 3) := by decide +kernel
set_option maxRecDepth 100000 in
theorem ti_53_49 : dp_tab 53 49 = (.iconst 1, 1) := by decide +kernel
set_option maxRecDepth 100000 in
theorem ti_53_50 : dp_tab 53 50 = (.goto 4, 3) := by decide +kernel
set_option maxRecDepth 100000 in
theorem ti_53_53 : dp_tab 53 53 = (.iconst 0, 1) := by decide +kernel
set_option maxRecDepth 100000 in
theorem ti_53_54 : dp_tab 53 54 = (.istore 7, 2) := by decide +kernel
set_option maxRecDepth 100000 in
theorem ti_53_56 : dp_tab 53 56 = (.iload 7, 2) := by decide +kernel
set_option maxRecDepth 100000 in
theorem ti_53_58 : dp_tab 53 58 = (.ifCond .eq 22, 3) := by decide +kernel
set_option maxRecDepth 100000 in
theorem ti_53_61 : dp_tab 53 61 = (.aload_n 0, 1) := by decide +kernel
set_option maxRecDepth 100000 in
theorem ti_53_62 : dp_tab 53 62 = (.aload_n 0, 1) := by decide +kernel
set_option maxRecDepth 100000 in
theorem ti_53_63 : dp_tab 53 63 = (.getfield 26, 3) := by decide +kernel
set_option maxRecDepth 100000 in
theorem ti_53_66 : dp_tab 53 66 = (.iload_n 1, 1) := by decide +kernel
set_option maxRecDepth 100000 in
theorem ti_53_67 : dp_tab 53 67 = (.iload 5, 2) := by decide +kernel
set_option maxRecDepth 100000 in
theorem ti_53_69 : dp_tab 53 69 = (.iload 6, 2) := by decide +kernel
set_option maxRecDepth 100000 in
theorem ti_53_71 : dp_tab 53 71 = (.invokevirtual 251, 3) := by decide +kernel
set_option maxRecDepth 100000 in
theorem ti_53_74 : dp_tab 53 74 = (.ifCond .eq 6, 3) := by decide +kernel
set_option maxRecDepth 100000 in
theorem ti_53_77 : dp_tab 53 77 = (.iinc 4 1, 3) := by decide +kernel
set_option maxRecDepth 100000 in
theorem ti_53_80 : dp_tab 53 80 = (.iinc 5 1, 3) := by decide +kernel
set_option maxRecDepth 100000 in
theorem ti_53_83 : dp_tab 53 83 = (.goto (-77), 3) := by decide +kernel
set_option maxRecDepth 100000 in
theorem ti_53_86 : dp_tab 53 86 = (.iload 4, 2) := by decide +kernel
set_option maxRecDepth 100000 in
theorem ti_53_88 : dp_tab 53 88 = (.ireturn, 1) := by decide +kernel
set_option maxRecDepth 100000 in
theorem ti_54_0 : dp_tab 54 0 = (.iconst 2, 1) := by decide +kernel
set_option maxRecDepth 100000 in
theorem ti_54_1 : dp_tab 54 1 = (.aload_n 0, 1) := by decide +kernel
set_option maxRecDepth 100000 in
theorem ti_54_2 : dp_tab 54 2 = (.aload_n 1, 1) := by decide +kernel
set_option maxRecDepth 100000 in
theorem ti_54_3 : dp_tab 54 3 = (.iload_n 2, 1) := by decide +kernel
set_option maxRecDepth 100000 in
theorem ti_54_4 : dp_tab 54 4 = (.iload_n 3, 1) := by decide +kernel
set_option maxRecDepth 100000 in
theorem ti_54_5 : dp_tab 54 5 = (.invokevirtual 156, 3) := by decide +kernel
set_option maxRecDepth 100000 in
theorem ti_54_8 : dp_tab 54 8 = (.bipush 20, 2) := by decide +kernel
set_option maxRecDepth 100000 in
theorem ti_54_10 : dp_tab 54 10 = (.idiv, 1) := by decide +kernel
set_option maxRecDepth 100000 in
theorem ti_54_11 : dp_tab 54 11 = (.iadd, 1) := by decide +kernel
set_option maxRecDepth 100000 in
theorem ti_54_12 : dp_tab 54 12 = (.ireturn, 1) := by decide +kernel
set_option maxRecDepth 100000 in
theorem ti_55_0 : dp_tab 55 0 = (.aload_n 0, 1) := by decide +kernel
set_option maxRecDepth 100000 in
theorem ti_55_1 : dp_tab 55 1 = (.aload_n 1, 1) := by decide +kernel
set_option maxRecDepth 100000 in
theorem ti_55_2 : dp_tab 55 2 = (.iload_n 2, 1) := by decide +kernel
set_option maxRecDepth 100000 in
theorem ti_55_3 : dp_tab 55 3 = (.invokevirtual 268, 3) := by decide +kernel
set_option maxRecDepth 100000 in
theorem ti_55_6 : dp_tab 55 6 = (.istore_n 3, 1) := by decide +kernel
set_option maxRecDepth 100000 in
theorem ti_55_7 : dp_tab 55 7 = (.iload_n 3, 1) := by decide +kernel
set_option maxRecDepth 100000 in
theorem ti_55_8 : dp_tab 55 8 = (.iconst (-1), 1) := by decide +kernel
set_option maxRecDepth 100000 in
theorem ti_55_9 : dp_tab 55 9 = (.if_icmp .ne 5, 3) := by decide +kernel
set_option maxRecDepth 100000 in
theorem ti_55_12 : dp_tab 55 12 = (.iconst (-1), 1) := by decide +kernel
set_option maxRecDepth 100000 in
theorem ti_55_13 : dp_tab 55 13 = (.ireturn, 1) := by decide +kernel
set_option maxRecDepth 100000 in
theorem ti_55_14 : dp_tab 55 14 = (.aload_n 0, 1) := by decide +kernel
set_option maxRecDepth 100000 in
theorem ti_55_15 : dp_tab 55 15 = (.aload_n 1, 1) := by decide +kernel
set_option maxRecDepth 100000 in
theorem ti_55_16 : dp_tab 55 16 = (.iload_n 2, 1) := by decide +kernel
set_option maxRecDepth 100000 in
theorem ti_55_17 : dp_tab 55 17 = (.iload_n 3, 1) := by decide +kernel
set_option maxRecDepth 100000 in
theorem ti_55_18 : dp_tab 55 18 = (.invokevirtual 271, 3) := by decide +kernel
set_option maxRecDepth 100000 in
theorem ti_55_21 : dp_tab 55 21 = (.istore 4, 2) := by decide +kernel
set_option maxRecDepth 100000 in
theorem ti_55_23 : dp_tab 55 23 = (.aload_n 1, 1) := by decide +kernel
set_option maxRecDepth 100000 in
theorem ti_55_24 : dp_tab 55 24 = (.getfield 91, 3) := by decide +kernel
set_option maxRecDepth 100000 in
theorem ti_55_27 : dp_tab 55 27 = (.iload_n 2, 1) := by decide +kernel
set_option maxRecDepth 100000 in
theorem ti_55_28 : dp_tab 55 28 = (.iaload, 1) := by decide +kernel
set_option maxRecDepth 100000 in
theorem ti_55_29 : dp_tab 55 29 = (.iload 4, 2) := by decide +kernel
set_option maxRecDepth 100000 in
theorem ti_55_31 : dp_tab 55 31 = (.if_icmp .ge 5, 3) := by decide +kernel
set_option maxRecDepth 100000 in
theorem ti_55_34 : dp_tab 55 34 = (.iconst (-1), 1) := by decide +kernel
set_option maxRecDepth 100000 in
theorem ti_55_35 : dp_tab 55 35 = (.ireturn, 1) := by decide +kernel
set_option maxRecDepth 100000 in
theorem ti_55_36 : dp_tab 55 36 = (.aload_n 1, 1) := by decide +kernel
set_option maxRecDepth 100000 in
theorem ti_55_37 : dp_tab 55 37 = (.iload_n 2, 1) := by decide +kernel
set_option maxRecDepth 100000 in
theorem ti_55_38 : dp_tab 55 38 = (.iload_n 3, 1) := by decide +kernel
set_option maxRecDepth 100000 in
theorem ti_55_39 : dp_tab 55 39 = (.iload 4, 2) := by decide +kernel
set_option maxRecDepth 100000 in
theorem ti_55_41 : dp_tab 55 41 = (.invokevirtual 274, 3) := by decide +kernel
set_option maxRecDepth 100000 in
theorem ti_55_44 : dp_tab 55 44 = (.iload_n 3, 1) := by decide +kernel
set_option maxRecDepth 100000 in
theorem ti_55_45 : dp_tab 55 45 = (.ireturn, 1) := by decide +kernel
set_option maxRecDepth 100000 in
theorem ti_56_0 : dp_tab 56 0 = (.iconst 0, 1) := by decide +kernel
set_option maxRecDepth 100000 in
theorem ti_56_1 : dp_tab 56 1 = (.istore_n 3, 1) := by decide +kernel
set_option maxRecDepth 100000 in
theorem ti_56_2 : dp_tab 56 2 = (.iload_n 3, 1) := by decide +kernel
set_option maxRecDepth 100000 in
theorem ti_56_3 : dp_tab 56 3 = (.iload_n 2, 1) := by decide +kernel
set_option maxRecDepth 100000 in
theorem ti_56_4 : dp_tab 56 4 = (.if_icmp .ge 57, 3) := by decide +kernel
set_option maxRecDepth 100000 in
theorem ti_56_7 : dp_tab 56 7 = (.iconst 0, 1) := by decide +kernel
set_option maxRecDepth 100000 in
theorem ti_56_8 : dp_tab 56 8 = (.istore 4, 2) := by decide +kernel
set_option maxRecDepth 100000 in
theorem ti_56_10 : dp_tab 56 10 = (.iload 4, 2) := by decide +kernel
set_option maxRecDepth 100000 in
theorem ti_56_12 : dp_tab 56 12 = (.aload_n 0, 1) := by decide +kernel
set_option maxRecDepth 100000 in
theorem ti_56_13 : dp_tab 56 13 = (.getfield 19, 3) := by decide +kernel
set_option maxRecDepth 100000 in
theorem ti_56_16 : dp_tab 56 16 = (.getfield 86, 3) := by decide +kernel
set_option maxRecDepth 100000 in
theorem ti_56_19 : dp_tab 56 19 = (.if_icmp .ge 25, 3) := by decide +kernel
set_option maxRecDepth 100000 in
theorem ti_56_22 : dp_tab 56 22 = (.aload_n 0, 1) := by decide +kernel
set_option maxRecDepth 100000 in
theorem ti_56_23 : dp_tab 56 23 = (.aload_n 1, 1) := by decide +kernel
set_option maxRecDepth 100000 in
theorem ti_56_24 : dp_tab 56 24 = (.iload 4, 2) := by decide +kernel
set_option maxRecDepth 100000 in
theorem ti_56_26 : dp_tab 56 26 = (.invokevirtual 125, 3) := by decide +kernel
set_option maxRecDepth 100000 in
theorem ti_56_29 : dp_tab 56 29 = (.pop, 1) := by decide +kernel
set_option maxRecDepth 100000 in
theorem ti_56_30 : dp_tab 56 30 = (.aload_n 0, 1) := by decide +kernel
set_option maxRecDepth 100000 in
theorem ti_56_31 : dp_tab 56 31 = (.aload_n 1, 1) := by decide +kernel
set_option maxRecDepth 100000 in
theorem ti_56_32 : dp_tab 56 32 = (.iload 4, 2) := by decide +kernel
set_option maxRecDepth 100000 in
theorem ti_56_34 : dp_tab 56 34 = (.invokevirtual 125, 3) := by decide +kernel
set_option maxRecDepth 100000 in
theorem ti_56_37 : dp_tab 56 37 = (.pop, 1) := by decide +kernel
set_option maxRecDepth 100000 in
theorem ti_56_38 : dp_tab 56 38 = (.iinc 4 1, 3) := by decide +kernel
set_option maxRecDepth 100000 in
theorem ti_56_41 : dp_tab 56 41 = (.goto (-31), 3) := by decide +kernel
set_option maxRecDepth 100000 in
theorem ti_56_44 : dp_tab 56 44 = (.aload_n 1, 1) := by decide +kernel
set_option maxRecDepth 100000 in
theorem ti_56_45 : dp_tab 56 45 = (.aload_n 0, 1) := by decide +kernel
set_option maxRecDepth 100000 in
theorem ti_56_46 : dp_tab 56 46 = (.getfield 10, 3) := by decide +kernel
set_option maxRecDepth 100000 in
theorem ti_56_49 : dp_tab 56 49 = (.getfield 50, 3) := by decide +kernel
set_option maxRecDepth 100000 in
theorem ti_56_52 : dp_tab 56 52 = (.invokevirtual 278, 3) := by decide +kernel
set_option maxRecDepth 100000 in
theorem ti_56_55 : dp_tab 56 55 = (.iinc 3 1, 3) := by decide +kernel
set_option maxRecDepth 100000 in
theorem ti_56_58 : dp_tab 56 58 = (.goto (-56), 3) := by decide +kernel
set_option maxRecDepth 100000 in
theorem ti_56_61 : dp_tab 56 61 = (.return_, 1) := by decide +kernel
set_option maxRecDepth 100000 in
theorem ti_57_0 : dp_tab 57 0 = (.iconst 0, 1) := by decide +kernel
set_option maxRecDepth 100000 in
theorem ti_57_1 : dp_tab 57 1 = (.istore_n 2, 1) := by decide +kernel
set_option maxRecDepth 100000 in
theorem ti_57_2 : dp_tab 57 2 = (.iload_n 2, 1) := by decide +kernel
set_option maxRecDepth 100000 in
theorem ti_57_3 : dp_tab 57 3 = (.aload_n 0, 1) := by decide +kernel
set_option maxRecDepth 100000 in
theorem ti_57_4 : dp_tab 57 4 = (.getfield 19, 3) := by decide +kernel
set_option maxRecDepth 100000 in
theorem ti_57_7 : dp_tab 57 7 = (.getfield 86, 3) := by decide +kernel
set_option maxRecDepth 100000 in
theorem ti_57_10 : dp_tab 57 10 = (.if_icmp .ge 39, 3) := by decide +kernel
set_option maxRecDepth 100000 in
theorem ti_57_13 : dp_tab 57 13 = (.aload_n 0, 1) := by decide +kernel
set_option maxRecDepth 100000 in
theorem ti_57_14 : dp_tab 57 14 = (.aload_n 1, 1) := by decide +kernel
set_option maxRecDepth 100000 in
theorem ti_57_15 : dp_tab 57 15 = (.iload_n 2, 1) := by decide +kernel
set_option maxRecDepth 100000 in
theorem ti_57_16 : dp_tab 57 16 = (.invokevirtual 268, 3) := by decide +kernel
set_option maxRecDepth 100000 in
theorem ti_57_19 : dp_tab 57 19 = (.istore_n 3, 1) := by decide +kernel
set_option maxRecDepth 100000 in
theorem ti_57_20 : dp_tab 57 20 = (.iload_n 3, 1) := by decide +kernel
set_option maxRecDepth 100000 in
theorem ti_57_21 : dp_tab 57 21 = (.iconst (-1), 1) := by decide +kernel
set_option maxRecDepth 100000 in
theorem ti_57_22 : dp_tab 57 22 = (.if_icmp .eq 21, 3) := by decide +kernel
set_option maxRecDepth 100000 in
theorem ti_57_25 : dp_tab 57 25 = (.aload_n 0, 1) := by decide +kernel
set_option maxRecDepth 100000 in
theorem ti_57_26 : dp_tab 57 26 = (.aload_n 1, 1) := by decide +kernel
set_option maxRecDepth 100000 in
theorem ti_57_27 : dp_tab 57 27 = (.iload_n 2, 1) := by decide +kernel
set_option maxRecDepth 100000 in
theorem ti_57_28 : dp_tab 57 28 = (.iload_n 3, 1) := by decide +kernel
set_option maxRecDepth 100000 in
theorem ti_57_29 : dp_tab 57 29 = (.invokevirtual 271, 3) := by decide +kernel
set_option maxRecDepth 100000 in
theorem ti_57_32 : dp_tab 57 32 = (.aload_n 1, 1) := by decide +kernel
set_option maxRecDepth 100000 in
theorem ti_57_33 : dp_tab 57 33 = (.getfield 91, 3) := by decide +kernel
set_option maxRecDepth 100000 in
theorem ti_57_36 : dp_tab 57 36 = (.iload_n 2, 1) := by decide +kernel
set_option maxRecDepth 100000 in
theorem ti_57_37 : dp_tab 57 37 = (.iaload, 1) := by decide +kernel
set_option maxRecDepth 100000 in
theorem ti_57_38 : dp_tab 57 38 = (.if_icmp .le 5, 3) := by decide +kernel
set_option maxRecDepth 100000 in
theorem ti_57_41 : dp_tab 57 41 = (.iconst 1, 1) := by decide +kernel
set_option maxRecDepth 100000 in
theorem ti_57_42 : dp_tab 57 42 = (.ireturn, 1) := by decide +kernel
set_option maxRecDepth 100000 in
theorem ti_57_43 : dp_tab 57 43 = (.iinc 2 1, 3) := by decide +kernel
set_option maxRecDepth 100000 in
theorem ti_57_46 : dp_tab 57 46 = (.goto (-44), 3) := by decide +kernel
set_option maxRecDepth 100000 in
theorem ti_57_49 : dp_tab 57 49 = (.iconst 0, 1) := by decide +kernel
set_option maxRecDepth 100000 in
theorem ti_57_50 : dp_tab 57 50 = (.ireturn, 1) := by decide +kernel
set_option maxRecDepth 100000 in
theorem ti_58_0 : dp_tab 58 0 = (.iload_n 2, 1) := by decide +kernel
set_option maxRecDepth 100000 in
theorem ti_58_1 : dp_tab 58 1 = (.istore_n 3, 1) := by decide +kernel
set_option maxRecDepth 100000 in
theorem ti_58_2 : dp_tab 58 2 = (.iload_n 3, 1) := by decide +kernel
set_option maxRecDepth 100000 in
theorem ti_58_3 : dp_tab 58 3 = (.iconst 1, 1) := by decide +kernel
set_option maxRecDepth 100000 in
theorem ti_58_4 : dp_tab 58 4 = (.iadd, 1) := by decide +kernel
set_option maxRecDepth 100000 in
theorem ti_58_5 : dp_tab 58 5 = (.iload_n 1, 1) := by decide +kernel
set_option maxRecDepth 100000 in
theorem ti_58_6 : dp_tab 58 6 = (.if_icmp .ge 17, 3) := by decide +kernel
set_option maxRecDepth 100000 in
theorem ti_58_9 : dp_tab 58 9 = (.aload_n 0, 1) := by decide +kernel
set_option maxRecDepth 100000 in
theorem ti_58_10 : dp_tab 58 10 = (.iload_n 3, 1) := by decide +kernel
set_option maxRecDepth 100000 in
theorem ti_58_11 : dp_tab 58 11 = (.aload_n 0, 1) := by decide +kernel
set_option maxRecDepth 100000 in
theorem ti_58_12 : dp_tab 58 12 = (.iload_n 3, 1) := by decide +kernel
set_option maxRecDepth 100000 in
theorem ti_58_13 : dp_tab 58 13 = (.iconst 1, 1) := by decide +kernel
set_option maxRecDepth 100000 in
theorem ti_58_14 : dp_tab 58 14 = (.iadd, 1) := by decide +kernel
set_option maxRecDepth 100000 in
theorem ti_58_15 : dp_tab 58 15 = (.iaload, 1) := by decide +kernel
set_option maxRecDepth 100000 in
theorem ti_58_16 : dp_tab 58 16 = (.iastore, 1) := by decide +kernel
set_option maxRecDepth 100000 in
theorem ti_58_17 : dp_tab 58 17 = (.iinc 3 1, 3) := by decide +kernel
set_option maxRecDepth 100000 in
theorem ti_58_20 : dp_tab 58 20 = (.goto (-18), 3) := by decide +kernel
set_option maxRecDepth 100000 in
theorem ti_58_23 : dp_tab 58 23 = (.iload_n 1, 1) := by decide +kernel
set_option maxRecDepth 100000 in
theorem ti_58_24 : dp_tab 58 24 = (.iconst 1, 1) := by decide +kernel
set_option maxRecDepth 100000 in
theorem ti_58_25 : dp_tab 58 25 = (.isub, 1) := by decide +kernel
set_option maxRecDepth 100000 in
theorem ti_58_26 : dp_tab 58 26 = (.ireturn, 1) := by decide +kernel
end
section
/-! the same, of the law and its helpers -/
set_option maxRecDepth 100000 in
theorem ti_59_0 : dp_tab 59 0 = (.aload_n 0, 1) := by decide +kernel
set_option maxRecDepth 100000 in
theorem ti_59_1 : dp_tab 59 1 = (.invokespecial 1, 3) := by decide +kernel
set_option maxRecDepth 100000 in
theorem ti_59_4 : dp_tab 59 4 = (.aload_n 0, 1) := by decide +kernel
set_option maxRecDepth 100000 in
theorem ti_59_5 : dp_tab 59 5 = (.bipush 20, 2) := by decide +kernel
set_option maxRecDepth 100000 in
theorem ti_59_7 : dp_tab 59 7 = (.putfield 7, 3) := by decide +kernel
set_option maxRecDepth 100000 in
theorem ti_59_10 : dp_tab 59 10 = (.aload_n 0, 1) := by decide +kernel
set_option maxRecDepth 100000 in
theorem ti_59_11 : dp_tab 59 11 = (.iconst 0, 1) := by decide +kernel
set_option maxRecDepth 100000 in
theorem ti_59_12 : dp_tab 59 12 = (.newarray .int, 2) := by decide +kernel
set_option maxRecDepth 100000 in
theorem ti_59_14 : dp_tab 59 14 = (.putfield 13, 3) := by decide +kernel
set_option maxRecDepth 100000 in
theorem ti_59_17 : dp_tab 59 17 = (.aload_n 0, 1) := by decide +kernel
set_option maxRecDepth 100000 in
theorem ti_59_18 : dp_tab 59 18 = (.bipush 16, 2) := by decide +kernel
set_option maxRecDepth 100000 in
theorem ti_59_20 : dp_tab 59 20 = (.newarray .boolean, 2) := by decide +kernel
set_option maxRecDepth 100000 in
theorem ti_59_22 : dp_tab 59 22 = (.putfield 17, 3) := by decide +kernel
set_option maxRecDepth 100000 in
theorem ti_59_25 : dp_tab 59 25 = (.return_, 1) := by decide +kernel
set_option maxRecDepth 100000 in
theorem ti_60_0 : dp_tab 60 0 = (.aload_n 0, 1) := by decide +kernel
set_option maxRecDepth 100000 in
theorem ti_60_1 : dp_tab 60 1 = (.invokespecial 1, 3) := by decide +kernel
set_option maxRecDepth 100000 in
theorem ti_60_4 : dp_tab 60 4 = (.aload_n 0, 1) := by decide +kernel
set_option maxRecDepth 100000 in
theorem ti_60_5 : dp_tab 60 5 = (.bipush 40, 2) := by decide +kernel
set_option maxRecDepth 100000 in
theorem ti_60_7 : dp_tab 60 7 = (.newarray .int, 2) := by decide +kernel
set_option maxRecDepth 100000 in
theorem ti_60_9 : dp_tab 60 9 = (.putfield 7, 3) := by decide +kernel
set_option maxRecDepth 100000 in
theorem ti_60_12 : dp_tab 60 12 = (.aload_n 0, 1) := by decide +kernel
set_option maxRecDepth 100000 in
theorem ti_60_13 : dp_tab 60 13 = (.iconst 0, 1) := by decide +kernel
set_option maxRecDepth 100000 in
theorem ti_60_14 : dp_tab 60 14 = (.anewarray 13, 3) := by decide +kernel
set_option maxRecDepth 100000 in
theorem ti_60_17 : dp_tab 60 17 = (.putfield 14, 3) := by decide +kernel
set_option maxRecDepth 100000 in
theorem ti_60_20 : dp_tab 60 20 = (.aload_n 0, 1) := by decide +kernel
set_option maxRecDepth 100000 in
theorem ti_60_21 : dp_tab 60 21 = (.bipush 16, 2) := by decide +kernel
set_option maxRecDepth 100000 in
theorem ti_60_23 : dp_tab 60 23 = (.newarray .int, 2) := by decide +kernel
set_option maxRecDepth 100000 in
theorem ti_60_25 : dp_tab 60 25 = (.putfield 18, 3) := by decide +kernel
set_option maxRecDepth 100000 in
theorem ti_60_28 : dp_tab 60 28 = (.aload_n 0, 1) := by decide +kernel
set_option maxRecDepth 100000 in
theorem ti_60_29 : dp_tab 60 29 = (.iconst 0, 1) := by decide +kernel
set_option maxRecDepth 100000 in
theorem ti_60_30 : dp_tab 60 30 = (.anewarray 21, 3) := by decide +kernel
set_option maxRecDepth 100000 in
theorem ti_60_33 : dp_tab 60 33 = (.putfield 23, 3) := by decide +kernel
set_option maxRecDepth 100000 in
theorem ti_60_36 : dp_tab 60 36 = (.iconst 0, 1) := by decide +kernel
set_option maxRecDepth 100000 in
theorem ti_60_37 : dp_tab 60 37 = (.istore_n 1, 1) := by decide +kernel
set_option maxRecDepth 100000 in
theorem ti_60_38 : dp_tab 60 38 = (.iload_n 1, 1) := by decide +kernel
set_option maxRecDepth 100000 in
theorem ti_60_39 : dp_tab 60 39 = (.bipush 40, 2) := by decide +kernel
set_option maxRecDepth 100000 in
theorem ti_60_41 : dp_tab 60 41 = (.if_icmp .ge 18, 3) := by decide +kernel
set_option maxRecDepth 100000 in
theorem ti_60_44 : dp_tab 60 44 = (.aload_n 0, 1) := by decide +kernel
set_option maxRecDepth 100000 in
theorem ti_60_45 : dp_tab 60 45 = (.getfield 7, 3) := by decide +kernel
set_option maxRecDepth 100000 in
theorem ti_60_48 : dp_tab 60 48 = (.iload_n 1, 1) := by decide +kernel
set_option maxRecDepth 100000 in
theorem ti_60_49 : dp_tab 60 49 = (.iload_n 1, 1) := by decide +kernel
set_option maxRecDepth 100000 in
theorem ti_60_50 : dp_tab 60 50 = (.iconst 2, 1) := by decide +kernel
set_option maxRecDepth 100000 in
theorem ti_60_51 : dp_tab 60 51 = (.idiv, 1) := by decide +kernel
set_option maxRecDepth 100000 in
theorem ti_60_52 : dp_tab 60 52 = (.iastore, 1) := by decide +kernel
set_option maxRecDepth 100000 in
theorem ti_60_53 : dp_tab 60 53 = (.iinc 1 1, 3) := by decide +kernel
set_option maxRecDepth 100000 in
theorem ti_60_56 : dp_tab 60 56 = (.goto (-18), 3) := by decide +kernel
set_option maxRecDepth 100000 in
theorem ti_60_59 : dp_tab 60 59 = (.return_, 1) := by decide +kernel
set_option maxRecDepth 100000 in
theorem ti_61_0 : dp_tab 61 0 = (.bipush 20, 2) := by decide +kernel
set_option maxRecDepth 100000 in
theorem ti_61_2 : dp_tab 61 2 = (.newarray .int, 2) := by decide +kernel
set_option maxRecDepth 100000 in
theorem ti_61_4 : dp_tab 61 4 = (.astore_n 2, 1) := by decide +kernel
set_option maxRecDepth 100000 in
theorem ti_61_5 : dp_tab 61 5 = (.aload_n 0, 1) := by decide +kernel
set_option maxRecDepth 100000 in
theorem ti_61_6 : dp_tab 61 6 = (.getfield 14, 3) := by decide +kernel
set_option maxRecDepth 100000 in
theorem ti_61_9 : dp_tab 61 9 = (.iload_n 1, 1) := by decide +kernel
set_option maxRecDepth 100000 in
theorem ti_61_10 : dp_tab 61 10 = (.aaload, 1) := by decide +kernel
set_option maxRecDepth 100000 in
theorem ti_61_11 : dp_tab 61 11 = (.astore_n 3, 1) := by decide +kernel
set_option maxRecDepth 100000 in
theorem ti_61_12 : dp_tab 61 12 = (.aload_n 3, 1) := by decide +kernel
set_option maxRecDepth 100000 in
theorem ti_61_13 : dp_tab 61 13 = (.arraylength, 1) := by decide +kernel
set_option maxRecDepth 100000 in
theorem ti_61_14 : dp_tab 61 14 = (.istore 4, 2) := by decide +kernel
set_option maxRecDepth 100000 in
theorem ti_61_16 : dp_tab 61 16 = (.iconst 0, 1) := by decide +kernel
set_option maxRecDepth 100000 in
theorem ti_61_17 : dp_tab 61 17 = (.istore 5, 2) := by decide +kernel
set_option maxRecDepth 100000 in
theorem ti_61_19 : dp_tab 61 19 = (.iload 5, 2) := by decide +kernel
set_option maxRecDepth 100000 in
theorem ti_61_21 : dp_tab 61 21 = (.iload 4, 2) := by decide +kernel
set_option maxRecDepth 100000 in
theorem ti_61_23 : dp_tab 61 23 = (.if_icmp .ge 28, 3) := by decide +kernel
set_option maxRecDepth 100000 in
theorem ti_61_26 : dp_tab 61 26 = (.aload_n 3, 1) := by decide +kernel
set_option maxRecDepth 100000 in
theorem ti_61_27 : dp_tab 61 27 = (.iload 5, 2) := by decide +kernel
set_option maxRecDepth 100000 in
theorem ti_61_29 : dp_tab 61 29 = (.iaload, 1) := by decide +kernel
set_option maxRecDepth 100000 in
theorem ti_61_30 : dp_tab 61 30 = (.istore 6, 2) := by decide +kernel
set_option maxRecDepth 100000 in
theorem ti_61_32 : dp_tab 61 32 = (.aload_n 2, 1) := by decide +kernel
set_option maxRecDepth 100000 in
theorem ti_61_33 : dp_tab 61 33 = (.aload_n 0, 1) := by decide +kernel
set_option maxRecDepth 100000 in
theorem ti_61_34 : dp_tab 61 34 = (.getfield 7, 3) := by decide +kernel
set_option maxRecDepth 100000 in
theorem ti_61_37 : dp_tab 61 37 = (.iload 6, 2) := by decide +kernel
set_option maxRecDepth 100000 in
theorem ti_61_39 : dp_tab 61 39 = (.iaload, 1) := by decide +kernel
set_option maxRecDepth 100000 in
theorem ti_61_40 : dp_tab 61 40 = (.dup2, 1) := by decide +kernel
set_option maxRecDepth 100000 in
theorem ti_61_41 : dp_tab 61 41 = (.iaload, 1) := by decide +kernel
set_option maxRecDepth 100000 in
theorem ti_61_42 : dp_tab 61 42 = (.iconst 1, 1) := by decide +kernel
set_option maxRecDepth 100000 in
theorem ti_61_43 : dp_tab 61 43 = (.iadd, 1) := by decide +kernel
set_option maxRecDepth 100000 in
theorem ti_61_44 : dp_tab 61 44 = (.iastore, 1) := by decide +kernel
set_option maxRecDepth 100000 in
theorem ti_61_45 : dp_tab 61 45 = (.iinc 5 1, 3) := by decide +kernel
set_option maxRecDepth 100000 in
theorem ti_61_48 : dp_tab 61 48 = (.goto (-29), 3) := by decide +kernel
set_option maxRecDepth 100000 in
theorem ti_61_51 : dp_tab 61 51 = (.aload_n 2, 1) := by decide +kernel
set_option maxRecDepth 100000 in
theorem ti_61_52 : dp_tab 61 52 = (.areturn, 1) := by decide +kernel
set_option maxRecDepth 100000 in
theorem ti_62_0 : dp_tab 62 0 = (.bipush 20, 2) := by decide +kernel
set_option maxRecDepth 100000 in
theorem ti_62_2 : dp_tab 62 2 = (.newarray .int, 2) := by decide +kernel
set_option maxRecDepth 100000 in
theorem ti_62_4 : dp_tab 62 4 = (.astore_n 1, 1) := by decide +kernel
set_option maxRecDepth 100000 in
theorem ti_62_5 : dp_tab 62 5 = (.iconst 0, 1) := by decide +kernel
set_option maxRecDepth 100000 in
theorem ti_62_6 : dp_tab 62 6 = (.istore_n 2, 1) := by decide +kernel
set_option maxRecDepth 100000 in
theorem ti_62_7 : dp_tab 62 7 = (.iload_n 2, 1) := by decide +kernel
set_option maxRecDepth 100000 in
theorem ti_62_8 : dp_tab 62 8 = (.aload_n 0, 1) := by decide +kernel
set_option maxRecDepth 100000 in
theorem ti_62_9 : dp_tab 62 9 = (.getfield 14, 3) := by decide +kernel
set_option maxRecDepth 100000 in
theorem ti_62_12 : dp_tab 62 12 = (.arraylength, 1) := by decide +kernel
set_option maxRecDepth 100000 in
theorem ti_62_13 : dp_tab 62 13 = (.if_icmp .ge 50, 3) := by decide +kernel
set_option maxRecDepth 100000 in
theorem ti_62_16 : dp_tab 62 16 = (.aload_n 0, 1) := by decide +kernel
set_option maxRecDepth 100000 in
theorem ti_62_17 : dp_tab 62 17 = (.iload_n 2, 1) := by decide +kernel
set_option maxRecDepth 100000 in
theorem ti_62_18 : dp_tab 62 18 = (.invokevirtual 40, 3) := by decide +kernel
set_option maxRecDepth 100000 in
theorem ti_62_21 : dp_tab 62 21 = (.astore_n 3, 1) := by decide +kernel
set_option maxRecDepth 100000 in
theorem ti_62_22 : dp_tab 62 22 = (.iconst 0, 1) := by decide +kernel
set_option maxRecDepth 100000 in
theorem ti_62_23 : dp_tab 62 23 = (.istore 4, 2) := by decide +kernel
set_option maxRecDepth 100000 in
theorem ti_62_25 : dp_tab 62 25 = (.iload 4, 2) := by decide +kernel
set_option maxRecDepth 100000 in
theorem ti_62_27 : dp_tab 62 27 = (.bipush 20, 2) := by decide +kernel
set_option maxRecDepth 100000 in
theorem ti_62_29 : dp_tab 62 29 = (.if_icmp .ge 28, 3) := by decide +kernel
set_option maxRecDepth 100000 in
theorem ti_62_32 : dp_tab 62 32 = (.aload_n 1, 1) := by decide +kernel
set_option maxRecDepth 100000 in
theorem ti_62_33 : dp_tab 62 33 = (.iload 4, 2) := by decide +kernel
set_option maxRecDepth 100000 in
theorem ti_62_35 : dp_tab 62 35 = (.dup2, 1) := by decide +kernel
set_option maxRecDepth 100000 in
theorem ti_62_36 : dp_tab 62 36 = (.iaload, 1) := by decide +kernel
set_option maxRecDepth 100000 in
theorem ti_62_37 : dp_tab 62 37 = (.aload_n 3, 1) := by decide +kernel
set_option maxRecDepth 100000 in
theorem ti_62_38 : dp_tab 62 38 = (.iload 4, 2) := by decide +kernel
set_option maxRecDepth 100000 in
theorem ti_62_40 : dp_tab 62 40 = (.iaload, 1) := by decide +kernel
set_option maxRecDepth 100000 in
theorem ti_62_41 : dp_tab 62 41 = (.ifCond .le 7, 3) := by decide +kernel
set_option maxRecDepth 100000 in
theorem ti_62_44 : dp_tab 62 44 = (.iconst 1, 1) := by decide +kernel
set_option maxRecDepth 100000 in
theorem ti_62_45 : dp_tab 62 45 = (.goto 4, 3) := by decide +kernel
set_option maxRecDepth 100000 in
theorem ti_62_48 : dp_tab 62 48 = (.iconst 0, 1) := by decide +kernel
set_option maxRecDepth 100000 in
theorem ti_62_49 : dp_tab 62 49 = (.iadd, 1) := by decide +kernel
set_option maxRecDepth 100000 in
theorem ti_62_50 : dp_tab 62 50 = (.iastore, 1) := by decide +kernel
set_option maxRecDepth 100000 in
theorem ti_62_51 : dp_tab 62 51 = (.iinc 4 1, 3) := by decide +kernel
set_option maxRecDepth 100000 in
theorem ti_62_54 : dp_tab 62 54 = (.goto (-29), 3) := by decide +kernel
set_option maxRecDepth 100000 in
theorem ti_62_57 : dp_tab 62 57 = (.iinc 2 1, 3) := by decide +kernel
set_option maxRecDepth 100000 in
theorem ti_62_60 : dp_tab 62 60 = (.goto (-53), 3) := by decide +kernel
set_option maxRecDepth 100000 in
theorem ti_62_63 : dp_tab 62 63 = (.iconst 0, 1) := by decide +kernel
set_option maxRecDepth 100000 in
theorem ti_62_64 : dp_tab 62 64 = (.istore_n 2, 1) := by decide +kernel
set_option maxRecDepth 100000 in
theorem ti_62_65 : dp_tab 62 65 = (.iload_n 2, 1) := by decide +kernel
set_option maxRecDepth 100000 in
theorem ti_62_66 : dp_tab 62 66 = (.bipush 20, 2) := by decide +kernel
set_option maxRecDepth 100000 in
theorem ti_62_68 : dp_tab 62 68 = (.if_icmp .ge 29, 3) := by decide +kernel
set_option maxRecDepth 100000 in
theorem ti_62_71 : dp_tab 62 71 = (.aload_n 1, 1) := by decide +kernel
set_option maxRecDepth 100000 in
theorem ti_62_72 : dp_tab 62 72 = (.iload_n 2, 1) := by decide +kernel
set_option maxRecDepth 100000 in
theorem ti_62_73 : dp_tab 62 73 = (.bipush 10, 2) := by decide +kernel
set_option maxRecDepth 100000 in
theorem ti_62_75 : dp_tab 62 75 = (.aload_n 0, 1) := by decide +kernel
set_option maxRecDepth 100000 in
theorem ti_62_76 : dp_tab 62 76 = (.getfield 14, 3) := by decide +kernel
set_option maxRecDepth 100000 in
theorem ti_62_79 : dp_tab 62 79 = (.arraylength, 1) := by decide +kernel
set_option maxRecDepth 100000 in
theorem ti_62_80 : dp_tab 62 80 = (.imul, 1) := by decide +kernel
set_option maxRecDepth 100000 in
theorem ti_62_81 : dp_tab 62 81 = (.bipush 10, 2) := by decide +kernel
set_option maxRecDepth 100000 in
theorem ti_62_83 : dp_tab 62 83 = (.iadd, 1) := by decide +kernel
set_option maxRecDepth 100000 in
theorem ti_62_84 : dp_tab 62 84 = (.aload_n 1, 1) := by decide +kernel
set_option maxRecDepth 100000 in
theorem ti_62_85 : dp_tab 62 85 = (.iload_n 2, 1) := by decide +kernel
set_option maxRecDepth 100000 in
theorem ti_62_86 : dp_tab 62 86 = (.iaload, 1) := by decide +kernel
set_option maxRecDepth 100000 in
theorem ti_62_87 : dp_tab 62 87 = (.iconst 1, 1) := by decide +kernel
set_option maxRecDepth 100000 in
theorem ti_62_88 : dp_tab 62 88 = (.iadd, 1) := by decide +kernel
set_option maxRecDepth 100000 in
theorem ti_62_89 : dp_tab 62 89 = (.idiv, 1) := by decide +kernel
set_option maxRecDepth 100000 in
theorem ti_62_90 : dp_tab 62 90 = (.iastore, 1) := by decide +kernel
set_option maxRecDepth 100000 in
theorem ti_62_91 : dp_tab 62 91 = (.iinc 2 1, 3) := by decide +kernel
set_option maxRecDepth 100000 in
theorem ti_62_94 : dp_tab 62 94 = (.goto (-29), 3) := by decide +kernel
set_option maxRecDepth 100000 in
theorem ti_62_97 : dp_tab 62 97 = (.aload_n 1, 1) := by decide +kernel
set_option maxRecDepth 100000 in
theorem ti_62_98 : dp_tab 62 98 = (.areturn, 1) := by decide +kernel
set_option maxRecDepth 100000 in
theorem ti_63_0 : dp_tab 63 0 = (.iconst 0, 1) := by decide +kernel
set_option maxRecDepth 100000 in
theorem ti_63_1 : dp_tab 63 1 = (.istore 5, 2) := by decide +kernel
set_option maxRecDepth 100000 in
theorem ti_63_3 : dp_tab 63 3 = (.aload_n 1, 1) := by decide +kernel
set_option maxRecDepth 100000 in
theorem ti_63_4 : dp_tab 63 4 = (.getfield 44, 3) := by decide +kernel
set_option maxRecDepth 100000 in
theorem ti_63_7 : dp_tab 63 7 = (.arraylength, 1) := by decide +kernel
set_option maxRecDepth 100000 in
theorem ti_63_8 : dp_tab 63 8 = (.iconst 1, 1) := by decide +kernel
set_option maxRecDepth 100000 in
theorem ti_63_9 : dp_tab 63 9 = (.if_icmp .le 7, 3) := by decide +kernel
set_option maxRecDepth 100000 in
theorem ti_63_12 : dp_tab 63 12 = (.iconst 1, 1) := by decide +kernel
set_option maxRecDepth 100000 in
theorem ti_63_13 : dp_tab 63 13 = (.goto 4, 3) := by decide +kernel
set_option maxRecDepth 100000 in
theorem ti_63_16 : dp_tab 63 16 = (.iconst 0, 1) := by decide +kernel
set_option maxRecDepth 100000 in
theorem ti_63_17 : dp_tab 63 17 = (.istore 6, 2) := by decide +kernel
set_option maxRecDepth 100000 in
theorem ti_63_19 : dp_tab 63 19 = (.aload_n 1, 1) := by decide +kernel
set_option maxRecDepth 100000 in
theorem ti_63_20 : dp_tab 63 20 = (.getfield 44, 3) := by decide +kernel
set_option maxRecDepth 100000 in
theorem ti_63_23 : dp_tab 63 23 = (.astore 7, 2) := by decide +kernel
set_option maxRecDepth 100000 in
theorem ti_63_25 : dp_tab 63 25 = (.aload 7, 2) := by decide +kernel
set_option maxRecDepth 100000 in
theorem ti_63_27 : dp_tab 63 27 = (.arraylength, 1) := by decide +kernel
set_option maxRecDepth 100000 in
theorem ti_63_28 : dp_tab 63 28 = (.istore 8, 2) := by decide +kernel
set_option maxRecDepth 100000 in
theorem ti_63_30 : dp_tab 63 30 = (.iconst 0, 1) := by decide +kernel
set_option maxRecDepth 100000 in
theorem ti_63_31 : dp_tab 63 31 = (.istore 9, 2) := by decide +kernel
set_option maxRecDepth 100000 in
theorem ti_63_33 : dp_tab 63 33 = (.iload 9, 2) := by decide +kernel
set_option maxRecDepth 100000 in
theorem ti_63_35 : dp_tab 63 35 = (.iload 8, 2) := by decide +kernel
set_option maxRecDepth 100000 in
theorem ti_63_37 : dp_tab 63 37 = (.if_icmp .ge 61, 3) := by decide +kernel
set_option maxRecDepth 100000 in
theorem ti_63_40 : dp_tab 63 40 = (.aload 7, 2) := by decide +kernel
set_option maxRecDepth 100000 in
theorem ti_63_42 : dp_tab 63 42 = (.iload 9, 2) := by decide +kernel
set_option maxRecDepth 100000 in
theorem ti_63_44 : dp_tab 63 44 = (.iaload, 1) := by decide +kernel
set_option maxRecDepth 100000 in
theorem ti_63_45 : dp_tab 63 45 = (.istore 10, 2) := by decide +kernel
set_option maxRecDepth 100000 in
theorem ti_63_47 : dp_tab 63 47 = (.iload 6, 2) := by decide +kernel
set_option maxRecDepth 100000 in
theorem ti_63_49 : dp_tab 63 49 = (.ifCond .eq 14, 3) := by decide +kernel
set_option maxRecDepth 100000 in
theorem ti_63_52 : dp_tab 63 52 = (.aload_n 2, 1) := by decide +kernel
set_option maxRecDepth 100000 in
theorem ti_63_53 : dp_tab 63 53 = (.iload 10, 2) := by decide +kernel
set_option maxRecDepth 100000 in
theorem ti_63_55 : dp_tab 63 55 = (.iaload, 1) := by decide +kernel
set_option maxRecDepth 100000 in
theorem ti_63_56 : dp_tab 63 56 = (.ifCond .le 7, 3) := by decide +kernel
set_option maxRecDepth 100000 in
theorem ti_63_59 : dp_tab 63 59 = (.iconst 1, 1) := by decide +kernel
set_option maxRecDepth 100000 in
theorem ti_63_60 : dp_tab 63 60 = (.goto 4, 3) := by decide +kernel
set_option maxRecDepth 100000 in
theorem ti_63_63 : dp_tab 63 63 = (.iconst 0, 1) := by decide +kernel
set_option maxRecDepth 100000 in
theorem ti_63_64 : dp_tab 63 64 = (.istore 6, 2) := by decide +kernel
set_option maxRecDepth 100000 in
theorem ti_63_66 : dp_tab 63 66 = (.iload 5, 2) := by decide +kernel
set_option maxRecDepth 100000 in
theorem ti_63_68 : dp_tab 63 68 = (.aload_n 3, 1) := by decide +kernel
set_option maxRecDepth 100000 in
theorem ti_63_69 : dp_tab 63 69 = (.iload 10, 2) := by decide +kernel
set_option maxRecDepth 100000 in
theorem ti_63_71 : dp_tab 63 71 = (.iaload, 1) := by decide +kernel
set_option maxRecDepth 100000 in
theorem ti_63_72 : dp_tab 63 72 = (.aload_n 2, 1) := by decide +kernel
set_option maxRecDepth 100000 in
theorem ti_63_73 : dp_tab 63 73 = (.iload 10, 2) := by decide +kernel
set_option maxRecDepth 100000 in
theorem ti_63_75 : dp_tab 63 75 = (.iaload, 1) := by decide +kernel
set_option maxRecDepth 100000 in
theorem ti_63_76 : dp_tab 63 76 = (.iconst 3, 1) := by decide +kernel
set_option maxRecDepth 100000 in
theorem ti_63_77 : dp_tab 63 77 = (.if_icmp .le 7, 3) := by decide +kernel
set_option maxRecDepth 100000 in
theorem ti_63_80 : dp_tab 63 80 = (.iconst 3, 1) := by decide +kernel
set_option maxRecDepth 100000 in
theorem ti_63_81 : dp_tab 63 81 = (.goto 7, 3) := by decide +kernel
set_option maxRecDepth 100000 in
theorem ti_63_84 : dp_tab 63 84 = (.aload_n 2, 1) := by decide +kernel
set_option maxRecDepth 100000 in
theorem ti_63_85 : dp_tab 63 85 = (.iload 10, 2) := by decide +kernel
set_option maxRecDepth 100000 in
theorem ti_63_87 : dp_tab 63 87 = (.iaload, 1) := by decide +kernel
set_option maxRecDepth 100000 in
theorem ti_63_88 : dp_tab 63 88 = (.imul, 1) := by decide +kernel
set_option maxRecDepth 100000 in
theorem ti_63_89 : dp_tab 63 89 = (.iadd, 1) := by decide +kernel
set_option maxRecDepth 100000 in
theorem ti_63_90 : dp_tab 63 90 = (.istore 5, 2) := by decide +kernel
set_option maxRecDepth 100000 in
theorem ti_63_92 : dp_tab 63 92 = (.iinc 9 1, 3) := by decide +kernel
set_option maxRecDepth 100000 in
theorem ti_63_95 : dp_tab 63 95 = (.goto (-62), 3) := by decide +kernel
set_option maxRecDepth 100000 in
theorem ti_63_98 : dp_tab 63 98 = (.iload 6, 2) := by decide +kernel
set_option maxRecDepth 100000 in
theorem ti_63_100 : dp_tab 63 100 = (.ifCond .eq 13, 3) := by decide +kernel
set_option maxRecDepth 100000 in
theorem ti_63_103 : dp_tab 63 103 = (.iload 5, 2) := by decide +kernel
set_option maxRecDepth 100000 in
theorem ti_63_105 : dp_tab 63 105 = (.iload 5, 2) := by decide +kernel
set_option maxRecDepth 100000 in
theorem ti_63_107 : dp_tab 63 107 = (.iconst 2, 1) := by decide +kernel
set_option maxRecDepth 100000 in
theorem ti_63_108 : dp_tab 63 108 = (.idiv, 1) := by decide +kernel
set_option maxRecDepth 100000 in
theorem ti_63_109 : dp_tab 63 109 = (.iadd, 1) := by decide +kernel
set_option maxRecDepth 100000 in
theorem ti_63_110 : dp_tab 63 110 = (.goto 5, 3) := by decide +kernel
set_option maxRecDepth 100000 in
theorem ti_63_113 : dp_tab 63 113 = (.iload 5, 2) := by decide +kernel
set_option maxRecDepth 100000 in
theorem ti_63_115 : dp_tab 63 115 = (.iconst 3, 1) := by decide +kernel
set_option maxRecDepth 100000 in
theorem ti_63_116 : dp_tab 63 116 = (.iload 4, 2) := by decide +kernel
set_option maxRecDepth 100000 in
theorem ti_63_118 : dp_tab 63 118 = (.imul, 1) := by decide +kernel
set_option maxRecDepth 100000 in
theorem ti_63_119 : dp_tab 63 119 = (.isub, 1) := by decide +kernel
set_option maxRecDepth 100000 in
theorem ti_63_120 : dp_tab 63 120 = (.istore 5, 2) := by decide +kernel
set_option maxRecDepth 100000 in
theorem ti_63_122 : dp_tab 63 122 = (.iload 5, 2) := by decide +kernel
set_option maxRecDepth 100000 in
theorem ti_63_124 : dp_tab 63 124 = (.ifCond .ge 7, 3) := by decide +kernel
set_option maxRecDepth 100000 in
theorem ti_63_127 : dp_tab 63 127 = (.iconst 0, 1) := by decide +kernel
set_option maxRecDepth 100000 in
theorem ti_63_128 : dp_tab 63 128 = (.goto 5, 3) := by decide +kernel
set_option maxRecDepth 100000 in
theorem ti_63_131 : dp_tab 63 131 = (.iload 5, 2) := by decide +kernel
set_option maxRecDepth 100000 in
theorem ti_63_133 : dp_tab 63 133 = (.ireturn, 1) := by decide +kernel
set_option maxRecDepth 100000 in
theorem ti_64_0 : dp_tab 64 0 = (.aload_n 0, 1) := by decide +kernel
set_option maxRecDepth 100000 in
theorem ti_64_1 : dp_tab 64 1 = (.invokevirtual 47, 3) := by decide +kernel
set_option maxRecDepth 100000 in
theorem ti_64_4 : dp_tab 64 4 = (.astore_n 2, 1) := by decide +kernel
set_option maxRecDepth 100000 in
theorem ti_64_5 : dp_tab 64 5 = (.aload_n 0, 1) := by decide +kernel
set_option maxRecDepth 100000 in
theorem ti_64_6 : dp_tab 64 6 = (.getfield 14, 3) := by decide +kernel
set_option maxRecDepth 100000 in
theorem ti_64_9 : dp_tab 64 9 = (.arraylength, 1) := by decide +kernel
set_option maxRecDepth 100000 in
theorem ti_64_10 : dp_tab 64 10 = (.newarray .int, 2) := by decide +kernel
set_option maxRecDepth 100000 in
theorem ti_64_12 : dp_tab 64 12 = (.astore_n 3, 1) := by decide +kernel
set_option maxRecDepth 100000 in
theorem ti_64_13 : dp_tab 64 13 = (.iconst 0, 1) := by decide +kernel
set_option maxRecDepth 100000 in
theorem ti_64_14 : dp_tab 64 14 = (.istore 4, 2) := by decide +kernel
set_option maxRecDepth 100000 in
theorem ti_64_16 : dp_tab 64 16 = (.iload 4, 2) := by decide +kernel
set_option maxRecDepth 100000 in
theorem ti_64_18 : dp_tab 64 18 = (.aload_n 3, 1) := by decide +kernel
set_option maxRecDepth 100000 in
theorem ti_64_19 : dp_tab 64 19 = (.arraylength, 1) := by decide +kernel
set_option maxRecDepth 100000 in
theorem ti_64_20 : dp_tab 64 20 = (.if_icmp .ge 59, 3) := by decide +kernel
set_option maxRecDepth 100000 in
theorem ti_64_23 : dp_tab 64 23 = (.aload_n 0, 1) := by decide +kernel
set_option maxRecDepth 100000 in
theorem ti_64_24 : dp_tab 64 24 = (.aload_n 1, 1) := by decide +kernel
set_option maxRecDepth 100000 in
theorem ti_64_25 : dp_tab 64 25 = (.aload_n 0, 1) := by decide +kernel
set_option maxRecDepth 100000 in
theorem ti_64_26 : dp_tab 64 26 = (.iload 4, 2) := by decide +kernel
set_option maxRecDepth 100000 in
theorem ti_64_28 : dp_tab 64 28 = (.invokevirtual 40, 3) := by decide +kernel
set_option maxRecDepth 100000 in
theorem ti_64_31 : dp_tab 64 31 = (.aload_n 2, 1) := by decide +kernel
set_option maxRecDepth 100000 in
theorem ti_64_32 : dp_tab 64 32 = (.aload_n 0, 1) := by decide +kernel
set_option maxRecDepth 100000 in
theorem ti_64_33 : dp_tab 64 33 = (.getfield 18, 3) := by decide +kernel
set_option maxRecDepth 100000 in
theorem ti_64_36 : dp_tab 64 36 = (.iload 4, 2) := by decide +kernel
set_option maxRecDepth 100000 in
theorem ti_64_38 : dp_tab 64 38 = (.iaload, 1) := by decide +kernel
set_option maxRecDepth 100000 in
theorem ti_64_39 : dp_tab 64 39 = (.invokevirtual 51, 3) := by decide +kernel
set_option maxRecDepth 100000 in
theorem ti_64_42 : dp_tab 64 42 = (.istore 5, 2) := by decide +kernel
set_option maxRecDepth 100000 in
theorem ti_64_44 : dp_tab 64 44 = (.aload_n 3, 1) := by decide +kernel
set_option maxRecDepth 100000 in
theorem ti_64_45 : dp_tab 64 45 = (.iload 4, 2) := by decide +kernel
set_option maxRecDepth 100000 in
theorem ti_64_47 : dp_tab 64 47 = (.aload_n 1, 1) := by decide +kernel
set_option maxRecDepth 100000 in
theorem ti_64_48 : dp_tab 64 48 = (.getfield 55, 3) := by decide +kernel
set_option maxRecDepth 100000 in
theorem ti_64_51 : dp_tab 64 51 = (.iload 4, 2) := by decide +kernel
set_option maxRecDepth 100000 in
theorem ti_64_53 : dp_tab 64 53 = (.baload, 1) := by decide +kernel
set_option maxRecDepth 100000 in
theorem ti_64_54 : dp_tab 64 54 = (.ifCond .ne 12, 3) := by decide +kernel
set_option maxRecDepth 100000 in
theorem ti_64_57 : dp_tab 64 57 = (.iload 5, 2) := by decide +kernel
set_option maxRecDepth 100000 in
theorem ti_64_59 : dp_tab 64 59 = (.aload_n 1, 1) := by decide +kernel
set_option maxRecDepth 100000 in
theorem ti_64_60 : dp_tab 64 60 = (.getfield 59, 3) := by decide +kernel
set_option maxRecDepth 100000 in
theorem ti_64_63 : dp_tab 64 63 = (.if_icmp .ge 7, 3) := by decide +kernel
set_option maxRecDepth 100000 in
theorem ti_64_66 : dp_tab 64 66 = (.iconst (-1), 1) := by decide +kernel
set_option maxRecDepth 100000 in
theorem ti_64_67 : dp_tab 64 67 = (.goto 5, 3) := by decide +kernel
set_option maxRecDepth 100000 in
theorem ti_64_70 : dp_tab 64 70 = (.iload 5, 2) := by decide +kernel
set_option maxRecDepth 100000 in
theorem ti_64_72 : dp_tab 64 72 = (.iastore, 1) := by decide +kernel
set_option maxRecDepth 100000 in
theorem ti_64_73 : dp_tab 64 73 = (.iinc 4 1, 3) := by decide +kernel
set_option maxRecDepth 100000 in
theorem ti_64_76 : dp_tab 64 76 = (.goto (-60), 3) := by decide +kernel
set_option maxRecDepth 100000 in
theorem ti_64_79 : dp_tab 64 79 = (.aload_n 3, 1) := by decide +kernel
set_option maxRecDepth 100000 in
theorem ti_64_80 : dp_tab 64 80 = (.areturn, 1) := by decide +kernel
set_option maxRecDepth 100000 in
theorem ti_65_0 : dp_tab 65 0 = (.iconst (-1), 1) := by decide +kernel
set_option maxRecDepth 100000 in
theorem ti_65_1 : dp_tab 65 1 = (.istore_n 1, 1) := by decide +kernel
set_option maxRecDepth 100000 in
theorem ti_65_2 : dp_tab 65 2 = (.aload_n 0, 1) := by decide +kernel
set_option maxRecDepth 100000 in
theorem ti_65_3 : dp_tab 65 3 = (.arraylength, 1) := by decide +kernel
set_option maxRecDepth 100000 in
theorem ti_65_4 : dp_tab 65 4 = (.iconst 1, 1) := by decide +kernel
set_option maxRecDepth 100000 in
theorem ti_65_5 : dp_tab 65 5 = (.isub, 1) := by decide +kernel
set_option maxRecDepth 100000 in
theorem ti_65_6 : dp_tab 65 6 = (.istore_n 2, 1) := by decide +kernel
set_option maxRecDepth 100000 in
theorem ti_65_7 : dp_tab 65 7 = (.iload_n 2, 1) := by decide +kernel
set_option maxRecDepth 100000 in
theorem ti_65_8 : dp_tab 65 8 = (.ifCond .lt 30, 3) := by decide +kernel
set_option maxRecDepth 100000 in
theorem ti_65_11 : dp_tab 65 11 = (.aload_n 0, 1) := by decide +kernel
set_option maxRecDepth 100000 in
theorem ti_65_12 : dp_tab 65 12 = (.iload_n 2, 1) := by decide +kernel
set_option maxRecDepth 100000 in
theorem ti_65_13 : dp_tab 65 13 = (.iaload, 1) := by decide +kernel
set_option maxRecDepth 100000 in
theorem ti_65_14 : dp_tab 65 14 = (.ifCond .lt 18, 3) := by decide +kernel
set_option maxRecDepth 100000 in
theorem ti_65_17 : dp_tab 65 17 = (.iload_n 1, 1) := by decide +kernel
set_option maxRecDepth 100000 in
theorem ti_65_18 : dp_tab 65 18 = (.ifCond .lt 12, 3) := by decide +kernel
set_option maxRecDepth 100000 in
theorem ti_65_21 : dp_tab 65 21 = (.aload_n 0, 1) := by decide +kernel
set_option maxRecDepth 100000 in
theorem ti_65_22 : dp_tab 65 22 = (.iload_n 2, 1) := by decide +kernel
set_option maxRecDepth 100000 in
theorem ti_65_23 : dp_tab 65 23 = (.iaload, 1) := by decide +kernel
set_option maxRecDepth 100000 in
theorem ti_65_24 : dp_tab 65 24 = (.aload_n 0, 1) := by decide +kernel
set_option maxRecDepth 100000 in
theorem ti_65_25 : dp_tab 65 25 = (.iload_n 1, 1) := by decide +kernel
set_option maxRecDepth 100000 in
theorem ti_65_26 : dp_tab 65 26 = (.iaload, 1) := by decide +kernel
set_option maxRecDepth 100000 in
theorem ti_65_27 : dp_tab 65 27 = (.if_icmp .lt 5, 3) := by decide +kernel
set_option maxRecDepth 100000 in
theorem ti_65_30 : dp_tab 65 30 = (.iload_n 2, 1) := by decide +kernel
set_option maxRecDepth 100000 in
theorem ti_65_31 : dp_tab 65 31 = (.istore_n 1, 1) := by decide +kernel
set_option maxRecDepth 100000 in
theorem ti_65_32 : dp_tab 65 32 = (.iinc 2 (-1), 3) := by decide +kernel
set_option maxRecDepth 100000 in
theorem ti_65_35 : dp_tab 65 35 = (.goto (-28), 3) := by decide +kernel
set_option maxRecDepth 100000 in
theorem ti_65_38 : dp_tab 65 38 = (.iload_n 1, 1) := by decide +kernel
set_option maxRecDepth 100000 in
theorem ti_65_39 : dp_tab 65 39 = (.ireturn, 1) := by decide +kernel
set_option maxRecDepth 100000 in
theorem ti_66_0 : dp_tab 66 0 = (.aload_n 0, 1) := by decide +kernel
set_option maxRecDepth 100000 in
theorem ti_66_1 : dp_tab 66 1 = (.aload_n 1, 1) := by decide +kernel
set_option maxRecDepth 100000 in
theorem ti_66_2 : dp_tab 66 2 = (.invokevirtual 62, 3) := by decide +kernel
set_option maxRecDepth 100000 in
theorem ti_66_5 : dp_tab 66 5 = (.astore_n 2, 1) := by decide +kernel
set_option maxRecDepth 100000 in
theorem ti_66_6 : dp_tab 66 6 = (.aload_n 2, 1) := by decide +kernel
set_option maxRecDepth 100000 in
theorem ti_66_7 : dp_tab 66 7 = (.invokestatic 66, 3) := by decide +kernel
set_option maxRecDepth 100000 in
theorem ti_66_10 : dp_tab 66 10 = (.istore_n 3, 1) := by decide +kernel
set_option maxRecDepth 100000 in
theorem ti_66_11 : dp_tab 66 11 = (.iload_n 3, 1) := by decide +kernel
set_option maxRecDepth 100000 in
theorem ti_66_12 : dp_tab 66 12 = (.ifCond .ge 5, 3) := by decide +kernel
set_option maxRecDepth 100000 in
theorem ti_66_15 : dp_tab 66 15 = (.iconst (-1), 1) := by decide +kernel
set_option maxRecDepth 100000 in
theorem ti_66_16 : dp_tab 66 16 = (.ireturn, 1) := by decide +kernel
set_option maxRecDepth 100000 in
theorem ti_66_17 : dp_tab 66 17 = (.aload_n 2, 1) := by decide +kernel
set_option maxRecDepth 100000 in
theorem ti_66_18 : dp_tab 66 18 = (.iload_n 3, 1) := by decide +kernel
set_option maxRecDepth 100000 in
theorem ti_66_19 : dp_tab 66 19 = (.iaload, 1) := by decide +kernel
set_option maxRecDepth 100000 in
theorem ti_66_20 : dp_tab 66 20 = (.bipush 20, 2) := by decide +kernel
set_option maxRecDepth 100000 in
theorem ti_66_22 : dp_tab 66 22 = (.idiv, 1) := by decide +kernel
set_option maxRecDepth 100000 in
theorem ti_66_23 : dp_tab 66 23 = (.iconst 2, 1) := by decide +kernel
set_option maxRecDepth 100000 in
theorem ti_66_24 : dp_tab 66 24 = (.iadd, 1) := by decide +kernel
set_option maxRecDepth 100000 in
theorem ti_66_25 : dp_tab 66 25 = (.istore 4, 2) := by decide +kernel
set_option maxRecDepth 100000 in
theorem ti_66_27 : dp_tab 66 27 = (.aload_n 1, 1) := by decide +kernel
set_option maxRecDepth 100000 in
theorem ti_66_28 : dp_tab 66 28 = (.getfield 70, 3) := by decide +kernel
set_option maxRecDepth 100000 in
theorem ti_66_31 : dp_tab 66 31 = (.iload 4, 2) := by decide +kernel
set_option maxRecDepth 100000 in
theorem ti_66_33 : dp_tab 66 33 = (.if_icmp .ge 5, 3) := by decide +kernel
set_option maxRecDepth 100000 in
theorem ti_66_36 : dp_tab 66 36 = (.iconst (-1), 1) := by decide +kernel
set_option maxRecDepth 100000 in
theorem ti_66_37 : dp_tab 66 37 = (.ireturn, 1) := by decide +kernel
set_option maxRecDepth 100000 in
theorem ti_66_38 : dp_tab 66 38 = (.aload_n 1, 1) := by decide +kernel
set_option maxRecDepth 100000 in
theorem ti_66_39 : dp_tab 66 39 = (.dup, 1) := by decide +kernel
set_option maxRecDepth 100000 in
theorem ti_66_40 : dp_tab 66 40 = (.getfield 70, 3) := by decide +kernel
set_option maxRecDepth 100000 in
theorem ti_66_43 : dp_tab 66 43 = (.iload 4, 2) := by decide +kernel
set_option maxRecDepth 100000 in
theorem ti_66_45 : dp_tab 66 45 = (.isub, 1) := by decide +kernel
set_option maxRecDepth 100000 in
theorem ti_66_46 : dp_tab 66 46 = (.putfield 70, 3) := by decide +kernel
set_option maxRecDepth 100000 in
theorem ti_66_49 : dp_tab 66 49 = (.aload_n 1, 1) := by decide +kernel
set_option maxRecDepth 100000 in
theorem ti_66_50 : dp_tab 66 50 = (.dup, 1) := by decide +kernel
set_option maxRecDepth 100000 in
theorem ti_66_51 : dp_tab 66 51 = (.getfield 73, 3) := by decide +kernel
set_option maxRecDepth 100000 in
theorem ti_66_54 : dp_tab 66 54 = (.iload 4, 2) := by decide +kernel
set_option maxRecDepth 100000 in
theorem ti_66_56 : dp_tab 66 56 = (.iadd, 1) := by decide +kernel
set_option maxRecDepth 100000 in
theorem ti_66_57 : dp_tab 66 57 = (.putfield 73, 3) := by decide +kernel
set_option maxRecDepth 100000 in
theorem ti_66_60 : dp_tab 66 60 = (.aload_n 1, 1) := by decide +kernel
set_option maxRecDepth 100000 in
theorem ti_66_61 : dp_tab 66 61 = (.getfield 55, 3) := by decide +kernel
set_option maxRecDepth 100000 in
theorem ti_66_64 : dp_tab 66 64 = (.iload_n 3, 1) := by decide +kernel
set_option maxRecDepth 100000 in
theorem ti_66_65 : dp_tab 66 65 = (.iconst 1, 1) := by decide +kernel
set_option maxRecDepth 100000 in
theorem ti_66_66 : dp_tab 66 66 = (.bastore, 1) := by decide +kernel
set_option maxRecDepth 100000 in
theorem ti_66_67 : dp_tab 66 67 = (.iload_n 3, 1) := by decide +kernel
set_option maxRecDepth 100000 in
theorem ti_66_68 : dp_tab 66 68 = (.ireturn, 1) := by decide +kernel
set_option maxRecDepth 100000 in
theorem ti_67_0 : dp_tab 67 0 = (.iconst 0, 1) := by decide +kernel
set_option maxRecDepth 100000 in
theorem ti_67_1 : dp_tab 67 1 = (.istore_n 1, 1) := by decide +kernel
set_option maxRecDepth 100000 in
theorem ti_67_2 : dp_tab 67 2 = (.aload_n 0, 1) := by decide +kernel
set_option maxRecDepth 100000 in
theorem ti_67_3 : dp_tab 67 3 = (.getfield 23, 3) := by decide +kernel
set_option maxRecDepth 100000 in
theorem ti_67_6 : dp_tab 67 6 = (.astore_n 2, 1) := by decide +kernel
set_option maxRecDepth 100000 in
theorem ti_67_7 : dp_tab 67 7 = (.aload_n 2, 1) := by decide +kernel
set_option maxRecDepth 100000 in
theorem ti_67_8 : dp_tab 67 8 = (.arraylength, 1) := by decide +kernel
set_option maxRecDepth 100000 in
theorem ti_67_9 : dp_tab 67 9 = (.istore_n 3, 1) := by decide +kernel
set_option maxRecDepth 100000 in
theorem ti_67_10 : dp_tab 67 10 = (.iconst 0, 1) := by decide +kernel
set_option maxRecDepth 100000 in
theorem ti_67_11 : dp_tab 67 11 = (.istore 4, 2) := by decide +kernel
set_option maxRecDepth 100000 in
theorem ti_67_13 : dp_tab 67 13 = (.iload 4, 2) := by decide +kernel
set_option maxRecDepth 100000 in
theorem ti_67_15 : dp_tab 67 15 = (.iload_n 3, 1) := by decide +kernel
set_option maxRecDepth 100000 in
theorem ti_67_16 : dp_tab 67 16 = (.if_icmp .ge 49, 3) := by decide +kernel
set_option maxRecDepth 100000 in
theorem ti_67_19 : dp_tab 67 19 = (.aload_n 2, 1) := by decide +kernel
set_option maxRecDepth 100000 in
theorem ti_67_20 : dp_tab 67 20 = (.iload 4, 2) := by decide +kernel
set_option maxRecDepth 100000 in
theorem ti_67_22 : dp_tab 67 22 = (.aaload, 1) := by decide +kernel
set_option maxRecDepth 100000 in
theorem ti_67_23 : dp_tab 67 23 = (.astore 5, 2) := by decide +kernel
set_option maxRecDepth 100000 in
theorem ti_67_25 : dp_tab 67 25 = (.iload_n 1, 1) := by decide +kernel
set_option maxRecDepth 100000 in
theorem ti_67_26 : dp_tab 67 26 = (.aload_n 0, 1) := by decide +kernel
set_option maxRecDepth 100000 in
theorem ti_67_27 : dp_tab 67 27 = (.aload 5, 2) := by decide +kernel
set_option maxRecDepth 100000 in
theorem ti_67_29 : dp_tab 67 29 = (.invokevirtual 76, 3) := by decide +kernel
set_option maxRecDepth 100000 in
theorem ti_67_32 : dp_tab 67 32 = (.ifCond .ge 7, 3) := by decide +kernel
set_option maxRecDepth 100000 in
theorem ti_67_35 : dp_tab 67 35 = (.iconst 0, 1) := by decide +kernel
set_option maxRecDepth 100000 in
theorem ti_67_36 : dp_tab 67 36 = (.goto 4, 3) := by decide +kernel
set_option maxRecDepth 100000 in
theorem ti_67_39 : dp_tab 67 39 = (.iconst 1, 1) := by decide +kernel
set_option maxRecDepth 100000 in
theorem ti_67_40 : dp_tab 67 40 = (.iadd, 1) := by decide +kernel
set_option maxRecDepth 100000 in
theorem ti_67_41 : dp_tab 67 41 = (.istore_n 1, 1) := by decide +kernel
set_option maxRecDepth 100000 in
theorem ti_67_42 : dp_tab 67 42 = (.iload_n 1, 1) := by decide +kernel
set_option maxRecDepth 100000 in
theorem ti_67_43 : dp_tab 67 43 = (.aload_n 0, 1) := by decide +kernel
set_option maxRecDepth 100000 in
theorem ti_67_44 : dp_tab 67 44 = (.aload 5, 2) := by decide +kernel
set_option maxRecDepth 100000 in
theorem ti_67_46 : dp_tab 67 46 = (.invokevirtual 76, 3) := by decide +kernel
set_option maxRecDepth 100000 in
theorem ti_67_49 : dp_tab 67 49 = (.ifCond .ge 7, 3) := by decide +kernel
set_option maxRecDepth 100000 in
theorem ti_67_52 : dp_tab 67 52 = (.iconst 0, 1) := by decide +kernel
set_option maxRecDepth 100000 in
theorem ti_67_53 : dp_tab 67 53 = (.goto 4, 3) := by decide +kernel
set_option maxRecDepth 100000 in
theorem ti_67_56 : dp_tab 67 56 = (.iconst 1, 1) := by decide +kernel
set_option maxRecDepth 100000 in
theorem ti_67_57 : dp_tab 67 57 = (.iadd, 1) := by decide +kernel
set_option maxRecDepth 100000 in
theorem ti_67_58 : dp_tab 67 58 = (.istore_n 1, 1) := by decide +kernel
set_option maxRecDepth 100000 in
theorem ti_67_59 : dp_tab 67 59 = (.iinc 4 1, 3) := by decide +kernel
set_option maxRecDepth 100000 in
theorem ti_67_62 : dp_tab 67 62 = (.goto (-49), 3) := by decide +kernel
set_option maxRecDepth 100000 in
theorem ti_67_65 : dp_tab 67 65 = (.iconst 0, 1) := by decide +kernel
set_option maxRecDepth 100000 in
theorem ti_67_66 : dp_tab 67 66 = (.istore_n 2, 1) := by decide +kernel
set_option maxRecDepth 100000 in
theorem ti_67_67 : dp_tab 67 67 = (.iload_n 2, 1) := by decide +kernel
set_option maxRecDepth 100000 in
theorem ti_67_68 : dp_tab 67 68 = (.aload_n 0, 1) := by decide +kernel
set_option maxRecDepth 100000 in
theorem ti_67_69 : dp_tab 67 69 = (.getfield 14, 3) := by decide +kernel
set_option maxRecDepth 100000 in
theorem ti_67_72 : dp_tab 67 72 = (.arraylength, 1) := by decide +kernel
set_option maxRecDepth 100000 in
theorem ti_67_73 : dp_tab 67 73 = (.if_icmp .ge 19, 3) := by decide +kernel
set_option maxRecDepth 100000 in
theorem ti_67_76 : dp_tab 67 76 = (.aload_n 0, 1) := by decide +kernel
set_option maxRecDepth 100000 in
theorem ti_67_77 : dp_tab 67 77 = (.getfield 18, 3) := by decide +kernel
set_option maxRecDepth 100000 in
theorem ti_67_80 : dp_tab 67 80 = (.iload_n 2, 1) := by decide +kernel
set_option maxRecDepth 100000 in
theorem ti_67_81 : dp_tab 67 81 = (.dup2, 1) := by decide +kernel
set_option maxRecDepth 100000 in
theorem ti_67_82 : dp_tab 67 82 = (.iaload, 1) := by decide +kernel
set_option maxRecDepth 100000 in
theorem ti_67_83 : dp_tab 67 83 = (.iconst 1, 1) := by decide +kernel
set_option maxRecDepth 100000 in
theorem ti_67_84 : dp_tab 67 84 = (.iadd, 1) := by decide +kernel
set_option maxRecDepth 100000 in
theorem ti_67_85 : dp_tab 67 85 = (.iastore, 1) := by decide +kernel
set_option maxRecDepth 100000 in
theorem ti_67_86 : dp_tab 67 86 = (.iinc 2 1, 3) := by decide +kernel
set_option maxRecDepth 100000 in
theorem ti_67_89 : dp_tab 67 89 = (.goto (-22), 3) := by decide +kernel
set_option maxRecDepth 100000 in
theorem ti_67_92 : dp_tab 67 92 = (.aload_n 0, 1) := by decide +kernel
set_option maxRecDepth 100000 in
theorem ti_67_93 : dp_tab 67 93 = (.dup, 1) := by decide +kernel
set_option maxRecDepth 100000 in
theorem ti_67_94 : dp_tab 67 94 = (.getfield 36, 3) := by decide +kernel
set_option maxRecDepth 100000 in
theorem ti_67_97 : dp_tab 67 97 = (.iconst 1, 1) := by decide +kernel
set_option maxRecDepth 100000 in
theorem ti_67_98 : dp_tab 67 98 = (.iadd, 1) := by decide +kernel
set_option maxRecDepth 100000 in
theorem ti_67_99 : dp_tab 67 99 = (.putfield 36, 3) := by decide +kernel
set_option maxRecDepth 100000 in
theorem ti_67_102 : dp_tab 67 102 = (.iload_n 1, 1) := by decide +kernel
set_option maxRecDepth 100000 in
theorem ti_67_103 : dp_tab 67 103 = (.ireturn, 1) := by decide +kernel
set_option maxRecDepth 100000 in
theorem ti_68_0 : dp_tab 68 0 = (.aload_n 0, 1) := by decide +kernel
set_option maxRecDepth 100000 in
theorem ti_68_1 : dp_tab 68 1 = (.invokevirtual 47, 3) := by decide +kernel
set_option maxRecDepth 100000 in
theorem ti_68_4 : dp_tab 68 4 = (.astore_n 2, 1) := by decide +kernel
set_option maxRecDepth 100000 in
theorem ti_68_5 : dp_tab 68 5 = (.bipush 20, 2) := by decide +kernel
set_option maxRecDepth 100000 in
theorem ti_68_7 : dp_tab 68 7 = (.newarray .int, 2) := by decide +kernel
set_option maxRecDepth 100000 in
theorem ti_68_9 : dp_tab 68 9 = (.astore_n 3, 1) := by decide +kernel
set_option maxRecDepth 100000 in
theorem ti_68_10 : dp_tab 68 10 = (.iconst 0, 1) := by decide +kernel
set_option maxRecDepth 100000 in
theorem ti_68_11 : dp_tab 68 11 = (.istore 4, 2) := by decide +kernel
set_option maxRecDepth 100000 in
theorem ti_68_13 : dp_tab 68 13 = (.iconst 0, 1) := by decide +kernel
set_option maxRecDepth 100000 in
theorem ti_68_14 : dp_tab 68 14 = (.istore 5, 2) := by decide +kernel
set_option maxRecDepth 100000 in
theorem ti_68_16 : dp_tab 68 16 = (.iload 5, 2) := by decide +kernel
set_option maxRecDepth 100000 in
theorem ti_68_18 : dp_tab 68 18 = (.bipush 20, 2) := by decide +kernel
set_option maxRecDepth 100000 in
theorem ti_68_20 : dp_tab 68 20 = (.if_icmp .ge 24, 3) := by decide +kernel
set_option maxRecDepth 100000 in
theorem ti_68_23 : dp_tab 68 23 = (.aload_n 1, 1) := by decide +kernel
set_option maxRecDepth 100000 in
theorem ti_68_24 : dp_tab 68 24 = (.iload 5, 2) := by decide +kernel
set_option maxRecDepth 100000 in
theorem ti_68_26 : dp_tab 68 26 = (.invokevirtual 80, 3) := by decide +kernel
set_option maxRecDepth 100000 in
theorem ti_68_29 : dp_tab 68 29 = (.aload_n 2, 1) := by decide +kernel
set_option maxRecDepth 100000 in
theorem ti_68_30 : dp_tab 68 30 = (.iload 5, 2) := by decide +kernel
set_option maxRecDepth 100000 in
theorem ti_68_32 : dp_tab 68 32 = (.iaload, 1) := by decide +kernel
set_option maxRecDepth 100000 in
theorem ti_68_33 : dp_tab 68 33 = (.if_icmp .eq 5, 3) := by decide +kernel
set_option maxRecDepth 100000 in
theorem ti_68_36 : dp_tab 68 36 = (.iconst 0, 1) := by decide +kernel
set_option maxRecDepth 100000 in
theorem ti_68_37 : dp_tab 68 37 = (.ireturn, 1) := by decide +kernel
set_option maxRecDepth 100000 in
theorem ti_68_38 : dp_tab 68 38 = (.iinc 5 1, 3) := by decide +kernel
set_option maxRecDepth 100000 in
theorem ti_68_41 : dp_tab 68 41 = (.goto (-25), 3) := by decide +kernel
set_option maxRecDepth 100000 in
theorem ti_68_44 : dp_tab 68 44 = (.iconst 0, 1) := by decide +kernel
set_option maxRecDepth 100000 in
theorem ti_68_45 : dp_tab 68 45 = (.istore 5, 2) := by decide +kernel
set_option maxRecDepth 100000 in
theorem ti_68_47 : dp_tab 68 47 = (.iload 5, 2) := by decide +kernel
set_option maxRecDepth 100000 in
theorem ti_68_49 : dp_tab 68 49 = (.aload_n 0, 1) := by decide +kernel
set_option maxRecDepth 100000 in
theorem ti_68_50 : dp_tab 68 50 = (.getfield 14, 3) := by decide +kernel
set_option maxRecDepth 100000 in
theorem ti_68_53 : dp_tab 68 53 = (.arraylength, 1) := by decide +kernel
set_option maxRecDepth 100000 in
theorem ti_68_54 : dp_tab 68 54 = (.if_icmp .ge 251, 3) := by decide +kernel
set_option maxRecDepth 100000 in
theorem ti_68_57 : dp_tab 68 57 = (.aload_n 0, 1) := by decide +kernel
set_option maxRecDepth 100000 in
theorem ti_68_58 : dp_tab 68 58 = (.iload 5, 2) := by decide +kernel
set_option maxRecDepth 100000 in
theorem ti_68_60 : dp_tab 68 60 = (.invokevirtual 40, 3) := by decide +kernel
set_option maxRecDepth 100000 in
theorem ti_68_63 : dp_tab 68 63 = (.astore 6, 2) := by decide +kernel
set_option maxRecDepth 100000 in
theorem ti_68_65 : dp_tab 68 65 = (.iconst 0, 1) := by decide +kernel
set_option maxRecDepth 100000 in
theorem ti_68_66 : dp_tab 68 66 = (.istore 7, 2) := by decide +kernel
set_option maxRecDepth 100000 in
theorem ti_68_68 : dp_tab 68 68 = (.iconst 0, 1) := by decide +kernel
set_option maxRecDepth 100000 in
theorem ti_68_69 : dp_tab 68 69 = (.istore 8, 2) := by decide +kernel
set_option maxRecDepth 100000 in
theorem ti_68_71 : dp_tab 68 71 = (.iconst 0, 1) := by decide +kernel
set_option maxRecDepth 100000 in
theorem ti_68_72 : dp_tab 68 72 = (.istore 9, 2) := by decide +kernel
set_option maxRecDepth 100000 in
theorem ti_68_74 : dp_tab 68 74 = (.iload 9, 2) := by decide +kernel
set_option maxRecDepth 100000 in
theorem ti_68_76 : dp_tab 68 76 = (.bipush 20, 2) := by decide +kernel
set_option maxRecDepth 100000 in
theorem ti_68_78 : dp_tab 68 78 = (.if_icmp .ge 39, 3) := by decide +kernel
set_option maxRecDepth 100000 in
theorem ti_68_81 : dp_tab 68 81 = (.iload 7, 2) := by decide +kernel
set_option maxRecDepth 100000 in
theorem ti_68_83 : dp_tab 68 83 = (.aload 6, 2) := by decide +kernel
set_option maxRecDepth 100000 in
theorem ti_68_85 : dp_tab 68 85 = (.iload 9, 2) := by decide +kernel
set_option maxRecDepth 100000 in
theorem ti_68_87 : dp_tab 68 87 = (.iaload, 1) := by decide +kernel
set_option maxRecDepth 100000 in
theorem ti_68_88 : dp_tab 68 88 = (.ifCond .le 7, 3) := by decide +kernel
set_option maxRecDepth 100000 in
theorem ti_68_91 : dp_tab 68 91 = (.iconst 1, 1) := by decide +kernel
set_option maxRecDepth 100000 in
theorem ti_68_92 : dp_tab 68 92 = (.goto 4, 3) := by decide +kernel
set_option maxRecDepth 100000 in
theorem ti_68_95 : dp_tab 68 95 = (.iconst 0, 1) := by decide +kernel
set_option maxRecDepth 100000 in
theorem ti_68_96 : dp_tab 68 96 = (.iadd, 1) := by decide +kernel
set_option maxRecDepth 100000 in
theorem ti_68_97 : dp_tab 68 97 = (.istore 7, 2) := by decide +kernel
set_option maxRecDepth 100000 in
theorem ti_68_99 : dp_tab 68 99 = (.aload_n 3, 1) := by decide +kernel
set_option maxRecDepth 100000 in
theorem ti_68_100 : dp_tab 68 100 = (.iload 9, 2) := by decide +kernel
set_option maxRecDepth 100000 in
theorem ti_68_102 : dp_tab 68 102 = (.dup2, 1) := by decide +kernel
set_option maxRecDepth 100000 in
theorem ti_68_103 : dp_tab 68 103 = (.iaload, 1) := by decide +kernel
set_option maxRecDepth 100000 in
theorem ti_68_104 : dp_tab 68 104 = (.aload 6, 2) := by decide +kernel
set_option maxRecDepth 100000 in
theorem ti_68_106 : dp_tab 68 106 = (.iload 9, 2) := by decide +kernel
set_option maxRecDepth 100000 in
theorem ti_68_108 : dp_tab 68 108 = (.iaload, 1) := by decide +kernel
set_option maxRecDepth 100000 in
theorem ti_68_109 : dp_tab 68 109 = (.iadd, 1) := by decide +kernel
set_option maxRecDepth 100000 in
theorem ti_68_110 : dp_tab 68 110 = (.iastore, 1) := by decide +kernel
set_option maxRecDepth 100000 in
theorem ti_68_111 : dp_tab 68 111 = (.iinc 9 1, 3) := by decide +kernel
set_option maxRecDepth 100000 in
theorem ti_68_114 : dp_tab 68 114 = (.goto (-40), 3) := by decide +kernel
set_option maxRecDepth 100000 in
theorem ti_68_117 : dp_tab 68 117 = (.aload_n 0, 1) := by decide +kernel
set_option maxRecDepth 100000 in
theorem ti_68_118 : dp_tab 68 118 = (.getfield 23, 3) := by decide +kernel
set_option maxRecDepth 100000 in
theorem ti_68_121 : dp_tab 68 121 = (.astore 9, 2) := by decide +kernel
set_option maxRecDepth 100000 in
theorem ti_68_123 : dp_tab 68 123 = (.aload 9, 2) := by decide +kernel
set_option maxRecDepth 100000 in
theorem ti_68_125 : dp_tab 68 125 = (.arraylength, 1) := by decide +kernel
set_option maxRecDepth 100000 in
theorem ti_68_126 : dp_tab 68 126 = (.istore 10, 2) := by decide +kernel
set_option maxRecDepth 100000 in
theorem ti_68_128 : dp_tab 68 128 = (.iconst 0, 1) := by decide +kernel
set_option maxRecDepth 100000 in
theorem ti_68_129 : dp_tab 68 129 = (.istore 11, 2) := by decide +kernel
set_option maxRecDepth 100000 in
theorem ti_68_131 : dp_tab 68 131 = (.iload 11, 2) := by decide +kernel
set_option maxRecDepth 100000 in
theorem ti_68_133 : dp_tab 68 133 = (.iload 10, 2) := by decide +kernel
set_option maxRecDepth 100000 in
theorem ti_68_135 : dp_tab 68 135 = (.if_icmp .ge 37, 3) := by decide +kernel
set_option maxRecDepth 100000 in
theorem ti_68_138 : dp_tab 68 138 = (.aload 9, 2) := by decide +kernel
set_option maxRecDepth 100000 in
theorem ti_68_140 : dp_tab 68 140 = (.iload 11, 2) := by decide +kernel
set_option maxRecDepth 100000 in
theorem ti_68_142 : dp_tab 68 142 = (.aaload, 1) := by decide +kernel
set_option maxRecDepth 100000 in
theorem ti_68_143 : dp_tab 68 143 = (.astore 12, 2) := by decide +kernel
set_option maxRecDepth 100000 in
theorem ti_68_145 : dp_tab 68 145 = (.iload 8, 2) := by decide +kernel
set_option maxRecDepth 100000 in
theorem ti_68_147 : dp_tab 68 147 = (.aload 12, 2) := by decide +kernel
set_option maxRecDepth 100000 in
theorem ti_68_149 : dp_tab 68 149 = (.getfield 55, 3) := by decide +kernel
set_option maxRecDepth 100000 in
theorem ti_68_152 : dp_tab 68 152 = (.iload 5, 2) := by decide +kernel
set_option maxRecDepth 100000 in
theorem ti_68_154 : dp_tab 68 154 = (.baload, 1) := by decide +kernel
set_option maxRecDepth 100000 in
theorem ti_68_155 : dp_tab 68 155 = (.ifCond .eq 7, 3) := by decide +kernel
set_option maxRecDepth 100000 in
theorem ti_68_158 : dp_tab 68 158 = (.iconst 1, 1) := by decide +kernel
set_option maxRecDepth 100000 in
theorem ti_68_159 : dp_tab 68 159 = (.goto 4, 3) := by decide +kernel
set_option maxRecDepth 100000 in
theorem ti_68_162 : dp_tab 68 162 = (.iconst 0, 1) := by decide +kernel
set_option maxRecDepth 100000 in
theorem ti_68_163 : dp_tab 68 163 = (.iadd, 1) := by decide +kernel
set_option maxRecDepth 100000 in
theorem ti_68_164 : dp_tab 68 164 = (.istore 8, 2) := by decide +kernel
set_option maxRecDepth 100000 in
theorem ti_68_166 : dp_tab 68 166 = (.iinc 11 1, 3) := by decide +kernel
set_option maxRecDepth 100000 in
theorem ti_68_169 : dp_tab 68 169 = (.goto (-38), 3) := by decide +kernel
set_option maxRecDepth 100000 in
theorem ti_68_172 : dp_tab 68 172 = (.iconst 4, 1) := by decide +kernel
set_option maxRecDepth 100000 in
theorem ti_68_173 : dp_tab 68 173 = (.newarray .int, 2) := by decide +kernel
set_option maxRecDepth 100000 in
theorem ti_68_175 : dp_tab 68 175 = (.dup, 1) := by decide +kernel
set_option maxRecDepth 100000 in
theorem ti_68_176 : dp_tab 68 176 = (.iconst 0, 1) := by decide +kernel
set_option maxRecDepth 100000 in
theorem ti_68_177 : dp_tab 68 177 = (.aload_n 0, 1) := by decide +kernel
set_option maxRecDepth 100000 in
theorem ti_68_178 : dp_tab 68 178 = (.getfield 14, 3) := by decide +kernel
set_option maxRecDepth 100000 in
theorem ti_68_181 : dp_tab 68 181 = (.iload 5, 2) := by decide +kernel
set_option maxRecDepth 100000 in
theorem ti_68_183 : dp_tab 68 183 = (.aaload, 1) := by decide +kernel
set_option maxRecDepth 100000 in
theorem ti_68_184 : dp_tab 68 184 = (.arraylength, 1) := by decide +kernel
set_option maxRecDepth 100000 in
theorem ti_68_185 : dp_tab 68 185 = (.iastore, 1) := by decide +kernel
set_option maxRecDepth 100000 in
theorem ti_68_186 : dp_tab 68 186 = (.dup, 1) := by decide +kernel
set_option maxRecDepth 100000 in
theorem ti_68_187 : dp_tab 68 187 = (.iconst 1, 1) := by decide +kernel
set_option maxRecDepth 100000 in
theorem ti_68_188 : dp_tab 68 188 = (.iload 7, 2) := by decide +kernel
set_option maxRecDepth 100000 in
theorem ti_68_190 : dp_tab 68 190 = (.iastore, 1) := by decide +kernel
set_option maxRecDepth 100000 in
theorem ti_68_191 : dp_tab 68 191 = (.dup, 1) := by decide +kernel
set_option maxRecDepth 100000 in
theorem ti_68_192 : dp_tab 68 192 = (.iconst 2, 1) := by decide +kernel
set_option maxRecDepth 100000 in
theorem ti_68_193 : dp_tab 68 193 = (.aload_n 0, 1) := by decide +kernel
set_option maxRecDepth 100000 in
theorem ti_68_194 : dp_tab 68 194 = (.getfield 18, 3) := by decide +kernel
set_option maxRecDepth 100000 in
theorem ti_68_197 : dp_tab 68 197 = (.iload 5, 2) := by decide +kernel
set_option maxRecDepth 100000 in
theorem ti_68_199 : dp_tab 68 199 = (.iaload, 1) := by decide +kernel
set_option maxRecDepth 100000 in
theorem ti_68_200 : dp_tab 68 200 = (.iastore, 1) := by decide +kernel
set_option maxRecDepth 100000 in
theorem ti_68_201 : dp_tab 68 201 = (.dup, 1) := by decide +kernel
set_option maxRecDepth 100000 in
theorem ti_68_202 : dp_tab 68 202 = (.iconst 3, 1) := by decide +kernel
set_option maxRecDepth 100000 in
theorem ti_68_203 : dp_tab 68 203 = (.iload 8, 2) := by decide +kernel
set_option maxRecDepth 100000 in
theorem ti_68_205 : dp_tab 68 205 = (.iastore, 1) := by decide +kernel
set_option maxRecDepth 100000 in
theorem ti_68_206 : dp_tab 68 206 = (.astore 9, 2) := by decide +kernel
set_option maxRecDepth 100000 in
theorem ti_68_208 : dp_tab 68 208 = (.iconst 0, 1) := by decide +kernel
set_option maxRecDepth 100000 in
theorem ti_68_209 : dp_tab 68 209 = (.istore 10, 2) := by decide +kernel
set_option maxRecDepth 100000 in
theorem ti_68_211 : dp_tab 68 211 = (.iload 10, 2) := by decide +kernel
set_option maxRecDepth 100000 in
theorem ti_68_213 : dp_tab 68 213 = (.iconst 4, 1) := by decide +kernel
set_option maxRecDepth 100000 in
theorem ti_68_214 : dp_tab 68 214 = (.if_icmp .ge 27, 3) := by decide +kernel
set_option maxRecDepth 100000 in
theorem ti_68_217 : dp_tab 68 217 = (.aload_n 1, 1) := by decide +kernel
set_option maxRecDepth 100000 in
theorem ti_68_218 : dp_tab 68 218 = (.iload 5, 2) := by decide +kernel
set_option maxRecDepth 100000 in
theorem ti_68_220 : dp_tab 68 220 = (.iload 10, 2) := by decide +kernel
set_option maxRecDepth 100000 in
theorem ti_68_222 : dp_tab 68 222 = (.invokevirtual 86, 3) := by decide +kernel
set_option maxRecDepth 100000 in
theorem ti_68_225 : dp_tab 68 225 = (.aload 9, 2) := by decide +kernel
set_option maxRecDepth 100000 in
theorem ti_68_227 : dp_tab 68 227 = (.iload 10, 2) := by decide +kernel
set_option maxRecDepth 100000 in
theorem ti_68_229 : dp_tab 68 229 = (.iaload, 1) := by decide +kernel
set_option maxRecDepth 100000 in
theorem ti_68_230 : dp_tab 68 230 = (.if_icmp .eq 5, 3) := by decide +kernel
set_option maxRecDepth 100000 in
theorem ti_68_233 : dp_tab 68 233 = (.iconst 0, 1) := by decide +kernel
set_option maxRecDepth 100000 in
theorem ti_68_234 : dp_tab 68 234 = (.ireturn, 1) := by decide +kernel
set_option maxRecDepth 100000 in
theorem ti_68_235 : dp_tab 68 235 = (.iinc 10 1, 3) := by decide +kernel
set_option maxRecDepth 100000 in
theorem ti_68_238 : dp_tab 68 238 = (.goto (-27), 3) := by decide +kernel
set_option maxRecDepth 100000 in
theorem ti_68_241 : dp_tab 68 241 = (.iconst 0, 1) := by decide +kernel
set_option maxRecDepth 100000 in
theorem ti_68_242 : dp_tab 68 242 = (.istore 10, 2) := by decide +kernel
set_option maxRecDepth 100000 in
theorem ti_68_244 : dp_tab 68 244 = (.iload 10, 2) := by decide +kernel
set_option maxRecDepth 100000 in
theorem ti_68_246 : dp_tab 68 246 = (.aload_n 0, 1) := by decide +kernel
set_option maxRecDepth 100000 in
theorem ti_68_247 : dp_tab 68 247 = (.getfield 14, 3) := by decide +kernel
set_option maxRecDepth 100000 in
theorem ti_68_250 : dp_tab 68 250 = (.iload 5, 2) := by decide +kernel
set_option maxRecDepth 100000 in
theorem ti_68_252 : dp_tab 68 252 = (.aaload, 1) := by decide +kernel
set_option maxRecDepth 100000 in
theorem ti_68_253 : dp_tab 68 253 = (.arraylength, 1) := by decide +kernel
set_option maxRecDepth 100000 in
theorem ti_68_254 : dp_tab 68 254 = (.if_icmp .ge 32, 3) := by decide +kernel
set_option maxRecDepth 100000 in
theorem ti_68_257 : dp_tab 68 257 = (.aload_n 1, 1) := by decide +kernel
set_option maxRecDepth 100000 in
theorem ti_68_258 : dp_tab 68 258 = (.iload 5, 2) := by decide +kernel
set_option maxRecDepth 100000 in
theorem ti_68_260 : dp_tab 68 260 = (.iload 10, 2) := by decide +kernel
set_option maxRecDepth 100000 in
theorem ti_68_262 : dp_tab 68 262 = (.invokevirtual 90, 3) := by decide +kernel
set_option maxRecDepth 100000 in
theorem ti_68_265 : dp_tab 68 265 = (.aload_n 0, 1) := by decide +kernel
set_option maxRecDepth 100000 in
theorem ti_68_266 : dp_tab 68 266 = (.getfield 14, 3) := by decide +kernel
set_option maxRecDepth 100000 in
theorem ti_68_269 : dp_tab 68 269 = (.iload 5, 2) := by decide +kernel
set_option maxRecDepth 100000 in
theorem ti_68_271 : dp_tab 68 271 = (.aaload, 1) := by decide +kernel
set_option maxRecDepth 100000 in
theorem ti_68_272 : dp_tab 68 272 = (.iload 10, 2) := by decide +kernel
set_option maxRecDepth 100000 in
theorem ti_68_274 : dp_tab 68 274 = (.iaload, 1) := by decide +kernel
set_option maxRecDepth 100000 in
theorem ti_68_275 : dp_tab 68 275 = (.if_icmp .eq 5, 3) := by decide +kernel
set_option maxRecDepth 100000 in
theorem ti_68_278 : dp_tab 68 278 = (.iconst 0, 1) := by decide +kernel
set_option maxRecDepth 100000 in
theorem ti_68_279 : dp_tab 68 279 = (.ireturn, 1) := by decide +kernel
set_option maxRecDepth 100000 in
theorem ti_68_280 : dp_tab 68 280 = (.iinc 10 1, 3) := by decide +kernel
set_option maxRecDepth 100000 in
theorem ti_68_283 : dp_tab 68 283 = (.goto (-39), 3) := by decide +kernel
set_option maxRecDepth 100000 in
theorem ti_68_286 : dp_tab 68 286 = (.iload 4, 2) := by decide +kernel
set_option maxRecDepth 100000 in
theorem ti_68_288 : dp_tab 68 288 = (.aload_n 0, 1) := by decide +kernel
set_option maxRecDepth 100000 in
theorem ti_68_289 : dp_tab 68 289 = (.getfield 14, 3) := by decide +kernel
set_option maxRecDepth 100000 in
theorem ti_68_292 : dp_tab 68 292 = (.iload 5, 2) := by decide +kernel
set_option maxRecDepth 100000 in
theorem ti_68_294 : dp_tab 68 294 = (.aaload, 1) := by decide +kernel
set_option maxRecDepth 100000 in
theorem ti_68_295 : dp_tab 68 295 = (.arraylength, 1) := by decide +kernel
set_option maxRecDepth 100000 in
theorem ti_68_296 : dp_tab 68 296 = (.iadd, 1) := by decide +kernel
set_option maxRecDepth 100000 in
theorem ti_68_297 : dp_tab 68 297 = (.istore 4, 2) := by decide +kernel
set_option maxRecDepth 100000 in
theorem ti_68_299 : dp_tab 68 299 = (.iinc 5 1, 3) := by decide +kernel
set_option maxRecDepth 100000 in
theorem ti_68_302 : dp_tab 68 302 = (.goto (-255), 3) := by decide +kernel
set_option maxRecDepth 100000 in
theorem ti_68_305 : dp_tab 68 305 = (.iconst 0, 1) := by decide +kernel
set_option maxRecDepth 100000 in
theorem ti_68_306 : dp_tab 68 306 = (.istore 5, 2) := by decide +kernel
set_option maxRecDepth 100000 in
theorem ti_68_308 : dp_tab 68 308 = (.iconst 0, 1) := by decide +kernel
set_option maxRecDepth 100000 in
theorem ti_68_309 : dp_tab 68 309 = (.istore 6, 2) := by decide +kernel
set_option maxRecDepth 100000 in
theorem ti_68_311 : dp_tab 68 311 = (.iconst 0, 1) := by decide +kernel
set_option maxRecDepth 100000 in
theorem ti_68_312 : dp_tab 68 312 = (.istore 7, 2) := by decide +kernel
set_option maxRecDepth 100000 in
theorem ti_68_314 : dp_tab 68 314 = (.iload 7, 2) := by decide +kernel
set_option maxRecDepth 100000 in
theorem ti_68_316 : dp_tab 68 316 = (.aload_n 0, 1) := by decide +kernel
set_option maxRecDepth 100000 in
theorem ti_68_317 : dp_tab 68 317 = (.getfield 23, 3) := by decide +kernel
set_option maxRecDepth 100000 in
theorem ti_68_320 : dp_tab 68 320 = (.arraylength, 1) := by decide +kernel
set_option maxRecDepth 100000 in
theorem ti_68_321 : dp_tab 68 321 = (.if_icmp .ge 308, 3) := by decide +kernel
set_option maxRecDepth 100000 in
theorem ti_68_324 : dp_tab 68 324 = (.aload_n 0, 1) := by decide +kernel
set_option maxRecDepth 100000 in
theorem ti_68_325 : dp_tab 68 325 = (.getfield 23, 3) := by decide +kernel
set_option maxRecDepth 100000 in
theorem ti_68_328 : dp_tab 68 328 = (.iload 7, 2) := by decide +kernel
set_option maxRecDepth 100000 in
theorem ti_68_330 : dp_tab 68 330 = (.aaload, 1) := by decide +kernel
set_option maxRecDepth 100000 in
theorem ti_68_331 : dp_tab 68 331 = (.astore 8, 2) := by decide +kernel
set_option maxRecDepth 100000 in
theorem ti_68_333 : dp_tab 68 333 = (.aload_n 0, 1) := by decide +kernel
set_option maxRecDepth 100000 in
theorem ti_68_334 : dp_tab 68 334 = (.aload 8, 2) := by decide +kernel
set_option maxRecDepth 100000 in
theorem ti_68_336 : dp_tab 68 336 = (.invokevirtual 62, 3) := by decide +kernel
set_option maxRecDepth 100000 in
theorem ti_68_339 : dp_tab 68 339 = (.astore 9, 2) := by decide +kernel
set_option maxRecDepth 100000 in
theorem ti_68_341 : dp_tab 68 341 = (.iconst 0, 1) := by decide +kernel
set_option maxRecDepth 100000 in
theorem ti_68_342 : dp_tab 68 342 = (.istore 10, 2) := by decide +kernel
set_option maxRecDepth 100000 in
theorem ti_68_344 : dp_tab 68 344 = (.iconst 0, 1) := by decide +kernel
set_option maxRecDepth 100000 in
theorem ti_68_345 : dp_tab 68 345 = (.istore 11, 2) := by decide +kernel
set_option maxRecDepth 100000 in
theorem ti_68_347 : dp_tab 68 347 = (.iconst 0, 1) := by decide +kernel
set_option maxRecDepth 100000 in
theorem ti_68_348 : dp_tab 68 348 = (.istore 12, 2) := by decide +kernel
set_option maxRecDepth 100000 in
theorem ti_68_350 : dp_tab 68 350 = (.iload 12, 2) := by decide +kernel
set_option maxRecDepth 100000 in
theorem ti_68_352 : dp_tab 68 352 = (.aload_n 0, 1) := by decide +kernel
set_option maxRecDepth 100000 in
theorem ti_68_353 : dp_tab 68 353 = (.getfield 14, 3) := by decide +kernel
set_option maxRecDepth 100000 in
theorem ti_68_356 : dp_tab 68 356 = (.arraylength, 1) := by decide +kernel
set_option maxRecDepth 100000 in
theorem ti_68_357 : dp_tab 68 357 = (.if_icmp .ge 81, 3) := by decide +kernel
set_option maxRecDepth 100000 in
theorem ti_68_360 : dp_tab 68 360 = (.iload 10, 2) := by decide +kernel
set_option maxRecDepth 100000 in
theorem ti_68_362 : dp_tab 68 362 = (.aload 8, 2) := by decide +kernel
set_option maxRecDepth 100000 in
theorem ti_68_364 : dp_tab 68 364 = (.getfield 55, 3) := by decide +kernel
set_option maxRecDepth 100000 in
theorem ti_68_367 : dp_tab 68 367 = (.iload 12, 2) := by decide +kernel
set_option maxRecDepth 100000 in
theorem ti_68_369 : dp_tab 68 369 = (.baload, 1) := by decide +kernel
set_option maxRecDepth 100000 in
theorem ti_68_370 : dp_tab 68 370 = (.ifCond .eq 7, 3) := by decide +kernel
set_option maxRecDepth 100000 in
theorem ti_68_373 : dp_tab 68 373 = (.iconst 1, 1) := by decide +kernel
set_option maxRecDepth 100000 in
theorem ti_68_374 : dp_tab 68 374 = (.goto 4, 3) := by decide +kernel
set_option maxRecDepth 100000 in
theorem ti_68_377 : dp_tab 68 377 = (.iconst 0, 1) := by decide +kernel
set_option maxRecDepth 100000 in
theorem ti_68_378 : dp_tab 68 378 = (.iadd, 1) := by decide +kernel
set_option maxRecDepth 100000 in
theorem ti_68_379 : dp_tab 68 379 = (.istore 10, 2) := by decide +kernel
set_option maxRecDepth 100000 in
theorem ti_68_381 : dp_tab 68 381 = (.iload 11, 2) := by decide +kernel
set_option maxRecDepth 100000 in
theorem ti_68_383 : dp_tab 68 383 = (.aload 9, 2) := by decide +kernel
set_option maxRecDepth 100000 in
theorem ti_68_385 : dp_tab 68 385 = (.iload 12, 2) := by decide +kernel
set_option maxRecDepth 100000 in
theorem ti_68_387 : dp_tab 68 387 = (.iaload, 1) := by decide +kernel
set_option maxRecDepth 100000 in
theorem ti_68_388 : dp_tab 68 388 = (.ifCond .lt 7, 3) := by decide +kernel
set_option maxRecDepth 100000 in
theorem ti_68_391 : dp_tab 68 391 = (.iconst 1, 1) := by decide +kernel
set_option maxRecDepth 100000 in
theorem ti_68_392 : dp_tab 68 392 = (.goto 4, 3) := by decide +kernel
set_option maxRecDepth 100000 in
theorem ti_68_395 : dp_tab 68 395 = (.iconst 0, 1) := by decide +kernel
set_option maxRecDepth 100000 in
theorem ti_68_396 : dp_tab 68 396 = (.iadd, 1) := by decide +kernel
set_option maxRecDepth 100000 in
theorem ti_68_397 : dp_tab 68 397 = (.istore 11, 2) := by decide +kernel
set_option maxRecDepth 100000 in
theorem ti_68_399 : dp_tab 68 399 = (.aload_n 1, 1) := by decide +kernel
set_option maxRecDepth 100000 in
theorem ti_68_400 : dp_tab 68 400 = (.iload 7, 2) := by decide +kernel
set_option maxRecDepth 100000 in
theorem ti_68_402 : dp_tab 68 402 = (.iload 12, 2) := by decide +kernel
set_option maxRecDepth 100000 in
theorem ti_68_404 : dp_tab 68 404 = (.invokevirtual 93, 3) := by decide +kernel
set_option maxRecDepth 100000 in
theorem ti_68_407 : dp_tab 68 407 = (.aload_n 0, 1) := by decide +kernel
set_option maxRecDepth 100000 in
theorem ti_68_408 : dp_tab 68 408 = (.aload 8, 2) := by decide +kernel
set_option maxRecDepth 100000 in
theorem ti_68_410 : dp_tab 68 410 = (.aload_n 0, 1) := by decide +kernel
set_option maxRecDepth 100000 in
theorem ti_68_411 : dp_tab 68 411 = (.iload 12, 2) := by decide +kernel
set_option maxRecDepth 100000 in
theorem ti_68_413 : dp_tab 68 413 = (.invokevirtual 40, 3) := by decide +kernel
set_option maxRecDepth 100000 in
theorem ti_68_416 : dp_tab 68 416 = (.aload_n 2, 1) := by decide +kernel
set_option maxRecDepth 100000 in
theorem ti_68_417 : dp_tab 68 417 = (.aload_n 0, 1) := by decide +kernel
set_option maxRecDepth 100000 in
theorem ti_68_418 : dp_tab 68 418 = (.getfield 18, 3) := by decide +kernel
set_option maxRecDepth 100000 in
theorem ti_68_421 : dp_tab 68 421 = (.iload 12, 2) := by decide +kernel
set_option maxRecDepth 100000 in
theorem ti_68_423 : dp_tab 68 423 = (.iaload, 1) := by decide +kernel
set_option maxRecDepth 100000 in
theorem ti_68_424 : dp_tab 68 424 = (.invokevirtual 51, 3) := by decide +kernel
set_option maxRecDepth 100000 in
theorem ti_68_427 : dp_tab 68 427 = (.if_icmp .eq 5, 3) := by decide +kernel
set_option maxRecDepth 100000 in
theorem ti_68_430 : dp_tab 68 430 = (.iconst 0, 1) := by decide +kernel
set_option maxRecDepth 100000 in
theorem ti_68_431 : dp_tab 68 431 = (.ireturn, 1) := by decide +kernel
set_option maxRecDepth 100000 in
theorem ti_68_432 : dp_tab 68 432 = (.iinc 12 1, 3) := by decide +kernel
set_option maxRecDepth 100000 in
theorem ti_68_435 : dp_tab 68 435 = (.goto (-85), 3) := by decide +kernel
set_option maxRecDepth 100000 in
theorem ti_68_438 : dp_tab 68 438 = (.bipush 6, 2) := by decide +kernel
set_option maxRecDepth 100000 in
theorem ti_68_440 : dp_tab 68 440 = (.newarray .int, 2) := by decide +kernel
set_option maxRecDepth 100000 in
theorem ti_68_442 : dp_tab 68 442 = (.dup, 1) := by decide +kernel
set_option maxRecDepth 100000 in
theorem ti_68_443 : dp_tab 68 443 = (.iconst 0, 1) := by decide +kernel
set_option maxRecDepth 100000 in
theorem ti_68_444 : dp_tab 68 444 = (.aload 8, 2) := by decide +kernel
set_option maxRecDepth 100000 in
theorem ti_68_446 : dp_tab 68 446 = (.getfield 70, 3) := by decide +kernel
set_option maxRecDepth 100000 in
theorem ti_68_449 : dp_tab 68 449 = (.iastore, 1) := by decide +kernel
set_option maxRecDepth 100000 in
theorem ti_68_450 : dp_tab 68 450 = (.dup, 1) := by decide +kernel
set_option maxRecDepth 100000 in
theorem ti_68_451 : dp_tab 68 451 = (.iconst 1, 1) := by decide +kernel
set_option maxRecDepth 100000 in
theorem ti_68_452 : dp_tab 68 452 = (.aload 8, 2) := by decide +kernel
set_option maxRecDepth 100000 in
theorem ti_68_454 : dp_tab 68 454 = (.getfield 44, 3) := by decide +kernel
set_option maxRecDepth 100000 in
theorem ti_68_457 : dp_tab 68 457 = (.arraylength, 1) := by decide +kernel
set_option maxRecDepth 100000 in
theorem ti_68_458 : dp_tab 68 458 = (.iastore, 1) := by decide +kernel
set_option maxRecDepth 100000 in
theorem ti_68_459 : dp_tab 68 459 = (.dup, 1) := by decide +kernel
set_option maxRecDepth 100000 in
theorem ti_68_460 : dp_tab 68 460 = (.iconst 2, 1) := by decide +kernel
set_option maxRecDepth 100000 in
theorem ti_68_461 : dp_tab 68 461 = (.aload 8, 2) := by decide +kernel
set_option maxRecDepth 100000 in
theorem ti_68_463 : dp_tab 68 463 = (.getfield 59, 3) := by decide +kernel
set_option maxRecDepth 100000 in
theorem ti_68_466 : dp_tab 68 466 = (.iastore, 1) := by decide +kernel
set_option maxRecDepth 100000 in
theorem ti_68_467 : dp_tab 68 467 = (.dup, 1) := by decide +kernel
set_option maxRecDepth 100000 in
theorem ti_68_468 : dp_tab 68 468 = (.iconst 3, 1) := by decide +kernel
set_option maxRecDepth 100000 in
theorem ti_68_469 : dp_tab 68 469 = (.iload 10, 2) := by decide +kernel
set_option maxRecDepth 100000 in
theorem ti_68_471 : dp_tab 68 471 = (.iastore, 1) := by decide +kernel
set_option maxRecDepth 100000 in
theorem ti_68_472 : dp_tab 68 472 = (.dup, 1) := by decide +kernel
set_option maxRecDepth 100000 in
theorem ti_68_473 : dp_tab 68 473 = (.iconst 4, 1) := by decide +kernel
set_option maxRecDepth 100000 in
theorem ti_68_474 : dp_tab 68 474 = (.aload 8, 2) := by decide +kernel
set_option maxRecDepth 100000 in
theorem ti_68_476 : dp_tab 68 476 = (.getfield 73, 3) := by decide +kernel
set_option maxRecDepth 100000 in
theorem ti_68_479 : dp_tab 68 479 = (.iastore, 1) := by decide +kernel
set_option maxRecDepth 100000 in
theorem ti_68_480 : dp_tab 68 480 = (.dup, 1) := by decide +kernel
set_option maxRecDepth 100000 in
theorem ti_68_481 : dp_tab 68 481 = (.iconst 5, 1) := by decide +kernel
set_option maxRecDepth 100000 in
theorem ti_68_482 : dp_tab 68 482 = (.iload 11, 2) := by decide +kernel
set_option maxRecDepth 100000 in
theorem ti_68_484 : dp_tab 68 484 = (.iastore, 1) := by decide +kernel
set_option maxRecDepth 100000 in
theorem ti_68_485 : dp_tab 68 485 = (.astore 12, 2) := by decide +kernel
set_option maxRecDepth 100000 in
theorem ti_68_487 : dp_tab 68 487 = (.iconst 0, 1) := by decide +kernel
set_option maxRecDepth 100000 in
theorem ti_68_488 : dp_tab 68 488 = (.istore 13, 2) := by decide +kernel
set_option maxRecDepth 100000 in
theorem ti_68_490 : dp_tab 68 490 = (.iload 13, 2) := by decide +kernel
set_option maxRecDepth 100000 in
theorem ti_68_492 : dp_tab 68 492 = (.bipush 6, 2) := by decide +kernel
set_option maxRecDepth 100000 in
theorem ti_68_494 : dp_tab 68 494 = (.if_icmp .ge 27, 3) := by decide +kernel
set_option maxRecDepth 100000 in
theorem ti_68_497 : dp_tab 68 497 = (.aload_n 1, 1) := by decide +kernel
set_option maxRecDepth 100000 in
theorem ti_68_498 : dp_tab 68 498 = (.iload 7, 2) := by decide +kernel
set_option maxRecDepth 100000 in
theorem ti_68_500 : dp_tab 68 500 = (.iload 13, 2) := by decide +kernel
set_option maxRecDepth 100000 in
theorem ti_68_502 : dp_tab 68 502 = (.invokevirtual 95, 3) := by decide +kernel
set_option maxRecDepth 100000 in
theorem ti_68_505 : dp_tab 68 505 = (.aload 12, 2) := by decide +kernel
set_option maxRecDepth 100000 in
theorem ti_68_507 : dp_tab 68 507 = (.iload 13, 2) := by decide +kernel
set_option maxRecDepth 100000 in
theorem ti_68_509 : dp_tab 68 509 = (.iaload, 1) := by decide +kernel
set_option maxRecDepth 100000 in
theorem ti_68_510 : dp_tab 68 510 = (.if_icmp .eq 5, 3) := by decide +kernel
set_option maxRecDepth 100000 in
theorem ti_68_513 : dp_tab 68 513 = (.iconst 0, 1) := by decide +kernel
set_option maxRecDepth 100000 in
theorem ti_68_514 : dp_tab 68 514 = (.ireturn, 1) := by decide +kernel
set_option maxRecDepth 100000 in
theorem ti_68_515 : dp_tab 68 515 = (.iinc 13 1, 3) := by decide +kernel
set_option maxRecDepth 100000 in
theorem ti_68_518 : dp_tab 68 518 = (.goto (-28), 3) := by decide +kernel
set_option maxRecDepth 100000 in
theorem ti_68_521 : dp_tab 68 521 = (.iconst 0, 1) := by decide +kernel
set_option maxRecDepth 100000 in
theorem ti_68_522 : dp_tab 68 522 = (.istore 13, 2) := by decide +kernel
set_option maxRecDepth 100000 in
theorem ti_68_524 : dp_tab 68 524 = (.iload 13, 2) := by decide +kernel
set_option maxRecDepth 100000 in
theorem ti_68_526 : dp_tab 68 526 = (.aload 8, 2) := by decide +kernel
set_option maxRecDepth 100000 in
theorem ti_68_528 : dp_tab 68 528 = (.getfield 44, 3) := by decide +kernel
set_option maxRecDepth 100000 in
theorem ti_68_531 : dp_tab 68 531 = (.arraylength, 1) := by decide +kernel
set_option maxRecDepth 100000 in
theorem ti_68_532 : dp_tab 68 532 = (.if_icmp .ge 30, 3) := by decide +kernel
set_option maxRecDepth 100000 in
theorem ti_68_535 : dp_tab 68 535 = (.aload_n 1, 1) := by decide +kernel
set_option maxRecDepth 100000 in
theorem ti_68_536 : dp_tab 68 536 = (.iload 7, 2) := by decide +kernel
set_option maxRecDepth 100000 in
theorem ti_68_538 : dp_tab 68 538 = (.iload 13, 2) := by decide +kernel
set_option maxRecDepth 100000 in
theorem ti_68_540 : dp_tab 68 540 = (.invokevirtual 98, 3) := by decide +kernel
set_option maxRecDepth 100000 in
theorem ti_68_543 : dp_tab 68 543 = (.aload 8, 2) := by decide +kernel
set_option maxRecDepth 100000 in
theorem ti_68_545 : dp_tab 68 545 = (.getfield 44, 3) := by decide +kernel
set_option maxRecDepth 100000 in
theorem ti_68_548 : dp_tab 68 548 = (.iload 13, 2) := by decide +kernel
set_option maxRecDepth 100000 in
theorem ti_68_550 : dp_tab 68 550 = (.iaload, 1) := by decide +kernel
set_option maxRecDepth 100000 in
theorem ti_68_551 : dp_tab 68 551 = (.if_icmp .eq 5, 3) := by decide +kernel
set_option maxRecDepth 100000 in
theorem ti_68_554 : dp_tab 68 554 = (.iconst 0, 1) := by decide +kernel
set_option maxRecDepth 100000 in
theorem ti_68_555 : dp_tab 68 555 = (.ireturn, 1) := by decide +kernel
set_option maxRecDepth 100000 in
theorem ti_68_556 : dp_tab 68 556 = (.iinc 13 1, 3) := by decide +kernel
set_option maxRecDepth 100000 in
theorem ti_68_559 : dp_tab 68 559 = (.goto (-35), 3) := by decide +kernel
set_option maxRecDepth 100000 in
theorem ti_68_562 : dp_tab 68 562 = (.iconst 0, 1) := by decide +kernel
set_option maxRecDepth 100000 in
theorem ti_68_563 : dp_tab 68 563 = (.istore 13, 2) := by decide +kernel
set_option maxRecDepth 100000 in
theorem ti_68_565 : dp_tab 68 565 = (.iload 13, 2) := by decide +kernel
set_option maxRecDepth 100000 in
theorem ti_68_567 : dp_tab 68 567 = (.iload 11, 2) := by decide +kernel
set_option maxRecDepth 100000 in
theorem ti_68_569 : dp_tab 68 569 = (.if_icmp .ge 37, 3) := by decide +kernel
set_option maxRecDepth 100000 in
theorem ti_68_572 : dp_tab 68 572 = (.aload 9, 2) := by decide +kernel
set_option maxRecDepth 100000 in
theorem ti_68_574 : dp_tab 68 574 = (.invokestatic 66, 3) := by decide +kernel
set_option maxRecDepth 100000 in
theorem ti_68_577 : dp_tab 68 577 = (.istore 14, 2) := by decide +kernel
set_option maxRecDepth 100000 in
theorem ti_68_579 : dp_tab 68 579 = (.aload_n 1, 1) := by decide +kernel
set_option maxRecDepth 100000 in
theorem ti_68_580 : dp_tab 68 580 = (.iload 7, 2) := by decide +kernel
set_option maxRecDepth 100000 in
theorem ti_68_582 : dp_tab 68 582 = (.iload 13, 2) := by decide +kernel
set_option maxRecDepth 100000 in
theorem ti_68_584 : dp_tab 68 584 = (.invokevirtual 101, 3) := by decide +kernel
set_option maxRecDepth 100000 in
theorem ti_68_587 : dp_tab 68 587 = (.iload 14, 2) := by decide +kernel
set_option maxRecDepth 100000 in
theorem ti_68_589 : dp_tab 68 589 = (.if_icmp .eq 5, 3) := by decide +kernel
set_option maxRecDepth 100000 in
theorem ti_68_592 : dp_tab 68 592 = (.iconst 0, 1) := by decide +kernel
set_option maxRecDepth 100000 in
theorem ti_68_593 : dp_tab 68 593 = (.ireturn, 1) := by decide +kernel
set_option maxRecDepth 100000 in
theorem ti_68_594 : dp_tab 68 594 = (.aload 9, 2) := by decide +kernel
set_option maxRecDepth 100000 in
theorem ti_68_596 : dp_tab 68 596 = (.iload 14, 2) := by decide +kernel
set_option maxRecDepth 100000 in
theorem ti_68_598 : dp_tab 68 598 = (.iconst (-1), 1) := by decide +kernel
set_option maxRecDepth 100000 in
theorem ti_68_599 : dp_tab 68 599 = (.iastore, 1) := by decide +kernel
set_option maxRecDepth 100000 in
theorem ti_68_600 : dp_tab 68 600 = (.iinc 13 1, 3) := by decide +kernel
set_option maxRecDepth 100000 in
theorem ti_68_603 : dp_tab 68 603 = (.goto (-38), 3) := by decide +kernel
set_option maxRecDepth 100000 in
theorem ti_68_606 : dp_tab 68 606 = (.iload 5, 2) := by decide +kernel
set_option maxRecDepth 100000 in
theorem ti_68_608 : dp_tab 68 608 = (.iload 10, 2) := by decide +kernel
set_option maxRecDepth 100000 in
theorem ti_68_610 : dp_tab 68 610 = (.iadd, 1) := by decide +kernel
set_option maxRecDepth 100000 in
theorem ti_68_611 : dp_tab 68 611 = (.istore 5, 2) := by decide +kernel
set_option maxRecDepth 100000 in
theorem ti_68_613 : dp_tab 68 613 = (.iload 6, 2) := by decide +kernel
set_option maxRecDepth 100000 in
theorem ti_68_615 : dp_tab 68 615 = (.aload 8, 2) := by decide +kernel
set_option maxRecDepth 100000 in
theorem ti_68_617 : dp_tab 68 617 = (.getfield 73, 3) := by decide +kernel
set_option maxRecDepth 100000 in
theorem ti_68_620 : dp_tab 68 620 = (.iadd, 1) := by decide +kernel
set_option maxRecDepth 100000 in
theorem ti_68_621 : dp_tab 68 621 = (.istore 6, 2) := by decide +kernel
set_option maxRecDepth 100000 in
theorem ti_68_623 : dp_tab 68 623 = (.iinc 7 1, 3) := by decide +kernel
set_option maxRecDepth 100000 in
theorem ti_68_626 : dp_tab 68 626 = (.goto (-312), 3) := by decide +kernel
set_option maxRecDepth 100000 in
theorem ti_68_629 : dp_tab 68 629 = (.iconst 0, 1) := by decide +kernel
set_option maxRecDepth 100000 in
theorem ti_68_630 : dp_tab 68 630 = (.istore 7, 2) := by decide +kernel
set_option maxRecDepth 100000 in
theorem ti_68_632 : dp_tab 68 632 = (.aload_n 3, 1) := by decide +kernel
set_option maxRecDepth 100000 in
theorem ti_68_633 : dp_tab 68 633 = (.astore 8, 2) := by decide +kernel
set_option maxRecDepth 100000 in
theorem ti_68_635 : dp_tab 68 635 = (.aload 8, 2) := by decide +kernel
set_option maxRecDepth 100000 in
theorem ti_68_637 : dp_tab 68 637 = (.arraylength, 1) := by decide +kernel
set_option maxRecDepth 100000 in
theorem ti_68_638 : dp_tab 68 638 = (.istore 9, 2) := by decide +kernel
set_option maxRecDepth 100000 in
theorem ti_68_640 : dp_tab 68 640 = (.iconst 0, 1) := by decide +kernel
set_option maxRecDepth 100000 in
theorem ti_68_641 : dp_tab 68 641 = (.istore 10, 2) := by decide +kernel
set_option maxRecDepth 100000 in
theorem ti_68_643 : dp_tab 68 643 = (.iload 10, 2) := by decide +kernel
set_option maxRecDepth 100000 in
theorem ti_68_645 : dp_tab 68 645 = (.iload 9, 2) := by decide +kernel
set_option maxRecDepth 100000 in
theorem ti_68_647 : dp_tab 68 647 = (.if_icmp .ge 31, 3) := by decide +kernel
set_option maxRecDepth 100000 in
theorem ti_68_650 : dp_tab 68 650 = (.aload 8, 2) := by decide +kernel
set_option maxRecDepth 100000 in
theorem ti_68_652 : dp_tab 68 652 = (.iload 10, 2) := by decide +kernel
set_option maxRecDepth 100000 in
theorem ti_68_654 : dp_tab 68 654 = (.iaload, 1) := by decide +kernel
set_option maxRecDepth 100000 in
theorem ti_68_655 : dp_tab 68 655 = (.istore 11, 2) := by decide +kernel
set_option maxRecDepth 100000 in
theorem ti_68_657 : dp_tab 68 657 = (.iload 7, 2) := by decide +kernel
set_option maxRecDepth 100000 in
theorem ti_68_659 : dp_tab 68 659 = (.iload 11, 2) := by decide +kernel
set_option maxRecDepth 100000 in
theorem ti_68_661 : dp_tab 68 661 = (.ifCond .le 7, 3) := by decide +kernel
set_option maxRecDepth 100000 in
theorem ti_68_664 : dp_tab 68 664 = (.iconst 1, 1) := by decide +kernel
set_option maxRecDepth 100000 in
theorem ti_68_665 : dp_tab 68 665 = (.goto 4, 3) := by decide +kernel
set_option maxRecDepth 100000 in
theorem ti_68_668 : dp_tab 68 668 = (.iconst 0, 1) := by decide +kernel
set_option maxRecDepth 100000 in
theorem ti_68_669 : dp_tab 68 669 = (.iadd, 1) := by decide +kernel
set_option maxRecDepth 100000 in
theorem ti_68_670 : dp_tab 68 670 = (.istore 7, 2) := by decide +kernel
set_option maxRecDepth 100000 in
theorem ti_68_672 : dp_tab 68 672 = (.iinc 10 1, 3) := by decide +kernel
set_option maxRecDepth 100000 in
theorem ti_68_675 : dp_tab 68 675 = (.goto (-32), 3) := by decide +kernel
set_option maxRecDepth 100000 in
theorem ti_68_678 : dp_tab 68 678 = (.bipush 7, 2) := by decide +kernel
set_option maxRecDepth 100000 in
theorem ti_68_680 : dp_tab 68 680 = (.newarray .int, 2) := by decide +kernel
set_option maxRecDepth 100000 in
theorem ti_68_682 : dp_tab 68 682 = (.dup, 1) := by decide +kernel
set_option maxRecDepth 100000 in
theorem ti_68_683 : dp_tab 68 683 = (.iconst 0, 1) := by decide +kernel
set_option maxRecDepth 100000 in
theorem ti_68_684 : dp_tab 68 684 = (.aload_n 0, 1) := by decide +kernel
set_option maxRecDepth 100000 in
theorem ti_68_685 : dp_tab 68 685 = (.getfield 14, 3) := by decide +kernel
set_option maxRecDepth 100000 in
theorem ti_68_688 : dp_tab 68 688 = (.arraylength, 1) := by decide +kernel
set_option maxRecDepth 100000 in
theorem ti_68_689 : dp_tab 68 689 = (.iastore, 1) := by decide +kernel
set_option maxRecDepth 100000 in
theorem ti_68_690 : dp_tab 68 690 = (.dup, 1) := by decide +kernel
set_option maxRecDepth 100000 in
theorem ti_68_691 : dp_tab 68 691 = (.iconst 1, 1) := by decide +kernel
set_option maxRecDepth 100000 in
theorem ti_68_692 : dp_tab 68 692 = (.aload_n 0, 1) := by decide +kernel
set_option maxRecDepth 100000 in
theorem ti_68_693 : dp_tab 68 693 = (.getfield 23, 3) := by decide +kernel
set_option maxRecDepth 100000 in
theorem ti_68_696 : dp_tab 68 696 = (.arraylength, 1) := by decide +kernel
set_option maxRecDepth 100000 in
theorem ti_68_697 : dp_tab 68 697 = (.iastore, 1) := by decide +kernel
set_option maxRecDepth 100000 in
theorem ti_68_698 : dp_tab 68 698 = (.dup, 1) := by decide +kernel
set_option maxRecDepth 100000 in
theorem ti_68_699 : dp_tab 68 699 = (.iconst 2, 1) := by decide +kernel
set_option maxRecDepth 100000 in
theorem ti_68_700 : dp_tab 68 700 = (.iload 4, 2) := by decide +kernel
set_option maxRecDepth 100000 in
theorem ti_68_702 : dp_tab 68 702 = (.iastore, 1) := by decide +kernel
set_option maxRecDepth 100000 in
theorem ti_68_703 : dp_tab 68 703 = (.dup, 1) := by decide +kernel
set_option maxRecDepth 100000 in
theorem ti_68_704 : dp_tab 68 704 = (.iconst 3, 1) := by decide +kernel
set_option maxRecDepth 100000 in
theorem ti_68_705 : dp_tab 68 705 = (.iload 7, 2) := by decide +kernel
set_option maxRecDepth 100000 in
theorem ti_68_707 : dp_tab 68 707 = (.iastore, 1) := by decide +kernel
set_option maxRecDepth 100000 in
theorem ti_68_708 : dp_tab 68 708 = (.dup, 1) := by decide +kernel
set_option maxRecDepth 100000 in
theorem ti_68_709 : dp_tab 68 709 = (.iconst 4, 1) := by decide +kernel
set_option maxRecDepth 100000 in
theorem ti_68_710 : dp_tab 68 710 = (.aload_n 0, 1) := by decide +kernel
set_option maxRecDepth 100000 in
theorem ti_68_711 : dp_tab 68 711 = (.getfield 36, 3) := by decide +kernel
set_option maxRecDepth 100000 in
theorem ti_68_714 : dp_tab 68 714 = (.iastore, 1) := by decide +kernel
set_option maxRecDepth 100000 in
theorem ti_68_715 : dp_tab 68 715 = (.dup, 1) := by decide +kernel
set_option maxRecDepth 100000 in
theorem ti_68_716 : dp_tab 68 716 = (.iconst 5, 1) := by decide +kernel
set_option maxRecDepth 100000 in
theorem ti_68_717 : dp_tab 68 717 = (.iload 5, 2) := by decide +kernel
set_option maxRecDepth 100000 in
theorem ti_68_719 : dp_tab 68 719 = (.iastore, 1) := by decide +kernel
set_option maxRecDepth 100000 in
theorem ti_68_720 : dp_tab 68 720 = (.dup, 1) := by decide +kernel
set_option maxRecDepth 100000 in
theorem ti_68_721 : dp_tab 68 721 = (.bipush 6, 2) := by decide +kernel
set_option maxRecDepth 100000 in
theorem ti_68_723 : dp_tab 68 723 = (.iload 6, 2) := by decide +kernel
set_option maxRecDepth 100000 in
theorem ti_68_725 : dp_tab 68 725 = (.iastore, 1) := by decide +kernel
set_option maxRecDepth 100000 in
theorem ti_68_726 : dp_tab 68 726 = (.astore 8, 2) := by decide +kernel
set_option maxRecDepth 100000 in
theorem ti_68_728 : dp_tab 68 728 = (.iconst 0, 1) := by decide +kernel
set_option maxRecDepth 100000 in
theorem ti_68_729 : dp_tab 68 729 = (.istore 9, 2) := by decide +kernel
set_option maxRecDepth 100000 in
theorem ti_68_731 : dp_tab 68 731 = (.iload 9, 2) := by decide +kernel
set_option maxRecDepth 100000 in
theorem ti_68_733 : dp_tab 68 733 = (.bipush 7, 2) := by decide +kernel
set_option maxRecDepth 100000 in
theorem ti_68_735 : dp_tab 68 735 = (.if_icmp .ge 25, 3) := by decide +kernel
set_option maxRecDepth 100000 in
theorem ti_68_738 : dp_tab 68 738 = (.aload_n 1, 1) := by decide +kernel
set_option maxRecDepth 100000 in
theorem ti_68_739 : dp_tab 68 739 = (.iload 9, 2) := by decide +kernel
set_option maxRecDepth 100000 in
theorem ti_68_741 : dp_tab 68 741 = (.invokevirtual 104, 3) := by decide +kernel
set_option maxRecDepth 100000 in
theorem ti_68_744 : dp_tab 68 744 = (.aload 8, 2) := by decide +kernel
set_option maxRecDepth 100000 in
theorem ti_68_746 : dp_tab 68 746 = (.iload 9, 2) := by decide +kernel
set_option maxRecDepth 100000 in
theorem ti_68_748 : dp_tab 68 748 = (.iaload, 1) := by decide +kernel
set_option maxRecDepth 100000 in
theorem ti_68_749 : dp_tab 68 749 = (.if_icmp .eq 5, 3) := by decide +kernel
set_option maxRecDepth 100000 in
theorem ti_68_752 : dp_tab 68 752 = (.iconst 0, 1) := by decide +kernel
set_option maxRecDepth 100000 in
theorem ti_68_753 : dp_tab 68 753 = (.ireturn, 1) := by decide +kernel
set_option maxRecDepth 100000 in
theorem ti_68_754 : dp_tab 68 754 = (.iinc 9 1, 3) := by decide +kernel
set_option maxRecDepth 100000 in
theorem ti_68_757 : dp_tab 68 757 = (.goto (-26), 3) := by decide +kernel
set_option maxRecDepth 100000 in
theorem ti_68_760 : dp_tab 68 760 = (.aload_n 1, 1) := by decide +kernel
set_option maxRecDepth 100000 in
theorem ti_68_761 : dp_tab 68 761 = (.invokevirtual 107, 3) := by decide +kernel
set_option maxRecDepth 100000 in
theorem ti_68_764 : dp_tab 68 764 = (.iload 5, 2) := by decide +kernel
set_option maxRecDepth 100000 in
theorem ti_68_766 : dp_tab 68 766 = (.ifCond .ne 7, 3) := by decide +kernel
set_option maxRecDepth 100000 in
theorem ti_68_769 : dp_tab 68 769 = (.dconst 0, 1) := by decide +kernel
set_option maxRecDepth 100000 in
theorem ti_68_770 : dp_tab 68 770 = (.goto 10, 3) := by decide +kernel
set_option maxRecDepth 100000 in
theorem ti_68_773 : dp_tab 68 773 = (.iload 6, 2) := by decide +kernel
set_option maxRecDepth 100000 in
theorem ti_68_775 : dp_tab 68 775 = (.i2d, 1) := by decide +kernel
set_option maxRecDepth 100000 in
theorem ti_68_776 : dp_tab 68 776 = (.iload 5, 2) := by decide +kernel
set_option maxRecDepth 100000 in
theorem ti_68_778 : dp_tab 68 778 = (.i2d, 1) := by decide +kernel
set_option maxRecDepth 100000 in
theorem ti_68_779 : dp_tab 68 779 = (.ddiv, 1) := by decide +kernel
set_option maxRecDepth 100000 in
theorem ti_68_780 : dp_tab 68 780 = (.dcmp .l, 1) := by decide +kernel
set_option maxRecDepth 100000 in
theorem ti_68_781 : dp_tab 68 781 = (.ifCond .ne 7, 3) := by decide +kernel
set_option maxRecDepth 100000 in
theorem ti_68_784 : dp_tab 68 784 = (.iconst 1, 1) := by decide +kernel
set_option maxRecDepth 100000 in
theorem ti_68_785 : dp_tab 68 785 = (.goto 4, 3) := by decide +kernel
set_option maxRecDepth 100000 in
theorem ti_68_788 : dp_tab 68 788 = (.iconst 0, 1) := by decide +kernel
set_option maxRecDepth 100000 in
theorem ti_68_789 : dp_tab 68 789 = (.ireturn, 1) := by decide +kernel
set_option maxRecDepth 100000 in
theorem ti_69_0 : dp_tab 69 0 = (.iload_n 0, 1) := by decide +kernel
set_option maxRecDepth 100000 in
theorem ti_69_1 : dp_tab 69 1 = (.iload_n 0, 1) := by decide +kernel
set_option maxRecDepth 100000 in
theorem ti_69_2 : dp_tab 69 2 = (.iconst 1, 1) := by decide +kernel
set_option maxRecDepth 100000 in
theorem ti_69_3 : dp_tab 69 3 = (.iushr, 1) := by decide +kernel
set_option maxRecDepth 100000 in
theorem ti_69_4 : dp_tab 69 4 = (.ldc_w 265, 3) := by decide +kernel
set_option maxRecDepth 100000 in
theorem ti_69_7 : dp_tab 69 7 = (.iand, 1) := by decide +kernel
set_option maxRecDepth 100000 in
theorem ti_69_8 : dp_tab 69 8 = (.isub, 1) := by decide +kernel
set_option maxRecDepth 100000 in
theorem ti_69_9 : dp_tab 69 9 = (.istore_n 0, 1) := by decide +kernel
set_option maxRecDepth 100000 in
theorem ti_69_10 : dp_tab 69 10 = (.iload_n 0, 1) := by decide +kernel
set_option maxRecDepth 100000 in
theorem ti_69_11 : dp_tab 69 11 = (.ldc_w 266, 3) := by decide +kernel
set_option maxRecDepth 100000 in
theorem ti_69_14 : dp_tab 69 14 = (.iand, 1) := by decide +kernel
set_option maxRecDepth 100000 in
theorem ti_69_15 : dp_tab 69 15 = (.iload_n 0, 1) := by decide +kernel
set_option maxRecDepth 100000 in
theorem ti_69_16 : dp_tab 69 16 = (.iconst 2, 1) := by decide +kernel
set_option maxRecDepth 100000 in
theorem ti_69_17 : dp_tab 69 17 = (.iushr, 1) := by decide +kernel
set_option maxRecDepth 100000 in
theorem ti_69_18 : dp_tab 69 18 = (.ldc_w 266, 3) := by decide +kernel
set_option maxRecDepth 100000 in
theorem ti_69_21 : dp_tab 69 21 = (.iand, 1) := by decide +kernel
set_option maxRecDepth 100000 in
theorem ti_69_22 : dp_tab 69 22 = (.iadd, 1) := by decide +kernel
set_option maxRecDepth 100000 in
theorem ti_69_23 : dp_tab 69 23 = (.istore_n 0, 1) := by decide +kernel
set_option maxRecDepth 100000 in
theorem ti_69_24 : dp_tab 69 24 = (.iload_n 0, 1) := by decide +kernel
set_option maxRecDepth 100000 in
theorem ti_69_25 : dp_tab 69 25 = (.iload_n 0, 1) := by decide +kernel
set_option maxRecDepth 100000 in
theorem ti_69_26 : dp_tab 69 26 = (.iconst 4, 1) := by decide +kernel
set_option maxRecDepth 100000 in
theorem ti_69_27 : dp_tab 69 27 = (.iushr, 1) := by decide +kernel
set_option maxRecDepth 100000 in
theorem ti_69_28 : dp_tab 69 28 = (.iadd, 1) := by decide +kernel
set_option maxRecDepth 100000 in
theorem ti_69_29 : dp_tab 69 29 = (.ldc_w 267, 3) := by decide +kernel
set_option maxRecDepth 100000 in
theorem ti_69_32 : dp_tab 69 32 = (.iand, 1) := by decide +kernel
set_option maxRecDepth 100000 in
theorem ti_69_33 : dp_tab 69 33 = (.istore_n 0, 1) := by decide +kernel
set_option maxRecDepth 100000 in
theorem ti_69_34 : dp_tab 69 34 = (.iload_n 0, 1) := by decide +kernel
set_option maxRecDepth 100000 in
theorem ti_69_35 : dp_tab 69 35 = (.iload_n 0, 1) := by decide +kernel
set_option maxRecDepth 100000 in
theorem ti_69_36 : dp_tab 69 36 = (.bipush 8, 2) := by decide +kernel
set_option maxRecDepth 100000 in
theorem ti_69_38 : dp_tab 69 38 = (.iushr, 1) := by decide +kernel
set_option maxRecDepth 100000 in
theorem ti_69_39 : dp_tab 69 39 = (.iadd, 1) := by decide +kernel
set_option maxRecDepth 100000 in
theorem ti_69_40 : dp_tab 69 40 = (.istore_n 0, 1) := by decide +kernel
set_option maxRecDepth 100000 in
theorem ti_69_41 : dp_tab 69 41 = (.iload_n 0, 1) := by decide +kernel
set_option maxRecDepth 100000 in
theorem ti_69_42 : dp_tab 69 42 = (.iload_n 0, 1) := by decide +kernel
set_option maxRecDepth 100000 in
theorem ti_69_43 : dp_tab 69 43 = (.bipush 16, 2) := by decide +kernel
set_option maxRecDepth 100000 in
theorem ti_69_45 : dp_tab 69 45 = (.iushr, 1) := by decide +kernel
set_option maxRecDepth 100000 in
theorem ti_69_46 : dp_tab 69 46 = (.iadd, 1) := by decide +kernel
set_option maxRecDepth 100000 in
theorem ti_69_47 : dp_tab 69 47 = (.istore_n 0, 1) := by decide +kernel
set_option maxRecDepth 100000 in
theorem ti_69_48 : dp_tab 69 48 = (.iload_n 0, 1) := by decide +kernel
set_option maxRecDepth 100000 in
theorem ti_69_49 : dp_tab 69 49 = (.bipush 63, 2) := by decide +kernel
set_option maxRecDepth 100000 in
theorem ti_69_51 : dp_tab 69 51 = (.iand, 1) := by decide +kernel
set_option maxRecDepth 100000 in
theorem ti_69_52 : dp_tab 69 52 = (.ireturn, 1) := by decide +kernel
set_option maxRecDepth 100000 in
theorem ti_70_0 : dp_tab 70 0 = (.iconst 0, 1) := by decide +kernel
set_option maxRecDepth 100000 in
theorem ti_70_1 : dp_tab 70 1 = (.istore_n 2, 1) := by decide +kernel
set_option maxRecDepth 100000 in
theorem ti_70_2 : dp_tab 70 2 = (.aload_n 0, 1) := by decide +kernel
set_option maxRecDepth 100000 in
theorem ti_70_3 : dp_tab 70 3 = (.arraylength, 1) := by decide +kernel
set_option maxRecDepth 100000 in
theorem ti_70_4 : dp_tab 70 4 = (.istore_n 3, 1) := by decide +kernel
set_option maxRecDepth 100000 in
theorem ti_70_5 : dp_tab 70 5 = (.iload_n 2, 1) := by decide +kernel
set_option maxRecDepth 100000 in
theorem ti_70_6 : dp_tab 70 6 = (.iload_n 3, 1) := by decide +kernel
set_option maxRecDepth 100000 in
theorem ti_70_7 : dp_tab 70 7 = (.if_icmp .ge 13, 3) := by decide +kernel
set_option maxRecDepth 100000 in
theorem ti_70_10 : dp_tab 70 10 = (.aload_n 0, 1) := by decide +kernel
set_option maxRecDepth 100000 in
theorem ti_70_11 : dp_tab 70 11 = (.iload_n 2, 1) := by decide +kernel
set_option maxRecDepth 100000 in
theorem ti_70_12 : dp_tab 70 12 = (.iload_n 1, 1) := by decide +kernel
set_option maxRecDepth 100000 in
theorem ti_70_13 : dp_tab 70 13 = (.iastore, 1) := by decide +kernel
set_option maxRecDepth 100000 in
theorem ti_70_14 : dp_tab 70 14 = (.iinc 2 1, 3) := by decide +kernel
set_option maxRecDepth 100000 in
theorem ti_70_17 : dp_tab 70 17 = (.goto (-12), 3) := by decide +kernel
set_option maxRecDepth 100000 in
theorem ti_70_20 : dp_tab 70 20 = (.return_, 1) := by decide +kernel
set_option maxRecDepth 100000 in
theorem ti_71_0 : dp_tab 71 0 = (.iload_n 0, 1) := by decide +kernel
set_option maxRecDepth 100000 in
theorem ti_71_1 : dp_tab 71 1 = (.ldc 7, 2) := by decide +kernel
set_option maxRecDepth 100000 in
theorem ti_71_3 : dp_tab 71 3 = (.iand, 1) := by decide +kernel
set_option maxRecDepth 100000 in
theorem ti_71_4 : dp_tab 71 4 = (.iload_n 1, 1) := by decide +kernel
set_option maxRecDepth 100000 in
theorem ti_71_5 : dp_tab 71 5 = (.irem, 1) := by decide +kernel
set_option maxRecDepth 100000 in
theorem ti_71_6 : dp_tab 71 6 = (.ireturn, 1) := by decide +kernel
set_option maxRecDepth 100000 in
theorem ti_72_0 : dp_tab 72 0 = (.iload_n 1, 1) := by decide +kernel
set_option maxRecDepth 100000 in
theorem ti_72_1 : dp_tab 72 1 = (.aload_n 0, 1) := by decide +kernel
set_option maxRecDepth 100000 in
theorem ti_72_2 : dp_tab 72 2 = (.arraylength, 1) := by decide +kernel
set_option maxRecDepth 100000 in
theorem ti_72_3 : dp_tab 72 3 = (.if_icmp .ge 9, 3) := by decide +kernel
set_option maxRecDepth 100000 in
theorem ti_72_6 : dp_tab 72 6 = (.aload_n 0, 1) := by decide +kernel
set_option maxRecDepth 100000 in
theorem ti_72_7 : dp_tab 72 7 = (.iload_n 1, 1) := by decide +kernel
set_option maxRecDepth 100000 in
theorem ti_72_8 : dp_tab 72 8 = (.iaload, 1) := by decide +kernel
set_option maxRecDepth 100000 in
theorem ti_72_9 : dp_tab 72 9 = (.goto 9, 3) := by decide +kernel
set_option maxRecDepth 100000 in
theorem ti_72_12 : dp_tab 72 12 = (.ldc 8, 2) := by decide +kernel
set_option maxRecDepth 100000 in
theorem ti_72_14 : dp_tab 72 14 = (.iload_n 1, 1) := by decide +kernel
set_option maxRecDepth 100000 in
theorem ti_72_15 : dp_tab 72 15 = (.iconst 3, 1) := by decide +kernel
set_option maxRecDepth 100000 in
theorem ti_72_16 : dp_tab 72 16 = (.iadd, 1) := by decide +kernel
set_option maxRecDepth 100000 in
theorem ti_72_17 : dp_tab 72 17 = (.imul, 1) := by decide +kernel
set_option maxRecDepth 100000 in
theorem ti_72_18 : dp_tab 72 18 = (.ireturn, 1) := by decide +kernel
set_option maxRecDepth 100000 in
theorem ti_73_0 : dp_tab 73 0 = (.aload_n 0, 1) := by decide +kernel
set_option maxRecDepth 100000 in
theorem ti_73_1 : dp_tab 73 1 = (.arraylength, 1) := by decide +kernel
set_option maxRecDepth 100000 in
theorem ti_73_2 : dp_tab 73 2 = (.iconst 1, 1) := by decide +kernel
set_option maxRecDepth 100000 in
theorem ti_73_3 : dp_tab 73 3 = (.iadd, 1) := by decide +kernel
set_option maxRecDepth 100000 in
theorem ti_73_4 : dp_tab 73 4 = (.newarray .int, 2) := by decide +kernel
set_option maxRecDepth 100000 in
theorem ti_73_6 : dp_tab 73 6 = (.astore_n 2, 1) := by decide +kernel
set_option maxRecDepth 100000 in
theorem ti_73_7 : dp_tab 73 7 = (.iconst 0, 1) := by decide +kernel
set_option maxRecDepth 100000 in
theorem ti_73_8 : dp_tab 73 8 = (.istore_n 3, 1) := by decide +kernel
set_option maxRecDepth 100000 in
theorem ti_73_9 : dp_tab 73 9 = (.iload_n 3, 1) := by decide +kernel
set_option maxRecDepth 100000 in
theorem ti_73_10 : dp_tab 73 10 = (.aload_n 0, 1) := by decide +kernel
set_option maxRecDepth 100000 in
theorem ti_73_11 : dp_tab 73 11 = (.arraylength, 1) := by decide +kernel
set_option maxRecDepth 100000 in
theorem ti_73_12 : dp_tab 73 12 = (.if_icmp .ge 15, 3) := by decide +kernel
set_option maxRecDepth 100000 in
theorem ti_73_15 : dp_tab 73 15 = (.aload_n 2, 1) := by decide +kernel
set_option maxRecDepth 100000 in
theorem ti_73_16 : dp_tab 73 16 = (.iload_n 3, 1) := by decide +kernel
set_option maxRecDepth 100000 in
theorem ti_73_17 : dp_tab 73 17 = (.aload_n 0, 1) := by decide +kernel
set_option maxRecDepth 100000 in
theorem ti_73_18 : dp_tab 73 18 = (.iload_n 3, 1) := by decide +kernel
set_option maxRecDepth 100000 in
theorem ti_73_19 : dp_tab 73 19 = (.iaload, 1) := by decide +kernel
set_option maxRecDepth 100000 in
theorem ti_73_20 : dp_tab 73 20 = (.iastore, 1) := by decide +kernel
set_option maxRecDepth 100000 in
theorem ti_73_21 : dp_tab 73 21 = (.iinc 3 1, 3) := by decide +kernel
set_option maxRecDepth 100000 in
theorem ti_73_24 : dp_tab 73 24 = (.goto (-15), 3) := by decide +kernel
set_option maxRecDepth 100000 in
theorem ti_73_27 : dp_tab 73 27 = (.aload_n 2, 1) := by decide +kernel
set_option maxRecDepth 100000 in
theorem ti_73_28 : dp_tab 73 28 = (.aload_n 0, 1) := by decide +kernel
set_option maxRecDepth 100000 in
theorem ti_73_29 : dp_tab 73 29 = (.arraylength, 1) := by decide +kernel
set_option maxRecDepth 100000 in
theorem ti_73_30 : dp_tab 73 30 = (.iload_n 1, 1) := by decide +kernel
set_option maxRecDepth 100000 in
theorem ti_73_31 : dp_tab 73 31 = (.iastore, 1) := by decide +kernel
set_option maxRecDepth 100000 in
theorem ti_73_32 : dp_tab 73 32 = (.aload_n 2, 1) := by decide +kernel
set_option maxRecDepth 100000 in
theorem ti_73_33 : dp_tab 73 33 = (.areturn, 1) := by decide +kernel
set_option maxRecDepth 100000 in
theorem ti_74_0 : dp_tab 74 0 = (.aload_n 0, 1) := by decide +kernel
set_option maxRecDepth 100000 in
theorem ti_74_1 : dp_tab 74 1 = (.arraylength, 1) := by decide +kernel
set_option maxRecDepth 100000 in
theorem ti_74_2 : dp_tab 74 2 = (.iconst 1, 1) := by decide +kernel
set_option maxRecDepth 100000 in
theorem ti_74_3 : dp_tab 74 3 = (.isub, 1) := by decide +kernel
set_option maxRecDepth 100000 in
theorem ti_74_4 : dp_tab 74 4 = (.newarray .int, 2) := by decide +kernel
set_option maxRecDepth 100000 in
theorem ti_74_6 : dp_tab 74 6 = (.astore_n 2, 1) := by decide +kernel
set_option maxRecDepth 100000 in
theorem ti_74_7 : dp_tab 74 7 = (.iconst 0, 1) := by decide +kernel
set_option maxRecDepth 100000 in
theorem ti_74_8 : dp_tab 74 8 = (.istore_n 3, 1) := by decide +kernel
set_option maxRecDepth 100000 in
theorem ti_74_9 : dp_tab 74 9 = (.iload_n 3, 1) := by decide +kernel
set_option maxRecDepth 100000 in
theorem ti_74_10 : dp_tab 74 10 = (.aload_n 2, 1) := by decide +kernel
set_option maxRecDepth 100000 in
theorem ti_74_11 : dp_tab 74 11 = (.arraylength, 1) := by decide +kernel
set_option maxRecDepth 100000 in
theorem ti_74_12 : dp_tab 74 12 = (.if_icmp .ge 26, 3) := by decide +kernel
set_option maxRecDepth 100000 in
theorem ti_74_15 : dp_tab 74 15 = (.aload_n 2, 1) := by decide +kernel
set_option maxRecDepth 100000 in
theorem ti_74_16 : dp_tab 74 16 = (.iload_n 3, 1) := by decide +kernel
set_option maxRecDepth 100000 in
theorem ti_74_17 : dp_tab 74 17 = (.aload_n 0, 1) := by decide +kernel
set_option maxRecDepth 100000 in
theorem ti_74_18 : dp_tab 74 18 = (.iload_n 3, 1) := by decide +kernel
set_option maxRecDepth 100000 in
theorem ti_74_19 : dp_tab 74 19 = (.iload_n 1, 1) := by decide +kernel
set_option maxRecDepth 100000 in
theorem ti_74_20 : dp_tab 74 20 = (.if_icmp .ge 7, 3) := by decide +kernel
set_option maxRecDepth 100000 in
theorem ti_74_23 : dp_tab 74 23 = (.iload_n 3, 1) := by decide +kernel
set_option maxRecDepth 100000 in
theorem ti_74_24 : dp_tab 74 24 = (.goto 6, 3) := by decide +kernel
set_option maxRecDepth 100000 in
theorem ti_74_27 : dp_tab 74 27 = (.iload_n 3, 1) := by decide +kernel
set_option maxRecDepth 100000 in
theorem ti_74_28 : dp_tab 74 28 = (.iconst 1, 1) := by decide +kernel
set_option maxRecDepth 100000 in
theorem ti_74_29 : dp_tab 74 29 = (.iadd, 1) := by decide +kernel
set_option maxRecDepth 100000 in
theorem ti_74_30 : dp_tab 74 30 = (.iaload, 1) := by decide +kernel
set_option maxRecDepth 100000 in
theorem ti_74_31 : dp_tab 74 31 = (.iastore, 1) := by decide +kernel
set_option maxRecDepth 100000 in
theorem ti_74_32 : dp_tab 74 32 = (.iinc 3 1, 3) := by decide +kernel
set_option maxRecDepth 100000 in
theorem ti_74_35 : dp_tab 74 35 = (.goto (-26), 3) := by decide +kernel
set_option maxRecDepth 100000 in
theorem ti_74_38 : dp_tab 74 38 = (.aload_n 2, 1) := by decide +kernel
set_option maxRecDepth 100000 in
theorem ti_74_39 : dp_tab 74 39 = (.areturn, 1) := by decide +kernel
set_option maxRecDepth 100000 in
theorem ti_75_0 : dp_tab 75 0 = (.aload_n 1, 1) := by decide +kernel
set_option maxRecDepth 100000 in
theorem ti_75_1 : dp_tab 75 1 = (.getfield 9, 3) := by decide +kernel
set_option maxRecDepth 100000 in
theorem ti_75_4 : dp_tab 75 4 = (.arraylength, 1) := by decide +kernel
set_option maxRecDepth 100000 in
theorem ti_75_5 : dp_tab 75 5 = (.istore_n 3, 1) := by decide +kernel
set_option maxRecDepth 100000 in
theorem ti_75_6 : dp_tab 75 6 = (.aload_n 1, 1) := by decide +kernel
set_option maxRecDepth 100000 in
theorem ti_75_7 : dp_tab 75 7 = (.getfield 15, 3) := by decide +kernel
set_option maxRecDepth 100000 in
theorem ti_75_10 : dp_tab 75 10 = (.arraylength, 1) := by decide +kernel
set_option maxRecDepth 100000 in
theorem ti_75_11 : dp_tab 75 11 = (.istore 4, 2) := by decide +kernel
set_option maxRecDepth 100000 in
theorem ti_75_13 : dp_tab 75 13 = (.iload_n 3, 1) := by decide +kernel
set_option maxRecDepth 100000 in
theorem ti_75_14 : dp_tab 75 14 = (.ifCond .ne 7, 3) := by decide +kernel
set_option maxRecDepth 100000 in
theorem ti_75_17 : dp_tab 75 17 = (.iconst 0, 1) := by decide +kernel
set_option maxRecDepth 100000 in
theorem ti_75_18 : dp_tab 75 18 = (.goto 8, 3) := by decide +kernel
set_option maxRecDepth 100000 in
theorem ti_75_21 : dp_tab 75 21 = (.iload_n 2, 1) := by decide +kernel
set_option maxRecDepth 100000 in
theorem ti_75_22 : dp_tab 75 22 = (.iload_n 3, 1) := by decide +kernel
set_option maxRecDepth 100000 in
theorem ti_75_23 : dp_tab 75 23 = (.invokestatic 19, 3) := by decide +kernel
set_option maxRecDepth 100000 in
theorem ti_75_26 : dp_tab 75 26 = (.istore 5, 2) := by decide +kernel
set_option maxRecDepth 100000 in
theorem ti_75_28 : dp_tab 75 28 = (.iload 4, 2) := by decide +kernel
set_option maxRecDepth 100000 in
theorem ti_75_30 : dp_tab 75 30 = (.ifCond .ne 7, 3) := by decide +kernel
set_option maxRecDepth 100000 in
theorem ti_75_33 : dp_tab 75 33 = (.iconst 0, 1) := by decide +kernel
set_option maxRecDepth 100000 in
theorem ti_75_34 : dp_tab 75 34 = (.goto 11, 3) := by decide +kernel
set_option maxRecDepth 100000 in
theorem ti_75_37 : dp_tab 75 37 = (.iload_n 2, 1) := by decide +kernel
set_option maxRecDepth 100000 in
theorem ti_75_38 : dp_tab 75 38 = (.iconst 2, 1) := by decide +kernel
set_option maxRecDepth 100000 in
theorem ti_75_39 : dp_tab 75 39 = (.ishr, 1) := by decide +kernel
set_option maxRecDepth 100000 in
theorem ti_75_40 : dp_tab 75 40 = (.iload 4, 2) := by decide +kernel
set_option maxRecDepth 100000 in
theorem ti_75_42 : dp_tab 75 42 = (.invokestatic 19, 3) := by decide +kernel
set_option maxRecDepth 100000 in
theorem ti_75_45 : dp_tab 75 45 = (.istore 6, 2) := by decide +kernel
set_option maxRecDepth 100000 in
theorem ti_75_47 : dp_tab 75 47 = (.iload_n 2, 1) := by decide +kernel
set_option maxRecDepth 100000 in
theorem ti_75_48 : dp_tab 75 48 = (.iconst 3, 1) := by decide +kernel
set_option maxRecDepth 100000 in
theorem ti_75_49 : dp_tab 75 49 = (.ishr, 1) := by decide +kernel
set_option maxRecDepth 100000 in
theorem ti_75_50 : dp_tab 75 50 = (.iload_n 2, 1) := by decide +kernel
set_option maxRecDepth 100000 in
theorem ti_75_51 : dp_tab 75 51 = (.bipush 7, 2) := by decide +kernel
set_option maxRecDepth 100000 in
theorem ti_75_53 : dp_tab 75 53 = (.ishr, 1) := by decide +kernel
set_option maxRecDepth 100000 in
theorem ti_75_54 : dp_tab 75 54 = (.iconst 3, 1) := by decide +kernel
set_option maxRecDepth 100000 in
theorem ti_75_55 : dp_tab 75 55 = (.invokestatic 19, 3) := by decide +kernel
set_option maxRecDepth 100000 in
theorem ti_75_58 : dp_tab 75 58 = (.ifCond .ne 8, 3) := by decide +kernel
set_option maxRecDepth 100000 in
theorem ti_75_61 : dp_tab 75 61 = (.bipush 40, 2) := by decide +kernel
set_option maxRecDepth 100000 in
theorem ti_75_63 : dp_tab 75 63 = (.goto 5, 3) := by decide +kernel
set_option maxRecDepth 100000 in
theorem ti_75_66 : dp_tab 75 66 = (.bipush 12, 2) := by decide +kernel
set_option maxRecDepth 100000 in
theorem ti_75_68 : dp_tab 75 68 = (.invokestatic 19, 3) := by decide +kernel
set_option maxRecDepth 100000 in
theorem ti_75_71 : dp_tab 75 71 = (.istore 7, 2) := by decide +kernel
set_option maxRecDepth 100000 in
theorem ti_75_73 : dp_tab 75 73 = (.iload_n 2, 1) := by decide +kernel
set_option maxRecDepth 100000 in
theorem ti_75_74 : dp_tab 75 74 = (.iconst 4, 1) := by decide +kernel
set_option maxRecDepth 100000 in
theorem ti_75_75 : dp_tab 75 75 = (.ishr, 1) := by decide +kernel
set_option maxRecDepth 100000 in
theorem ti_75_76 : dp_tab 75 76 = (.iload_n 2, 1) := by decide +kernel
set_option maxRecDepth 100000 in
theorem ti_75_77 : dp_tab 75 77 = (.bipush 7, 2) := by decide +kernel
set_option maxRecDepth 100000 in
theorem ti_75_79 : dp_tab 75 79 = (.ishr, 1) := by decide +kernel
set_option maxRecDepth 100000 in
theorem ti_75_80 : dp_tab 75 80 = (.iconst 3, 1) := by decide +kernel
set_option maxRecDepth 100000 in
theorem ti_75_81 : dp_tab 75 81 = (.invokestatic 19, 3) := by decide +kernel
set_option maxRecDepth 100000 in
theorem ti_75_84 : dp_tab 75 84 = (.ifCond .ne 8, 3) := by decide +kernel
set_option maxRecDepth 100000 in
theorem ti_75_87 : dp_tab 75 87 = (.bipush 20, 2) := by decide +kernel
set_option maxRecDepth 100000 in
theorem ti_75_89 : dp_tab 75 89 = (.goto 5, 3) := by decide +kernel
set_option maxRecDepth 100000 in
theorem ti_75_92 : dp_tab 75 92 = (.bipush 7, 2) := by decide +kernel
set_option maxRecDepth 100000 in
theorem ti_75_94 : dp_tab 75 94 = (.invokestatic 19, 3) := by decide +kernel
set_option maxRecDepth 100000 in
theorem ti_75_97 : dp_tab 75 97 = (.istore 8, 2) := by decide +kernel
set_option maxRecDepth 100000 in
theorem ti_75_99 : dp_tab 75 99 = (.iload_n 2, 1) := by decide +kernel
set_option maxRecDepth 100000 in
theorem ti_75_100 : dp_tab 75 100 = (.bipush 9, 2) := by decide +kernel
set_option maxRecDepth 100000 in
theorem ti_75_102 : dp_tab 75 102 = (.ishr, 1) := by decide +kernel
set_option maxRecDepth 100000 in
theorem ti_75_103 : dp_tab 75 103 = (.bipush 24, 2) := by decide +kernel
set_option maxRecDepth 100000 in
theorem ti_75_105 : dp_tab 75 105 = (.invokestatic 19, 3) := by decide +kernel
set_option maxRecDepth 100000 in
theorem ti_75_108 : dp_tab 75 108 = (.tableswitch 813 0 14 #[76, 113, 113, 183, 266, 266, 386, 386, 386, 386, 510, 609, 690, 782, 782], 76) := by decide +kernel
set_option maxRecDepth 100000 in
theorem ti_75_184 : dp_tab 75 184 = (.aload_n 1, 1) := by decide +kernel
set_option maxRecDepth 100000 in
theorem ti_75_185 : dp_tab 75 185 = (.getfield 25, 3) := by decide +kernel
set_option maxRecDepth 100000 in
theorem ti_75_188 : dp_tab 75 188 = (.iload 7, 2) := by decide +kernel
set_option maxRecDepth 100000 in
theorem ti_75_190 : dp_tab 75 190 = (.iaload, 1) := by decide +kernel
set_option maxRecDepth 100000 in
theorem ti_75_191 : dp_tab 75 191 = (.istore 9, 2) := by decide +kernel
set_option maxRecDepth 100000 in
theorem ti_75_193 : dp_tab 75 193 = (.aload_n 1, 1) := by decide +kernel
set_option maxRecDepth 100000 in
theorem ti_75_194 : dp_tab 75 194 = (.getfield 25, 3) := by decide +kernel
set_option maxRecDepth 100000 in
theorem ti_75_197 : dp_tab 75 197 = (.iload 7, 2) := by decide +kernel
set_option maxRecDepth 100000 in
theorem ti_75_199 : dp_tab 75 199 = (.iload 8, 2) := by decide +kernel
set_option maxRecDepth 100000 in
theorem ti_75_201 : dp_tab 75 201 = (.iastore, 1) := by decide +kernel
set_option maxRecDepth 100000 in
theorem ti_75_202 : dp_tab 75 202 = (.aload_n 0, 1) := by decide +kernel
set_option maxRecDepth 100000 in
theorem ti_75_203 : dp_tab 75 203 = (.iload 7, 2) := by decide +kernel
set_option maxRecDepth 100000 in
theorem ti_75_205 : dp_tab 75 205 = (.iload 8, 2) := by decide +kernel
set_option maxRecDepth 100000 in
theorem ti_75_207 : dp_tab 75 207 = (.invokevirtual 29, 3) := by decide +kernel
set_option maxRecDepth 100000 in
theorem ti_75_210 : dp_tab 75 210 = (.iload 9, 2) := by decide +kernel
set_option maxRecDepth 100000 in
theorem ti_75_212 : dp_tab 75 212 = (.if_icmp .ne 7, 3) := by decide +kernel
set_option maxRecDepth 100000 in
theorem ti_75_215 : dp_tab 75 215 = (.iconst 1, 1) := by decide +kernel
set_option maxRecDepth 100000 in
theorem ti_75_216 : dp_tab 75 216 = (.goto 4, 3) := by decide +kernel
set_option maxRecDepth 100000 in
theorem ti_75_219 : dp_tab 75 219 = (.iconst 0, 1) := by decide +kernel
set_option maxRecDepth 100000 in
theorem ti_75_220 : dp_tab 75 220 = (.ireturn, 1) := by decide +kernel
set_option maxRecDepth 100000 in
theorem ti_75_221 : dp_tab 75 221 = (.iload_n 3, 1) := by decide +kernel
set_option maxRecDepth 100000 in
theorem ti_75_222 : dp_tab 75 222 = (.bipush 16, 2) := by decide +kernel
set_option maxRecDepth 100000 in
theorem ti_75_224 : dp_tab 75 224 = (.if_icmp .ne 5, 3) := by decide +kernel
set_option maxRecDepth 100000 in
theorem ti_75_227 : dp_tab 75 227 = (.iconst 1, 1) := by decide +kernel
set_option maxRecDepth 100000 in
theorem ti_75_228 : dp_tab 75 228 = (.ireturn, 1) := by decide +kernel
set_option maxRecDepth 100000 in
theorem ti_75_229 : dp_tab 75 229 = (.iload_n 3, 1) := by decide +kernel
set_option maxRecDepth 100000 in
theorem ti_75_230 : dp_tab 75 230 = (.iconst 1, 1) := by decide +kernel
set_option maxRecDepth 100000 in
theorem ti_75_231 : dp_tab 75 231 = (.iadd, 1) := by decide +kernel
set_option maxRecDepth 100000 in
theorem ti_75_232 : dp_tab 75 232 = (.anewarray 34, 3) := by decide +kernel
set_option maxRecDepth 100000 in
theorem ti_75_235 : dp_tab 75 235 = (.astore 10, 2) := by decide +kernel
set_option maxRecDepth 100000 in
theorem ti_75_237 : dp_tab 75 237 = (.iconst 0, 1) := by decide +kernel
set_option maxRecDepth 100000 in
theorem ti_75_238 : dp_tab 75 238 = (.istore 11, 2) := by decide +kernel
set_option maxRecDepth 100000 in
theorem ti_75_240 : dp_tab 75 240 = (.iload 11, 2) := by decide +kernel
set_option maxRecDepth 100000 in
theorem ti_75_242 : dp_tab 75 242 = (.iload_n 3, 1) := by decide +kernel
set_option maxRecDepth 100000 in
theorem ti_75_243 : dp_tab 75 243 = (.if_icmp .ge 21, 3) := by decide +kernel
set_option maxRecDepth 100000 in
theorem ti_75_246 : dp_tab 75 246 = (.aload 10, 2) := by decide +kernel
set_option maxRecDepth 100000 in
theorem ti_75_248 : dp_tab 75 248 = (.iload 11, 2) := by decide +kernel
set_option maxRecDepth 100000 in
theorem ti_75_250 : dp_tab 75 250 = (.aload_n 1, 1) := by decide +kernel
set_option maxRecDepth 100000 in
theorem ti_75_251 : dp_tab 75 251 = (.getfield 9, 3) := by decide +kernel
set_option maxRecDepth 100000 in
theorem ti_75_254 : dp_tab 75 254 = (.iload 11, 2) := by decide +kernel
set_option maxRecDepth 100000 in
theorem ti_75_256 : dp_tab 75 256 = (.aaload, 1) := by decide +kernel
set_option maxRecDepth 100000 in
theorem ti_75_257 : dp_tab 75 257 = (.aastore, 1) := by decide +kernel
set_option maxRecDepth 100000 in
theorem ti_75_258 : dp_tab 75 258 = (.iinc 11 1, 3) := by decide +kernel
set_option maxRecDepth 100000 in
theorem ti_75_261 : dp_tab 75 261 = (.goto (-21), 3) := by decide +kernel
set_option maxRecDepth 100000 in
theorem ti_75_264 : dp_tab 75 264 = (.aload 10, 2) := by decide +kernel
set_option maxRecDepth 100000 in
theorem ti_75_266 : dp_tab 75 266 = (.iload_n 3, 1) := by decide +kernel
set_option maxRecDepth 100000 in
theorem ti_75_267 : dp_tab 75 267 = (.iconst 0, 1) := by decide +kernel
set_option maxRecDepth 100000 in
theorem ti_75_268 : dp_tab 75 268 = (.newarray .int, 2) := by decide +kernel
set_option maxRecDepth 100000 in
theorem ti_75_270 : dp_tab 75 270 = (.aastore, 1) := by decide +kernel
set_option maxRecDepth 100000 in
theorem ti_75_271 : dp_tab 75 271 = (.aload_n 1, 1) := by decide +kernel
set_option maxRecDepth 100000 in
theorem ti_75_272 : dp_tab 75 272 = (.aload 10, 2) := by decide +kernel
set_option maxRecDepth 100000 in
theorem ti_75_274 : dp_tab 75 274 = (.putfield 9, 3) := by decide +kernel
set_option maxRecDepth 100000 in
theorem ti_75_277 : dp_tab 75 277 = (.aload_n 0, 1) := by decide +kernel
set_option maxRecDepth 100000 in
theorem ti_75_278 : dp_tab 75 278 = (.invokevirtual 35, 3) := by decide +kernel
set_option maxRecDepth 100000 in
theorem ti_75_281 : dp_tab 75 281 = (.iload_n 3, 1) := by decide +kernel
set_option maxRecDepth 100000 in
theorem ti_75_282 : dp_tab 75 282 = (.if_icmp .ne 7, 3) := by decide +kernel
set_option maxRecDepth 100000 in
theorem ti_75_285 : dp_tab 75 285 = (.iconst 1, 1) := by decide +kernel
set_option maxRecDepth 100000 in
theorem ti_75_286 : dp_tab 75 286 = (.goto 4, 3) := by decide +kernel
set_option maxRecDepth 100000 in
theorem ti_75_289 : dp_tab 75 289 = (.iconst 0, 1) := by decide +kernel
set_option maxRecDepth 100000 in
theorem ti_75_290 : dp_tab 75 290 = (.ireturn, 1) := by decide +kernel
set_option maxRecDepth 100000 in
theorem ti_75_291 : dp_tab 75 291 = (.iload_n 3, 1) := by decide +kernel
set_option maxRecDepth 100000 in
theorem ti_75_292 : dp_tab 75 292 = (.ifCond .eq 14, 3) := by decide +kernel
set_option maxRecDepth 100000 in
theorem ti_75_295 : dp_tab 75 295 = (.aload_n 1, 1) := by decide +kernel
set_option maxRecDepth 100000 in
theorem ti_75_296 : dp_tab 75 296 = (.getfield 9, 3) := by decide +kernel
set_option maxRecDepth 100000 in
theorem ti_75_299 : dp_tab 75 299 = (.iload 5, 2) := by decide +kernel
set_option maxRecDepth 100000 in
theorem ti_75_301 : dp_tab 75 301 = (.aaload, 1) := by decide +kernel
set_option maxRecDepth 100000 in
theorem ti_75_302 : dp_tab 75 302 = (.arraylength, 1) := by decide +kernel
set_option maxRecDepth 100000 in
theorem ti_75_303 : dp_tab 75 303 = (.ifCond .ne 5, 3) := by decide +kernel
set_option maxRecDepth 100000 in
theorem ti_75_306 : dp_tab 75 306 = (.iconst 1, 1) := by decide +kernel
set_option maxRecDepth 100000 in
theorem ti_75_307 : dp_tab 75 307 = (.ireturn, 1) := by decide +kernel
set_option maxRecDepth 100000 in
theorem ti_75_308 : dp_tab 75 308 = (.iload_n 2, 1) := by decide +kernel
set_option maxRecDepth 100000 in
theorem ti_75_309 : dp_tab 75 309 = (.iconst 1, 1) := by decide +kernel
set_option maxRecDepth 100000 in
theorem ti_75_310 : dp_tab 75 310 = (.ishr, 1) := by decide +kernel
set_option maxRecDepth 100000 in
theorem ti_75_311 : dp_tab 75 311 = (.aload_n 1, 1) := by decide +kernel
set_option maxRecDepth 100000 in
theorem ti_75_312 : dp_tab 75 312 = (.getfield 9, 3) := by decide +kernel
set_option maxRecDepth 100000 in
theorem ti_75_315 : dp_tab 75 315 = (.iload 5, 2) := by decide +kernel
set_option maxRecDepth 100000 in
theorem ti_75_317 : dp_tab 75 317 = (.aaload, 1) := by decide +kernel
set_option maxRecDepth 100000 in
theorem ti_75_318 : dp_tab 75 318 = (.arraylength, 1) := by decide +kernel
set_option maxRecDepth 100000 in
theorem ti_75_319 : dp_tab 75 319 = (.invokestatic 19, 3) := by decide +kernel
set_option maxRecDepth 100000 in
theorem ti_75_322 : dp_tab 75 322 = (.istore 11, 2) := by decide +kernel
set_option maxRecDepth 100000 in
theorem ti_75_324 : dp_tab 75 324 = (.aload_n 1, 1) := by decide +kernel
set_option maxRecDepth 100000 in
theorem ti_75_325 : dp_tab 75 325 = (.getfield 9, 3) := by decide +kernel
set_option maxRecDepth 100000 in
theorem ti_75_328 : dp_tab 75 328 = (.iload 5, 2) := by decide +kernel
set_option maxRecDepth 100000 in
theorem ti_75_330 : dp_tab 75 330 = (.aaload, 1) := by decide +kernel
set_option maxRecDepth 100000 in
theorem ti_75_331 : dp_tab 75 331 = (.iload 11, 2) := by decide +kernel
set_option maxRecDepth 100000 in
theorem ti_75_333 : dp_tab 75 333 = (.iaload, 1) := by decide +kernel
set_option maxRecDepth 100000 in
theorem ti_75_334 : dp_tab 75 334 = (.istore 12, 2) := by decide +kernel
set_option maxRecDepth 100000 in
theorem ti_75_336 : dp_tab 75 336 = (.aload_n 1, 1) := by decide +kernel
set_option maxRecDepth 100000 in
theorem ti_75_337 : dp_tab 75 337 = (.getfield 9, 3) := by decide +kernel
set_option maxRecDepth 100000 in
theorem ti_75_340 : dp_tab 75 340 = (.iload 5, 2) := by decide +kernel
set_option maxRecDepth 100000 in
theorem ti_75_342 : dp_tab 75 342 = (.aload_n 1, 1) := by decide +kernel
set_option maxRecDepth 100000 in
theorem ti_75_343 : dp_tab 75 343 = (.getfield 9, 3) := by decide +kernel
set_option maxRecDepth 100000 in
theorem ti_75_346 : dp_tab 75 346 = (.iload 5, 2) := by decide +kernel
set_option maxRecDepth 100000 in
theorem ti_75_348 : dp_tab 75 348 = (.aaload, 1) := by decide +kernel
set_option maxRecDepth 100000 in
theorem ti_75_349 : dp_tab 75 349 = (.iload 11, 2) := by decide +kernel
set_option maxRecDepth 100000 in
theorem ti_75_351 : dp_tab 75 351 = (.invokestatic 39, 3) := by decide +kernel
set_option maxRecDepth 100000 in
theorem ti_75_354 : dp_tab 75 354 = (.aastore, 1) := by decide +kernel
set_option maxRecDepth 100000 in
theorem ti_75_355 : dp_tab 75 355 = (.aload_n 0, 1) := by decide +kernel
set_option maxRecDepth 100000 in
theorem ti_75_356 : dp_tab 75 356 = (.iload 5, 2) := by decide +kernel
set_option maxRecDepth 100000 in
theorem ti_75_358 : dp_tab 75 358 = (.iload 11, 2) := by decide +kernel
set_option maxRecDepth 100000 in
theorem ti_75_360 : dp_tab 75 360 = (.invokevirtual 43, 3) := by decide +kernel
set_option maxRecDepth 100000 in
theorem ti_75_363 : dp_tab 75 363 = (.iload 12, 2) := by decide +kernel
set_option maxRecDepth 100000 in
theorem ti_75_365 : dp_tab 75 365 = (.if_icmp .ne 7, 3) := by decide +kernel
set_option maxRecDepth 100000 in
theorem ti_75_368 : dp_tab 75 368 = (.iconst 1, 1) := by decide +kernel
set_option maxRecDepth 100000 in
theorem ti_75_369 : dp_tab 75 369 = (.goto 4, 3) := by decide +kernel
set_option maxRecDepth 100000 in
theorem ti_75_372 : dp_tab 75 372 = (.iconst 0, 1) := by decide +kernel
set_option maxRecDepth 100000 in
theorem ti_75_373 : dp_tab 75 373 = (.ireturn, 1) := by decide +kernel
set_option maxRecDepth 100000 in
theorem ti_75_374 : dp_tab 75 374 = (.iload 4, 2) := by decide +kernel
set_option maxRecDepth 100000 in
theorem ti_75_376 : dp_tab 75 376 = (.bipush 6, 2) := by decide +kernel
set_option maxRecDepth 100000 in
theorem ti_75_378 : dp_tab 75 378 = (.if_icmp .ne 5, 3) := by decide +kernel
set_option maxRecDepth 100000 in
theorem ti_75_381 : dp_tab 75 381 = (.iconst 1, 1) := by decide +kernel
set_option maxRecDepth 100000 in
theorem ti_75_382 : dp_tab 75 382 = (.ireturn, 1) := by decide +kernel
set_option maxRecDepth 100000 in
theorem ti_75_383 : dp_tab 75 383 = (.iload 4, 2) := by decide +kernel
set_option maxRecDepth 100000 in
theorem ti_75_385 : dp_tab 75 385 = (.iconst 1, 1) := by decide +kernel
set_option maxRecDepth 100000 in
theorem ti_75_386 : dp_tab 75 386 = (.iadd, 1) := by decide +kernel
set_option maxRecDepth 100000 in
theorem ti_75_387 : dp_tab 75 387 = (.anewarray 46, 3) := by decide +kernel
set_option maxRecDepth 100000 in
theorem ti_75_390 : dp_tab 75 390 = (.astore 13, 2) := by decide +kernel
set_option maxRecDepth 100000 in
theorem ti_75_392 : dp_tab 75 392 = (.iconst 0, 1) := by decide +kernel
set_option maxRecDepth 100000 in
theorem ti_75_393 : dp_tab 75 393 = (.istore 14, 2) := by decide +kernel
set_option maxRecDepth 100000 in
theorem ti_75_395 : dp_tab 75 395 = (.iload 14, 2) := by decide +kernel
set_option maxRecDepth 100000 in
theorem ti_75_397 : dp_tab 75 397 = (.iload 4, 2) := by decide +kernel
set_option maxRecDepth 100000 in
theorem ti_75_399 : dp_tab 75 399 = (.if_icmp .ge 21, 3) := by decide +kernel
set_option maxRecDepth 100000 in
theorem ti_75_402 : dp_tab 75 402 = (.aload 13, 2) := by decide +kernel
set_option maxRecDepth 100000 in
theorem ti_75_404 : dp_tab 75 404 = (.iload 14, 2) := by decide +kernel
set_option maxRecDepth 100000 in
theorem ti_75_406 : dp_tab 75 406 = (.aload_n 1, 1) := by decide +kernel
set_option maxRecDepth 100000 in
theorem ti_75_407 : dp_tab 75 407 = (.getfield 15, 3) := by decide +kernel
set_option maxRecDepth 100000 in
theorem ti_75_410 : dp_tab 75 410 = (.iload 14, 2) := by decide +kernel
set_option maxRecDepth 100000 in
theorem ti_75_412 : dp_tab 75 412 = (.aaload, 1) := by decide +kernel
set_option maxRecDepth 100000 in
theorem ti_75_413 : dp_tab 75 413 = (.aastore, 1) := by decide +kernel
set_option maxRecDepth 100000 in
theorem ti_75_414 : dp_tab 75 414 = (.iinc 14 1, 3) := by decide +kernel
set_option maxRecDepth 100000 in
theorem ti_75_417 : dp_tab 75 417 = (.goto (-22), 3) := by decide +kernel
set_option maxRecDepth 100000 in
theorem ti_75_420 : dp_tab 75 420 = (.aload 13, 2) := by decide +kernel
set_option maxRecDepth 100000 in
theorem ti_75_422 : dp_tab 75 422 = (.iload 4, 2) := by decide +kernel
set_option maxRecDepth 100000 in
theorem ti_75_424 : dp_tab 75 424 = (.new 46, 3) := by decide +kernel
set_option maxRecDepth 100000 in
theorem ti_75_427 : dp_tab 75 427 = (.dup, 1) := by decide +kernel
set_option maxRecDepth 100000 in
theorem ti_75_428 : dp_tab 75 428 = (.invokespecial 48, 3) := by decide +kernel
set_option maxRecDepth 100000 in
theorem ti_75_431 : dp_tab 75 431 = (.aastore, 1) := by decide +kernel
set_option maxRecDepth 100000 in
theorem ti_75_432 : dp_tab 75 432 = (.aload 13, 2) := by decide +kernel
set_option maxRecDepth 100000 in
theorem ti_75_434 : dp_tab 75 434 = (.iload 4, 2) := by decide +kernel
set_option maxRecDepth 100000 in
theorem ti_75_436 : dp_tab 75 436 = (.aaload, 1) := by decide +kernel
set_option maxRecDepth 100000 in
theorem ti_75_437 : dp_tab 75 437 = (.iload_n 2, 1) := by decide +kernel
set_option maxRecDepth 100000 in
theorem ti_75_438 : dp_tab 75 438 = (.iconst 1, 1) := by decide +kernel
set_option maxRecDepth 100000 in
theorem ti_75_439 : dp_tab 75 439 = (.ishr, 1) := by decide +kernel
set_option maxRecDepth 100000 in
theorem ti_75_440 : dp_tab 75 440 = (.iload_n 2, 1) := by decide +kernel
set_option maxRecDepth 100000 in
theorem ti_75_441 : dp_tab 75 441 = (.bipush 6, 2) := by decide +kernel
set_option maxRecDepth 100000 in
theorem ti_75_443 : dp_tab 75 443 = (.ishr, 1) := by decide +kernel
set_option maxRecDepth 100000 in
theorem ti_75_444 : dp_tab 75 444 = (.iconst 2, 1) := by decide +kernel
set_option maxRecDepth 100000 in
theorem ti_75_445 : dp_tab 75 445 = (.invokestatic 19, 3) := by decide +kernel
set_option maxRecDepth 100000 in
theorem ti_75_448 : dp_tab 75 448 = (.ifCond .ne 9, 3) := by decide +kernel
set_option maxRecDepth 100000 in
theorem ti_75_451 : dp_tab 75 451 = (.sipush 1000, 3) := by decide +kernel
set_option maxRecDepth 100000 in
theorem ti_75_454 : dp_tab 75 454 = (.goto 5, 3) := by decide +kernel
set_option maxRecDepth 100000 in
theorem ti_75_457 : dp_tab 75 457 = (.bipush 40, 2) := by decide +kernel
set_option maxRecDepth 100000 in
theorem ti_75_459 : dp_tab 75 459 = (.invokestatic 19, 3) := by decide +kernel
set_option maxRecDepth 100000 in
theorem ti_75_462 : dp_tab 75 462 = (.putfield 49, 3) := by decide +kernel
set_option maxRecDepth 100000 in
theorem ti_75_465 : dp_tab 75 465 = (.aload_n 1, 1) := by decide +kernel
set_option maxRecDepth 100000 in
theorem ti_75_466 : dp_tab 75 466 = (.aload 13, 2) := by decide +kernel
set_option maxRecDepth 100000 in
theorem ti_75_468 : dp_tab 75 468 = (.putfield 15, 3) := by decide +kernel
set_option maxRecDepth 100000 in
theorem ti_75_471 : dp_tab 75 471 = (.aload_n 0, 1) := by decide +kernel
set_option maxRecDepth 100000 in
theorem ti_75_472 : dp_tab 75 472 = (.aload 13, 2) := by decide +kernel
set_option maxRecDepth 100000 in
theorem ti_75_474 : dp_tab 75 474 = (.iload 4, 2) := by decide +kernel
set_option maxRecDepth 100000 in
theorem ti_75_476 : dp_tab 75 476 = (.aaload, 1) := by decide +kernel
set_option maxRecDepth 100000 in
theorem ti_75_477 : dp_tab 75 477 = (.getfield 49, 3) := by decide +kernel
set_option maxRecDepth 100000 in
theorem ti_75_480 : dp_tab 75 480 = (.invokevirtual 53, 3) := by decide +kernel
set_option maxRecDepth 100000 in
theorem ti_75_483 : dp_tab 75 483 = (.iload 4, 2) := by decide +kernel
set_option maxRecDepth 100000 in
theorem ti_75_485 : dp_tab 75 485 = (.if_icmp .ne 7, 3) := by decide +kernel
set_option maxRecDepth 100000 in
theorem ti_75_488 : dp_tab 75 488 = (.iconst 1, 1) := by decide +kernel
set_option maxRecDepth 100000 in
theorem ti_75_489 : dp_tab 75 489 = (.goto 4, 3) := by decide +kernel
set_option maxRecDepth 100000 in
theorem ti_75_492 : dp_tab 75 492 = (.iconst 0, 1) := by decide +kernel
set_option maxRecDepth 100000 in
theorem ti_75_493 : dp_tab 75 493 = (.ireturn, 1) := by decide +kernel
set_option maxRecDepth 100000 in
theorem ti_75_494 : dp_tab 75 494 = (.iload 4, 2) := by decide +kernel
set_option maxRecDepth 100000 in
theorem ti_75_496 : dp_tab 75 496 = (.ifCond .eq 18, 3) := by decide +kernel
set_option maxRecDepth 100000 in
theorem ti_75_499 : dp_tab 75 499 = (.aload_n 1, 1) := by decide +kernel
set_option maxRecDepth 100000 in
theorem ti_75_500 : dp_tab 75 500 = (.getfield 15, 3) := by decide +kernel
set_option maxRecDepth 100000 in
theorem ti_75_503 : dp_tab 75 503 = (.iload 6, 2) := by decide +kernel
set_option maxRecDepth 100000 in
theorem ti_75_505 : dp_tab 75 505 = (.aaload, 1) := by decide +kernel
set_option maxRecDepth 100000 in
theorem ti_75_506 : dp_tab 75 506 = (.getfield 57, 3) := by decide +kernel
set_option maxRecDepth 100000 in
theorem ti_75_509 : dp_tab 75 509 = (.arraylength, 1) := by decide +kernel
set_option maxRecDepth 100000 in
theorem ti_75_510 : dp_tab 75 510 = (.iconst 5, 1) := by decide +kernel
set_option maxRecDepth 100000 in
theorem ti_75_511 : dp_tab 75 511 = (.if_icmp .ne 5, 3) := by decide +kernel
set_option maxRecDepth 100000 in
theorem ti_75_514 : dp_tab 75 514 = (.iconst 1, 1) := by decide +kernel
set_option maxRecDepth 100000 in
theorem ti_75_515 : dp_tab 75 515 = (.ireturn, 1) := by decide +kernel
set_option maxRecDepth 100000 in
theorem ti_75_516 : dp_tab 75 516 = (.aload_n 1, 1) := by decide +kernel
set_option maxRecDepth 100000 in
theorem ti_75_517 : dp_tab 75 517 = (.getfield 15, 3) := by decide +kernel
set_option maxRecDepth 100000 in
theorem ti_75_520 : dp_tab 75 520 = (.iload 6, 2) := by decide +kernel
set_option maxRecDepth 100000 in
theorem ti_75_522 : dp_tab 75 522 = (.aaload, 1) := by decide +kernel
set_option maxRecDepth 100000 in
theorem ti_75_523 : dp_tab 75 523 = (.getfield 57, 3) := by decide +kernel
set_option maxRecDepth 100000 in
theorem ti_75_526 : dp_tab 75 526 = (.astore 14, 2) := by decide +kernel
set_option maxRecDepth 100000 in
theorem ti_75_528 : dp_tab 75 528 = (.aload 14, 2) := by decide +kernel
set_option maxRecDepth 100000 in
theorem ti_75_530 : dp_tab 75 530 = (.arraylength, 1) := by decide +kernel
set_option maxRecDepth 100000 in
theorem ti_75_531 : dp_tab 75 531 = (.istore 15, 2) := by decide +kernel
set_option maxRecDepth 100000 in
theorem ti_75_533 : dp_tab 75 533 = (.iconst 0, 1) := by decide +kernel
set_option maxRecDepth 100000 in
theorem ti_75_534 : dp_tab 75 534 = (.istore 16, 2) := by decide +kernel
set_option maxRecDepth 100000 in
theorem ti_75_536 : dp_tab 75 536 = (.iload 16, 2) := by decide +kernel
set_option maxRecDepth 100000 in
theorem ti_75_538 : dp_tab 75 538 = (.iload 15, 2) := by decide +kernel
set_option maxRecDepth 100000 in
theorem ti_75_540 : dp_tab 75 540 = (.if_icmp .ge 25, 3) := by decide +kernel
set_option maxRecDepth 100000 in
theorem ti_75_543 : dp_tab 75 543 = (.aload 14, 2) := by decide +kernel
set_option maxRecDepth 100000 in
theorem ti_75_545 : dp_tab 75 545 = (.iload 16, 2) := by decide +kernel
set_option maxRecDepth 100000 in
theorem ti_75_547 : dp_tab 75 547 = (.iaload, 1) := by decide +kernel
set_option maxRecDepth 100000 in
theorem ti_75_548 : dp_tab 75 548 = (.istore 17, 2) := by decide +kernel
set_option maxRecDepth 100000 in
theorem ti_75_550 : dp_tab 75 550 = (.iload 17, 2) := by decide +kernel
set_option maxRecDepth 100000 in
theorem ti_75_552 : dp_tab 75 552 = (.iload 8, 2) := by decide +kernel
set_option maxRecDepth 100000 in
theorem ti_75_554 : dp_tab 75 554 = (.if_icmp .ne 5, 3) := by decide +kernel
set_option maxRecDepth 100000 in
theorem ti_75_557 : dp_tab 75 557 = (.iconst 1, 1) := by decide +kernel
set_option maxRecDepth 100000 in
theorem ti_75_558 : dp_tab 75 558 = (.ireturn, 1) := by decide +kernel
set_option maxRecDepth 100000 in
theorem ti_75_559 : dp_tab 75 559 = (.iinc 16 1, 3) := by decide +kernel
set_option maxRecDepth 100000 in
theorem ti_75_562 : dp_tab 75 562 = (.goto (-26), 3) := by decide +kernel
set_option maxRecDepth 100000 in
theorem ti_75_565 : dp_tab 75 565 = (.aload_n 1, 1) := by decide +kernel
set_option maxRecDepth 100000 in
theorem ti_75_566 : dp_tab 75 566 = (.getfield 15, 3) := by decide +kernel
set_option maxRecDepth 100000 in
theorem ti_75_569 : dp_tab 75 569 = (.iload 6, 2) := by decide +kernel
set_option maxRecDepth 100000 in
theorem ti_75_571 : dp_tab 75 571 = (.aaload, 1) := by decide +kernel
set_option maxRecDepth 100000 in
theorem ti_75_572 : dp_tab 75 572 = (.aload_n 1, 1) := by decide +kernel
set_option maxRecDepth 100000 in
theorem ti_75_573 : dp_tab 75 573 = (.getfield 15, 3) := by decide +kernel
set_option maxRecDepth 100000 in
theorem ti_75_576 : dp_tab 75 576 = (.iload 6, 2) := by decide +kernel
set_option maxRecDepth 100000 in
theorem ti_75_578 : dp_tab 75 578 = (.aaload, 1) := by decide +kernel
set_option maxRecDepth 100000 in
theorem ti_75_579 : dp_tab 75 579 = (.getfield 57, 3) := by decide +kernel
set_option maxRecDepth 100000 in
theorem ti_75_582 : dp_tab 75 582 = (.iload 8, 2) := by decide +kernel
set_option maxRecDepth 100000 in
theorem ti_75_584 : dp_tab 75 584 = (.invokestatic 60, 3) := by decide +kernel
set_option maxRecDepth 100000 in
theorem ti_75_587 : dp_tab 75 587 = (.putfield 57, 3) := by decide +kernel
set_option maxRecDepth 100000 in
theorem ti_75_590 : dp_tab 75 590 = (.aload_n 0, 1) := by decide +kernel
set_option maxRecDepth 100000 in
theorem ti_75_591 : dp_tab 75 591 = (.iload 6, 2) := by decide +kernel
set_option maxRecDepth 100000 in
theorem ti_75_593 : dp_tab 75 593 = (.iload 8, 2) := by decide +kernel
set_option maxRecDepth 100000 in
theorem ti_75_595 : dp_tab 75 595 = (.invokevirtual 63, 3) := by decide +kernel
set_option maxRecDepth 100000 in
theorem ti_75_598 : dp_tab 75 598 = (.aload_n 1, 1) := by decide +kernel
set_option maxRecDepth 100000 in
theorem ti_75_599 : dp_tab 75 599 = (.getfield 15, 3) := by decide +kernel
set_option maxRecDepth 100000 in
theorem ti_75_602 : dp_tab 75 602 = (.iload 6, 2) := by decide +kernel
set_option maxRecDepth 100000 in
theorem ti_75_604 : dp_tab 75 604 = (.aaload, 1) := by decide +kernel
set_option maxRecDepth 100000 in
theorem ti_75_605 : dp_tab 75 605 = (.getfield 57, 3) := by decide +kernel
set_option maxRecDepth 100000 in
theorem ti_75_608 : dp_tab 75 608 = (.arraylength, 1) := by decide +kernel
set_option maxRecDepth 100000 in
theorem ti_75_609 : dp_tab 75 609 = (.if_icmp .ne 7, 3) := by decide +kernel
set_option maxRecDepth 100000 in
theorem ti_75_612 : dp_tab 75 612 = (.iconst 1, 1) := by decide +kernel
set_option maxRecDepth 100000 in
theorem ti_75_613 : dp_tab 75 613 = (.goto 4, 3) := by decide +kernel
set_option maxRecDepth 100000 in
theorem ti_75_616 : dp_tab 75 616 = (.iconst 0, 1) := by decide +kernel
set_option maxRecDepth 100000 in
theorem ti_75_617 : dp_tab 75 617 = (.ireturn, 1) := by decide +kernel
set_option maxRecDepth 100000 in
theorem ti_75_618 : dp_tab 75 618 = (.iload 4, 2) := by decide +kernel
set_option maxRecDepth 100000 in
theorem ti_75_620 : dp_tab 75 620 = (.ifCond .ne 5, 3) := by decide +kernel
set_option maxRecDepth 100000 in
theorem ti_75_623 : dp_tab 75 623 = (.iconst 1, 1) := by decide +kernel
set_option maxRecDepth 100000 in
theorem ti_75_624 : dp_tab 75 624 = (.ireturn, 1) := by decide +kernel
set_option maxRecDepth 100000 in
theorem ti_75_625 : dp_tab 75 625 = (.iconst 0, 1) := by decide +kernel
set_option maxRecDepth 100000 in
theorem ti_75_626 : dp_tab 75 626 = (.istore 14, 2) := by decide +kernel
set_option maxRecDepth 100000 in
theorem ti_75_628 : dp_tab 75 628 = (.iload 14, 2) := by decide +kernel
set_option maxRecDepth 100000 in
theorem ti_75_630 : dp_tab 75 630 = (.aload_n 1, 1) := by decide +kernel
set_option maxRecDepth 100000 in
theorem ti_75_631 : dp_tab 75 631 = (.getfield 15, 3) := by decide +kernel
set_option maxRecDepth 100000 in
theorem ti_75_634 : dp_tab 75 634 = (.iload 6, 2) := by decide +kernel
set_option maxRecDepth 100000 in
theorem ti_75_636 : dp_tab 75 636 = (.aaload, 1) := by decide +kernel
set_option maxRecDepth 100000 in
theorem ti_75_637 : dp_tab 75 637 = (.getfield 57, 3) := by decide +kernel
set_option maxRecDepth 100000 in
theorem ti_75_640 : dp_tab 75 640 = (.arraylength, 1) := by decide +kernel
set_option maxRecDepth 100000 in
theorem ti_75_641 : dp_tab 75 641 = (.if_icmp .ge 74, 3) := by decide +kernel
set_option maxRecDepth 100000 in
theorem ti_75_644 : dp_tab 75 644 = (.aload_n 1, 1) := by decide +kernel
set_option maxRecDepth 100000 in
theorem ti_75_645 : dp_tab 75 645 = (.getfield 15, 3) := by decide +kernel
set_option maxRecDepth 100000 in
theorem ti_75_648 : dp_tab 75 648 = (.iload 6, 2) := by decide +kernel
set_option maxRecDepth 100000 in
theorem ti_75_650 : dp_tab 75 650 = (.aaload, 1) := by decide +kernel
set_option maxRecDepth 100000 in
theorem ti_75_651 : dp_tab 75 651 = (.getfield 57, 3) := by decide +kernel
set_option maxRecDepth 100000 in
theorem ti_75_654 : dp_tab 75 654 = (.iload 14, 2) := by decide +kernel
set_option maxRecDepth 100000 in
theorem ti_75_656 : dp_tab 75 656 = (.iaload, 1) := by decide +kernel
set_option maxRecDepth 100000 in
theorem ti_75_657 : dp_tab 75 657 = (.iload 8, 2) := by decide +kernel
set_option maxRecDepth 100000 in
theorem ti_75_659 : dp_tab 75 659 = (.if_icmp .eq 6, 3) := by decide +kernel
set_option maxRecDepth 100000 in
theorem ti_75_662 : dp_tab 75 662 = (.goto 47, 3) := by decide +kernel
set_option maxRecDepth 100000 in
theorem ti_75_665 : dp_tab 75 665 = (.aload_n 1, 1) := by decide +kernel
set_option maxRecDepth 100000 in
theorem ti_75_666 : dp_tab 75 666 = (.getfield 15, 3) := by decide +kernel
set_option maxRecDepth 100000 in
theorem ti_75_669 : dp_tab 75 669 = (.iload 6, 2) := by decide +kernel
set_option maxRecDepth 100000 in
theorem ti_75_671 : dp_tab 75 671 = (.aaload, 1) := by decide +kernel
set_option maxRecDepth 100000 in
theorem ti_75_672 : dp_tab 75 672 = (.aload_n 1, 1) := by decide +kernel
set_option maxRecDepth 100000 in
theorem ti_75_673 : dp_tab 75 673 = (.getfield 15, 3) := by decide +kernel
set_option maxRecDepth 100000 in
theorem ti_75_676 : dp_tab 75 676 = (.iload 6, 2) := by decide +kernel
set_option maxRecDepth 100000 in
theorem ti_75_678 : dp_tab 75 678 = (.aaload, 1) := by decide +kernel
set_option maxRecDepth 100000 in
theorem ti_75_679 : dp_tab 75 679 = (.getfield 57, 3) := by decide +kernel
set_option maxRecDepth 100000 in
theorem ti_75_682 : dp_tab 75 682 = (.iload 14, 2) := by decide +kernel
set_option maxRecDepth 100000 in
theorem ti_75_684 : dp_tab 75 684 = (.invokestatic 39, 3) := by decide +kernel
set_option maxRecDepth 100000 in
theorem ti_75_687 : dp_tab 75 687 = (.putfield 57, 3) := by decide +kernel
set_option maxRecDepth 100000 in
theorem ti_75_690 : dp_tab 75 690 = (.aload_n 0, 1) := by decide +kernel
set_option maxRecDepth 100000 in
theorem ti_75_691 : dp_tab 75 691 = (.iload 6, 2) := by decide +kernel
set_option maxRecDepth 100000 in
theorem ti_75_693 : dp_tab 75 693 = (.iload 8, 2) := by decide +kernel
set_option maxRecDepth 100000 in
theorem ti_75_695 : dp_tab 75 695 = (.invokevirtual 66, 3) := by decide +kernel
set_option maxRecDepth 100000 in
theorem ti_75_698 : dp_tab 75 698 = (.iload 14, 2) := by decide +kernel
set_option maxRecDepth 100000 in
theorem ti_75_700 : dp_tab 75 700 = (.if_icmp .ne 7, 3) := by decide +kernel
set_option maxRecDepth 100000 in
theorem ti_75_703 : dp_tab 75 703 = (.iconst 1, 1) := by decide +kernel
set_option maxRecDepth 100000 in
theorem ti_75_704 : dp_tab 75 704 = (.goto 4, 3) := by decide +kernel
set_option maxRecDepth 100000 in
theorem ti_75_707 : dp_tab 75 707 = (.iconst 0, 1) := by decide +kernel
set_option maxRecDepth 100000 in
theorem ti_75_708 : dp_tab 75 708 = (.ireturn, 1) := by decide +kernel
set_option maxRecDepth 100000 in
theorem ti_75_709 : dp_tab 75 709 = (.iinc 14 1, 3) := by decide +kernel
set_option maxRecDepth 100000 in
theorem ti_75_712 : dp_tab 75 712 = (.goto (-84), 3) := by decide +kernel
set_option maxRecDepth 100000 in
theorem ti_75_715 : dp_tab 75 715 = (.iconst 1, 1) := by decide +kernel
set_option maxRecDepth 100000 in
theorem ti_75_716 : dp_tab 75 716 = (.ireturn, 1) := by decide +kernel
set_option maxRecDepth 100000 in
theorem ti_75_717 : dp_tab 75 717 = (.iload 4, 2) := by decide +kernel
set_option maxRecDepth 100000 in
theorem ti_75_719 : dp_tab 75 719 = (.ifCond .ne 5, 3) := by decide +kernel
set_option maxRecDepth 100000 in
theorem ti_75_722 : dp_tab 75 722 = (.iconst 1, 1) := by decide +kernel
set_option maxRecDepth 100000 in
theorem ti_75_723 : dp_tab 75 723 = (.ireturn, 1) := by decide +kernel
set_option maxRecDepth 100000 in
theorem ti_75_724 : dp_tab 75 724 = (.aload_n 1, 1) := by decide +kernel
set_option maxRecDepth 100000 in
theorem ti_75_725 : dp_tab 75 725 = (.getfield 15, 3) := by decide +kernel
set_option maxRecDepth 100000 in
theorem ti_75_728 : dp_tab 75 728 = (.iload 6, 2) := by decide +kernel
set_option maxRecDepth 100000 in
theorem ti_75_730 : dp_tab 75 730 = (.aaload, 1) := by decide +kernel
set_option maxRecDepth 100000 in
theorem ti_75_731 : dp_tab 75 731 = (.getfield 69, 3) := by decide +kernel
set_option maxRecDepth 100000 in
theorem ti_75_734 : dp_tab 75 734 = (.istore 14, 2) := by decide +kernel
set_option maxRecDepth 100000 in
theorem ti_75_736 : dp_tab 75 736 = (.aload_n 1, 1) := by decide +kernel
set_option maxRecDepth 100000 in
theorem ti_75_737 : dp_tab 75 737 = (.getfield 15, 3) := by decide +kernel
set_option maxRecDepth 100000 in
theorem ti_75_740 : dp_tab 75 740 = (.iload 6, 2) := by decide +kernel
set_option maxRecDepth 100000 in
theorem ti_75_742 : dp_tab 75 742 = (.aaload, 1) := by decide +kernel
set_option maxRecDepth 100000 in
theorem ti_75_743 : dp_tab 75 743 = (.iload_n 2, 1) := by decide +kernel
set_option maxRecDepth 100000 in
theorem ti_75_744 : dp_tab 75 744 = (.iconst 1, 1) := by decide +kernel
set_option maxRecDepth 100000 in
theorem ti_75_745 : dp_tab 75 745 = (.ishr, 1) := by decide +kernel
set_option maxRecDepth 100000 in
theorem ti_75_746 : dp_tab 75 746 = (.iload_n 2, 1) := by decide +kernel
set_option maxRecDepth 100000 in
theorem ti_75_747 : dp_tab 75 747 = (.bipush 6, 2) := by decide +kernel
set_option maxRecDepth 100000 in
theorem ti_75_749 : dp_tab 75 749 = (.ishr, 1) := by decide +kernel
set_option maxRecDepth 100000 in
theorem ti_75_750 : dp_tab 75 750 = (.iconst 3, 1) := by decide +kernel
set_option maxRecDepth 100000 in
theorem ti_75_751 : dp_tab 75 751 = (.invokestatic 19, 3) := by decide +kernel
set_option maxRecDepth 100000 in
theorem ti_75_754 : dp_tab 75 754 = (.ifCond .ne 9, 3) := by decide +kernel
set_option maxRecDepth 100000 in
theorem ti_75_757 : dp_tab 75 757 = (.sipush 1000, 3) := by decide +kernel
set_option maxRecDepth 100000 in
theorem ti_75_760 : dp_tab 75 760 = (.goto 5, 3) := by decide +kernel
set_option maxRecDepth 100000 in
theorem ti_75_763 : dp_tab 75 763 = (.bipush 60, 2) := by decide +kernel
set_option maxRecDepth 100000 in
theorem ti_75_765 : dp_tab 75 765 = (.invokestatic 19, 3) := by decide +kernel
set_option maxRecDepth 100000 in
theorem ti_75_768 : dp_tab 75 768 = (.putfield 69, 3) := by decide +kernel
set_option maxRecDepth 100000 in
theorem ti_75_771 : dp_tab 75 771 = (.aload_n 0, 1) := by decide +kernel
set_option maxRecDepth 100000 in
theorem ti_75_772 : dp_tab 75 772 = (.iload 6, 2) := by decide +kernel
set_option maxRecDepth 100000 in
theorem ti_75_774 : dp_tab 75 774 = (.aload_n 1, 1) := by decide +kernel
set_option maxRecDepth 100000 in
theorem ti_75_775 : dp_tab 75 775 = (.getfield 15, 3) := by decide +kernel
set_option maxRecDepth 100000 in
theorem ti_75_778 : dp_tab 75 778 = (.iload 6, 2) := by decide +kernel
set_option maxRecDepth 100000 in
theorem ti_75_780 : dp_tab 75 780 = (.aaload, 1) := by decide +kernel
set_option maxRecDepth 100000 in
theorem ti_75_781 : dp_tab 75 781 = (.getfield 69, 3) := by decide +kernel
set_option maxRecDepth 100000 in
theorem ti_75_784 : dp_tab 75 784 = (.invokevirtual 72, 3) := by decide +kernel
set_option maxRecDepth 100000 in
theorem ti_75_787 : dp_tab 75 787 = (.iload 14, 2) := by decide +kernel
set_option maxRecDepth 100000 in
theorem ti_75_789 : dp_tab 75 789 = (.if_icmp .ne 7, 3) := by decide +kernel
set_option maxRecDepth 100000 in
theorem ti_75_792 : dp_tab 75 792 = (.iconst 1, 1) := by decide +kernel
set_option maxRecDepth 100000 in
theorem ti_75_793 : dp_tab 75 793 = (.goto 4, 3) := by decide +kernel
set_option maxRecDepth 100000 in
theorem ti_75_796 : dp_tab 75 796 = (.iconst 0, 1) := by decide +kernel
set_option maxRecDepth 100000 in
theorem ti_75_797 : dp_tab 75 797 = (.ireturn, 1) := by decide +kernel
set_option maxRecDepth 100000 in
theorem ti_75_798 : dp_tab 75 798 = (.iload 4, 2) := by decide +kernel
set_option maxRecDepth 100000 in
theorem ti_75_800 : dp_tab 75 800 = (.ifCond .ne 5, 3) := by decide +kernel
set_option maxRecDepth 100000 in
theorem ti_75_803 : dp_tab 75 803 = (.iconst 1, 1) := by decide +kernel
set_option maxRecDepth 100000 in
theorem ti_75_804 : dp_tab 75 804 = (.ireturn, 1) := by decide +kernel
set_option maxRecDepth 100000 in
theorem ti_75_805 : dp_tab 75 805 = (.iconst 1, 1) := by decide +kernel
set_option maxRecDepth 100000 in
theorem ti_75_806 : dp_tab 75 806 = (.iload_n 2, 1) := by decide +kernel
set_option maxRecDepth 100000 in
theorem ti_75_807 : dp_tab 75 807 = (.iconst 1, 1) := by decide +kernel
set_option maxRecDepth 100000 in
theorem ti_75_808 : dp_tab 75 808 = (.ishr, 1) := by decide +kernel
set_option maxRecDepth 100000 in
theorem ti_75_809 : dp_tab 75 809 = (.iload_n 2, 1) := by decide +kernel
set_option maxRecDepth 100000 in
theorem ti_75_810 : dp_tab 75 810 = (.bipush 6, 2) := by decide +kernel
set_option maxRecDepth 100000 in
theorem ti_75_812 : dp_tab 75 812 = (.ishr, 1) := by decide +kernel
set_option maxRecDepth 100000 in
theorem ti_75_813 : dp_tab 75 813 = (.iconst 2, 1) := by decide +kernel
set_option maxRecDepth 100000 in
theorem ti_75_814 : dp_tab 75 814 = (.invokestatic 19, 3) := by decide +kernel
set_option maxRecDepth 100000 in
theorem ti_75_817 : dp_tab 75 817 = (.ifCond .ne 9, 3) := by decide +kernel
set_option maxRecDepth 100000 in
theorem ti_75_820 : dp_tab 75 820 = (.sipush 999, 3) := by decide +kernel
set_option maxRecDepth 100000 in
theorem ti_75_823 : dp_tab 75 823 = (.goto 5, 3) := by decide +kernel
set_option maxRecDepth 100000 in
theorem ti_75_826 : dp_tab 75 826 = (.bipush 30, 2) := by decide +kernel
set_option maxRecDepth 100000 in
theorem ti_75_828 : dp_tab 75 828 = (.invokestatic 19, 3) := by decide +kernel
set_option maxRecDepth 100000 in
theorem ti_75_831 : dp_tab 75 831 = (.iadd, 1) := by decide +kernel
set_option maxRecDepth 100000 in
theorem ti_75_832 : dp_tab 75 832 = (.istore 15, 2) := by decide +kernel
set_option maxRecDepth 100000 in
theorem ti_75_834 : dp_tab 75 834 = (.aload_n 1, 1) := by decide +kernel
set_option maxRecDepth 100000 in
theorem ti_75_835 : dp_tab 75 835 = (.getfield 15, 3) := by decide +kernel
set_option maxRecDepth 100000 in
theorem ti_75_838 : dp_tab 75 838 = (.iload 6, 2) := by decide +kernel
set_option maxRecDepth 100000 in
theorem ti_75_840 : dp_tab 75 840 = (.aaload, 1) := by decide +kernel
set_option maxRecDepth 100000 in
theorem ti_75_841 : dp_tab 75 841 = (.sipush 9999, 3) := by decide +kernel
set_option maxRecDepth 100000 in
theorem ti_75_844 : dp_tab 75 844 = (.aload_n 1, 1) := by decide +kernel
set_option maxRecDepth 100000 in
theorem ti_75_845 : dp_tab 75 845 = (.getfield 15, 3) := by decide +kernel
set_option maxRecDepth 100000 in
theorem ti_75_848 : dp_tab 75 848 = (.iload 6, 2) := by decide +kernel
set_option maxRecDepth 100000 in
theorem ti_75_850 : dp_tab 75 850 = (.aaload, 1) := by decide +kernel
set_option maxRecDepth 100000 in
theorem ti_75_851 : dp_tab 75 851 = (.getfield 49, 3) := by decide +kernel
set_option maxRecDepth 100000 in
theorem ti_75_854 : dp_tab 75 854 = (.iload 15, 2) := by decide +kernel
set_option maxRecDepth 100000 in
theorem ti_75_856 : dp_tab 75 856 = (.iadd, 1) := by decide +kernel
set_option maxRecDepth 100000 in
theorem ti_75_857 : dp_tab 75 857 = (.invokestatic 75, 3) := by decide +kernel
set_option maxRecDepth 100000 in
theorem ti_75_860 : dp_tab 75 860 = (.putfield 49, 3) := by decide +kernel
set_option maxRecDepth 100000 in
theorem ti_75_863 : dp_tab 75 863 = (.aload_n 0, 1) := by decide +kernel
set_option maxRecDepth 100000 in
theorem ti_75_864 : dp_tab 75 864 = (.iload 6, 2) := by decide +kernel
set_option maxRecDepth 100000 in
theorem ti_75_866 : dp_tab 75 866 = (.iload 15, 2) := by decide +kernel
set_option maxRecDepth 100000 in
theorem ti_75_868 : dp_tab 75 868 = (.invokevirtual 80, 3) := by decide +kernel
set_option maxRecDepth 100000 in
theorem ti_75_871 : dp_tab 75 871 = (.aload_n 1, 1) := by decide +kernel
set_option maxRecDepth 100000 in
theorem ti_75_872 : dp_tab 75 872 = (.getfield 15, 3) := by decide +kernel
set_option maxRecDepth 100000 in
theorem ti_75_875 : dp_tab 75 875 = (.iload 6, 2) := by decide +kernel
set_option maxRecDepth 100000 in
theorem ti_75_877 : dp_tab 75 877 = (.aaload, 1) := by decide +kernel
set_option maxRecDepth 100000 in
theorem ti_75_878 : dp_tab 75 878 = (.getfield 49, 3) := by decide +kernel
set_option maxRecDepth 100000 in
theorem ti_75_881 : dp_tab 75 881 = (.if_icmp .ne 7, 3) := by decide +kernel
set_option maxRecDepth 100000 in
theorem ti_75_884 : dp_tab 75 884 = (.iconst 1, 1) := by decide +kernel
set_option maxRecDepth 100000 in
theorem ti_75_885 : dp_tab 75 885 = (.goto 4, 3) := by decide +kernel
set_option maxRecDepth 100000 in
theorem ti_75_888 : dp_tab 75 888 = (.iconst 0, 1) := by decide +kernel
set_option maxRecDepth 100000 in
theorem ti_75_889 : dp_tab 75 889 = (.ireturn, 1) := by decide +kernel
set_option maxRecDepth 100000 in
theorem ti_75_890 : dp_tab 75 890 = (.iload 4, 2) := by decide +kernel
set_option maxRecDepth 100000 in
theorem ti_75_892 : dp_tab 75 892 = (.ifCond .eq 23, 3) := by decide +kernel
set_option maxRecDepth 100000 in
theorem ti_75_895 : dp_tab 75 895 = (.aload_n 0, 1) := by decide +kernel
set_option maxRecDepth 100000 in
theorem ti_75_896 : dp_tab 75 896 = (.iload 6, 2) := by decide +kernel
set_option maxRecDepth 100000 in
theorem ti_75_898 : dp_tab 75 898 = (.invokevirtual 83, 3) := by decide +kernel
set_option maxRecDepth 100000 in
theorem ti_75_901 : dp_tab 75 901 = (.aload_n 1, 1) := by decide +kernel
set_option maxRecDepth 100000 in
theorem ti_75_902 : dp_tab 75 902 = (.aload_n 1, 1) := by decide +kernel
set_option maxRecDepth 100000 in
theorem ti_75_903 : dp_tab 75 903 = (.getfield 15, 3) := by decide +kernel
set_option maxRecDepth 100000 in
theorem ti_75_906 : dp_tab 75 906 = (.iload 6, 2) := by decide +kernel
set_option maxRecDepth 100000 in
theorem ti_75_908 : dp_tab 75 908 = (.aaload, 1) := by decide +kernel
set_option maxRecDepth 100000 in
theorem ti_75_909 : dp_tab 75 909 = (.invokevirtual 86, 3) := by decide +kernel
set_option maxRecDepth 100000 in
theorem ti_75_912 : dp_tab 75 912 = (.if_icmp .ne 7, 3) := by decide +kernel
set_option maxRecDepth 100000 in
theorem ti_75_915 : dp_tab 75 915 = (.iconst 1, 1) := by decide +kernel
set_option maxRecDepth 100000 in
theorem ti_75_916 : dp_tab 75 916 = (.goto 4, 3) := by decide +kernel
set_option maxRecDepth 100000 in
theorem ti_75_919 : dp_tab 75 919 = (.iconst 0, 1) := by decide +kernel
set_option maxRecDepth 100000 in
theorem ti_75_920 : dp_tab 75 920 = (.ireturn, 1) := by decide +kernel
set_option maxRecDepth 100000 in
theorem ti_75_921 : dp_tab 75 921 = (.iload_n 3, 1) := by decide +kernel
set_option maxRecDepth 100000 in
theorem ti_75_922 : dp_tab 75 922 = (.ifCond .eq 16, 3) := by decide +kernel
set_option maxRecDepth 100000 in
theorem ti_75_925 : dp_tab 75 925 = (.aload_n 1, 1) := by decide +kernel
set_option maxRecDepth 100000 in
theorem ti_75_926 : dp_tab 75 926 = (.getfield 9, 3) := by decide +kernel
set_option maxRecDepth 100000 in
theorem ti_75_929 : dp_tab 75 929 = (.iload 5, 2) := by decide +kernel
set_option maxRecDepth 100000 in
theorem ti_75_931 : dp_tab 75 931 = (.aaload, 1) := by decide +kernel
set_option maxRecDepth 100000 in
theorem ti_75_932 : dp_tab 75 932 = (.arraylength, 1) := by decide +kernel
set_option maxRecDepth 100000 in
theorem ti_75_933 : dp_tab 75 933 = (.bipush 12, 2) := by decide +kernel
set_option maxRecDepth 100000 in
theorem ti_75_935 : dp_tab 75 935 = (.if_icmp .ne 5, 3) := by decide +kernel
set_option maxRecDepth 100000 in
theorem ti_75_938 : dp_tab 75 938 = (.iconst 1, 1) := by decide +kernel
set_option maxRecDepth 100000 in
theorem ti_75_939 : dp_tab 75 939 = (.ireturn, 1) := by decide +kernel
set_option maxRecDepth 100000 in
theorem ti_75_940 : dp_tab 75 940 = (.aload_n 1, 1) := by decide +kernel
set_option maxRecDepth 100000 in
theorem ti_75_941 : dp_tab 75 941 = (.getfield 9, 3) := by decide +kernel
set_option maxRecDepth 100000 in
theorem ti_75_944 : dp_tab 75 944 = (.iload 5, 2) := by decide +kernel
set_option maxRecDepth 100000 in
theorem ti_75_946 : dp_tab 75 946 = (.aload_n 1, 1) := by decide +kernel
set_option maxRecDepth 100000 in
theorem ti_75_947 : dp_tab 75 947 = (.getfield 9, 3) := by decide +kernel
set_option maxRecDepth 100000 in
theorem ti_75_950 : dp_tab 75 950 = (.iload 5, 2) := by decide +kernel
set_option maxRecDepth 100000 in
theorem ti_75_952 : dp_tab 75 952 = (.aaload, 1) := by decide +kernel
set_option maxRecDepth 100000 in
theorem ti_75_953 : dp_tab 75 953 = (.iload 7, 2) := by decide +kernel
set_option maxRecDepth 100000 in
theorem ti_75_955 : dp_tab 75 955 = (.invokestatic 60, 3) := by decide +kernel
set_option maxRecDepth 100000 in
theorem ti_75_958 : dp_tab 75 958 = (.aastore, 1) := by decide +kernel
set_option maxRecDepth 100000 in
theorem ti_75_959 : dp_tab 75 959 = (.aload_n 0, 1) := by decide +kernel
set_option maxRecDepth 100000 in
theorem ti_75_960 : dp_tab 75 960 = (.iload 5, 2) := by decide +kernel
set_option maxRecDepth 100000 in
theorem ti_75_962 : dp_tab 75 962 = (.iload 7, 2) := by decide +kernel
set_option maxRecDepth 100000 in
theorem ti_75_964 : dp_tab 75 964 = (.invokevirtual 89, 3) := by decide +kernel
set_option maxRecDepth 100000 in
theorem ti_75_967 : dp_tab 75 967 = (.aload_n 1, 1) := by decide +kernel
set_option maxRecDepth 100000 in
theorem ti_75_968 : dp_tab 75 968 = (.getfield 9, 3) := by decide +kernel
set_option maxRecDepth 100000 in
theorem ti_75_971 : dp_tab 75 971 = (.iload 5, 2) := by decide +kernel
set_option maxRecDepth 100000 in
theorem ti_75_973 : dp_tab 75 973 = (.aaload, 1) := by decide +kernel
set_option maxRecDepth 100000 in
theorem ti_75_974 : dp_tab 75 974 = (.arraylength, 1) := by decide +kernel
set_option maxRecDepth 100000 in
theorem ti_75_975 : dp_tab 75 975 = (.if_icmp .ne 7, 3) := by decide +kernel
set_option maxRecDepth 100000 in
theorem ti_75_978 : dp_tab 75 978 = (.iconst 1, 1) := by decide +kernel
set_option maxRecDepth 100000 in
theorem ti_75_979 : dp_tab 75 979 = (.goto 4, 3) := by decide +kernel
set_option maxRecDepth 100000 in
theorem ti_75_982 : dp_tab 75 982 = (.iconst 0, 1) := by decide +kernel
set_option maxRecDepth 100000 in
theorem ti_75_983 : dp_tab 75 983 = (.ireturn, 1) := by decide +kernel
set_option maxRecDepth 100000 in
theorem ti_76_0 : dp_tab 76 0 = (.new 10, 3) := by decide +kernel
set_option maxRecDepth 100000 in
theorem ti_76_3 : dp_tab 76 3 = (.dup, 1) := by decide +kernel
set_option maxRecDepth 100000 in
theorem ti_76_4 : dp_tab 76 4 = (.invokespecial 92, 3) := by decide +kernel
set_option maxRecDepth 100000 in
theorem ti_76_7 : dp_tab 76 7 = (.astore_n 2, 1) := by decide +kernel
set_option maxRecDepth 100000 in
theorem ti_76_8 : dp_tab 76 8 = (.iconst 0, 1) := by decide +kernel
set_option maxRecDepth 100000 in
theorem ti_76_9 : dp_tab 76 9 = (.istore_n 3, 1) := by decide +kernel
set_option maxRecDepth 100000 in
theorem ti_76_10 : dp_tab 76 10 = (.iload_n 3, 1) := by decide +kernel
set_option maxRecDepth 100000 in
theorem ti_76_11 : dp_tab 76 11 = (.bipush 64, 2) := by decide +kernel
set_option maxRecDepth 100000 in
theorem ti_76_13 : dp_tab 76 13 = (.if_icmp .ge 58, 3) := by decide +kernel
set_option maxRecDepth 100000 in
theorem ti_76_16 : dp_tab 76 16 = (.aload_n 0, 1) := by decide +kernel
set_option maxRecDepth 100000 in
theorem ti_76_17 : dp_tab 76 17 = (.aload_n 2, 1) := by decide +kernel
set_option maxRecDepth 100000 in
theorem ti_76_18 : dp_tab 76 18 = (.aload_n 1, 1) := by decide +kernel
set_option maxRecDepth 100000 in
theorem ti_76_19 : dp_tab 76 19 = (.iload_n 3, 1) := by decide +kernel
set_option maxRecDepth 100000 in
theorem ti_76_20 : dp_tab 76 20 = (.bipush 16, 2) := by decide +kernel
set_option maxRecDepth 100000 in
theorem ti_76_22 : dp_tab 76 22 = (.irem, 1) := by decide +kernel
set_option maxRecDepth 100000 in
theorem ti_76_23 : dp_tab 76 23 = (.invokestatic 93, 3) := by decide +kernel
set_option maxRecDepth 100000 in
theorem ti_76_26 : dp_tab 76 26 = (.iload_n 3, 1) := by decide +kernel
set_option maxRecDepth 100000 in
theorem ti_76_27 : dp_tab 76 27 = (.bipush 16, 2) := by decide +kernel
set_option maxRecDepth 100000 in
theorem ti_76_29 : dp_tab 76 29 = (.idiv, 1) := by decide +kernel
set_option maxRecDepth 100000 in
theorem ti_76_30 : dp_tab 76 30 = (.iconst 3, 1) := by decide +kernel
set_option maxRecDepth 100000 in
theorem ti_76_31 : dp_tab 76 31 = (.imul, 1) := by decide +kernel
set_option maxRecDepth 100000 in
theorem ti_76_32 : dp_tab 76 32 = (.ishr, 1) := by decide +kernel
set_option maxRecDepth 100000 in
theorem ti_76_33 : dp_tab 76 33 = (.sipush 307, 3) := by decide +kernel
set_option maxRecDepth 100000 in
theorem ti_76_36 : dp_tab 76 36 = (.iload_n 3, 1) := by decide +kernel
set_option maxRecDepth 100000 in
theorem ti_76_37 : dp_tab 76 37 = (.imul, 1) := by decide +kernel
set_option maxRecDepth 100000 in
theorem ti_76_38 : dp_tab 76 38 = (.iadd, 1) := by decide +kernel
set_option maxRecDepth 100000 in
theorem ti_76_39 : dp_tab 76 39 = (.iload_n 3, 1) := by decide +kernel
set_option maxRecDepth 100000 in
theorem ti_76_40 : dp_tab 76 40 = (.bipush 8, 2) := by decide +kernel
set_option maxRecDepth 100000 in
theorem ti_76_42 : dp_tab 76 42 = (.if_icmp .ge 13, 3) := by decide +kernel
set_option maxRecDepth 100000 in
theorem ti_76_45 : dp_tab 76 45 = (.sipush 512, 3) := by decide +kernel
set_option maxRecDepth 100000 in
theorem ti_76_48 : dp_tab 76 48 = (.iload_n 3, 1) := by decide +kernel
set_option maxRecDepth 100000 in
theorem ti_76_49 : dp_tab 76 49 = (.iconst 4, 1) := by decide +kernel
set_option maxRecDepth 100000 in
theorem ti_76_50 : dp_tab 76 50 = (.irem, 1) := by decide +kernel
set_option maxRecDepth 100000 in
theorem ti_76_51 : dp_tab 76 51 = (.imul, 1) := by decide +kernel
set_option maxRecDepth 100000 in
theorem ti_76_52 : dp_tab 76 52 = (.goto 4, 3) := by decide +kernel
set_option maxRecDepth 100000 in
theorem ti_76_55 : dp_tab 76 55 = (.iconst 0, 1) := by decide +kernel
set_option maxRecDepth 100000 in
theorem ti_76_56 : dp_tab 76 56 = (.iadd, 1) := by decide +kernel
set_option maxRecDepth 100000 in
theorem ti_76_57 : dp_tab 76 57 = (.invokestatic 97, 3) := by decide +kernel
set_option maxRecDepth 100000 in
theorem ti_76_60 : dp_tab 76 60 = (.ifCond .ne 5, 3) := by decide +kernel
set_option maxRecDepth 100000 in
theorem ti_76_63 : dp_tab 76 63 = (.aconst_null, 1) := by decide +kernel
set_option maxRecDepth 100000 in
theorem ti_76_64 : dp_tab 76 64 = (.areturn, 1) := by decide +kernel
set_option maxRecDepth 100000 in
theorem ti_76_65 : dp_tab 76 65 = (.iinc 3 1, 3) := by decide +kernel
set_option maxRecDepth 100000 in
theorem ti_76_68 : dp_tab 76 68 = (.goto (-58), 3) := by decide +kernel
set_option maxRecDepth 100000 in
theorem ti_76_71 : dp_tab 76 71 = (.aload_n 2, 1) := by decide +kernel
set_option maxRecDepth 100000 in
theorem ti_76_72 : dp_tab 76 72 = (.areturn, 1) := by decide +kernel
set_option maxRecDepth 100000 in
theorem ti_77_0 : dp_tab 77 0 = (.new 30, 3) := by decide +kernel
set_option maxRecDepth 100000 in
theorem ti_77_3 : dp_tab 77 3 = (.dup, 1) := by decide +kernel
set_option maxRecDepth 100000 in
theorem ti_77_4 : dp_tab 77 4 = (.invokespecial 101, 3) := by decide +kernel
set_option maxRecDepth 100000 in
theorem ti_77_7 : dp_tab 77 7 = (.astore_n 1, 1) := by decide +kernel
set_option maxRecDepth 100000 in
theorem ti_77_8 : dp_tab 77 8 = (.aload_n 1, 1) := by decide +kernel
set_option maxRecDepth 100000 in
theorem ti_77_9 : dp_tab 77 9 = (.aload_n 0, 1) := by decide +kernel
set_option maxRecDepth 100000 in
theorem ti_77_10 : dp_tab 77 10 = (.invokestatic 102, 3) := by decide +kernel
set_option maxRecDepth 100000 in
theorem ti_77_13 : dp_tab 77 13 = (.astore_n 2, 1) := by decide +kernel
set_option maxRecDepth 100000 in
theorem ti_77_14 : dp_tab 77 14 = (.aload_n 2, 1) := by decide +kernel
set_option maxRecDepth 100000 in
theorem ti_77_15 : dp_tab 77 15 = (.ifnonnull 5, 3) := by decide +kernel
set_option maxRecDepth 100000 in
theorem ti_77_18 : dp_tab 77 18 = (.iconst 0, 1) := by decide +kernel
set_option maxRecDepth 100000 in
theorem ti_77_19 : dp_tab 77 19 = (.ireturn, 1) := by decide +kernel
set_option maxRecDepth 100000 in
theorem ti_77_20 : dp_tab 77 20 = (.iconst 0, 1) := by decide +kernel
set_option maxRecDepth 100000 in
theorem ti_77_21 : dp_tab 77 21 = (.istore_n 3, 1) := by decide +kernel
set_option maxRecDepth 100000 in
theorem ti_77_22 : dp_tab 77 22 = (.iload_n 3, 1) := by decide +kernel
set_option maxRecDepth 100000 in
theorem ti_77_23 : dp_tab 77 23 = (.bipush 24, 2) := by decide +kernel
set_option maxRecDepth 100000 in
theorem ti_77_25 : dp_tab 77 25 = (.if_icmp .ge 820, 3) := by decide +kernel
set_option maxRecDepth 100000 in
theorem ti_77_28 : dp_tab 77 28 = (.aload_n 0, 1) := by decide +kernel
set_option maxRecDepth 100000 in
theorem ti_77_29 : dp_tab 77 29 = (.iload_n 3, 1) := by decide +kernel
set_option maxRecDepth 100000 in
theorem ti_77_30 : dp_tab 77 30 = (.bipush 16, 2) := by decide +kernel
set_option maxRecDepth 100000 in
theorem ti_77_32 : dp_tab 77 32 = (.irem, 1) := by decide +kernel
set_option maxRecDepth 100000 in
theorem ti_77_33 : dp_tab 77 33 = (.invokestatic 93, 3) := by decide +kernel
set_option maxRecDepth 100000 in
theorem ti_77_36 : dp_tab 77 36 = (.iload_n 3, 1) := by decide +kernel
set_option maxRecDepth 100000 in
theorem ti_77_37 : dp_tab 77 37 = (.bipush 16, 2) := by decide +kernel
set_option maxRecDepth 100000 in
theorem ti_77_39 : dp_tab 77 39 = (.idiv, 1) := by decide +kernel
set_option maxRecDepth 100000 in
theorem ti_77_40 : dp_tab 77 40 = (.iconst 3, 1) := by decide +kernel
set_option maxRecDepth 100000 in
theorem ti_77_41 : dp_tab 77 41 = (.imul, 1) := by decide +kernel
set_option maxRecDepth 100000 in
theorem ti_77_42 : dp_tab 77 42 = (.ishr, 1) := by decide +kernel
set_option maxRecDepth 100000 in
theorem ti_77_43 : dp_tab 77 43 = (.sipush 307, 3) := by decide +kernel
set_option maxRecDepth 100000 in
theorem ti_77_46 : dp_tab 77 46 = (.iload_n 3, 1) := by decide +kernel
set_option maxRecDepth 100000 in
theorem ti_77_47 : dp_tab 77 47 = (.imul, 1) := by decide +kernel
set_option maxRecDepth 100000 in
theorem ti_77_48 : dp_tab 77 48 = (.iadd, 1) := by decide +kernel
set_option maxRecDepth 100000 in
theorem ti_77_49 : dp_tab 77 49 = (.istore 4, 2) := by decide +kernel
set_option maxRecDepth 100000 in
theorem ti_77_51 : dp_tab 77 51 = (.iconst 0, 1) := by decide +kernel
set_option maxRecDepth 100000 in
theorem ti_77_52 : dp_tab 77 52 = (.istore 5, 2) := by decide +kernel
set_option maxRecDepth 100000 in
theorem ti_77_54 : dp_tab 77 54 = (.iload 5, 2) := by decide +kernel
set_option maxRecDepth 100000 in
theorem ti_77_56 : dp_tab 77 56 = (.iconst 2, 1) := by decide +kernel
set_option maxRecDepth 100000 in
theorem ti_77_57 : dp_tab 77 57 = (.if_icmp .ge 33, 3) := by decide +kernel
set_option maxRecDepth 100000 in
theorem ti_77_60 : dp_tab 77 60 = (.aload_n 1, 1) := by decide +kernel
set_option maxRecDepth 100000 in
theorem ti_77_61 : dp_tab 77 61 = (.aload_n 2, 1) := by decide +kernel
set_option maxRecDepth 100000 in
theorem ti_77_62 : dp_tab 77 62 = (.iload 4, 2) := by decide +kernel
set_option maxRecDepth 100000 in
theorem ti_77_64 : dp_tab 77 64 = (.iconst 2, 1) := by decide +kernel
set_option maxRecDepth 100000 in
theorem ti_77_65 : dp_tab 77 65 = (.iload 5, 2) := by decide +kernel
set_option maxRecDepth 100000 in
theorem ti_77_67 : dp_tab 77 67 = (.imul, 1) := by decide +kernel
set_option maxRecDepth 100000 in
theorem ti_77_68 : dp_tab 77 68 = (.ishr, 1) := by decide +kernel
set_option maxRecDepth 100000 in
theorem ti_77_69 : dp_tab 77 69 = (.sipush 223, 3) := by decide +kernel
set_option maxRecDepth 100000 in
theorem ti_77_72 : dp_tab 77 72 = (.iload 5, 2) := by decide +kernel
set_option maxRecDepth 100000 in
theorem ti_77_74 : dp_tab 77 74 = (.imul, 1) := by decide +kernel
set_option maxRecDepth 100000 in
theorem ti_77_75 : dp_tab 77 75 = (.iadd, 1) := by decide +kernel
set_option maxRecDepth 100000 in
theorem ti_77_76 : dp_tab 77 76 = (.invokestatic 97, 3) := by decide +kernel
set_option maxRecDepth 100000 in
theorem ti_77_79 : dp_tab 77 79 = (.ifCond .ne 5, 3) := by decide +kernel
set_option maxRecDepth 100000 in
theorem ti_77_82 : dp_tab 77 82 = (.iconst 0, 1) := by decide +kernel
set_option maxRecDepth 100000 in
theorem ti_77_83 : dp_tab 77 83 = (.ireturn, 1) := by decide +kernel
set_option maxRecDepth 100000 in
theorem ti_77_84 : dp_tab 77 84 = (.iinc 5 1, 3) := by decide +kernel
set_option maxRecDepth 100000 in
theorem ti_77_87 : dp_tab 77 87 = (.goto (-33), 3) := by decide +kernel
set_option maxRecDepth 100000 in
theorem ti_77_90 : dp_tab 77 90 = (.aload_n 1, 1) := by decide +kernel
set_option maxRecDepth 100000 in
theorem ti_77_91 : dp_tab 77 91 = (.iconst 0, 1) := by decide +kernel
set_option maxRecDepth 100000 in
theorem ti_77_92 : dp_tab 77 92 = (.invokevirtual 106, 3) := by decide +kernel
set_option maxRecDepth 100000 in
theorem ti_77_95 : dp_tab 77 95 = (.istore 5, 2) := by decide +kernel
set_option maxRecDepth 100000 in
theorem ti_77_97 : dp_tab 77 97 = (.aload_n 1, 1) := by decide +kernel
set_option maxRecDepth 100000 in
theorem ti_77_98 : dp_tab 77 98 = (.iconst 1, 1) := by decide +kernel
set_option maxRecDepth 100000 in
theorem ti_77_99 : dp_tab 77 99 = (.invokevirtual 106, 3) := by decide +kernel
set_option maxRecDepth 100000 in
theorem ti_77_102 : dp_tab 77 102 = (.istore 6, 2) := by decide +kernel
set_option maxRecDepth 100000 in
theorem ti_77_104 : dp_tab 77 104 = (.aload_n 1, 1) := by decide +kernel
set_option maxRecDepth 100000 in
theorem ti_77_105 : dp_tab 77 105 = (.iconst 5, 1) := by decide +kernel
set_option maxRecDepth 100000 in
theorem ti_77_106 : dp_tab 77 106 = (.invokevirtual 106, 3) := by decide +kernel
set_option maxRecDepth 100000 in
theorem ti_77_109 : dp_tab 77 109 = (.istore 7, 2) := by decide +kernel
set_option maxRecDepth 100000 in
theorem ti_77_111 : dp_tab 77 111 = (.aload_n 1, 1) := by decide +kernel
set_option maxRecDepth 100000 in
theorem ti_77_112 : dp_tab 77 112 = (.bipush 6, 2) := by decide +kernel
set_option maxRecDepth 100000 in
theorem ti_77_114 : dp_tab 77 114 = (.invokevirtual 106, 3) := by decide +kernel
set_option maxRecDepth 100000 in
theorem ti_77_117 : dp_tab 77 117 = (.istore 8, 2) := by decide +kernel
set_option maxRecDepth 100000 in
theorem ti_77_119 : dp_tab 77 119 = (.iload 6, 2) := by decide +kernel
set_option maxRecDepth 100000 in
theorem ti_77_121 : dp_tab 77 121 = (.ifCond .le 307, 3) := by decide +kernel
set_option maxRecDepth 100000 in
theorem ti_77_124 : dp_tab 77 124 = (.iload_n 3, 1) := by decide +kernel
set_option maxRecDepth 100000 in
theorem ti_77_125 : dp_tab 77 125 = (.iconst 2, 1) := by decide +kernel
set_option maxRecDepth 100000 in
theorem ti_77_126 : dp_tab 77 126 = (.irem, 1) := by decide +kernel
set_option maxRecDepth 100000 in
theorem ti_77_127 : dp_tab 77 127 = (.ifCond .ne 301, 3) := by decide +kernel
set_option maxRecDepth 100000 in
theorem ti_77_130 : dp_tab 77 130 = (.iload 4, 2) := by decide +kernel
set_option maxRecDepth 100000 in
theorem ti_77_132 : dp_tab 77 132 = (.iconst 3, 1) := by decide +kernel
set_option maxRecDepth 100000 in
theorem ti_77_133 : dp_tab 77 133 = (.ishr, 1) := by decide +kernel
set_option maxRecDepth 100000 in
theorem ti_77_134 : dp_tab 77 134 = (.iload 6, 2) := by decide +kernel
set_option maxRecDepth 100000 in
theorem ti_77_136 : dp_tab 77 136 = (.invokestatic 19, 3) := by decide +kernel
set_option maxRecDepth 100000 in
theorem ti_77_139 : dp_tab 77 139 = (.istore 9, 2) := by decide +kernel
set_option maxRecDepth 100000 in
theorem ti_77_141 : dp_tab 77 141 = (.aload_n 1, 1) := by decide +kernel
set_option maxRecDepth 100000 in
theorem ti_77_142 : dp_tab 77 142 = (.iload 9, 2) := by decide +kernel
set_option maxRecDepth 100000 in
theorem ti_77_144 : dp_tab 77 144 = (.iconst 5, 1) := by decide +kernel
set_option maxRecDepth 100000 in
theorem ti_77_145 : dp_tab 77 145 = (.invokevirtual 109, 3) := by decide +kernel
set_option maxRecDepth 100000 in
theorem ti_77_148 : dp_tab 77 148 = (.ifCond .ne 7, 3) := by decide +kernel
set_option maxRecDepth 100000 in
theorem ti_77_151 : dp_tab 77 151 = (.iconst (-1), 1) := by decide +kernel
set_option maxRecDepth 100000 in
theorem ti_77_152 : dp_tab 77 152 = (.goto 10, 3) := by decide +kernel
set_option maxRecDepth 100000 in
theorem ti_77_155 : dp_tab 77 155 = (.aload_n 1, 1) := by decide +kernel
set_option maxRecDepth 100000 in
theorem ti_77_156 : dp_tab 77 156 = (.iload 9, 2) := by decide +kernel
set_option maxRecDepth 100000 in
theorem ti_77_158 : dp_tab 77 158 = (.iconst 0, 1) := by decide +kernel
set_option maxRecDepth 100000 in
theorem ti_77_159 : dp_tab 77 159 = (.invokevirtual 112, 3) := by decide +kernel
set_option maxRecDepth 100000 in
theorem ti_77_162 : dp_tab 77 162 = (.istore 10, 2) := by decide +kernel
set_option maxRecDepth 100000 in
theorem ti_77_164 : dp_tab 77 164 = (.iload 10, 2) := by decide +kernel
set_option maxRecDepth 100000 in
theorem ti_77_166 : dp_tab 77 166 = (.ifCond .ge 7, 3) := by decide +kernel
set_option maxRecDepth 100000 in
theorem ti_77_169 : dp_tab 77 169 = (.iconst 0, 1) := by decide +kernel
set_option maxRecDepth 100000 in
theorem ti_77_170 : dp_tab 77 170 = (.goto 16, 3) := by decide +kernel
set_option maxRecDepth 100000 in
theorem ti_77_173 : dp_tab 77 173 = (.iconst 2, 1) := by decide +kernel
set_option maxRecDepth 100000 in
theorem ti_77_174 : dp_tab 77 174 = (.aload_n 1, 1) := by decide +kernel
set_option maxRecDepth 100000 in
theorem ti_77_175 : dp_tab 77 175 = (.iload 9, 2) := by decide +kernel
set_option maxRecDepth 100000 in
theorem ti_77_177 : dp_tab 77 177 = (.iload 10, 2) := by decide +kernel
set_option maxRecDepth 100000 in
theorem ti_77_179 : dp_tab 77 179 = (.invokevirtual 115, 3) := by decide +kernel
set_option maxRecDepth 100000 in
theorem ti_77_182 : dp_tab 77 182 = (.bipush 20, 2) := by decide +kernel
set_option maxRecDepth 100000 in
theorem ti_77_184 : dp_tab 77 184 = (.idiv, 1) := by decide +kernel
set_option maxRecDepth 100000 in
theorem ti_77_185 : dp_tab 77 185 = (.iadd, 1) := by decide +kernel
set_option maxRecDepth 100000 in
theorem ti_77_186 : dp_tab 77 186 = (.istore 11, 2) := by decide +kernel
set_option maxRecDepth 100000 in
theorem ti_77_188 : dp_tab 77 188 = (.aload_n 1, 1) := by decide +kernel
set_option maxRecDepth 100000 in
theorem ti_77_189 : dp_tab 77 189 = (.iload 9, 2) := by decide +kernel
set_option maxRecDepth 100000 in
theorem ti_77_191 : dp_tab 77 191 = (.iconst 0, 1) := by decide +kernel
set_option maxRecDepth 100000 in
theorem ti_77_192 : dp_tab 77 192 = (.invokevirtual 109, 3) := by decide +kernel
set_option maxRecDepth 100000 in
theorem ti_77_195 : dp_tab 77 195 = (.istore 12, 2) := by decide +kernel
set_option maxRecDepth 100000 in
theorem ti_77_197 : dp_tab 77 197 = (.aload_n 1, 1) := by decide +kernel
set_option maxRecDepth 100000 in
theorem ti_77_198 : dp_tab 77 198 = (.iload 9, 2) := by decide +kernel
set_option maxRecDepth 100000 in
theorem ti_77_200 : dp_tab 77 200 = (.iconst 4, 1) := by decide +kernel
set_option maxRecDepth 100000 in
theorem ti_77_201 : dp_tab 77 201 = (.invokevirtual 109, 3) := by decide +kernel
set_option maxRecDepth 100000 in
theorem ti_77_204 : dp_tab 77 204 = (.istore 13, 2) := by decide +kernel
set_option maxRecDepth 100000 in
theorem ti_77_206 : dp_tab 77 206 = (.aload_n 1, 1) := by decide +kernel
set_option maxRecDepth 100000 in
theorem ti_77_207 : dp_tab 77 207 = (.iload 9, 2) := by decide +kernel
set_option maxRecDepth 100000 in
theorem ti_77_209 : dp_tab 77 209 = (.iconst 5, 1) := by decide +kernel
set_option maxRecDepth 100000 in
theorem ti_77_210 : dp_tab 77 210 = (.invokevirtual 109, 3) := by decide +kernel
set_option maxRecDepth 100000 in
theorem ti_77_213 : dp_tab 77 213 = (.istore 14, 2) := by decide +kernel
set_option maxRecDepth 100000 in
theorem ti_77_215 : dp_tab 77 215 = (.iload 10, 2) := by decide +kernel
set_option maxRecDepth 100000 in
theorem ti_77_217 : dp_tab 77 217 = (.ifCond .lt 14, 3) := by decide +kernel
set_option maxRecDepth 100000 in
theorem ti_77_220 : dp_tab 77 220 = (.iload 12, 2) := by decide +kernel
set_option maxRecDepth 100000 in
theorem ti_77_222 : dp_tab 77 222 = (.iload 11, 2) := by decide +kernel
set_option maxRecDepth 100000 in
theorem ti_77_224 : dp_tab 77 224 = (.if_icmp .lt 7, 3) := by decide +kernel
set_option maxRecDepth 100000 in
theorem ti_77_227 : dp_tab 77 227 = (.iconst 1, 1) := by decide +kernel
set_option maxRecDepth 100000 in
theorem ti_77_228 : dp_tab 77 228 = (.goto 4, 3) := by decide +kernel
set_option maxRecDepth 100000 in
theorem ti_77_231 : dp_tab 77 231 = (.iconst 0, 1) := by decide +kernel
set_option maxRecDepth 100000 in
theorem ti_77_232 : dp_tab 77 232 = (.istore 15, 2) := by decide +kernel
set_option maxRecDepth 100000 in
theorem ti_77_234 : dp_tab 77 234 = (.aload_n 1, 1) := by decide +kernel
set_option maxRecDepth 100000 in
theorem ti_77_235 : dp_tab 77 235 = (.iload 9, 2) := by decide +kernel
set_option maxRecDepth 100000 in
theorem ti_77_237 : dp_tab 77 237 = (.invokevirtual 83, 3) := by decide +kernel
set_option maxRecDepth 100000 in
theorem ti_77_240 : dp_tab 77 240 = (.iload 15, 2) := by decide +kernel
set_option maxRecDepth 100000 in
theorem ti_77_242 : dp_tab 77 242 = (.ifCond .eq 8, 3) := by decide +kernel
set_option maxRecDepth 100000 in
theorem ti_77_245 : dp_tab 77 245 = (.iload 10, 2) := by decide +kernel
set_option maxRecDepth 100000 in
theorem ti_77_247 : dp_tab 77 247 = (.goto 4, 3) := by decide +kernel
set_option maxRecDepth 100000 in
theorem ti_77_250 : dp_tab 77 250 = (.iconst (-1), 1) := by decide +kernel
set_option maxRecDepth 100000 in
theorem ti_77_251 : dp_tab 77 251 = (.if_icmp .ne 28, 3) := by decide +kernel
set_option maxRecDepth 100000 in
theorem ti_77_254 : dp_tab 77 254 = (.aload_n 2, 1) := by decide +kernel
set_option maxRecDepth 100000 in
theorem ti_77_255 : dp_tab 77 255 = (.aload_n 2, 1) := by decide +kernel
set_option maxRecDepth 100000 in
theorem ti_77_256 : dp_tab 77 256 = (.getfield 15, 3) := by decide +kernel
set_option maxRecDepth 100000 in
theorem ti_77_259 : dp_tab 77 259 = (.iload 9, 2) := by decide +kernel
set_option maxRecDepth 100000 in
theorem ti_77_261 : dp_tab 77 261 = (.aaload, 1) := by decide +kernel
set_option maxRecDepth 100000 in
theorem ti_77_262 : dp_tab 77 262 = (.invokevirtual 86, 3) := by decide +kernel
set_option maxRecDepth 100000 in
theorem ti_77_265 : dp_tab 77 265 = (.iload 15, 2) := by decide +kernel
set_option maxRecDepth 100000 in
theorem ti_77_267 : dp_tab 77 267 = (.ifCond .eq 8, 3) := by decide +kernel
set_option maxRecDepth 100000 in
theorem ti_77_270 : dp_tab 77 270 = (.iload 10, 2) := by decide +kernel
set_option maxRecDepth 100000 in
theorem ti_77_272 : dp_tab 77 272 = (.goto 4, 3) := by decide +kernel
set_option maxRecDepth 100000 in
theorem ti_77_275 : dp_tab 77 275 = (.iconst (-1), 1) := by decide +kernel
set_option maxRecDepth 100000 in
theorem ti_77_276 : dp_tab 77 276 = (.if_icmp .eq 5, 3) := by decide +kernel
set_option maxRecDepth 100000 in
theorem ti_77_279 : dp_tab 77 279 = (.iconst 0, 1) := by decide +kernel
set_option maxRecDepth 100000 in
theorem ti_77_280 : dp_tab 77 280 = (.ireturn, 1) := by decide +kernel
set_option maxRecDepth 100000 in
theorem ti_77_281 : dp_tab 77 281 = (.iload 15, 2) := by decide +kernel
set_option maxRecDepth 100000 in
theorem ti_77_283 : dp_tab 77 283 = (.ifCond .eq 8, 3) := by decide +kernel
set_option maxRecDepth 100000 in
theorem ti_77_286 : dp_tab 77 286 = (.iload 11, 2) := by decide +kernel
set_option maxRecDepth 100000 in
theorem ti_77_288 : dp_tab 77 288 = (.goto 4, 3) := by decide +kernel
set_option maxRecDepth 100000 in
theorem ti_77_291 : dp_tab 77 291 = (.iconst 0, 1) := by decide +kernel
set_option maxRecDepth 100000 in
theorem ti_77_292 : dp_tab 77 292 = (.istore 16, 2) := by decide +kernel
set_option maxRecDepth 100000 in
theorem ti_77_294 : dp_tab 77 294 = (.aload_n 1, 1) := by decide +kernel
set_option maxRecDepth 100000 in
theorem ti_77_295 : dp_tab 77 295 = (.iload 9, 2) := by decide +kernel
set_option maxRecDepth 100000 in
theorem ti_77_297 : dp_tab 77 297 = (.iconst 0, 1) := by decide +kernel
set_option maxRecDepth 100000 in
theorem ti_77_298 : dp_tab 77 298 = (.invokevirtual 109, 3) := by decide +kernel
set_option maxRecDepth 100000 in
theorem ti_77_301 : dp_tab 77 301 = (.iload 12, 2) := by decide +kernel
set_option maxRecDepth 100000 in
theorem ti_77_303 : dp_tab 77 303 = (.iload 16, 2) := by decide +kernel
set_option maxRecDepth 100000 in
theorem ti_77_305 : dp_tab 77 305 = (.isub, 1) := by decide +kernel
set_option maxRecDepth 100000 in
theorem ti_77_306 : dp_tab 77 306 = (.if_icmp .ne 76, 3) := by decide +kernel
set_option maxRecDepth 100000 in
theorem ti_77_309 : dp_tab 77 309 = (.aload_n 1, 1) := by decide +kernel
set_option maxRecDepth 100000 in
theorem ti_77_310 : dp_tab 77 310 = (.iload 9, 2) := by decide +kernel
set_option maxRecDepth 100000 in
theorem ti_77_312 : dp_tab 77 312 = (.iconst 4, 1) := by decide +kernel
set_option maxRecDepth 100000 in
theorem ti_77_313 : dp_tab 77 313 = (.invokevirtual 109, 3) := by decide +kernel
set_option maxRecDepth 100000 in
theorem ti_77_316 : dp_tab 77 316 = (.iload 13, 2) := by decide +kernel
set_option maxRecDepth 100000 in
theorem ti_77_318 : dp_tab 77 318 = (.iload 16, 2) := by decide +kernel
set_option maxRecDepth 100000 in
theorem ti_77_320 : dp_tab 77 320 = (.iadd, 1) := by decide +kernel
set_option maxRecDepth 100000 in
theorem ti_77_321 : dp_tab 77 321 = (.if_icmp .ne 61, 3) := by decide +kernel
set_option maxRecDepth 100000 in
theorem ti_77_324 : dp_tab 77 324 = (.aload_n 1, 1) := by decide +kernel
set_option maxRecDepth 100000 in
theorem ti_77_325 : dp_tab 77 325 = (.iload 9, 2) := by decide +kernel
set_option maxRecDepth 100000 in
theorem ti_77_327 : dp_tab 77 327 = (.iconst 5, 1) := by decide +kernel
set_option maxRecDepth 100000 in
theorem ti_77_328 : dp_tab 77 328 = (.invokevirtual 109, 3) := by decide +kernel
set_option maxRecDepth 100000 in
theorem ti_77_331 : dp_tab 77 331 = (.iload 14, 2) := by decide +kernel
set_option maxRecDepth 100000 in
theorem ti_77_333 : dp_tab 77 333 = (.iload 15, 2) := by decide +kernel
set_option maxRecDepth 100000 in
theorem ti_77_335 : dp_tab 77 335 = (.ifCond .eq 7, 3) := by decide +kernel
set_option maxRecDepth 100000 in
theorem ti_77_338 : dp_tab 77 338 = (.iconst 1, 1) := by decide +kernel
set_option maxRecDepth 100000 in
theorem ti_77_339 : dp_tab 77 339 = (.goto 4, 3) := by decide +kernel
set_option maxRecDepth 100000 in
theorem ti_77_342 : dp_tab 77 342 = (.iconst 0, 1) := by decide +kernel
set_option maxRecDepth 100000 in
theorem ti_77_343 : dp_tab 77 343 = (.isub, 1) := by decide +kernel
set_option maxRecDepth 100000 in
theorem ti_77_344 : dp_tab 77 344 = (.if_icmp .ne 38, 3) := by decide +kernel
set_option maxRecDepth 100000 in
theorem ti_77_347 : dp_tab 77 347 = (.aload_n 1, 1) := by decide +kernel
set_option maxRecDepth 100000 in
theorem ti_77_348 : dp_tab 77 348 = (.iconst 5, 1) := by decide +kernel
set_option maxRecDepth 100000 in
theorem ti_77_349 : dp_tab 77 349 = (.invokevirtual 106, 3) := by decide +kernel
set_option maxRecDepth 100000 in
theorem ti_77_352 : dp_tab 77 352 = (.iload 7, 2) := by decide +kernel
set_option maxRecDepth 100000 in
theorem ti_77_354 : dp_tab 77 354 = (.iload 15, 2) := by decide +kernel
set_option maxRecDepth 100000 in
theorem ti_77_356 : dp_tab 77 356 = (.ifCond .eq 7, 3) := by decide +kernel
set_option maxRecDepth 100000 in
theorem ti_77_359 : dp_tab 77 359 = (.iconst 1, 1) := by decide +kernel
set_option maxRecDepth 100000 in
theorem ti_77_360 : dp_tab 77 360 = (.goto 4, 3) := by decide +kernel
set_option maxRecDepth 100000 in
theorem ti_77_363 : dp_tab 77 363 = (.iconst 0, 1) := by decide +kernel
set_option maxRecDepth 100000 in
theorem ti_77_364 : dp_tab 77 364 = (.iadd, 1) := by decide +kernel
set_option maxRecDepth 100000 in
theorem ti_77_365 : dp_tab 77 365 = (.if_icmp .ne 17, 3) := by decide +kernel
set_option maxRecDepth 100000 in
theorem ti_77_368 : dp_tab 77 368 = (.aload_n 1, 1) := by decide +kernel
set_option maxRecDepth 100000 in
theorem ti_77_369 : dp_tab 77 369 = (.bipush 6, 2) := by decide +kernel
set_option maxRecDepth 100000 in
theorem ti_77_371 : dp_tab 77 371 = (.invokevirtual 106, 3) := by decide +kernel
set_option maxRecDepth 100000 in
theorem ti_77_374 : dp_tab 77 374 = (.iload 8, 2) := by decide +kernel
set_option maxRecDepth 100000 in
theorem ti_77_376 : dp_tab 77 376 = (.iload 16, 2) := by decide +kernel
set_option maxRecDepth 100000 in
theorem ti_77_378 : dp_tab 77 378 = (.iadd, 1) := by decide +kernel
set_option maxRecDepth 100000 in
theorem ti_77_379 : dp_tab 77 379 = (.if_icmp .eq 5, 3) := by decide +kernel
set_option maxRecDepth 100000 in
theorem ti_77_382 : dp_tab 77 382 = (.iconst 0, 1) := by decide +kernel
set_option maxRecDepth 100000 in
theorem ti_77_383 : dp_tab 77 383 = (.ireturn, 1) := by decide +kernel
set_option maxRecDepth 100000 in
theorem ti_77_384 : dp_tab 77 384 = (.iload 15, 2) := by decide +kernel
set_option maxRecDepth 100000 in
theorem ti_77_386 : dp_tab 77 386 = (.ifCond .eq 39, 3) := by decide +kernel
set_option maxRecDepth 100000 in
theorem ti_77_389 : dp_tab 77 389 = (.iconst 0, 1) := by decide +kernel
set_option maxRecDepth 100000 in
theorem ti_77_390 : dp_tab 77 390 = (.istore 17, 2) := by decide +kernel
set_option maxRecDepth 100000 in
theorem ti_77_392 : dp_tab 77 392 = (.iload 17, 2) := by decide +kernel
set_option maxRecDepth 100000 in
theorem ti_77_394 : dp_tab 77 394 = (.aload_n 1, 1) := by decide +kernel
set_option maxRecDepth 100000 in
theorem ti_77_395 : dp_tab 77 395 = (.iload 9, 2) := by decide +kernel
set_option maxRecDepth 100000 in
theorem ti_77_397 : dp_tab 77 397 = (.iconst 5, 1) := by decide +kernel
set_option maxRecDepth 100000 in
theorem ti_77_398 : dp_tab 77 398 = (.invokevirtual 109, 3) := by decide +kernel
set_option maxRecDepth 100000 in
theorem ti_77_401 : dp_tab 77 401 = (.if_icmp .ge 24, 3) := by decide +kernel
set_option maxRecDepth 100000 in
theorem ti_77_404 : dp_tab 77 404 = (.aload_n 1, 1) := by decide +kernel
set_option maxRecDepth 100000 in
theorem ti_77_405 : dp_tab 77 405 = (.iload 9, 2) := by decide +kernel
set_option maxRecDepth 100000 in
theorem ti_77_407 : dp_tab 77 407 = (.iload 17, 2) := by decide +kernel
set_option maxRecDepth 100000 in
theorem ti_77_409 : dp_tab 77 409 = (.invokevirtual 112, 3) := by decide +kernel
set_option maxRecDepth 100000 in
theorem ti_77_412 : dp_tab 77 412 = (.iload 10, 2) := by decide +kernel
set_option maxRecDepth 100000 in
theorem ti_77_414 : dp_tab 77 414 = (.if_icmp .ne 5, 3) := by decide +kernel
set_option maxRecDepth 100000 in
theorem ti_77_417 : dp_tab 77 417 = (.iconst 0, 1) := by decide +kernel
set_option maxRecDepth 100000 in
theorem ti_77_418 : dp_tab 77 418 = (.ireturn, 1) := by decide +kernel
set_option maxRecDepth 100000 in
theorem ti_77_419 : dp_tab 77 419 = (.iinc 17 1, 3) := by decide +kernel
set_option maxRecDepth 100000 in
theorem ti_77_422 : dp_tab 77 422 = (.goto (-30), 3) := by decide +kernel
set_option maxRecDepth 100000 in
theorem ti_77_425 : dp_tab 77 425 = (.goto 341, 3) := by decide +kernel
set_option maxRecDepth 100000 in
theorem ti_77_428 : dp_tab 77 428 = (.iload 6, 2) := by decide +kernel
set_option maxRecDepth 100000 in
theorem ti_77_430 : dp_tab 77 430 = (.newarray .int, 2) := by decide +kernel
set_option maxRecDepth 100000 in
theorem ti_77_432 : dp_tab 77 432 = (.astore 9, 2) := by decide +kernel
set_option maxRecDepth 100000 in
theorem ti_77_434 : dp_tab 77 434 = (.iload 6, 2) := by decide +kernel
set_option maxRecDepth 100000 in
theorem ti_77_436 : dp_tab 77 436 = (.newarray .int, 2) := by decide +kernel
set_option maxRecDepth 100000 in
theorem ti_77_438 : dp_tab 77 438 = (.astore 10, 2) := by decide +kernel
set_option maxRecDepth 100000 in
theorem ti_77_440 : dp_tab 77 440 = (.iload 5, 2) := by decide +kernel
set_option maxRecDepth 100000 in
theorem ti_77_442 : dp_tab 77 442 = (.newarray .int, 2) := by decide +kernel
set_option maxRecDepth 100000 in
theorem ti_77_444 : dp_tab 77 444 = (.astore 11, 2) := by decide +kernel
set_option maxRecDepth 100000 in
theorem ti_77_446 : dp_tab 77 446 = (.iconst 0, 1) := by decide +kernel
set_option maxRecDepth 100000 in
theorem ti_77_447 : dp_tab 77 447 = (.istore 12, 2) := by decide +kernel
set_option maxRecDepth 100000 in
theorem ti_77_449 : dp_tab 77 449 = (.iload 12, 2) := by decide +kernel
set_option maxRecDepth 100000 in
theorem ti_77_451 : dp_tab 77 451 = (.iload 6, 2) := by decide +kernel
set_option maxRecDepth 100000 in
theorem ti_77_453 : dp_tab 77 453 = (.if_icmp .ge 33, 3) := by decide +kernel
set_option maxRecDepth 100000 in
theorem ti_77_456 : dp_tab 77 456 = (.aload 9, 2) := by decide +kernel
set_option maxRecDepth 100000 in
theorem ti_77_458 : dp_tab 77 458 = (.iload 12, 2) := by decide +kernel
set_option maxRecDepth 100000 in
theorem ti_77_460 : dp_tab 77 460 = (.aload_n 1, 1) := by decide +kernel
set_option maxRecDepth 100000 in
theorem ti_77_461 : dp_tab 77 461 = (.iload 12, 2) := by decide +kernel
set_option maxRecDepth 100000 in
theorem ti_77_463 : dp_tab 77 463 = (.iconst 0, 1) := by decide +kernel
set_option maxRecDepth 100000 in
theorem ti_77_464 : dp_tab 77 464 = (.invokevirtual 109, 3) := by decide +kernel
set_option maxRecDepth 100000 in
theorem ti_77_467 : dp_tab 77 467 = (.iastore, 1) := by decide +kernel
set_option maxRecDepth 100000 in
theorem ti_77_468 : dp_tab 77 468 = (.aload 10, 2) := by decide +kernel
set_option maxRecDepth 100000 in
theorem ti_77_470 : dp_tab 77 470 = (.iload 12, 2) := by decide +kernel
set_option maxRecDepth 100000 in
theorem ti_77_472 : dp_tab 77 472 = (.aload_n 1, 1) := by decide +kernel
set_option maxRecDepth 100000 in
theorem ti_77_473 : dp_tab 77 473 = (.iload 12, 2) := by decide +kernel
set_option maxRecDepth 100000 in
theorem ti_77_475 : dp_tab 77 475 = (.iconst 3, 1) := by decide +kernel
set_option maxRecDepth 100000 in
theorem ti_77_476 : dp_tab 77 476 = (.invokevirtual 109, 3) := by decide +kernel
set_option maxRecDepth 100000 in
theorem ti_77_479 : dp_tab 77 479 = (.iastore, 1) := by decide +kernel
set_option maxRecDepth 100000 in
theorem ti_77_480 : dp_tab 77 480 = (.iinc 12 1, 3) := by decide +kernel
set_option maxRecDepth 100000 in
theorem ti_77_483 : dp_tab 77 483 = (.goto (-34), 3) := by decide +kernel
set_option maxRecDepth 100000 in
theorem ti_77_486 : dp_tab 77 486 = (.iconst 0, 1) := by decide +kernel
set_option maxRecDepth 100000 in
theorem ti_77_487 : dp_tab 77 487 = (.istore 12, 2) := by decide +kernel
set_option maxRecDepth 100000 in
theorem ti_77_489 : dp_tab 77 489 = (.iload 12, 2) := by decide +kernel
set_option maxRecDepth 100000 in
theorem ti_77_491 : dp_tab 77 491 = (.iload 5, 2) := by decide +kernel
set_option maxRecDepth 100000 in
theorem ti_77_493 : dp_tab 77 493 = (.if_icmp .ge 21, 3) := by decide +kernel
set_option maxRecDepth 100000 in
theorem ti_77_496 : dp_tab 77 496 = (.aload 11, 2) := by decide +kernel
set_option maxRecDepth 100000 in
theorem ti_77_498 : dp_tab 77 498 = (.iload 12, 2) := by decide +kernel
set_option maxRecDepth 100000 in
theorem ti_77_500 : dp_tab 77 500 = (.aload_n 1, 1) := by decide +kernel
set_option maxRecDepth 100000 in
theorem ti_77_501 : dp_tab 77 501 = (.iload 12, 2) := by decide +kernel
set_option maxRecDepth 100000 in
theorem ti_77_503 : dp_tab 77 503 = (.iconst 2, 1) := by decide +kernel
set_option maxRecDepth 100000 in
theorem ti_77_504 : dp_tab 77 504 = (.invokevirtual 118, 3) := by decide +kernel
set_option maxRecDepth 100000 in
theorem ti_77_507 : dp_tab 77 507 = (.iastore, 1) := by decide +kernel
set_option maxRecDepth 100000 in
theorem ti_77_508 : dp_tab 77 508 = (.iinc 12 1, 3) := by decide +kernel
set_option maxRecDepth 100000 in
theorem ti_77_511 : dp_tab 77 511 = (.goto (-22), 3) := by decide +kernel
set_option maxRecDepth 100000 in
theorem ti_77_514 : dp_tab 77 514 = (.aload_n 1, 1) := by decide +kernel
set_option maxRecDepth 100000 in
theorem ti_77_515 : dp_tab 77 515 = (.iconst 4, 1) := by decide +kernel
set_option maxRecDepth 100000 in
theorem ti_77_516 : dp_tab 77 516 = (.invokevirtual 106, 3) := by decide +kernel
set_option maxRecDepth 100000 in
theorem ti_77_519 : dp_tab 77 519 = (.istore 12, 2) := by decide +kernel
set_option maxRecDepth 100000 in
theorem ti_77_521 : dp_tab 77 521 = (.aload_n 1, 1) := by decide +kernel
set_option maxRecDepth 100000 in
theorem ti_77_522 : dp_tab 77 522 = (.invokevirtual 121, 3) := by decide +kernel
set_option maxRecDepth 100000 in
theorem ti_77_525 : dp_tab 77 525 = (.istore 13, 2) := by decide +kernel
set_option maxRecDepth 100000 in
theorem ti_77_527 : dp_tab 77 527 = (.aload_n 1, 1) := by decide +kernel
set_option maxRecDepth 100000 in
theorem ti_77_528 : dp_tab 77 528 = (.iconst 1, 1) := by decide +kernel
set_option maxRecDepth 100000 in
theorem ti_77_529 : dp_tab 77 529 = (.invokevirtual 124, 3) := by decide +kernel
set_option maxRecDepth 100000 in
theorem ti_77_532 : dp_tab 77 532 = (.istore 14, 2) := by decide +kernel
set_option maxRecDepth 100000 in
theorem ti_77_534 : dp_tab 77 534 = (.aload_n 2, 1) := by decide +kernel
set_option maxRecDepth 100000 in
theorem ti_77_535 : dp_tab 77 535 = (.invokevirtual 127, 3) := by decide +kernel
set_option maxRecDepth 100000 in
theorem ti_77_538 : dp_tab 77 538 = (.pop, 1) := by decide +kernel
set_option maxRecDepth 100000 in
theorem ti_77_539 : dp_tab 77 539 = (.iconst 0, 1) := by decide +kernel
set_option maxRecDepth 100000 in
theorem ti_77_540 : dp_tab 77 540 = (.istore 15, 2) := by decide +kernel
set_option maxRecDepth 100000 in
theorem ti_77_542 : dp_tab 77 542 = (.iconst 0, 1) := by decide +kernel
set_option maxRecDepth 100000 in
theorem ti_77_543 : dp_tab 77 543 = (.istore 16, 2) := by decide +kernel
set_option maxRecDepth 100000 in
theorem ti_77_545 : dp_tab 77 545 = (.iconst 0, 1) := by decide +kernel
set_option maxRecDepth 100000 in
theorem ti_77_546 : dp_tab 77 546 = (.istore 17, 2) := by decide +kernel
set_option maxRecDepth 100000 in
theorem ti_77_548 : dp_tab 77 548 = (.iload 17, 2) := by decide +kernel
set_option maxRecDepth 100000 in
theorem ti_77_550 : dp_tab 77 550 = (.iload 6, 2) := by decide +kernel
set_option maxRecDepth 100000 in
theorem ti_77_552 : dp_tab 77 552 = (.if_icmp .ge 113, 3) := by decide +kernel
set_option maxRecDepth 100000 in
theorem ti_77_555 : dp_tab 77 555 = (.iload 15, 2) := by decide +kernel
set_option maxRecDepth 100000 in
theorem ti_77_557 : dp_tab 77 557 = (.aload 9, 2) := by decide +kernel
set_option maxRecDepth 100000 in
theorem ti_77_559 : dp_tab 77 559 = (.iload 17, 2) := by decide +kernel
set_option maxRecDepth 100000 in
theorem ti_77_561 : dp_tab 77 561 = (.iaload, 1) := by decide +kernel
set_option maxRecDepth 100000 in
theorem ti_77_562 : dp_tab 77 562 = (.aload_n 1, 1) := by decide +kernel
set_option maxRecDepth 100000 in
theorem ti_77_563 : dp_tab 77 563 = (.iload 17, 2) := by decide +kernel
set_option maxRecDepth 100000 in
theorem ti_77_565 : dp_tab 77 565 = (.iconst 0, 1) := by decide +kernel
set_option maxRecDepth 100000 in
theorem ti_77_566 : dp_tab 77 566 = (.invokevirtual 109, 3) := by decide +kernel
set_option maxRecDepth 100000 in
theorem ti_77_569 : dp_tab 77 569 = (.isub, 1) := by decide +kernel
set_option maxRecDepth 100000 in
theorem ti_77_570 : dp_tab 77 570 = (.iadd, 1) := by decide +kernel
set_option maxRecDepth 100000 in
theorem ti_77_571 : dp_tab 77 571 = (.istore 15, 2) := by decide +kernel
set_option maxRecDepth 100000 in
theorem ti_77_573 : dp_tab 77 573 = (.iload 16, 2) := by decide +kernel
set_option maxRecDepth 100000 in
theorem ti_77_575 : dp_tab 77 575 = (.aload_n 1, 1) := by decide +kernel
set_option maxRecDepth 100000 in
theorem ti_77_576 : dp_tab 77 576 = (.iload 17, 2) := by decide +kernel
set_option maxRecDepth 100000 in
theorem ti_77_578 : dp_tab 77 578 = (.iconst 3, 1) := by decide +kernel
set_option maxRecDepth 100000 in
theorem ti_77_579 : dp_tab 77 579 = (.invokevirtual 109, 3) := by decide +kernel
set_option maxRecDepth 100000 in
theorem ti_77_582 : dp_tab 77 582 = (.aload 10, 2) := by decide +kernel
set_option maxRecDepth 100000 in
theorem ti_77_584 : dp_tab 77 584 = (.iload 17, 2) := by decide +kernel
set_option maxRecDepth 100000 in
theorem ti_77_586 : dp_tab 77 586 = (.iaload, 1) := by decide +kernel
set_option maxRecDepth 100000 in
theorem ti_77_587 : dp_tab 77 587 = (.isub, 1) := by decide +kernel
set_option maxRecDepth 100000 in
theorem ti_77_588 : dp_tab 77 588 = (.iadd, 1) := by decide +kernel
set_option maxRecDepth 100000 in
theorem ti_77_589 : dp_tab 77 589 = (.istore 16, 2) := by decide +kernel
set_option maxRecDepth 100000 in
theorem ti_77_591 : dp_tab 77 591 = (.aload_n 1, 1) := by decide +kernel
set_option maxRecDepth 100000 in
theorem ti_77_592 : dp_tab 77 592 = (.iload 17, 2) := by decide +kernel
set_option maxRecDepth 100000 in
theorem ti_77_594 : dp_tab 77 594 = (.iconst 3, 1) := by decide +kernel
set_option maxRecDepth 100000 in
theorem ti_77_595 : dp_tab 77 595 = (.invokevirtual 109, 3) := by decide +kernel
set_option maxRecDepth 100000 in
theorem ti_77_598 : dp_tab 77 598 = (.aload 10, 2) := by decide +kernel
set_option maxRecDepth 100000 in
theorem ti_77_600 : dp_tab 77 600 = (.iload 17, 2) := by decide +kernel
set_option maxRecDepth 100000 in
theorem ti_77_602 : dp_tab 77 602 = (.iaload, 1) := by decide +kernel
set_option maxRecDepth 100000 in
theorem ti_77_603 : dp_tab 77 603 = (.isub, 1) := by decide +kernel
set_option maxRecDepth 100000 in
theorem ti_77_604 : dp_tab 77 604 = (.istore 18, 2) := by decide +kernel
set_option maxRecDepth 100000 in
theorem ti_77_606 : dp_tab 77 606 = (.iload 18, 2) := by decide +kernel
set_option maxRecDepth 100000 in
theorem ti_77_608 : dp_tab 77 608 = (.ifCond .lt 49, 3) := by decide +kernel
set_option maxRecDepth 100000 in
theorem ti_77_611 : dp_tab 77 611 = (.iload 18, 2) := by decide +kernel
set_option maxRecDepth 100000 in
theorem ti_77_613 : dp_tab 77 613 = (.iconst 2, 1) := by decide +kernel
set_option maxRecDepth 100000 in
theorem ti_77_614 : dp_tab 77 614 = (.if_icmp .gt 43, 3) := by decide +kernel
set_option maxRecDepth 100000 in
theorem ti_77_617 : dp_tab 77 617 = (.aload 9, 2) := by decide +kernel
set_option maxRecDepth 100000 in
theorem ti_77_619 : dp_tab 77 619 = (.iload 17, 2) := by decide +kernel
set_option maxRecDepth 100000 in
theorem ti_77_621 : dp_tab 77 621 = (.iaload, 1) := by decide +kernel
set_option maxRecDepth 100000 in
theorem ti_77_622 : dp_tab 77 622 = (.aload_n 1, 1) := by decide +kernel
set_option maxRecDepth 100000 in
theorem ti_77_623 : dp_tab 77 623 = (.iload 17, 2) := by decide +kernel
set_option maxRecDepth 100000 in
theorem ti_77_625 : dp_tab 77 625 = (.iconst 0, 1) := by decide +kernel
set_option maxRecDepth 100000 in
theorem ti_77_626 : dp_tab 77 626 = (.invokevirtual 109, 3) := by decide +kernel
set_option maxRecDepth 100000 in
theorem ti_77_629 : dp_tab 77 629 = (.isub, 1) := by decide +kernel
set_option maxRecDepth 100000 in
theorem ti_77_630 : dp_tab 77 630 = (.iconst 2, 1) := by decide +kernel
set_option maxRecDepth 100000 in
theorem ti_77_631 : dp_tab 77 631 = (.iload 18, 2) := by decide +kernel
set_option maxRecDepth 100000 in
theorem ti_77_633 : dp_tab 77 633 = (.imul, 1) := by decide +kernel
set_option maxRecDepth 100000 in
theorem ti_77_634 : dp_tab 77 634 = (.if_icmp .lt 23, 3) := by decide +kernel
set_option maxRecDepth 100000 in
theorem ti_77_637 : dp_tab 77 637 = (.iload 18, 2) := by decide +kernel
set_option maxRecDepth 100000 in
theorem ti_77_639 : dp_tab 77 639 = (.ifCond .ne 20, 3) := by decide +kernel
set_option maxRecDepth 100000 in
theorem ti_77_642 : dp_tab 77 642 = (.aload 9, 2) := by decide +kernel
set_option maxRecDepth 100000 in
theorem ti_77_644 : dp_tab 77 644 = (.iload 17, 2) := by decide +kernel
set_option maxRecDepth 100000 in
theorem ti_77_646 : dp_tab 77 646 = (.iaload, 1) := by decide +kernel
set_option maxRecDepth 100000 in
theorem ti_77_647 : dp_tab 77 647 = (.aload_n 1, 1) := by decide +kernel
set_option maxRecDepth 100000 in
theorem ti_77_648 : dp_tab 77 648 = (.iload 17, 2) := by decide +kernel
set_option maxRecDepth 100000 in
theorem ti_77_650 : dp_tab 77 650 = (.iconst 0, 1) := by decide +kernel
set_option maxRecDepth 100000 in
theorem ti_77_651 : dp_tab 77 651 = (.invokevirtual 109, 3) := by decide +kernel
set_option maxRecDepth 100000 in
theorem ti_77_654 : dp_tab 77 654 = (.if_icmp .eq 5, 3) := by decide +kernel
set_option maxRecDepth 100000 in
theorem ti_77_657 : dp_tab 77 657 = (.iconst 0, 1) := by decide +kernel
set_option maxRecDepth 100000 in
theorem ti_77_658 : dp_tab 77 658 = (.ireturn, 1) := by decide +kernel
set_option maxRecDepth 100000 in
theorem ti_77_659 : dp_tab 77 659 = (.iinc 17 1, 3) := by decide +kernel
set_option maxRecDepth 100000 in
theorem ti_77_662 : dp_tab 77 662 = (.goto (-114), 3) := by decide +kernel
set_option maxRecDepth 100000 in
theorem ti_77_665 : dp_tab 77 665 = (.iload 14, 2) := by decide +kernel
set_option maxRecDepth 100000 in
theorem ti_77_667 : dp_tab 77 667 = (.iload 16, 2) := by decide +kernel
set_option maxRecDepth 100000 in
theorem ti_77_669 : dp_tab 77 669 = (.if_icmp .ne 42, 3) := by decide +kernel
set_option maxRecDepth 100000 in
theorem ti_77_672 : dp_tab 77 672 = (.aload_n 1, 1) := by decide +kernel
set_option maxRecDepth 100000 in
theorem ti_77_673 : dp_tab 77 673 = (.iconst 5, 1) := by decide +kernel
set_option maxRecDepth 100000 in
theorem ti_77_674 : dp_tab 77 674 = (.invokevirtual 106, 3) := by decide +kernel
set_option maxRecDepth 100000 in
theorem ti_77_677 : dp_tab 77 677 = (.iload 7, 2) := by decide +kernel
set_option maxRecDepth 100000 in
theorem ti_77_679 : dp_tab 77 679 = (.iload 14, 2) := by decide +kernel
set_option maxRecDepth 100000 in
theorem ti_77_681 : dp_tab 77 681 = (.iadd, 1) := by decide +kernel
set_option maxRecDepth 100000 in
theorem ti_77_682 : dp_tab 77 682 = (.if_icmp .ne 29, 3) := by decide +kernel
set_option maxRecDepth 100000 in
theorem ti_77_685 : dp_tab 77 685 = (.aload_n 1, 1) := by decide +kernel
set_option maxRecDepth 100000 in
theorem ti_77_686 : dp_tab 77 686 = (.bipush 6, 2) := by decide +kernel
set_option maxRecDepth 100000 in
theorem ti_77_688 : dp_tab 77 688 = (.invokevirtual 106, 3) := by decide +kernel
set_option maxRecDepth 100000 in
theorem ti_77_691 : dp_tab 77 691 = (.iload 8, 2) := by decide +kernel
set_option maxRecDepth 100000 in
theorem ti_77_693 : dp_tab 77 693 = (.iload 15, 2) := by decide +kernel
set_option maxRecDepth 100000 in
theorem ti_77_695 : dp_tab 77 695 = (.iadd, 1) := by decide +kernel
set_option maxRecDepth 100000 in
theorem ti_77_696 : dp_tab 77 696 = (.if_icmp .ne 15, 3) := by decide +kernel
set_option maxRecDepth 100000 in
theorem ti_77_699 : dp_tab 77 699 = (.aload_n 1, 1) := by decide +kernel
set_option maxRecDepth 100000 in
theorem ti_77_700 : dp_tab 77 700 = (.iconst 4, 1) := by decide +kernel
set_option maxRecDepth 100000 in
theorem ti_77_701 : dp_tab 77 701 = (.invokevirtual 106, 3) := by decide +kernel
set_option maxRecDepth 100000 in
theorem ti_77_704 : dp_tab 77 704 = (.iload 12, 2) := by decide +kernel
set_option maxRecDepth 100000 in
theorem ti_77_706 : dp_tab 77 706 = (.iconst 1, 1) := by decide +kernel
set_option maxRecDepth 100000 in
theorem ti_77_707 : dp_tab 77 707 = (.iadd, 1) := by decide +kernel
set_option maxRecDepth 100000 in
theorem ti_77_708 : dp_tab 77 708 = (.if_icmp .eq 5, 3) := by decide +kernel
set_option maxRecDepth 100000 in
theorem ti_77_711 : dp_tab 77 711 = (.iconst 0, 1) := by decide +kernel
set_option maxRecDepth 100000 in
theorem ti_77_712 : dp_tab 77 712 = (.ireturn, 1) := by decide +kernel
set_option maxRecDepth 100000 in
theorem ti_77_713 : dp_tab 77 713 = (.iconst 0, 1) := by decide +kernel
set_option maxRecDepth 100000 in
theorem ti_77_714 : dp_tab 77 714 = (.istore 17, 2) := by decide +kernel
set_option maxRecDepth 100000 in
theorem ti_77_716 : dp_tab 77 716 = (.iload 17, 2) := by decide +kernel
set_option maxRecDepth 100000 in
theorem ti_77_718 : dp_tab 77 718 = (.iload 5, 2) := by decide +kernel
set_option maxRecDepth 100000 in
theorem ti_77_720 : dp_tab 77 720 = (.if_icmp .ge 28, 3) := by decide +kernel
set_option maxRecDepth 100000 in
theorem ti_77_723 : dp_tab 77 723 = (.aload_n 1, 1) := by decide +kernel
set_option maxRecDepth 100000 in
theorem ti_77_724 : dp_tab 77 724 = (.iload 17, 2) := by decide +kernel
set_option maxRecDepth 100000 in
theorem ti_77_726 : dp_tab 77 726 = (.iconst 2, 1) := by decide +kernel
set_option maxRecDepth 100000 in
theorem ti_77_727 : dp_tab 77 727 = (.invokevirtual 118, 3) := by decide +kernel
set_option maxRecDepth 100000 in
theorem ti_77_730 : dp_tab 77 730 = (.aload 11, 2) := by decide +kernel
set_option maxRecDepth 100000 in
theorem ti_77_732 : dp_tab 77 732 = (.iload 17, 2) := by decide +kernel
set_option maxRecDepth 100000 in
theorem ti_77_734 : dp_tab 77 734 = (.iaload, 1) := by decide +kernel
set_option maxRecDepth 100000 in
theorem ti_77_735 : dp_tab 77 735 = (.iconst 1, 1) := by decide +kernel
set_option maxRecDepth 100000 in
theorem ti_77_736 : dp_tab 77 736 = (.iadd, 1) := by decide +kernel
set_option maxRecDepth 100000 in
theorem ti_77_737 : dp_tab 77 737 = (.if_icmp .eq 5, 3) := by decide +kernel
set_option maxRecDepth 100000 in
theorem ti_77_740 : dp_tab 77 740 = (.iconst 0, 1) := by decide +kernel
set_option maxRecDepth 100000 in
theorem ti_77_741 : dp_tab 77 741 = (.ireturn, 1) := by decide +kernel
set_option maxRecDepth 100000 in
theorem ti_77_742 : dp_tab 77 742 = (.iinc 17 1, 3) := by decide +kernel
set_option maxRecDepth 100000 in
theorem ti_77_745 : dp_tab 77 745 = (.goto (-29), 3) := by decide +kernel
set_option maxRecDepth 100000 in
theorem ti_77_748 : dp_tab 77 748 = (.iload 13, 2) := by decide +kernel
set_option maxRecDepth 100000 in
theorem ti_77_750 : dp_tab 77 750 = (.ifCond .le 16, 3) := by decide +kernel
set_option maxRecDepth 100000 in
theorem ti_77_753 : dp_tab 77 753 = (.aload_n 1, 1) := by decide +kernel
set_option maxRecDepth 100000 in
theorem ti_77_754 : dp_tab 77 754 = (.invokevirtual 121, 3) := by decide +kernel
set_option maxRecDepth 100000 in
theorem ti_77_757 : dp_tab 77 757 = (.iload 13, 2) := by decide +kernel
set_option maxRecDepth 100000 in
theorem ti_77_759 : dp_tab 77 759 = (.iconst 1, 1) := by decide +kernel
set_option maxRecDepth 100000 in
theorem ti_77_760 : dp_tab 77 760 = (.isub, 1) := by decide +kernel
set_option maxRecDepth 100000 in
theorem ti_77_761 : dp_tab 77 761 = (.if_icmp .eq 5, 3) := by decide +kernel
set_option maxRecDepth 100000 in
theorem ti_77_764 : dp_tab 77 764 = (.iconst 0, 1) := by decide +kernel
set_option maxRecDepth 100000 in
theorem ti_77_765 : dp_tab 77 765 = (.ireturn, 1) := by decide +kernel
set_option maxRecDepth 100000 in
theorem ti_77_766 : dp_tab 77 766 = (.iconst 0, 1) := by decide +kernel
set_option maxRecDepth 100000 in
theorem ti_77_767 : dp_tab 77 767 = (.istore 9, 2) := by decide +kernel
set_option maxRecDepth 100000 in
theorem ti_77_769 : dp_tab 77 769 = (.iconst 0, 1) := by decide +kernel
set_option maxRecDepth 100000 in
theorem ti_77_770 : dp_tab 77 770 = (.istore 10, 2) := by decide +kernel
set_option maxRecDepth 100000 in
theorem ti_77_772 : dp_tab 77 772 = (.iload 10, 2) := by decide +kernel
set_option maxRecDepth 100000 in
theorem ti_77_774 : dp_tab 77 774 = (.iload 6, 2) := by decide +kernel
set_option maxRecDepth 100000 in
theorem ti_77_776 : dp_tab 77 776 = (.if_icmp .ge 50, 3) := by decide +kernel
set_option maxRecDepth 100000 in
theorem ti_77_779 : dp_tab 77 779 = (.iload 9, 2) := by decide +kernel
set_option maxRecDepth 100000 in
theorem ti_77_781 : dp_tab 77 781 = (.aload_n 1, 1) := by decide +kernel
set_option maxRecDepth 100000 in
theorem ti_77_782 : dp_tab 77 782 = (.iload 10, 2) := by decide +kernel
set_option maxRecDepth 100000 in
theorem ti_77_784 : dp_tab 77 784 = (.iconst 4, 1) := by decide +kernel
set_option maxRecDepth 100000 in
theorem ti_77_785 : dp_tab 77 785 = (.invokevirtual 109, 3) := by decide +kernel
set_option maxRecDepth 100000 in
theorem ti_77_788 : dp_tab 77 788 = (.iadd, 1) := by decide +kernel
set_option maxRecDepth 100000 in
theorem ti_77_789 : dp_tab 77 789 = (.istore 9, 2) := by decide +kernel
set_option maxRecDepth 100000 in
theorem ti_77_791 : dp_tab 77 791 = (.iconst 0, 1) := by decide +kernel
set_option maxRecDepth 100000 in
theorem ti_77_792 : dp_tab 77 792 = (.istore 11, 2) := by decide +kernel
set_option maxRecDepth 100000 in
theorem ti_77_794 : dp_tab 77 794 = (.iload 11, 2) := by decide +kernel
set_option maxRecDepth 100000 in
theorem ti_77_796 : dp_tab 77 796 = (.iload 5, 2) := by decide +kernel
set_option maxRecDepth 100000 in
theorem ti_77_798 : dp_tab 77 798 = (.if_icmp .ge 22, 3) := by decide +kernel
set_option maxRecDepth 100000 in
theorem ti_77_801 : dp_tab 77 801 = (.aload_n 1, 1) := by decide +kernel
set_option maxRecDepth 100000 in
theorem ti_77_802 : dp_tab 77 802 = (.iload 10, 2) := by decide +kernel
set_option maxRecDepth 100000 in
theorem ti_77_804 : dp_tab 77 804 = (.iload 11, 2) := by decide +kernel
set_option maxRecDepth 100000 in
theorem ti_77_806 : dp_tab 77 806 = (.invokevirtual 115, 3) := by decide +kernel
set_option maxRecDepth 100000 in
theorem ti_77_809 : dp_tab 77 809 = (.ifCond .ge 5, 3) := by decide +kernel
set_option maxRecDepth 100000 in
theorem ti_77_812 : dp_tab 77 812 = (.iconst 0, 1) := by decide +kernel
set_option maxRecDepth 100000 in
theorem ti_77_813 : dp_tab 77 813 = (.ireturn, 1) := by decide +kernel
set_option maxRecDepth 100000 in
theorem ti_77_814 : dp_tab 77 814 = (.iinc 11 1, 3) := by decide +kernel
set_option maxRecDepth 100000 in
theorem ti_77_817 : dp_tab 77 817 = (.goto (-23), 3) := by decide +kernel
set_option maxRecDepth 100000 in
theorem ti_77_820 : dp_tab 77 820 = (.iinc 10 1, 3) := by decide +kernel
set_option maxRecDepth 100000 in
theorem ti_77_823 : dp_tab 77 823 = (.goto (-51), 3) := by decide +kernel
set_option maxRecDepth 100000 in
theorem ti_77_826 : dp_tab 77 826 = (.iload 9, 2) := by decide +kernel
set_option maxRecDepth 100000 in
theorem ti_77_828 : dp_tab 77 828 = (.aload_n 1, 1) := by decide +kernel
set_option maxRecDepth 100000 in
theorem ti_77_829 : dp_tab 77 829 = (.bipush 6, 2) := by decide +kernel
set_option maxRecDepth 100000 in
theorem ti_77_831 : dp_tab 77 831 = (.invokevirtual 106, 3) := by decide +kernel
set_option maxRecDepth 100000 in
theorem ti_77_834 : dp_tab 77 834 = (.if_icmp .eq 5, 3) := by decide +kernel
set_option maxRecDepth 100000 in
theorem ti_77_837 : dp_tab 77 837 = (.iconst 0, 1) := by decide +kernel
set_option maxRecDepth 100000 in
theorem ti_77_838 : dp_tab 77 838 = (.ireturn, 1) := by decide +kernel
set_option maxRecDepth 100000 in
theorem ti_77_839 : dp_tab 77 839 = (.iinc 3 1, 3) := by decide +kernel
set_option maxRecDepth 100000 in
theorem ti_77_842 : dp_tab 77 842 = (.goto (-820), 3) := by decide +kernel
set_option maxRecDepth 100000 in
theorem ti_77_845 : dp_tab 77 845 = (.aload_n 2, 1) := by decide +kernel
set_option maxRecDepth 100000 in
theorem ti_77_846 : dp_tab 77 846 = (.aload_n 1, 1) := by decide +kernel
set_option maxRecDepth 100000 in
theorem ti_77_847 : dp_tab 77 847 = (.invokevirtual 129, 3) := by decide +kernel
set_option maxRecDepth 100000 in
theorem ti_77_850 : dp_tab 77 850 = (.ireturn, 1) := by decide +kernel
end
section
/-! Rows that walk a method in the deep semantics: one an instruction. -/
section KR
variable {X : dp_X} {call : dp_C} {d y : Nat} {Q : dp_Q} {K : dp_K} {pc n c q : Nat} {L : dp_L} {st : List Value} {M : dp_M} {o : dp_O}
theorem k_st (hK : dp_clo X call d y Q K) {i : Jvm.ClassFile.Instr} {len : Nat} (hi : dp_tab y pc = (i, len)) (h : dp_wp X call d y Q K pc L st n c q M o i) : K pc L st n c q M o := hK.1 _ _ _ _ _ _ _ _ (by rw [hi]; exact h)
theorem k_msk (hK : dp_clo X call d y Q K) (b : List Bool) {L' : dp_L} (hL : dp_msk b L = L') (h : K pc L' st n c q M o) : K pc L st n c q M o := hK.2.1 b _ _ _ _ _ _ _ _ (by rw [hL]; exact h)
theorem k_aload (hK : dp_clo X call d y Q K) {k h len : Nat} (hi : dp_tab y pc = (.aload k, len)) (hg : dp_gt L k = some (.ref h)) (hh : K (pc + 2) L (.ref h :: st) n c q M o) : K pc L st n c q M o := k_st hK hi (by show dp_lr _ _ _; unfold dp_lr; rw [hg]; exact hh)
theorem k_aload_n (hK : dp_clo X call d y Q K) {k : Fin 4} {h len : Nat} (hi : dp_tab y pc = (.aload_n k, len)) (hg : dp_gt L (dp_f4 k) = some (.ref h)) (hh : K (pc + 1) L (.ref h :: st) n c q M o) : K pc L st n c q M o := k_st hK hi (by show dp_lr _ _ _; unfold dp_lr; rw [hg]; exact hh)
theorem k_iload (hK : dp_clo X call d y Q K) {k len : Nat} {x : Int32} (hi : dp_tab y pc = (.iload k, len)) (hg : dp_gt L k = some (.int x)) (hh : K (pc + 2) L (.int x :: st) n c q M o) : K pc L st n c q M o := k_st hK hi (by show dp_li _ _ _; unfold dp_li; rw [hg]; exact hh)
theorem k_iload_n (hK : dp_clo X call d y Q K) {k : Fin 4} {len : Nat} {x : Int32} (hi : dp_tab y pc = (.iload_n k, len)) (hg : dp_gt L (dp_f4 k) = some (.int x)) (hh : K (pc + 1) L (.int x :: st) n c q M o) : K pc L st n c q M o := k_st hK hi (by show dp_li _ _ _; unfold dp_li; rw [hg]; exact hh)
theorem k_lload (hK : dp_clo X call d y Q K) {k len : Nat} {x : Int64} (hi : dp_tab y pc = (.lload k, len)) (hg : dp_gt L k = some (.long x)) (hh : K (pc + 2) L (.long x :: st) n c q M o) : K pc L st n c q M o := k_st hK hi (by show dp_lj _ _ _; unfold dp_lj; rw [hg]; exact hh)
theorem k_lload_n (hK : dp_clo X call d y Q K) {k : Fin 4} {len : Nat} {x : Int64} (hi : dp_tab y pc = (.lload_n k, len)) (hg : dp_gt L (dp_f4 k) = some (.long x)) (hh : K (pc + 1) L (.long x :: st) n c q M o) : K pc L st n c q M o := k_st hK hi (by show dp_lj _ _ _; unfold dp_lj; rw [hg]; exact hh)
theorem k_dload (hK : dp_clo X call d y Q K) {k len : Nat} {x : UInt64} (hi : dp_tab y pc = (.dload k, len)) (hg : dp_gt L k = some (.double x)) (hh : K (pc + 2) L (.double x :: st) n c q M o) : K pc L st n c q M o := k_st hK hi (by show dp_ld _ _ _; unfold dp_ld; rw [hg]; exact hh)
theorem k_iconst (hK : dp_clo X call d y Q K) {v : Int} {len : Nat} {x : Int32} (hi : dp_tab y pc = (.iconst v, len)) (hv : dp_kI v = x) (hh : K (pc + 1) L (.int x :: st) n c q M o) : K pc L st n c q M o := k_st hK hi (by subst hv; exact hh)
theorem k_bipush (hK : dp_clo X call d y Q K) {v : Int} {len : Nat} {x : Int32} (hi : dp_tab y pc = (.bipush v, len)) (hv : dp_kB v = x) (hh : K (pc + 2) L (.int x :: st) n c q M o) : K pc L st n c q M o := k_st hK hi (by subst hv; exact hh)
theorem k_sipush (hK : dp_clo X call d y Q K) {v : Int} {len : Nat} {x : Int32} (hi : dp_tab y pc = (.sipush v, len)) (hv : dp_kS v = x) (hh : K (pc + 3) L (.int x :: st) n c q M o) : K pc L st n c q M o := k_st hK hi (by subst hv; exact hh)
theorem k_ldc_w (hK : dp_clo X call d y Q K) {i len : Nat} {x : Int32} (hi : dp_tab y pc = (.ldc_w i, len)) (hv : dp_lo dp_ci (dp_ow y) i = some x) (hh : K (pc + 3) L (.int x :: st) n c q M o) : K pc L st n c q M o := k_st hK hi (by show dp_opt _ _; rw [hv]; exact hh)
theorem k_dconst (hK : dp_clo X call d y Q K) {len : Nat} (hi : dp_tab y pc = (.dconst 0, len)) (hh : K (pc + 1) L (.double FP.dconst0 :: st) n c q M o) : K pc L st n c q M o := k_st hK hi ⟨rfl, hh⟩
theorem k_istore (hK : dp_clo X call d y Q K) {k len : Nat} {x : Int32} {L' : dp_L} (hi : dp_tab y pc = (.istore k, len)) (hL : dp_s1 L k (.int x) = L') (hh : K (pc + 2) L' st n c q M o) : K pc L (.int x :: st) n c q M o := k_st hK hi (by subst hL; exact hh)
theorem k_istore_n (hK : dp_clo X call d y Q K) {k : Fin 4} {len : Nat} {x : Int32} {L' : dp_L} (hi : dp_tab y pc = (.istore_n k, len)) (hL : dp_s1 L (dp_f4 k) (.int x) = L') (hh : K (pc + 1) L' st n c q M o) : K pc L (.int x :: st) n c q M o := k_st hK hi (by subst hL; exact hh)
theorem k_astore (hK : dp_clo X call d y Q K) {k len x : Nat} {L' : dp_L} (hi : dp_tab y pc = (.astore k, len)) (hL : dp_s1 L k (.ref x) = L') (hh : K (pc + 2) L' st n c q M o) : K pc L (.ref x :: st) n c q M o := k_st hK hi (by subst hL; exact hh)
theorem k_astore_n (hK : dp_clo X call d y Q K) {k : Fin 4} {len x : Nat} {L' : dp_L} (hi : dp_tab y pc = (.astore_n k, len)) (hL : dp_s1 L (dp_f4 k) (.ref x) = L') (hh : K (pc + 1) L' st n c q M o) : K pc L (.ref x :: st) n c q M o := k_st hK hi (by subst hL; exact hh)
theorem k_lstore (hK : dp_clo X call d y Q K) {k len : Nat} {x : Int64} {L' : dp_L} (hi : dp_tab y pc = (.lstore k, len)) (hL : dp_s2 L k (.long x) = L') (hh : K (pc + 2) L' st n c q M o) : K pc L (.long x :: st) n c q M o := k_st hK hi (by subst hL; exact hh)
theorem k_lstore_n (hK : dp_clo X call d y Q K) {k : Fin 4} {len : Nat} {x : Int64} {L' : dp_L} (hi : dp_tab y pc = (.lstore_n k, len)) (hL : dp_s2 L (dp_f4 k) (.long x) = L') (hh : K (pc + 1) L' st n c q M o) : K pc L (.long x :: st) n c q M o := k_st hK hi (by subst hL; exact hh)
theorem k_dstore (hK : dp_clo X call d y Q K) {k len : Nat} {x : UInt64} {L' : dp_L} (hi : dp_tab y pc = (.dstore k, len)) (hL : dp_s2 L k (.double x) = L') (hh : K (pc + 2) L' st n c q M o) : K pc L (.double x :: st) n c q M o := k_st hK hi (by subst hL; exact hh)
theorem k_iinc (hK : dp_clo X call d y Q K) {k len : Nat} {v : Int} {x z : Int32} {L' : dp_L} (hi : dp_tab y pc = (.iinc k v, len)) (hg : dp_gt L k = some (.int x)) (hz : x + dp_kI v = z) (hL : dp_s1 L k (.int z) = L') (hh : K (pc + 3) L' st n c q M o) : K pc L st n c q M o := k_st hK hi (by show dp_li _ _ _; unfold dp_li; rw [hg]; subst hL; subst hz; exact hh)
theorem k_iadd (hK : dp_clo X call d y Q K) {a b z : Int32} {len : Nat} (hi : dp_tab y pc = (.iadd, len)) (hz : a + b = z) (hh : K (pc + 1) L (.int z :: st) n c q M o) : K pc L (.int b :: .int a :: st) n c q M o := k_st hK hi (by subst hz; exact hh)
theorem k_isub (hK : dp_clo X call d y Q K) {a b z : Int32} {len : Nat} (hi : dp_tab y pc = (.isub, len)) (hz : a - b = z) (hh : K (pc + 1) L (.int z :: st) n c q M o) : K pc L (.int b :: .int a :: st) n c q M o := k_st hK hi (by subst hz; exact hh)
theorem k_imul (hK : dp_clo X call d y Q K) {a b z : Int32} {len : Nat} (hi : dp_tab y pc = (.imul, len)) (hz : a * b = z) (hh : K (pc + 1) L (.int z :: st) n c q M o) : K pc L (.int b :: .int a :: st) n c q M o := k_st hK hi (by subst hz; exact hh)
theorem k_idiv (hK : dp_clo X call d y Q K) {a b z : Int32} {len : Nat} (hi : dp_tab y pc = (.idiv, len)) (hb : ¬ b = 0) (hz : a / b = z) (hh : K (pc + 1) L (.int z :: st) n c q M o) : K pc L (.int b :: .int a :: st) n c q M o := k_st hK hi ⟨hb, by subst hz; exact hh⟩
theorem k_iand (hK : dp_clo X call d y Q K) {a b z : Int32} {len : Nat} (hi : dp_tab y pc = (.iand, len)) (hz : a &&& b = z) (hh : K (pc + 1) L (.int z :: st) n c q M o) : K pc L (.int b :: .int a :: st) n c q M o := k_st hK hi (by subst hz; exact hh)
theorem k_ior (hK : dp_clo X call d y Q K) {a b z : Int32} {len : Nat} (hi : dp_tab y pc = (.ior, len)) (hz : a ||| b = z) (hh : K (pc + 1) L (.int z :: st) n c q M o) : K pc L (.int b :: .int a :: st) n c q M o := k_st hK hi (by subst hz; exact hh)
theorem k_ishl (hK : dp_clo X call d y Q K) {a b z : Int32} {len : Nat} (hi : dp_tab y pc = (.ishl, len)) (hz : a <<< (b &&& 31) = z) (hh : K (pc + 1) L (.int z :: st) n c q M o) : K pc L (.int b :: .int a :: st) n c q M o := k_st hK hi (by subst hz; exact hh)
theorem k_ishr (hK : dp_clo X call d y Q K) {a b z : Int32} {len : Nat} (hi : dp_tab y pc = (.ishr, len)) (hz : a >>> (b &&& 31) = z) (hh : K (pc + 1) L (.int z :: st) n c q M o) : K pc L (.int b :: .int a :: st) n c q M o := k_st hK hi (by subst hz; exact hh)
theorem k_iushr (hK : dp_clo X call d y Q K) {a b z : Int32} {len : Nat} (hi : dp_tab y pc = (.iushr, len)) (hz : (a.toUInt32 >>> (b.toUInt32 &&& Int32.toUInt32 31)).toInt32 = z) (hh : K (pc + 1) L (.int z :: st) n c q M o) : K pc L (.int b :: .int a :: st) n c q M o := k_st hK hi (by subst hz; exact hh)
theorem k_i2l (hK : dp_clo X call d y Q K) {a : Int32} {len : Nat} (hi : dp_tab y pc = (.i2l, len)) (hh : K (pc + 1) L (.long a.toInt64 :: st) n c q M o) : K pc L (.int a :: st) n c q M o := k_st hK hi hh
theorem k_i2d (hK : dp_clo X call d y Q K) {a : Int32} {len : Nat} (hi : dp_tab y pc = (.i2d, len)) (hh : K (pc + 1) L (.double (FP.i2d a) :: st) n c q M o) : K pc L (.int a :: st) n c q M o := k_st hK hi hh
theorem k_ladd (hK : dp_clo X call d y Q K) {a b : Int64} {len : Nat} (hi : dp_tab y pc = (.ladd, len)) (hh : K (pc + 1) L (.long (a + b) :: st) n c q M o) : K pc L (.long b :: .long a :: st) n c q M o := k_st hK hi hh
theorem k_lmul (hK : dp_clo X call d y Q K) {a b : Int64} {len : Nat} (hi : dp_tab y pc = (.lmul, len)) (hh : K (pc + 1) L (.long (a * b) :: st) n c q M o) : K pc L (.long b :: .long a :: st) n c q M o := k_st hK hi hh
theorem k_lcmp (hK : dp_clo X call d y Q K) {a b : Int64} {len : Nat} (hi : dp_tab y pc = (.lcmp, len)) (hh : K (pc + 1) L (.int (lg_cmp a b) :: st) n c q M o) : K pc L (.long b :: .long a :: st) n c q M o := k_st hK hi hh
theorem k_ddiv (hK : dp_clo X call d y Q K) {a b : UInt64} {len : Nat} (hi : dp_tab y pc = (.ddiv, len)) (hn : vf_n64 (FP.ddiv a b)) (hh : K (pc + 1) L (.double (FP.ddiv a b) :: st) n c q M o) : K pc L (.double b :: .double a :: st) n c q M o := k_st hK hi ⟨hn, hh⟩
theorem k_dcmp (hK : dp_clo X call d y Q K) {a b : UInt64} {e : Jvm.ClassFile.CmpOp} {len : Nat} (hi : dp_tab y pc = (.dcmp e, len)) (hh : K (pc + 1) L (.int (Op.cmpValue (FP.dcmp a b) e) :: st) n c q M o) : K pc L (.double b :: .double a :: st) n c q M o := k_st hK hi hh
theorem k_if_eq (hK : dp_clo X call d y Q K) {x : Int32} {off : Int} {len t : Nat} (hi : dp_tab y pc = (.ifCond .eq off, len)) (ht : dp_jt pc off = t) (h1 : x = 0 → K t L st n c q M o) (h2 : ¬ x = 0 → K (pc + 3) L st n c q M o) : K pc L (.int x :: st) n c q M o := k_st hK hi (by subst ht; exact ⟨h1, h2⟩)
theorem k_if_ne (hK : dp_clo X call d y Q K) {x : Int32} {off : Int} {len t : Nat} (hi : dp_tab y pc = (.ifCond .ne off, len)) (ht : dp_jt pc off = t) (h1 : x = 0 → K (pc + 3) L st n c q M o) (h2 : ¬ x = 0 → K t L st n c q M o) : K pc L (.int x :: st) n c q M o := k_st hK hi (by subst ht; exact ⟨h1, h2⟩)
theorem k_if_lt (hK : dp_clo X call d y Q K) {x : Int32} {off : Int} {len t : Nat} (hi : dp_tab y pc = (.ifCond .lt off, len)) (ht : dp_jt pc off = t) (h1 : x < 0 → K t L st n c q M o) (h2 : ¬ x < 0 → K (pc + 3) L st n c q M o) : K pc L (.int x :: st) n c q M o := k_st hK hi (by subst ht; exact ⟨h1, h2⟩)
theorem k_if_ge (hK : dp_clo X call d y Q K) {x : Int32} {off : Int} {len t : Nat} (hi : dp_tab y pc = (.ifCond .ge off, len)) (ht : dp_jt pc off = t) (h1 : x < 0 → K (pc + 3) L st n c q M o) (h2 : ¬ x < 0 → K t L st n c q M o) : K pc L (.int x :: st) n c q M o := k_st hK hi (by subst ht; exact ⟨h1, h2⟩)
theorem k_if_gt (hK : dp_clo X call d y Q K) {x : Int32} {off : Int} {len t : Nat} (hi : dp_tab y pc = (.ifCond .gt off, len)) (ht : dp_jt pc off = t) (h1 : 0 < x → K t L st n c q M o) (h2 : ¬ 0 < x → K (pc + 3) L st n c q M o) : K pc L (.int x :: st) n c q M o := k_st hK hi (by subst ht; exact ⟨h1, h2⟩)
theorem k_if_le (hK : dp_clo X call d y Q K) {x : Int32} {off : Int} {len t : Nat} (hi : dp_tab y pc = (.ifCond .le off, len)) (ht : dp_jt pc off = t) (h1 : 0 < x → K (pc + 3) L st n c q M o) (h2 : ¬ 0 < x → K t L st n c q M o) : K pc L (.int x :: st) n c q M o := k_st hK hi (by subst ht; exact ⟨h1, h2⟩)
theorem k_icmp_eq (hK : dp_clo X call d y Q K) {a b : Int32} {off : Int} {len t : Nat} (hi : dp_tab y pc = (.if_icmp .eq off, len)) (ht : dp_jt pc off = t) (h1 : a = b → K t L st n c q M o) (h2 : ¬ a = b → K (pc + 3) L st n c q M o) : K pc L (.int b :: .int a :: st) n c q M o := k_st hK hi (by subst ht; exact ⟨h1, h2⟩)
theorem k_icmp_ne (hK : dp_clo X call d y Q K) {a b : Int32} {off : Int} {len t : Nat} (hi : dp_tab y pc = (.if_icmp .ne off, len)) (ht : dp_jt pc off = t) (h1 : a = b → K (pc + 3) L st n c q M o) (h2 : ¬ a = b → K t L st n c q M o) : K pc L (.int b :: .int a :: st) n c q M o := k_st hK hi (by subst ht; exact ⟨h1, h2⟩)
theorem k_icmp_lt (hK : dp_clo X call d y Q K) {a b : Int32} {off : Int} {len t : Nat} (hi : dp_tab y pc = (.if_icmp .lt off, len)) (ht : dp_jt pc off = t) (h1 : a < b → K t L st n c q M o) (h2 : ¬ a < b → K (pc + 3) L st n c q M o) : K pc L (.int b :: .int a :: st) n c q M o := k_st hK hi (by subst ht; exact ⟨h1, h2⟩)
theorem k_icmp_ge (hK : dp_clo X call d y Q K) {a b : Int32} {off : Int} {len t : Nat} (hi : dp_tab y pc = (.if_icmp .ge off, len)) (ht : dp_jt pc off = t) (h1 : a < b → K (pc + 3) L st n c q M o) (h2 : ¬ a < b → K t L st n c q M o) : K pc L (.int b :: .int a :: st) n c q M o := k_st hK hi (by subst ht; exact ⟨h1, h2⟩)
theorem k_icmp_gt (hK : dp_clo X call d y Q K) {a b : Int32} {off : Int} {len t : Nat} (hi : dp_tab y pc = (.if_icmp .gt off, len)) (ht : dp_jt pc off = t) (h1 : b < a → K t L st n c q M o) (h2 : ¬ b < a → K (pc + 3) L st n c q M o) : K pc L (.int b :: .int a :: st) n c q M o := k_st hK hi (by subst ht; exact ⟨h1, h2⟩)
theorem k_icmp_le (hK : dp_clo X call d y Q K) {a b : Int32} {off : Int} {len t : Nat} (hi : dp_tab y pc = (.if_icmp .le off, len)) (ht : dp_jt pc off = t) (h1 : b < a → K (pc + 3) L st n c q M o) (h2 : ¬ b < a → K t L st n c q M o) : K pc L (.int b :: .int a :: st) n c q M o := k_st hK hi (by subst ht; exact ⟨h1, h2⟩)
theorem k_goto (hK : dp_clo X call d y Q K) {off : Int} {len t : Nat} (hi : dp_tab y pc = (.goto off, len)) (ht : dp_jt pc off = t) (h1 : K t L st n c q M o) : K pc L st n c q M o := k_st hK hi (by subst ht; exact h1)
theorem k_switch (hK : dp_clo X call d y Q K) {dflt lo hi0 : Int} {offs : Array Int} {len t : Nat} {x : Int32} (hi : dp_tab y pc = (.tableswitch dflt lo hi0 offs, len)) (ht : dp_jt pc dflt = t) (h1 : x.toInt < lo ∨ hi0 < x.toInt → K t L st n c q M o) (h2 : dp_ts x lo offs.toList fun off => K (dp_jt pc off) L st n c q M o) : K pc L (.int x :: st) n c q M o := k_st hK hi (by subst ht; exact ⟨h1, h2⟩)
theorem k_get (hK : dp_clo X call d y Q K) {i len h ow ci k : Nat} {fs : List Value} {v : Value} (hi : dp_tab y pc = (.getfield i, len)) (how : dp_ow y = ow) (hf : dp_fld ow i = some (ci, k)) (hn : h < n) (ho : dp_obj M h = some (ci, fs)) (hv : dp_gtv fs k = some v) (hh : K (pc + 3) L (v :: st) n c q M o) : K pc L (.ref h :: st) n c q M o := k_st hK hi (by
  refine Or.inl ⟨hn, ?_⟩
  rw [how, hf]
  unfold dp_get
  simp only [ho, hv]
  exact ⟨trivial, hh⟩)
theorem k_put (hK : dp_clo X call d y Q K) {i len h ow ci k : Nat} {fs : List Value} {x w : Int32} (hi : dp_tab y pc = (.putfield i, len)) (how : dp_ow y = ow) (hf : dp_fld ow i = some (ci, k)) (hn : h < n) (ho : dp_obj M h = some (ci, fs)) (hv : dp_gtv fs k = some (.int w)) (hh : K (pc + 3) L st n c q (dp_up M h k x) o) : K pc L (.int x :: .ref h :: st) n c q M o := k_st hK hi (by
  refine Or.inl ⟨hn, ?_⟩
  rw [how, hf]
  unfold dp_put
  simp only [ho, hv]
  exact ⟨trivial, hh⟩)
/-- an int array's read, at a place that is a number -/
theorem k_iald (hK : dp_clo X call d y Q K) {len h : Nat} {i : Int32} (j : Nat) (hi : dp_tab y pc = (.iaload, len)) (hA : dp_isA h = true) (hn : h < n) (h1 : h ≠ 1000) (hij : i = nI j) (hj : j < dp_len h) (hh : K (pc + 1) L (.int (M h j) :: st) n c q M o) : K pc L (.int i :: .ref h :: st) n c q M o := k_st hK hi (by
  have hl : dp_len h < 2 ^ 31 := by unfold dp_len; split <;> (repeat' split) <;> decide
  have e : (nI j).toNatClampNeg = j := nI_clamp (by omega)
  subst hij
  exact Or.inr (Or.inl ⟨h1, hA, hn, vp_in_nI hj hl, by rw [e]; exact hh⟩))
theorem k_iast (hK : dp_clo X call d y Q K) {len h : Nat} {i x : Int32} (j : Nat) (hi : dp_tab y pc = (.iastore, len)) (hA : dp_isA h = true) (hn : h < n) (hij : i = nI j) (hj : j < dp_len h) (hh : K (pc + 1) L st n c q (dp_up M h j x) o) : K pc L (.int x :: .int i :: .ref h :: st) n c q M o := k_st hK hi (by
  have hl : dp_len h < 2 ^ 31 := by unfold dp_len; split <;> (repeat' split) <;> decide
  have e : (nI j).toNatClampNeg = j := nI_clamp (by omega)
  subst hij
  refine Or.inl ⟨hA, hn, vp_in_nI hj hl, ?_⟩
  rw [e]
  exact hh)
/-- the script's read -/
theorem k_sald (hK : dp_clo X call d y Q K) {len : Nat} {i : Int32} (j : Nat) (hi : dp_tab y pc = (.iaload, len)) (hij : i = nI j) (hj : j < X.1) (hX : X.1 < 2 ^ 31) (hh : K (pc + 1) L (.int (X.2 j) :: st) n c q M o) : K pc L (.int i :: .ref 1000 :: st) n c q M o := k_st hK hi (by
  have e : (nI j).toNatClampNeg = j := nI_clamp (by omega)
  subst hij
  exact Or.inl ⟨rfl, vp_in_nI hj hX, by rw [e]; exact hh⟩)
theorem k_aald7 (hK : dp_clo X call d y Q K) {len : Nat} {i : Int32} (j : Nat) (hi : dp_tab y pc = (.aaload, len)) (hn : 7 < n) (hij : i = nI j) (hj : j < 16) (hh : K (pc + 1) L (.ref (27 + j) :: st) n c q M o) : K pc L (.int i :: .ref 7 :: st) n c q M o := k_st hK hi (by
  subst hij
  refine Or.inl ⟨hn, vp_in_nI hj (by decide), ?_⟩
  rw [nI_clamp (by omega)]
  exact hh)
theorem k_aald9 (hK : dp_clo X call d y Q K) {len : Nat} {i : Int32} (j : Nat) (hi : dp_tab y pc = (.aaload, len)) (hn : 9 < n) (hij : i = nI j) (hj : j < 16) (hh : K (pc + 1) L (.ref (43 + j) :: st) n c q M o) : K pc L (.int i :: .ref 9 :: st) n c q M o := k_st hK hi (by
  subst hij
  refine Or.inl ⟨hn, vp_in_nI hj (by decide), ?_⟩
  rw [nI_clamp (by omega)]
  exact hh)
theorem k_aald11 (hK : dp_clo X call d y Q K) {len : Nat} {i : Int32} (j : Nat) (hi : dp_tab y pc = (.aaload, len)) (hn : 11 < n) (hij : i = nI j) (hj : j < 6) (hh : K (pc + 1) L (.ref (59 + j) :: st) n c q M o) : K pc L (.int i :: .ref 11 :: st) n c q M o := k_st hK hi (by
  subst hij
  refine Or.inl ⟨hn, vp_in_nI hj (by decide), ?_⟩
  rw [nI_clamp (by omega)]
  exact hh)
theorem k_alen (hK : dp_clo X call d y Q K) {len h N : Nat} (hi : dp_tab y pc = (.arraylength, len)) (hA : dp_isA h = true) (hn : h < n) (h1 : h ≠ 1000) (hN : dp_len h = N) (hh : K (pc + 1) L (.int (nI N) :: st) n c q M o) : K pc L (.ref h :: st) n c q M o := k_st hK hi (Or.inr (Or.inl ⟨h1, hA, hn, by rw [hN]; exact hh⟩))
theorem k_slen (hK : dp_clo X call d y Q K) {len : Nat} (hi : dp_tab y pc = (.arraylength, len)) (hh : K (pc + 1) L (.int (nI X.1) :: st) n c q M o) : K pc L (.ref 1000 :: st) n c q M o := k_st hK hi (Or.inl ⟨rfl, hh⟩)
theorem k_dup (hK : dp_clo X call d y Q K) {len : Nat} {v : Value} (hi : dp_tab y pc = (.dup, len)) (hv : v.category = 1) (hh : K (pc + 1) L (v :: v :: st) n c q M o) : K pc L (v :: st) n c q M o := k_st hK hi ⟨hv, hh⟩
theorem k_dup2 (hK : dp_clo X call d y Q K) {len : Nat} {v w : Value} (hi : dp_tab y pc = (.dup2, len)) (hv : v.category = 1) (hw : w.category = 1) (hh : K (pc + 1) L (v :: w :: v :: w :: st) n c q M o) : K pc L (v :: w :: st) n c q M o := k_st hK hi ⟨hv, hw, hh⟩
theorem k_pop (hK : dp_clo X call d y Q K) {len : Nat} {v : Value} (hi : dp_tab y pc = (.pop, len)) (hv : v.category = 1) (hh : K (pc + 1) L st n c q M o) : K pc L (v :: st) n c q M o := k_st hK hi ⟨hv, hh⟩
theorem k_return (hK : dp_clo X call d y Q K) {len mc ms : Nat} (hi : dp_tab y pc = (.return_, len)) (hr : dp_rk y = 0) (hmc : dp_mc y = mc) (hms : dp_ms y = ms) (h1 : c ≤ mc) (h2 : q ≤ ms) (hh : Q (.inl none) M o) : K pc L [] n c q M o := k_st hK hi ⟨rfl, hr, by rw [hmc]; exact h1, by rw [hms]; exact h2, hh⟩
theorem k_ireturn (hK : dp_clo X call d y Q K) {len mc ms : Nat} {x : Int32} (hi : dp_tab y pc = (.ireturn, len)) (hr : dp_rk y = 1) (hmc : dp_mc y = mc) (hms : dp_ms y = ms) (h1 : c ≤ mc) (h2 : q ≤ ms) (hh : Q (.inl (some (.int x))) M o) : K pc L [.int x] n c q M o := k_st hK hi ⟨rfl, by rw [hr]; exact trivial, by rw [hmc]; exact h1, by rw [hms]; exact h2, hh⟩
theorem k_zreturn (hK : dp_clo X call d y Q K) {len mc ms : Nat} {x : Int32} (hi : dp_tab y pc = (.ireturn, len)) (hr : dp_rk y = 4) (hmc : dp_mc y = mc) (hms : dp_ms y = ms) (h1 : c ≤ mc) (h2 : q ≤ ms) (hx : x = 0 ∨ x = 1) (hh : Q (.inl (some (.int x))) M o) : K pc L [.int x] n c q M o := k_st hK hi ⟨rfl, by rw [hr]; exact hx, by rw [hmc]; exact h1, by rw [hms]; exact h2, hh⟩
theorem k_lreturn (hK : dp_clo X call d y Q K) {len mc ms : Nat} {x : Int64} (hi : dp_tab y pc = (.lreturn, len)) (hr : dp_rk y = 2) (hmc : dp_mc y = mc) (hms : dp_ms y = ms) (h1 : c ≤ mc) (h2 : q ≤ ms) (hh : Q (.inl (some (.long x))) M o) : K pc L [.long x] n c q M o := k_st hK hi ⟨rfl, hr, by rw [hmc]; exact h1, by rw [hms]; exact h2, hh⟩
theorem k_dreturn (hK : dp_clo X call d y Q K) {len mc ms : Nat} {x : UInt64} (hi : dp_tab y pc = (.dreturn, len)) (hr : dp_rk y = 3) (hmc : dp_mc y = mc) (hms : dp_ms y = ms) (h1 : c ≤ mc) (h2 : q ≤ ms) (hh : Q (.inl (some (.double x))) M o) : K pc L [.double x] n c q M o := k_st hK hi ⟨rfl, hr, by rw [hmc]; exact h1, by rw [hms]; exact h2, hh⟩
/-- a virtual call; the stack as arguments (the last first), receiver, rest -/
theorem k_callV (hK : dp_clo X call d y Q K) {i len ow z na mc ms w mL mcy msy h : Nat} {as st' : List Value} {fs : List Value} (hi : dp_tab y pc = (.invokevirtual i, len)) (how : dp_ow y = ow) (hiv : dp_iv ow i = some (z, na, mc, ms, false, w, mL)) (hmc : dp_mc y = mcy) (hms : dp_ms y = msy) (hst : st = as.reverse ++ .ref h :: st') (hna : (Value.ref h :: as).length = na) (h65 : 65 ≤ n) (hasz : dp_asz (.ref h :: as) ≤ mL) (hl : st'.length ≤ 4) (hc : c + mc ≤ mcy) (hq : q + ms ≤ msy) (hhn : h < n) (ho : dp_obj M h = some (w, fs)) (hxl : mL + dp_xl z ≤ 11 + dp_xl y := by decide) (hni : dp_nin z = true := by decide)
    (hh : call z (.ref h :: as) n M o (dp_aft y Q K pc L st' n (c + mc) (q + ms))) : K pc L st n c q M o := k_st hK hi (by
  rw [how, hiv]
  subst hst
  have key : ∀ (t acc r : List Value) (f : List Value → List Value → Prop), f (t.reverse ++ acc) r → dp_take t.length (t ++ r) acc f := fun t => by
    induction t with
    | nil => intro acc r f h; exact h
    | cons v t ih =>
      intro acc r f h
      refine ih (v :: acc) r f ?_
      rw [List.reverse_cons, List.append_assoc] at h
      exact h
  show dp_take na _ [] _
  have e : na = (as.reverse ++ [Value.ref h]).length := by rw [← hna]; simp
  rw [e, show as.reverse ++ Value.ref h :: st' = (as.reverse ++ [Value.ref h]) ++ st' by simp]
  refine key _ _ _ _ ?_
  rw [List.append_nil, List.reverse_append, List.reverse_reverse]
  refine ⟨rfl, h65, hasz, hxl, hl, by rw [hmc]; exact hc, by rw [hms]; exact hq, Or.inr ⟨Or.inl ⟨hhn, ?_⟩, hni⟩, hh⟩
  rw [ho])
/-- a virtual call; the stack as arguments (the last first), receiver, rest -/
theorem k_callVd (hK : dp_clo X call d y Q K) {i len ow z na mc ms w mL mcy msy h : Nat} {as st' : List Value} {fs : List Value} (hi : dp_tab y pc = (.invokevirtual i, len)) (how : dp_ow y = ow) (hiv : dp_iv ow i = some (z, na, mc, ms, false, w, mL)) (hmc : dp_mc y = mcy) (hms : dp_ms y = msy) (hst : st = as.reverse ++ .ref h :: st') (hna : (Value.ref h :: as).length = na) (h65 : 65 ≤ n) (hasz : dp_asz (.ref h :: as) ≤ mL) (hl : st'.length ≤ 4) (hc : c + mc ≤ mcy) (hq : q + ms ≤ msy) (ho : o h = some (.inl (w, fs))) (hxl : mL + dp_xl z ≤ 11 + dp_xl y := by decide) (hni : dp_nin z = true := by decide)
    (hh : call z (.ref h :: as) n M o (dp_aft y Q K pc L st' n (c + mc) (q + ms))) : K pc L st n c q M o := k_st hK hi (by
  rw [how, hiv]
  subst hst
  have key : ∀ (t acc r : List Value) (f : List Value → List Value → Prop), f (t.reverse ++ acc) r → dp_take t.length (t ++ r) acc f := fun t => by
    induction t with
    | nil => intro acc r f h; exact h
    | cons v t ih =>
      intro acc r f h
      refine ih (v :: acc) r f ?_
      rw [List.reverse_cons, List.append_assoc] at h
      exact h
  show dp_take na _ [] _
  have e : na = (as.reverse ++ [Value.ref h]).length := by rw [← hna]; simp
  rw [e, show as.reverse ++ Value.ref h :: st' = (as.reverse ++ [Value.ref h]) ++ st' by simp]
  refine key _ _ _ _ ?_
  rw [List.append_nil, List.reverse_append, List.reverse_reverse]
  refine ⟨rfl, h65, hasz, hxl, hl, by rw [hmc]; exact hc, by rw [hms]; exact hq, Or.inr ⟨Or.inr ⟨fs, ho⟩, hni⟩, hh⟩)
/-- a virtual call; the stack as arguments (the last first), receiver, rest -/
theorem k_callI (hK : dp_clo X call d y Q K) {i len ow z na mc ms w mL mcy msy h : Nat} {as st' : List Value} {fs : List Value} {sta : Bool} (hi : dp_tab y pc = (.invokespecial i, len)) (how : dp_ow y = ow) (hiv : dp_iv ow i = some (z, na, mc, ms, sta, w, mL)) (hmc : dp_mc y = mcy) (hms : dp_ms y = msy) (hst : st = as.reverse ++ .ref h :: st') (hna : (Value.ref h :: as).length = na) (h65 : 65 ≤ n) (hasz : dp_asz (.ref h :: as) ≤ mL) (hl : st'.length ≤ 4) (hc : c + mc ≤ mcy) (hq : q + ms ≤ msy) (ho : o h = some (.inl (w, fs))) (hxl : mL + dp_xl z ≤ 11 + dp_xl y := by decide) (hz9 : z = 59 ∨ z = 60 := by decide)
    (hh : call z (.ref h :: as) n M o (dp_aft y Q K pc L st' n (c + mc) (q + ms))) : K pc L st n c q M o := k_st hK hi (by
  left
  rw [how, hiv]
  subst hst
  have key : ∀ (t acc r : List Value) (f : List Value → List Value → Prop), f (t.reverse ++ acc) r → dp_take t.length (t ++ r) acc f := fun t => by
    induction t with
    | nil => intro acc r f h; exact h
    | cons v t ih =>
      intro acc r f h
      refine ih (v :: acc) r f ?_
      rw [List.reverse_cons, List.append_assoc] at h
      exact h
  show dp_take na _ [] _
  have e : na = (as.reverse ++ [Value.ref h]).length := by rw [← hna]; simp
  rw [e, show as.reverse ++ Value.ref h :: st' = (as.reverse ++ [Value.ref h]) ++ st' by simp]
  refine key _ _ _ _ ?_
  rw [List.append_nil, List.reverse_append, List.reverse_reverse]
  exact ⟨hz9, h65, hasz, hxl, hl, by rw [hmc]; exact hc, by rw [hms]; exact hq, Or.inr ⟨fs, ho⟩, hh⟩)
/-- a virtual call; the stack as arguments (the last first), receiver, rest -/
theorem k_callN (hK : dp_clo X call d y Q K) {i len ow z na mc ms w mL mcy msy h : Nat} {as st' : List Value} {fs : List Value} {sta : Bool} (hi : dp_tab y pc = (.invokespecial i, len)) (how : dp_ow y = ow) (hiv : dp_ivN ow i = some (z, na, mc, ms, sta, w, mL)) (hmc : dp_mc y = mcy) (hms : dp_ms y = msy) (hst : st = as.reverse ++ .ref h :: st') (hna : (Value.ref h :: as).length = na) (h65 : 65 ≤ n) (hasz : dp_asz (.ref h :: as) ≤ mL) (hl : st'.length ≤ 4) (hc : c + mc ≤ mcy) (hq : q + ms ≤ msy) (ho : o h = some (.inl (w, fs))) (hxl : mL + dp_xl z ≤ 11 + dp_xl y := by decide) (hz9 : z = 59 ∨ z = 60 := by decide)
    (hh : call z (.ref h :: as) n M o (dp_aft y Q K pc L st' n (c + mc) (q + ms))) : K pc L st n c q M o := k_st hK hi (by
  right
  left
  rw [how, hiv]
  subst hst
  have key : ∀ (t acc r : List Value) (f : List Value → List Value → Prop), f (t.reverse ++ acc) r → dp_take t.length (t ++ r) acc f := fun t => by
    induction t with
    | nil => intro acc r f h; exact h
    | cons v t ih =>
      intro acc r f h
      refine ih (v :: acc) r f ?_
      rw [List.reverse_cons, List.append_assoc] at h
      exact h
  show dp_take na _ [] _
  have e : na = (as.reverse ++ [Value.ref h]).length := by rw [← hna]; simp
  rw [e, show as.reverse ++ Value.ref h :: st' = (as.reverse ++ [Value.ref h]) ++ st' by simp]
  refine key _ _ _ _ ?_
  rw [List.append_nil, List.reverse_append, List.reverse_reverse]
  exact ⟨hz9, h65, hasz, hxl, hl, by rw [hmc]; exact hc, by rw [hms]; exact hq, Or.inr ⟨fs, ho⟩, hh⟩)
theorem k_callS (hK : dp_clo X call d y Q K) {i len ow z na mc ms w mL mcy msy : Nat} {as st' : List Value} (hi : dp_tab y pc = (.invokestatic i, len)) (how : dp_ow y = ow) (hiv : dp_iv ow i = some (z, na, mc, ms, true, w, mL)) (hmc : dp_mc y = mcy) (hms : dp_ms y = msy) (hst : st = as.reverse ++ st') (hna : as.length = na) (h65 : 65 ≤ n) (hasz : dp_asz as ≤ mL) (hl : st'.length ≤ 4) (hc : c + mc ≤ mcy) (hq : q + ms ≤ msy) (hxl : mL + dp_xl z ≤ 11 + dp_xl y := by decide)
    (hh : call z as n M o (dp_aft y Q K pc L st' n (c + mc) (q + ms))) : K pc L st n c q M o := k_st hK hi (by
  left
  rw [how, hiv]
  subst hst
  have key : ∀ (t acc r : List Value) (f : List Value → List Value → Prop), f (t.reverse ++ acc) r → dp_take t.length (t ++ r) acc f := fun t => by
    induction t with
    | nil => intro acc r f h; exact h
    | cons v t ih =>
      intro acc r f h
      refine ih (v :: acc) r f ?_
      rw [List.reverse_cons, List.append_assoc] at h
      exact h
  show dp_take na _ [] _
  have e : na = as.reverse.length := by rw [← hna]; simp
  rw [e]
  refine key _ _ _ _ ?_
  rw [List.append_nil, List.reverse_reverse]
  exact ⟨rfl, h65, hasz, hxl, hl, by rw [hmc]; exact hc, by rw [hms]; exact hq, Or.inl rfl, hh⟩)
theorem k_min (hK : dp_clo X call d y Q K) {i len ow mcy msy : Nat} {a b : Int32} (hi : dp_tab y pc = (.invokestatic i, len)) (how : dp_ow y = ow) (hnt : dp_nat ow i = some 200) (hmc : dp_mc y = mcy) (hms : dp_ms y = msy) (hl : st.length ≤ 4) (hc : c ≤ mcy) (hq : q ≤ msy) (hh : K (pc + 3) L (.int (if b < a then b else a) :: st) n c q M o) : K pc L (.int b :: .int a :: st) n c q M o := k_st hK hi (by
  right
  rw [how, hnt]
  exact ⟨hl, by rw [hmc]; exact hc, by rw [hms]; exact hq, hh⟩)
theorem k_max (hK : dp_clo X call d y Q K) {i len ow mcy msy : Nat} {a b : Int32} (hi : dp_tab y pc = (.invokestatic i, len)) (how : dp_ow y = ow) (hnt : dp_nat ow i = some 201) (hmc : dp_mc y = mcy) (hms : dp_ms y = msy) (hl : st.length ≤ 4) (hc : c ≤ mcy) (hq : q ≤ msy) (hh : K (pc + 3) L (.int (if a < b then b else a) :: st) n c q M o) : K pc L (.int b :: .int a :: st) n c q M o := k_st hK hi (by
  right
  rw [how, hnt]
  exact ⟨hl, by rw [hmc]; exact hc, by rw [hms]; exact hq, hh⟩)
theorem k_copy (hK : dp_clo X call d y Q K) {i len ow h1 h2 : Nat} {sp dp k : Int32} (s' d' k' : Nat) (hi : dp_tab y pc = (.invokestatic i, len)) (how : dp_ow y = ow) (hnt : dp_nat ow i = some 202) (hl : st.length ≤ 4) (hA1 : dp_isA h1 = true) (hA2 : dp_isA h2 = true) (hn1 : h1 < n) (hn2 : h2 < n) (es : sp = nI s') (ed : dp = nI d') (ek : k = nI k') (b1 : s' + k' ≤ dp_len h1) (b2 : d' + k' ≤ dp_len h2) (hh : K (pc + 3) L st n c q (dp_row M h2 (va_cpy (M h1) (M h2) s' d' k')) o) : K pc L (.int k :: .int dp :: .ref h2 :: .int sp :: .ref h1 :: st) n c q M o := k_st hK hi (by
  right
  rw [how, hnt]
  have hl1 : dp_len h1 < 2 ^ 30 := by unfold dp_len; split <;> (repeat' split) <;> decide
  have hl2 : dp_len h2 < 2 ^ 30 := by unfold dp_len; split <;> (repeat' split) <;> decide
  subst es; subst ed; subst ek
  have e1 : (nI s').toNatClampNeg = s' := nI_clamp (by omega)
  have e2 : (nI d').toNatClampNeg = d' := nI_clamp (by omega)
  have e3 : (nI k').toNatClampNeg = k' := nI_clamp (by omega)
  refine ⟨hl, hA1, hA2, hn1, hn2, nI_pos (by omega), nI_pos (by omega), nI_pos (by omega), by rw [e1, e3]; exact b1, by rw [e2, e3]; exact b2, ?_⟩
  rw [e1, e2, e3]
  exact hh)
theorem k_throw (hK : dp_clo X call d y Q K) {len i mcy msy : Nat} (E : Nat) (hi : dp_tab y pc = (.new i, len)) (how : dp_ow y = 3) (hE : dp_exk E = i) (hE2 : E ≤ 2) (hmc : dp_mc y = mcy) (hms : dp_ms y = msy) (hd : 6 ≤ d) (hl : st.length ≤ 4) (hc : c + 1 ≤ mcy) (hq : q + 6 ≤ msy) (hh : Q (.inr E) M o) : K pc L st n c q M o := k_st hK hi (by
  refine Or.inl ⟨how, ?_⟩
  rcases (by omega : E = 0 ∨ E = 1 ∨ E = 2) with rfl | rfl | rfl <;> (cases hE; exact ⟨hd, hl, by rw [hmc]; exact hc, by rw [hms]; exact hq, hh⟩))
theorem k_leaves {E mcy msy : Nat} {st' : List Value} (hy : dp_hh y = []) (hmc : dp_mc y = mcy) (hms : dp_ms y = msy) (h1 : c ≤ mcy) (h2 : q ≤ msy) (hh : Q (.inr E) M o) : dp_aft y Q K pc L st' n c q (.inr E) M o := ⟨hh, by rw [hmc]; exact h1, by rw [hms]; exact h2⟩
/-- more room is taken as used -/
theorem k_wid (hK : dp_clo X call d y Q K) {c' q' : Nat} (h1 : c ≤ c') (h2 : q ≤ q') (h : K pc L st n c' q' M o) : K pc L st n c q M o := hK.2.2 _ _ _ _ _ _ _ _ _ _ h1 h2 h
-- cells made
theorem k_dget (hK : dp_clo X call d y Q K) {i len h ow ci k : Nat} {fs : List Value} (v : Value) (hi : dp_tab y pc = (.getfield i, len)) (how : dp_ow y = ow) (hf : dp_fld ow i = some (ci, k)) (ho : o h = some (.inl (ci, fs))) (hv : dp_gtv fs k = some v) (hh : K (pc + 3) L (v :: st) n c q M o) : K pc L (.ref h :: st) n c q M o := k_st hK hi (Or.inr ⟨ci, k, fs, v, by rw [how]; exact hf, ho, hv, hh⟩)
theorem k_dput (hK : dp_clo X call d y Q K) {i len h ow ci k : Nat} {fs fs' : List Value} {v : Value} (hi : dp_tab y pc = (.putfield i, len)) (how : dp_ow y = ow) (hf : dp_fld ow i = some (ci, k)) (hci : ci = 4 ∨ ci = 5) (ho : o h = some (.inl (ci, fs))) (hk : k < fs.length) (hv : dp_fv (dp_ft ci k) v) (hfs : fs.set k v = fs') (hh : K (pc + 3) L st n c q M (dp_ou o h (.inl (ci, fs')))) : K pc L (v :: .ref h :: st) n c q M o := k_st hK hi (Or.inr ⟨ci, k, fs, by rw [how]; exact hf, hci, ho, hk, hv, by rw [hfs]; exact hh⟩)
theorem k_diald (hK : dp_clo X call d y Q K) {len h m : Nat} {g : Nat → Int32} {i : Int32} (v : Int32) (j : Nat) (hi : dp_tab y pc = (.iaload, len)) (ho : o h = some (.inr (.inl (false, m, g)))) (hm : m < 2 ^ 31) (hij : i = nI j) (hj : j < m) (hv : g j = v) (hh : K (pc + 1) L (.int v :: st) n c q M o) : K pc L (.int i :: .ref h :: st) n c q M o := k_st hK hi (by
  subst hij
  refine Or.inr (Or.inr ⟨m, g, ho, vp_in_nI hj hm, ?_⟩)
  rw [nI_clamp (by omega), hv]
  exact hh)
theorem k_diast (hK : dp_clo X call d y Q K) {len h m : Nat} {g : Nat → Int32} {i x : Int32} (j : Nat) (hi : dp_tab y pc = (.iastore, len)) (ho : o h = some (.inr (.inl (false, m, g)))) (hm : m < 2 ^ 31) (hij : i = nI j) (hj : j < m) (hh : K (pc + 1) L st n c q M (dp_ou o h (.inr (.inl (false, m, upd g j x))))) : K pc L (.int x :: .int i :: .ref h :: st) n c q M o := k_st hK hi (by
  subst hij
  refine Or.inr ⟨m, g, ho, vp_in_nI hj hm, ?_⟩
  rw [nI_clamp (by omega)]
  exact hh)
theorem k_dbald (hK : dp_clo X call d y Q K) {len h m : Nat} {g : Nat → Int32} {i : Int32} (v : Int32) (j : Nat) (hi : dp_tab y pc = (.baload, len)) (ho : o h = some (.inr (.inl (true, m, g)))) (hm : m < 2 ^ 31) (hij : i = nI j) (hj : j < m) (hv : g j = v) (hh : K (pc + 1) L (.int v :: st) n c q M o) : K pc L (.int i :: .ref h :: st) n c q M o := k_st hK hi (by
  subst hij
  refine ⟨m, g, ho, vp_in_nI hj hm, ?_⟩
  rw [nI_clamp (by omega), hv]
  exact hh)
/-- true into a row of truth values -/
theorem k_dbast (hK : dp_clo X call d y Q K) {len h m : Nat} {g : Nat → Int32} {i x : Int32} (j : Nat) (hi : dp_tab y pc = (.bastore, len)) (ho : o h = some (.inr (.inl (true, m, g)))) (hm : m < 2 ^ 31) (hij : i = nI j) (hj : j < m) (hx : x = nI 1) (hh : K (pc + 1) L st n c q M (dp_ou o h (.inr (.inl (true, m, upd g j (nI 1)))))) : K pc L (.int x :: .int i :: .ref h :: st) n c q M o := k_st hK hi (by
  subst hij
  subst hx
  refine ⟨m, g, ho, vp_in_nI hj hm, ?_⟩
  rw [nI_clamp (by omega), show vp_nar .boolean (nI 1) = nI 1 by decide +kernel]
  exact hh)
theorem k_daald (hK : dp_clo X call d y Q K) {len h m : Nat} {b : Bool} {g : Nat → Option Nat} {i : Int32} (a j : Nat) (hi : dp_tab y pc = (.aaload, len)) (ho : o h = some (.inr (.inr (b, m, g)))) (hm : m < 2 ^ 31) (hij : i = nI j) (hj : j < m) (ha : g j = some a) (hh : K (pc + 1) L (.ref a :: st) n c q M o) : K pc L (.int i :: .ref h :: st) n c q M o := k_st hK hi (by
  subst hij
  exact Or.inr ⟨b, m, g, a, ho, vp_in_nI hj hm, by rw [nI_clamp (by omega)]; exact ha, hh⟩)
theorem k_daast (hK : dp_clo X call d y Q K) {len h m v : Nat} {b : Bool} {g : Nat → Option Nat} {i : Int32} (j : Nat) (hi : dp_tab y pc = (.aastore, len)) (ho : o h = some (.inr (.inr (b, m, g)))) (hm : m < 2 ^ 31) (hij : i = nI j) (hj : j < m) (he : dp_el o b v) (hh : K (pc + 1) L st n c q M (dp_ou o h (.inr (.inr (b, m, fun k => if k = j then some v else g k))))) : K pc L (.ref v :: .int i :: .ref h :: st) n c q M o := k_st hK hi (by
  subst hij
  refine ⟨b, m, g, ho, vp_in_nI hj hm, he, ?_⟩
  rw [nI_clamp (by omega)]
  exact hh)
theorem k_dalen (hK : dp_clo X call d y Q K) {len h m : Nat} {ce : dp_Ce} (hi : dp_tab y pc = (.arraylength, len)) (ho : o h = some ce) (hm : dp_cln' ce = some m) (hh : K (pc + 1) L (.int (nI m) :: st) n c q M o) : K pc L (.ref h :: st) n c q M o := k_st hK hi (Or.inr (Or.inr ⟨ce, m, ho, hm, hh⟩))
theorem k_newI (hK : dp_clo X call d y Q K) {len mcy msy : Nat} {i : Int32} (m : Nat) (hi : dp_tab y pc = (.newarray .int, len)) (hmc : dp_mc y = mcy) (hms : dp_ms y = msy) (him : i = nI m) (hm : m ≤ 1000) (hc : c + 1 ≤ mcy) (hq : q + m ≤ msy) (hh : ∀ a : Nat, o (10000 + a) = none → K (pc + 2) L (.ref (10000 + a) :: st) n (c + 1) (q + m) M (dp_ou o (10000 + a) (.inr (.inl (false, m, fun _ => nI 0))))) : K pc L (.int i :: st) n c q M o := k_st hK hi (by
  subst him
  have e : (nI m).toNatClampNeg = m := nI_clamp (by omega)
  refine ⟨nI_pos (by omega), by rw [e]; exact hm, by rw [hmc]; exact hc, by rw [e, hms]; exact hq, fun a ha => ?_⟩
  rw [e]
  exact hh a ha)
theorem k_newZ (hK : dp_clo X call d y Q K) {len mcy msy : Nat} {i : Int32} (m : Nat) (hi : dp_tab y pc = (.newarray .boolean, len)) (hmc : dp_mc y = mcy) (hms : dp_ms y = msy) (him : i = nI m) (hm : m ≤ 1000) (hc : c + 1 ≤ mcy) (hq : q + m ≤ msy) (hh : ∀ a : Nat, o (10000 + a) = none → K (pc + 2) L (.ref (10000 + a) :: st) n (c + 1) (q + m) M (dp_ou o (10000 + a) (.inr (.inl (true, m, fun _ => nI 0))))) : K pc L (.int i :: st) n c q M o := k_st hK hi (by
  subst him
  have e : (nI m).toNatClampNeg = m := nI_clamp (by omega)
  refine ⟨nI_pos (by omega), by rw [e]; exact hm, by rw [hmc]; exact hc, by rw [e, hms]; exact hq, fun a ha => ?_⟩
  rw [e]
  exact hh a ha)
theorem k_newR (hK : dp_clo X call d y Q K) {len ow k mcy msy : Nat} {i : Int32} (b : Bool) (m : Nat) (hi : dp_tab y pc = (.anewarray k, len)) (how : dp_ow y = ow) (han : dp_an ow k = some b) (hmc : dp_mc y = mcy) (hms : dp_ms y = msy) (him : i = nI m) (hm : m ≤ 1000) (hc : c + 1 ≤ mcy) (hq : q + m ≤ msy) (hh : ∀ a : Nat, o (10000 + a) = none → K (pc + 3) L (.ref (10000 + a) :: st) n (c + 1) (q + m) M (dp_ou o (10000 + a) (.inr (.inr (b, m, fun _ => none))))) : K pc L (.int i :: st) n c q M o := k_st hK hi (by
  subst him
  have e : (nI m).toNatClampNeg = m := nI_clamp (by omega)
  show dp_opt _ _
  rw [how, han]
  refine ⟨nI_pos (by omega), by rw [e]; exact hm, by rw [hmc]; exact hc, by rw [e, hms]; exact hq, fun a ha => ?_⟩
  rw [e]
  exact hh a ha)
theorem k_newO (hK : dp_clo X call d y Q K) {len ow k mcy msy : Nat} (ci : Nat) (hi : dp_tab y pc = (.new k, len)) (how : dp_ow y = ow) (han : dp_nw ow k = some ci) (hmc : dp_mc y = mcy) (hms : dp_ms y = msy) (hc : c + 1 ≤ mcy) (hq : q + 5 ≤ msy) (hh : ∀ a : Nat, o (10000 + a) = none → K (pc + 3) L (.ref (10000 + a) :: st) n (c + 1) (q + 5) M (dp_ou o (10000 + a) (.inl (ci, dp_df ci)))) : K pc L st n c q M o := k_st hK hi (by
  refine Or.inr ?_
  rw [how, han]
  exact ⟨by rw [hmc]; exact hc, by rw [hms]; exact hq, hh⟩)
theorem k_objI (hK : dp_clo X call d y Q K) {len ow i h : Nat} (hi : dp_tab y pc = (.invokespecial i, len)) (how : dp_ow y = ow) (hn : dp_nat ow i = some 210) (hl : st.length ≤ 4) (hh : K (pc + 3) L st n c q M o) : K pc L (.ref h :: st) n c q M o := k_st hK hi (Or.inr (Or.inr ⟨by rw [how]; exact hn, hl, hh⟩))
theorem k_areturn (hK : dp_clo X call d y Q K) {len h rk mc ms : Nat} (hi : dp_tab y pc = (.areturn, len)) (hr : dp_rk y = rk) (hr5 : rk = 5 ∨ rk = 6) (hmc : dp_mc y = mc) (hms : dp_ms y = ms) (h1 : c ≤ mc) (h2 : q ≤ ms) (hh : Q (.inl (some (.ref h))) M o) : K pc L [.ref h] n c q M o := k_st hK hi ⟨rfl, by rw [hr]; exact hr5, by rw [hmc]; exact h1, by rw [hms]; exact h2, hh⟩
theorem k_irem (hK : dp_clo X call d y Q K) {a b z : Int32} {len : Nat} (hi : dp_tab y pc = (.irem, len)) (hb : ¬ b = 0) (hz : a - a / b * b = z) (hh : K (pc + 1) L (.int z :: st) n c q M o) : K pc L (.int b :: .int a :: st) n c q M o := k_st hK hi ⟨hb, by subst hz; exact hh⟩
theorem k_ldc (hK : dp_clo X call d y Q K) {i len : Nat} {x : Int32} (hi : dp_tab y pc = (.ldc i, len)) (hv : dp_lo dp_ci (dp_ow y) i = some x) (hh : K (pc + 2) L (.int x :: st) n c q M o) : K pc L st n c q M o := k_st hK hi (by show dp_opt _ _; rw [hv]; exact hh)
theorem k_ifnn (hK : dp_clo X call d y Q K) {h len t : Nat} {off : Int} (hi : dp_tab y pc = (.ifnonnull off, len)) (ht : dp_jt pc off = t) (hh : K t L st n c q M o) : K pc L (.ref h :: st) n c q M o := k_st hK hi (by subst ht; exact hh)
end KR
end
section
/-! Rows over numbers, and small facts. -/
section KN
variable {X : dp_X} {call : dp_C} {d y : Nat} {Q : dp_Q} {K : dp_K} {pc n c q : Nat} {L : dp_L} {st : List Value} {M : dp_M} {o : dp_O}
theorem k_run {as : List Value} (h : ∀ K, dp_clo X (dp_run X d) (d + 1) y Q K → K 0 (dp_args (dp_mL y) as) [] n 0 0 M o) : dp_run X (d + 1) y as n M o Q := h
theorem kn_eq (hK : dp_clo X call d y Q K) {a b : Nat} {off : Int} {len t : Nat} (ha : a < 2 ^ 31) (hb : b < 2 ^ 31) (hi : dp_tab y pc = (.if_icmp .eq off, len)) (ht : dp_jt pc off = t) (h1 : a = b → K t L st n c q M o) (h2 : ¬ a = b → K (pc + 3) L st n c q M o) : K pc L (.int (nI b) :: .int (nI a) :: st) n c q M o :=
  k_icmp_eq hK hi ht (fun z => h1 ((nI_eq ha hb).mp z)) (fun z => h2 (fun w => z ((nI_eq ha hb).mpr w)))
theorem kn_ne (hK : dp_clo X call d y Q K) {a b : Nat} {off : Int} {len t : Nat} (ha : a < 2 ^ 31) (hb : b < 2 ^ 31) (hi : dp_tab y pc = (.if_icmp .ne off, len)) (ht : dp_jt pc off = t) (h1 : a = b → K (pc + 3) L st n c q M o) (h2 : ¬ a = b → K t L st n c q M o) : K pc L (.int (nI b) :: .int (nI a) :: st) n c q M o :=
  k_icmp_ne hK hi ht (fun z => h1 ((nI_eq ha hb).mp z)) (fun z => h2 (fun w => z ((nI_eq ha hb).mpr w)))
theorem kn_lt (hK : dp_clo X call d y Q K) {a b : Nat} {off : Int} {len t : Nat} (ha : a < 2 ^ 31) (hb : b < 2 ^ 31) (hi : dp_tab y pc = (.if_icmp .lt off, len)) (ht : dp_jt pc off = t) (h1 : a < b → K t L st n c q M o) (h2 : ¬ a < b → K (pc + 3) L st n c q M o) : K pc L (.int (nI b) :: .int (nI a) :: st) n c q M o :=
  k_icmp_lt hK hi ht (fun z => h1 ((nI_ltI ha hb).mp z)) (fun z => h2 (fun w => z ((nI_ltI ha hb).mpr w)))
theorem kn_ge (hK : dp_clo X call d y Q K) {a b : Nat} {off : Int} {len t : Nat} (ha : a < 2 ^ 31) (hb : b < 2 ^ 31) (hi : dp_tab y pc = (.if_icmp .ge off, len)) (ht : dp_jt pc off = t) (h1 : a < b → K (pc + 3) L st n c q M o) (h2 : ¬ a < b → K t L st n c q M o) : K pc L (.int (nI b) :: .int (nI a) :: st) n c q M o :=
  k_icmp_ge hK hi ht (fun z => h1 ((nI_ltI ha hb).mp z)) (fun z => h2 (fun w => z ((nI_ltI ha hb).mpr w)))
theorem kn_gt (hK : dp_clo X call d y Q K) {a b : Nat} {off : Int} {len t : Nat} (ha : a < 2 ^ 31) (hb : b < 2 ^ 31) (hi : dp_tab y pc = (.if_icmp .gt off, len)) (ht : dp_jt pc off = t) (h1 : b < a → K t L st n c q M o) (h2 : ¬ b < a → K (pc + 3) L st n c q M o) : K pc L (.int (nI b) :: .int (nI a) :: st) n c q M o :=
  k_icmp_gt hK hi ht (fun z => h1 ((nI_ltI hb ha).mp z)) (fun z => h2 (fun w => z ((nI_ltI hb ha).mpr w)))
theorem kn_le (hK : dp_clo X call d y Q K) {a b : Nat} {off : Int} {len t : Nat} (ha : a < 2 ^ 31) (hb : b < 2 ^ 31) (hi : dp_tab y pc = (.if_icmp .le off, len)) (ht : dp_jt pc off = t) (h1 : b < a → K (pc + 3) L st n c q M o) (h2 : ¬ b < a → K t L st n c q M o) : K pc L (.int (nI b) :: .int (nI a) :: st) n c q M o :=
  k_icmp_le hK hi ht (fun z => h1 ((nI_ltI hb ha).mp z)) (fun z => h2 (fun w => z ((nI_ltI hb ha).mpr w)))
theorem kz_eq (hK : dp_clo X call d y Q K) {a : Nat} {off : Int} {len t : Nat} (ha : a < 2 ^ 31) (hi : dp_tab y pc = (.ifCond .eq off, len)) (ht : dp_jt pc off = t) (h1 : a = 0 → K t L st n c q M o) (h2 : ¬ a = 0 → K (pc + 3) L st n c q M o) : K pc L (.int (nI a) :: st) n c q M o :=
  k_if_eq hK hi ht (fun z => h1 ((nI_eq ha (by decide)).mp z)) (fun z => h2 (fun w => z ((nI_eq ha (by decide)).mpr w)))
theorem kz_ne (hK : dp_clo X call d y Q K) {a : Nat} {off : Int} {len t : Nat} (ha : a < 2 ^ 31) (hi : dp_tab y pc = (.ifCond .ne off, len)) (ht : dp_jt pc off = t) (h1 : a = 0 → K (pc + 3) L st n c q M o) (h2 : ¬ a = 0 → K t L st n c q M o) : K pc L (.int (nI a) :: st) n c q M o :=
  k_if_ne hK hi ht (fun z => h1 ((nI_eq ha (by decide)).mp z)) (fun z => h2 (fun w => z ((nI_eq ha (by decide)).mpr w)))
theorem kz_lt (hK : dp_clo X call d y Q K) {a : Nat} {off : Int} {len t : Nat} (ha : a < 2 ^ 31) (hi : dp_tab y pc = (.ifCond .lt off, len)) (ht : dp_jt pc off = t) (h2 : K (pc + 3) L st n c q M o) : K pc L (.int (nI a) :: st) n c q M o :=
  k_if_lt hK hi ht (fun z => absurd z (nI_pos ha)) (fun _ => h2)
theorem kz_ge (hK : dp_clo X call d y Q K) {a : Nat} {off : Int} {len t : Nat} (ha : a < 2 ^ 31) (hi : dp_tab y pc = (.ifCond .ge off, len)) (ht : dp_jt pc off = t) (h2 : K t L st n c q M o) : K pc L (.int (nI a) :: st) n c q M o :=
  k_if_ge hK hi ht (fun z => absurd z (nI_pos ha)) (fun _ => h2)
theorem kz_gt (hK : dp_clo X call d y Q K) {a : Nat} {off : Int} {len t : Nat} (ha : a < 2 ^ 31) (hi : dp_tab y pc = (.ifCond .gt off, len)) (ht : dp_jt pc off = t) (h1 : 0 < a → K t L st n c q M o) (h2 : ¬ 0 < a → K (pc + 3) L st n c q M o) : K pc L (.int (nI a) :: st) n c q M o :=
  k_if_gt hK hi ht (fun z => h1 ((nI_ltI (by decide) ha).mp z)) (fun z => h2 (fun w => z ((nI_ltI (by decide) ha).mpr w)))
theorem kz_le (hK : dp_clo X call d y Q K) {a : Nat} {off : Int} {len t : Nat} (ha : a < 2 ^ 31) (hi : dp_tab y pc = (.ifCond .le off, len)) (ht : dp_jt pc off = t) (h1 : 0 < a → K (pc + 3) L st n c q M o) (h2 : ¬ 0 < a → K t L st n c q M o) : K pc L (.int (nI a) :: st) n c q M o :=
  k_if_le hK hi ht (fun z => h1 ((nI_ltI (by decide) ha).mp z)) (fun z => h2 (fun w => z ((nI_ltI (by decide) ha).mpr w)))
theorem k_ialdv (hK : dp_clo X call d y Q K) {len h : Nat} {i v : Int32} (j : Nat) (hi : dp_tab y pc = (.iaload, len)) (hA : dp_isA h = true) (hn : h < n) (h1 : h ≠ 1000) (hij : i = nI j) (hj : j < dp_len h) (hv : M h j = v) (hh : K (pc + 1) L (.int v :: st) n c q M o) : K pc L (.int i :: .ref h :: st) n c q M o := k_iald hK j hi hA hn h1 hij hj (by rw [hv]; exact hh)
theorem k_eq {L' : dp_L} {st' : List Value} {M' : dp_M} (h : K pc L' st' n c q M' o) (e1 : L' = L) (e2 : st' = st) (e3 : M' = M) : K pc L st n c q M o := by subst e1; subst e2; subst e3; exact h
end KN
theorem dp_isA_t (h : Nat) (h1 : 27 ≤ h) : dp_isA h = true := by
  simp only [dp_isA, Bool.not_eq_true', Bool.or_eq_false_iff, beq_eq_false_iff_ne]
  omega
theorem dpl_27 (a : Nat) (h : a < 16) : dp_len (27 + a) = 12 := by
  unfold dp_len
  rw [if_neg (by omega), if_pos (by omega)]
theorem dpl_43 (a : Nat) (h : a < 16) : dp_len (43 + a) = 20 := by
  unfold dp_len
  rw [if_neg (by omega), if_neg (by omega), if_pos (by omega)]
theorem dpl_59 (a : Nat) (h : a < 6) : dp_len (59 + a) = 5 := by
  unfold dp_len
  rw [if_neg (by omega), if_neg (by omega), if_neg (by omega), if_pos (by omega)]
theorem dpl_5 : dp_len 5 = 5 := rfl
theorem dpl_6 : dp_len 6 = 40 := rfl
theorem dpl_8 : dp_len 8 = 16 := rfl
theorem dpl_10 : dp_len 10 = 20 := rfl
theorem dpl_12 : dp_len 12 = 6 := rfl
theorem dpl_13 : dp_len 13 = 6 := rfl
theorem dpl_14 : dp_len 14 = 16 := rfl
theorem dpl_15 : dp_len 15 = 6 := rfl
theorem dpl_16 : dp_len 16 = 6 := rfl
theorem dpl_17 : dp_len 17 = 6 := rfl
theorem dpl_18 : dp_len 18 = 16 := rfl
theorem dpl_19 : dp_len 19 = 6 := rfl
theorem dpl_20 : dp_len 20 = 6 := rfl
theorem dpl_21 : dp_len 21 = 6 := rfl
theorem dp_up_s (M : dp_M) (h k : Nat) (x : Int32) : dp_up M h k x h k = x := by simp [dp_up]
theorem dp_up_k {M : dp_M} {h k a j : Nat} {x : Int32} (e : j ≠ k) : dp_up M h k x a j = M a j := by simp [dp_up, e]
theorem dp_up_h {M : dp_M} {h k a j : Nat} {x : Int32} (e : a ≠ h) : dp_up M h k x a j = M a j := by simp [dp_up, e]
theorem dp_row_at (M : dp_M) (h : Nat) (f : Nat → Int32) (j : Nat) : dp_row M h f h j = f j := by simp [dp_row]
theorem dp_row_ne {M : dp_M} {h a : Nat} {f : Nat → Int32} {j : Nat} (e : a ≠ h) : dp_row M h f a j = M a j := by simp [dp_row, e]
/-- sums -/
def sm : Nat → (Nat → Int32) → Int32
  | 0, _ => nI 0
  | n + 1, f => sm n f + f n
theorem sm_congr {f g : Nat → Int32} : ∀ {n : Nat}, (∀ k, k < n → f k = g k) → sm n f = sm n g
  | 0, _ => rfl
  | n + 1, h => by rw [sm, sm, sm_congr (fun k hk => h k (by omega)), h n (by omega)]
theorem nI_zero_add (x : Int32) : nI 0 + x = x := by rw [nI_0]; exact Int32.zero_add x
theorem nI_add_zero (x : Int32) : x + nI 0 = x := by rw [nI_0]; exact Int32.add_zero x
theorem sm_zero {f : Nat → Int32} : ∀ {n : Nat}, (∀ k, k < n → f k = nI 0) → sm n f = nI 0
  | 0, _ => rfl
  | n + 1, h => by rw [sm, sm_zero (fun k hk => h k (by omega)), h n (by omega)]; exact nI_add_zero _
theorem sm_add {f : Nat → Int32} {a : Nat} : ∀ {b : Nat}, sm (a + b) f = sm a f + sm b (fun k => f (a + k))
  | 0 => by rw [sm, nI_add_zero]; rfl
  | b + 1 => by rw [show a + (b + 1) = (a + b) + 1 by omega, sm, sm, sm_add, Int32.add_assoc]
section KV
variable {X : dp_X} {call : dp_C} {d y : Nat} {Q : dp_Q} {K : dp_K} {pc n c q : Nat} {L : dp_L} {st : List Value} {M : dp_M} {o : dp_O}
theorem k_geti (hK : dp_clo X call d y Q K) {i len h ow ci k : Nat} {fs : List Value} {w : Int32} (v : Int32) (hi : dp_tab y pc = (.getfield i, len)) (how : dp_ow y = ow) (hf : dp_fld ow i = some (ci, k)) (hn : h < n) (ho : dp_obj M h = some (ci, fs)) (hv : dp_gtv fs k = some (.int w)) (e : w = v) (hh : K (pc + 3) L (.int v :: st) n c q M o) : K pc L (.ref h :: st) n c q M o := k_get hK hi how hf hn ho hv (by rw [e]; exact hh)
theorem k_aftv {w : Int32} (v : Int32) {st' : List Value} (e : w = v) (h : dp_aft y Q K pc L st' n c q (.inl (some (.int v))) M o) : dp_aft y Q K pc L st' n c q (.inl (some (.int w))) M o := by rw [e]; exact h
theorem k_minv (hK : dp_clo X call d y Q K) {i len ow mcy msy : Nat} {a b : Int32} (v : Int32) (hi : dp_tab y pc = (.invokestatic i, len)) (how : dp_ow y = ow) (hnt : dp_nat ow i = some 200) (hmc : dp_mc y = mcy) (hms : dp_ms y = msy) (hl : st.length ≤ 4) (hc : c ≤ mcy) (hq : q ≤ msy) (hv : (if b < a then b else a) = v) (hh : K (pc + 3) L (.int v :: st) n c q M o) : K pc L (.int b :: .int a :: st) n c q M o := k_min hK hi how hnt hmc hms hl hc hq (by rw [hv]; exact hh)
theorem k_maxv (hK : dp_clo X call d y Q K) {i len ow mcy msy : Nat} {a b : Int32} (v : Int32) (hi : dp_tab y pc = (.invokestatic i, len)) (how : dp_ow y = ow) (hnt : dp_nat ow i = some 201) (hmc : dp_mc y = mcy) (hms : dp_ms y = msy) (hl : st.length ≤ 4) (hc : c ≤ mcy) (hq : q ≤ msy) (hv : (if a < b then b else a) = v) (hh : K (pc + 3) L (.int v :: st) n c q M o) : K pc L (.int b :: .int a :: st) n c q M o := k_max hK hi how hnt hmc hms hl hc hq (by rw [hv]; exact hh)
end KV
end
section
/-! Truth values as ints, indexes, and the bureau's state as numbers. -/
def bl (b : Bool) : Int32 := if b then nI 1 else nI 0
theorem bl_t : bl true = nI 1 := rfl
theorem bl_f : bl false = nI 0 := rfl
theorem bl_01 (b : Bool) : bl b = 0 ∨ bl b = 1 := by cases b <;> decide
section KB
variable {X : dp_X} {call : dp_C} {d y : Nat} {Q : dp_Q} {K : dp_K} {pc n c q : Nat} {L : dp_L} {st : List Value} {M : dp_M} {o : dp_O}
theorem kb_eq (hK : dp_clo X call d y Q K) {b : Bool} {off : Int} {len t : Nat} (hi : dp_tab y pc = (.ifCond .eq off, len)) (ht : dp_jt pc off = t) (h1 : b = false → K t L st n c q M o) (h2 : b = true → K (pc + 3) L st n c q M o) : K pc L (.int (bl b) :: st) n c q M o :=
  k_if_eq hK hi ht (fun z => h1 (by cases b <;> first | rfl | (exfalso; revert z; decide))) (fun z => h2 (by cases b <;> first | rfl | (exfalso; exact z (by decide))))
theorem kb_ne (hK : dp_clo X call d y Q K) {b : Bool} {off : Int} {len t : Nat} (hi : dp_tab y pc = (.ifCond .ne off, len)) (ht : dp_jt pc off = t) (h1 : b = false → K (pc + 3) L st n c q M o) (h2 : b = true → K t L st n c q M o) : K pc L (.int (bl b) :: st) n c q M o :=
  k_if_ne hK hi ht (fun z => h1 (by cases b <;> first | rfl | (exfalso; revert z; decide))) (fun z => h2 (by cases b <;> first | rfl | (exfalso; exact z (by decide))))
end KB
def isin (v lo hi : Int32) : Bool := !decide (v < lo) && !decide (hi < v)
/-- the number that an int is, if it is below n -/
def ix (n : Nat) (x : Int32) : Option Nat := if ¬ x < 0 ∧ x < nI n then some x.toNatClampNeg else none
theorem ix_some {n a : Nat} {x : Int32} (h : ix n x = some a) (hn : n < 2 ^ 31) : a < n ∧ x = nI a := by
  unfold ix at h
  split at h
  · rename_i hc
    cases h
    obtain ⟨j, hj, rfl⟩ := nI_of hc.1
    rw [nI_clamp hj]
    exact ⟨(nI_ltI hj hn).mp hc.2, rfl⟩
  · cases h
theorem ix_nI {n a : Nat} (h : a < n) (hn : n < 2 ^ 31) : ix n (nI a) = some a := by
  unfold ix
  rw [if_pos ⟨nI_pos (by omega), nI_lt h hn⟩, nI_clamp (by omega)]
theorem ix_none {n : Nat} {x : Int32} (h : ix n x = none) : x < 0 ∨ ¬ x < nI n := by
  unfold ix at h
  split at h
  · cases h
  · rename_i hc
    by_cases h1 : x < 0
    · exact Or.inl h1
    · exact Or.inr (fun h2 => hc ⟨h1, h2⟩)
theorem ix_is {n : Nat} {x : Int32} (h1 : ¬ x < 0) (h2 : x < nI n) : ix n x = some x.toNatClampNeg := if_pos ⟨h1, h2⟩
theorem ix_neg {n : Nat} {x : Int32} (h1 : x < 0) : ix n x = none := if_neg (fun z => z.1 h1)
theorem ix_big {n : Nat} {x : Int32} (h1 : ¬ x < nI n) : ix n x = none := if_neg (fun z => h1 z.2)
theorem nI_pred' {n : Nat} (x : Int32) (hn : n < 2 ^ 31) (h : ¬ x < 0) : nI n - nI 1 < x ↔ ¬ x < nI n := by
  obtain ⟨j, hj, rfl⟩ := nI_of h
  cases n with
  | zero =>
    constructor
    · intro _
      exact nI_nlt (Nat.zero_le _) hj
    · intro _
      have : (nI 0 - nI 1 : Int32) < 0 := by decide
      exact Int32.lt_of_lt_of_le this (nI_pos' hj)
  | succ n =>
    rw [show nI (n + 1) - nI 1 = nI n from pk_sub (by omega), nI_ltI (by omega) hj, nI_ltI hj hn]
    omega
theorem isin_ix {n : Nat} {x : Int32} (hn : n < 2 ^ 31) : isin x (nI 0) (nI n - nI 1) = (ix n x).isSome := by
  unfold isin
  by_cases h1 : x < 0
  · rw [ix_neg h1, show nI 0 = 0 from nI_0]
    simp [h1]
  · by_cases h2 : x < nI n
    · rw [ix_is h1 h2, show nI 0 = 0 from nI_0]
      have : ¬ nI n - nI 1 < x := fun z => ((nI_pred' x hn h1).mp z) h2
      simp [h1, this]
    · rw [ix_big h2, show nI 0 = 0 from nI_0]
      have : nI n - nI 1 < x := (nI_pred' x hn h1).mpr h2
      simp [h1, this]
theorem isin_ixc {n m : Nat} {x : Int32} (h : nI n - nI 1 = nI m) (hn : n < 2 ^ 31) : isin x (nI 0) (nI m) = (ix n x).isSome := by rw [← h, isin_ix hn]
end
section
/-! The bureau as numbers: what is written and wanted (g), and what sending and rounds change (l). -/
/-- articles, clients, stem of a word, words of an article, its words, bars, stems wanted, which -/
abbrev GSt : Type := Nat × Nat × (Nat → Nat) × (Nat → Nat) × (Nat → Nat → Nat) × (Nat → Int32) × (Nat → Nat) × (Nat → Nat → Nat)
def g_nA (s : GSt) : Nat := s.1
def g_nC (s : GSt) : Nat := s.2.1
def g_st (s : GSt) : Nat → Nat := s.2.2.1
def g_len (s : GSt) : Nat → Nat := s.2.2.2.1
def g_wd (s : GSt) : Nat → Nat → Nat := s.2.2.2.2.1
def g_bar (s : GSt) : Nat → Int32 := s.2.2.2.2.2.1
def g_many (s : GSt) : Nat → Nat := s.2.2.2.2.2.2.1
def g_wish (s : GSt) : Nat → Nat → Nat := s.2.2.2.2.2.2.2
/-- ages, coins, paid, sent (a bit an article), rounds -/
abbrev LSt : Type := (Nat → Int32) × (Nat → Int32) × (Nat → Int32) × (Nat → Nat) × Int32
def l_age (l : LSt) : Nat → Int32 := l.1
def l_coin (l : LSt) : Nat → Int32 := l.2.1
def l_paid (l : LSt) : Nat → Int32 := l.2.2.1
def l_sent (l : LSt) : Nat → Nat := l.2.2.2.1
def l_rnd (l : LSt) : Int32 := l.2.2.2.2
/-- bounds -/
def GW (s : GSt) : Prop := g_nA s ≤ 16 ∧ g_nC s ≤ 6 ∧ (∀ w, w < 40 → g_st s w < 20) ∧ (∀ a, a < 16 → g_len s a ≤ 12) ∧ (∀ a k, a < 16 → k < g_len s a → g_wd s a k < 40) ∧ (∀ c, c < 6 → g_many s c ≤ 5) ∧ (∀ c k, c < 6 → k < g_many s c → g_wish s c k < 20)
/-- the reference's memory holds s -/
def RG (M : dp_M) (s : GSt) : Prop := GW s ∧ M 22 1 = nI (g_nA s) ∧ M 22 2 = nI (g_nC s) ∧ (∀ w, w < 40 → M 23 w = nI (g_st s w)) ∧ (∀ a, a < 16 → M 24 (14 * a) = nI (g_len s a)) ∧ (∀ a k, a < 16 → k < g_len s a → M 24 (14 * a + (2 + k)) = nI (g_wd s a k)) ∧
  (∀ c, c < 6 → M 25 (10 * c + 1) = nI (g_many s c)) ∧ (∀ c k, c < 6 → k < g_many s c → M 25 (10 * c + (5 + k)) = nI (g_wish s c k)) ∧ (∀ c, c < g_nC s → M 25 (10 * c + 2) = g_bar s c)
def LW (l : LSt) : Prop := ∀ c, c < 6 → l_sent l c < 2 ^ 16
def RLt (M : dp_M) (l : LSt) : Prop := LW l ∧ (∀ a, a < 16 → M 24 (14 * a + 1) = l_age l a) ∧ (∀ c, c < 6 → M 25 (10 * c) = l_coin l c ∧ M 25 (10 * c + 3) = l_paid l c ∧ M 25 (10 * c + 4) = nI (l_sent l c)) ∧ M 22 3 = l_rnd l
def cnt : Nat → (Nat → Bool) → Nat
  | 0, _ => 0
  | n + 1, p => cnt n p + (if p n then 1 else 0)
theorem cnt_le (p : Nat → Bool) : ∀ n, cnt n p ≤ n
  | 0 => Nat.le_refl _
  | n + 1 => by
    have := cnt_le p n
    unfold cnt
    split <;> omega
theorem cnt_congr {p q : Nat → Bool} : ∀ {n : Nat}, (∀ k, k < n → p k = q k) → cnt n p = cnt n q
  | 0, _ => rfl
  | n + 1, h => by rw [cnt, cnt, cnt_congr (fun k hk => h k (by omega)), h n (by omega)]
theorem cnt_t {n : Nat} {p : Nat → Bool} (h : p n = true) : cnt (n + 1) p = cnt n p + 1 := by rw [cnt, h]; rfl
theorem cnt_f {n : Nat} {p : Nat → Bool} (h : p n = false) : cnt (n + 1) p = cnt n p := by rw [cnt, h]; rfl
theorem cnt_add {p : Nat → Bool} {a : Nat} : ∀ {b : Nat}, cnt (a + b) p = cnt a p + cnt b (fun k => p (a + k))
  | 0 => rfl
  | b + 1 => by rw [show a + (b + 1) = (a + b) + 1 by omega, cnt, cnt, cnt_add]; omega
def sN : Nat → (Nat → Nat) → Nat
  | 0, _ => 0
  | n + 1, f => sN n f + f n
theorem sN_congr {f g : Nat → Nat} : ∀ {n : Nat}, (∀ k, k < n → f k = g k) → sN n f = sN n g
  | 0, _ => rfl
  | n + 1, h => by rw [sN, sN, sN_congr (fun k hk => h k (by omega)), h n (by omega)]
theorem sN_le {f : Nat → Nat} {b : Nat} : ∀ {n : Nat}, (∀ k, k < n → f k ≤ b) → sN n f ≤ n * b
  | 0, _ => by simp [sN]
  | n + 1, h => by
    have h1 := sN_le (f := f) (b := b) (n := n) (fun k hk => h k (by omega))
    have h2 := h n (by omega)
    rw [sN, Nat.succ_mul]
    omega
/-- how often an article has a stem -/
def tm (s : GSt) (a x : Nat) : Nat := cnt (g_len s a) (fun k => g_st s (g_wd s a k) == x)
def hvn (s : GSt) (x : Nat) : Nat := cnt (g_nA s) (fun a => decide (0 < tm s a x))
def rar (s : GSt) (x : Nat) : Nat := 10 * (g_nA s + 1) / (hvn s x + 1)
def pts (s : GSt) (w : Nat → Nat) (n a : Nat) : Nat := sN n (fun k => min 3 (tm s a (w k)) * rar s (w k))
def fnd (s : GSt) (w : Nat → Nat) (n a : Nat) : Nat := cnt n (fun k => decide (0 < tm s a (w k)))
def pt2 (s : GSt) (w : Nat → Nat) (n a : Nat) : Nat := if 2 ≤ n ∧ fnd s w n a = n then pts s w n a + pts s w n a / 2 else pts s w n a
def mx0 (x : Int32) : Int32 := if x < nI 0 then nI 0 else x
/-- the score of an article for wishes w, with an age -/
def scw (s : GSt) (w : Nat → Nat) (n a : Nat) (age : Int32) : Int32 := mx0 (nI (pt2 s w n a) - nI 3 * age)
def sc (s : GSt) (l : LSt) (c a : Nat) : Int32 := scw s (g_wish s c) (g_many s c) a (l_age l a)
def bit (m a : Nat) : Bool := m.testBit a
def fit (s : GSt) (l : LSt) (c a : Nat) : Bool := !bit (l_sent l c) a && !decide (sc s l c a < g_bar s c)
theorem tm_le {s : GSt} (hW : GW s) {a : Nat} (ha : a < 16) (x : Nat) : tm s a x ≤ 12 := Nat.le_trans (cnt_le _ _) (hW.2.2.2.1 a ha)
theorem hvn_le {s : GSt} (hW : GW s) (x : Nat) : hvn s x ≤ 16 := Nat.le_trans (cnt_le _ _) hW.1
theorem rar_le {s : GSt} (hW : GW s) (x : Nat) : rar s x ≤ 170 := by
  unfold rar
  refine Nat.le_trans (Nat.div_le_self _ _) ?_
  have := hW.1
  omega
theorem pts_le {s : GSt} (hW : GW s) (w : Nat → Nat) (n a : Nat) : pts s w n a ≤ n * 510 := by
  refine sN_le (fun k _ => ?_)
  have h1 := rar_le hW (w k)
  have h2 : min 3 (tm s a (w k)) ≤ 3 := Nat.min_le_left _ _
  calc min 3 (tm s a (w k)) * rar s (w k) ≤ 3 * 170 := Nat.mul_le_mul h2 h1
    _ = 510 := by omega
end
section
theorem dp_zz : True := trivial
end
