/-! two books alike but for the row -/
def pq (U T : MT) : Prop := ∀ r i, (r ≤ 2 ∨ 13 ≤ r) → ¬ (r = 0 ∧ i = 7) → U r i = T r i
theorem pq.f {U T : MT} (h : pq U T) {r : Nat} (h1 : r = 1 ∨ r = 2 ∨ 13 ≤ r) : U r = T r := funext fun i => h r i (by omega) (by omega)
theorem pq.z {U T : MT} (h : pq U T) {i : Nat} (h1 : i ≠ 7) : U 0 i = T 0 i := h 0 i (by omega) (by omega)
theorem pq.rf (T : MT) : pq T T := fun _ _ _ _ => rfl
theorem pq.sy {U T : MT} (h : pq U T) : pq T U := fun r i h1 h2 => (h r i h1 h2).symm
theorem pq.tr {U V T : MT} (h : pq U V) (g : pq V T) : pq U T := fun r i h1 h2 => (h r i h1 h2).trans (g r i h1 h2)
theorem gh.pq {V U : MT} (h : gh V U) : pq V U := fun r i h1 _ => h r i (by omega)
theorem pq.mst {U T : MT} (h : pq U T) (r i : Nat) (v : Int) : pq (mst U r i v) (mst T r i v) := fun r' i' h1 h2 => by
  unfold _root_.Jvm.Pilot.@@N@@.mst
  by_cases q : r' = r ∧ i' = i
  · rw [if_pos q, if_pos q]
  · rw [if_neg q, if_neg q]; exact h r' i' h1 h2
theorem pq.fsp {U T : MT} (h : pq U T) (a : Int) : fsp U a = fsp T a := by
  unfold _root_.Jvm.Pilot.@@N@@.fsp mkd
  rw [h.f (r := 1) (by omega)]
theorem pq.cnt {U T : MT} (h : pq U T) (x B S : Int) (j : Nat) : cntC U x B S j = cntC T x B S j := by
  rw [cntC_eq, cntC_eq, h.f (r := 1) (by omega), h.f (r := 14) (by omega), h.f (r := 15) (by omega), h.f (r := 16) (by omega)]
theorem pq.ch {U T : MT} (h : pq U T) (x a : Int) (j : Nat) : chC U x a j = chC T x a j := by
  rw [chC_eq, chC_eq, h.f (r := 1) (by omega), h.f (r := 14) (by omega), h.f (r := 15) (by omega), h.f (r := 16) (by omega)]
theorem pq.room {U T : MT} (h : pq U T) (x a : Int) : roomC U x a = roomC T x a := by
  rw [roomC_eq, roomC_eq, h.f (r := 1) (by omega), h.f (r := 14) (by omega), h.f (r := 15) (by omega), h.f (r := 16) (by omega)]
theorem pq.lii {U T : MT} (h : pq U T) (x : Int) : liiC U x = liiC T x := by
  unfold liiC
  rw [h.cnt, h.f (r := 2) (by omega), h.f (r := 15) (by omega), h.f (r := 16) (by omega), h.z (i := 4) (by decide)]
theorem pq.cb {U T : MT} (h : pq U T) (x S : Int) (lst : Bool) (n : Nat) : cbI U x S lst n = cbI T x S lst n := by
  induction n with
  | zero => show (_, _, _) = (_, _, _); rw [h.f (r := 15) (by omega)]
  | succ n ih =>
    show cbS U x S lst (cbI U x S lst n) = cbS T x S lst (cbI T x S lst n)
    rw [ih]
    unfold cbS
    rw [h.ch, h.room, h.f (r := 15) (by omega), h.f (r := 16) (by omega)]
theorem pq.chB {U T : MT} (h : pq U T) (x S : Int) (lst : Bool) : chB U x S lst = chB T x S lst := by
  rw [chB_eq, chB_eq, h.cb]
theorem pq.cv {U T : MT} (h : pq U T) (x S w : Int) : cvB U x S w = cvB T x S w := by
  unfold cvB
  rw [h.chB, h.room]
theorem pq.lw {U T : MT} (h : pq U T) (x : Int) : lwC U x = lwC T x := by
  rw [lwC_eq, lwC_eq, h.f (r := 2) (by omega), h.f (r := 15) (by omega), h.f (r := 16) (by omega)]
theorem pq.ps {U T : MT} (h : pq U T) (D : Int) (n : Nat) : psN U D n = psN T D n := by
  induction n with
  | zero => rfl
  | succ n ih =>
    show _ + ite _ _ _ = _ + ite _ _ _
    rw [ih, h.f (r := 2) (by omega)]
theorem pq.pas {U T : MT} (h : pq U T) (D : Int) (n : Nat) : pq (pasT U D n) (pasT T D n) := fun r i h1 h2 => by
  unfold pasT
  rw [h.f (r := 2) (by omega), h r i h1 h2]
theorem pq.mk {U T : MT} (h : pq U T) (n : Nat) (a B S o : Int) : pq (mkT U n a B S o) (mkT T n a B S o) := fun r i h1 h2 => by
  unfold mkT
  rw [h.z (i := 2) (by decide), h r i h1 h2]
theorem pq.out {U T : MT} (h : pq U T) (x : Int) : outC U x = outC T x := by
  unfold outC
  rw [h.f (r := 1) (by omega), h.f (r := 14) (by omega), h.f (r := 16) (by omega)]
def sC (c1 c2 : Cmd) : Prop := c1.1 = c2.1 ∧ c1.2.1 = c2.2.1 ∧ pq c1.2.2 c2.2.2
theorem act_pq {U T : MT} (h : pq U T) (x : Int32) : sC (actC x U) (actC x T) := by
  have g1 := h.f (r := 1) (by omega)
  have g2 := h.f (r := 2) (by omega)
  have g14 := h.f (r := 14) (by omega)
  have g15 := h.f (r := 15) (by omega)
  have g16 := h.f (r := 16) (by omega)
  have g17 := h.f (r := 17) (by omega)
  have z2 := h.z (i := 2) (by decide)
  have z4 := h.z (i := 4) (by decide)
  have z5 := h.z (i := 5) (by decide)
  have gg : ∀ a, grB U a = grB T a := fun a => by unfold grB; rw [g15, g16]
  unfold actC
  split
  · refine ⟨?_, z2, ?_⟩
    · show exCv U _ _ _ _ = exCv T _ _ _ _
      unfold exCv
      rw [h.fsp, h.lii, h.chB, z2, g16]
    · show pq (mkT U _ _ _ _ _) (mkT T _ _ _ _ _)
      rw [h.cv, z2]
      exact h.mk _ _ _ _ _
  split
  · refine ⟨?_, z2, ?_⟩
    · show exCa U _ _ _ _ = exCa T _ _ _ _
      unfold exCa
      rw [h.fsp, h.lii, h.cnt, z2, g15, g16]
    · show pq (mkT U _ _ _ _ _) (mkT T _ _ _ _ _)
      rw [z2]
      exact h.mk _ _ _ _ _
  split
  · refine ⟨?_, ?_, (h.mst _ _ _).mst _ _ _⟩
    · show exR U _ = exR T _
      unfold exR
      rw [h.fsp, h.cnt, g14, g15, g16, g2]
    · show U 16 _ = T 16 _
      rw [g16]
  split
  · refine ⟨?_, gg _, ?_⟩
    · show exG U _ = exG T _
      unfold exG
      rw [h.fsp, h.cnt, gg, g14, g16]
    · show pq (mst (mst (mst U _ _ _) _ _ _) _ _ _) (mst (mst (mst T _ _ _) _ _ _) _ _ _)
      rw [gg, g16]
      exact ((h.mst _ _ _).mst _ _ _).mst _ _ _
  split
  · refine ⟨?_, ?_, ?_⟩
    · show exH U _ = exH T _
      unfold exH
      rw [h.fsp, h.cnt, g14, g15, g16, g2]
    · show U 16 _ / 2 = T 16 _ / 2
      rw [g16]
    · show pq (mst (mst U _ _ _) _ _ _) (mst (mst T _ _ _) _ _ _)
      rw [g16]
      exact (h.mst _ _ _).mst _ _ _
  split
  · refine ⟨?_, ?_, h.mst _ _ _⟩
    · show exS U _ _ = exS T _ _
      unfold exS
      rw [h.fsp]
    · show U 17 _ = T 17 _
      rw [g17]
  split
  · refine ⟨?_, h.lw _, ?_⟩
    · show exL U _ _ = exL T _ _
      unfold exL
      rw [h.fsp, h.cnt, h.lw, z4, g15, g16]
    · show pq (mst (mst U _ _ _) _ _ _) (mst (mst T _ _ _) _ _ _)
      rw [h.lw, z4, z5]
      exact (h.mst _ _ _).mst _ _ _
  split
  · refine ⟨?_, ?_, ?_⟩
    · show exT U _ = exT T _
      unfold exT
      rw [g2]
    · show (if U 2 _ = -1 then 0 else U 2 _ - U 0 5) = (if T 2 _ = -1 then 0 else T 2 _ - T 0 5)
      rw [g2, z5]
    · show pq (mst (mst U _ _ _) _ _ _) (mst (mst T _ _ _) _ _ _)
      rw [z4]
      exact (h.mst _ _ _).mst _ _ _
  · refine ⟨?_, ?_, ?_⟩
    · show exP U _ = exP T _
      unfold exP
      rw [z5]
    · show psN U _ _ = psN T _ _
      rw [h.ps, z5]
    · show pq (mst (mst (pasT U _ _) _ _ _) _ _ _) (mst (mst (pasT T _ _) _ _ _) _ _ _)
      rw [h.ps, z4, z5]
      exact ((h.pas _ _).mst _ _ _).mst _ _ _
theorem lyR_pq {T : MT} : pq (lyR T) T := fun r i h1 h2 => lyR_r (by omega) h2
