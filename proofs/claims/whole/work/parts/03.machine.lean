/-! THE ABSTRACT MACHINE: a heap of cells by number, locals, a stack; xG says that the real machine goes on well from there -/
/-- all words, those that every later state keeps -/
def xBW : List Cond := lw_tbl.filter goodWord
theorem xBW_good : ∀ w ∈ xBW, goodWord w = true := fun w h => (List.mem_filter.mp h).2
theorem xBW_tbl : ∀ w ∈ xBW, w ∈ lw_tbl := fun w h => (List.mem_filter.mp h).1
/-- a value, its cell number moved by the base; retAddr stands for a cell outside -/
def xv (b : Nat) : Value → Value
  | .ref a => .ref (b + a)
  | .retAddr a => .ref a
  | v => v
abbrev XC : Type := (Nat × List Value) ⊕ (Nat × List Int32) ⊕ (List (Option Nat))
abbrev XH : Type := List XC
abbrev XE : Type := List (Option Value)
abbrev xCl : List vw_C := [(RX0, TX0, 2), (RX1, TX1, 4), (RX2, TX2, 1), (RX3, TX3, 1), (RX4, TX4, 10), (RX5, TX5, 3), (RX6, TX6, 7), (RX7, TX7, 2), (RX8, TX8, 6), (RX9, TX9, 11), (RX10, TX10, 28)]
abbrev xTy (cI : Nat → ClassId) : List (ClassId × FieldType) := [(cI 0, .int), (cI 1, .char), (cI 2, .object RX6)]
def xE (b : Nat) (cI : Nat → ClassId) : XC → va_E
  | .inl (c, fs) => .inr (c, fs.map (xv b))
  | .inr (.inl (t, xs)) => .inl (cI t, xs.length, .inl (fun j => xs.getD j 0))
  | .inr (.inr rs) => .inl (cI 2, rs.length, .inr (.inr (.inr (.inr (fun j => (rs.getD j none).map (fun a => b + a))))))
def xAg (b : Nat) (D : va_G) (cI : Nat → ClassId) (h : XH) (H : Heap) : Prop := H.size = b + h.length ∧ ∀ (a : Nat) (c : XC), h[a]? = some c → va_at D xCl (b + a, xE b cI c) H
def xSz : XC → Nat
  | .inl (_, fs) => fs.length
  | .inr (.inl (_, xs)) => xs.length
  | .inr (.inr rs) => rs.length
def xsl (h : XH) : Nat := (h.map xSz).sum
def xRel (b n : Nat) (env : XE) (ls : Array Slot) : Prop := env.length = n ∧ ls.size = n ∧ lv_wf ls ∧ ∀ (i : Nat) (v : Value), env[i]? = some (some v) → ls[i]? = some (.val (xv b v))
/-- the cell in which the tables' field k of class ci is -/
theorem xCl_ok : ∀ (ci : Nat) (r : vw_C), xCl[ci]? = some r → (∀ w ∈ u_ws r.1 r.2.1 r.2.2, w ∈ xBW) ∧ (∃ ty0 : Nat → FieldType, ∀ k, k < r.2.2 → parseFieldDescriptor (r.2.1 k).2.2.1 = some (ty0 k)) ∧ (∀ a, a < r.2.2 → ∀ b, b < r.2.2 → a ≠ b → (r.2.1 a).2.1 ≠ (r.2.1 b).2.1) := by
  intro ci r h
  match ci, h with
  | 0, h => cases h; exact ⟨by decide +kernel, ⟨_, tyX0_ok⟩, nmX0⟩
  | 1, h => cases h; exact ⟨by decide +kernel, ⟨_, tyX1_ok⟩, nmX1⟩
  | 2, h => cases h; exact ⟨by decide +kernel, ⟨_, tyX2_ok⟩, nmX2⟩
  | 3, h => cases h; exact ⟨by decide +kernel, ⟨_, tyX3_ok⟩, nmX3⟩
  | 4, h => cases h; exact ⟨by decide +kernel, ⟨_, tyX4_ok⟩, nmX4⟩
  | 5, h => cases h; exact ⟨by decide +kernel, ⟨_, tyX5_ok⟩, nmX5⟩
  | 6, h => cases h; exact ⟨by decide +kernel, ⟨_, tyX6_ok⟩, nmX6⟩
  | 7, h => cases h; exact ⟨by decide +kernel, ⟨_, tyX7_ok⟩, nmX7⟩
  | 8, h => cases h; exact ⟨by decide +kernel, ⟨_, tyX8_ok⟩, nmX8⟩
  | 9, h => cases h; exact ⟨by decide +kernel, ⟨_, tyX9_ok⟩, nmX9⟩
  | 10, h => cases h; exact ⟨by decide +kernel, ⟨_, tyX10_ok⟩, nmX10⟩
  | k + 11, h => simp [xCl] at h
/-! what else every state keeps: the links to nest mates' constructors, the class of rows of states, the one String constant and what its length and its letters rest on -/
def xNest : List Cond := lw_tbl.filter (fun w => match w with | .methodLinkNest _ _ _ _ => true | _ => false)
def xTx : String := "f6;s0,0,1;s1,1,2;s0,2,3;s2,3,0;s1,1,4;s3,4,5;s0,5,2;w0,0,3;w1,2,4;w2,4,2;w3,5,5;l30;"
def xByt : List Int32 := [102, 54, 59, 115, 48, 44, 48, 44, 49, 59, 115, 49, 44, 49, 44, 50, 59, 115, 48, 44, 50, 44, 51, 59, 115, 50, 44, 51, 44, 48, 59, 115, 49, 44, 49, 44, 52, 59, 115, 51, 44, 52, 44, 53, 59, 115, 48, 44, 53, 44, 50, 59, 119, 48, 44, 48, 44, 51, 59, 119, 49, 44, 50, 44, 52, 59, 119, 50, 44, 52, 44, 50, 59, 119, 51, 44, 53, 44, 53, 59, 108, 51, 48, 59]
theorem xByt_len : xByt.length = 84 := by decide +kernel
def xSt (b sa sv : Nat) (U : State) (H : Heap) : Prop := vk_S 1 [84] [xByt] (fun _ => sa) (fun _ => sv) (fun q => b ≤ q) U H ∧ va_Z "java/lang/String" "COMPACT_STRINGS" "Z" (.int 1) (fun q => b ≤ q) U H ∧ va_Zq "jdk/internal/util/Preconditions" "SIOOBE_FORMATTER" "Ljava/util/function/BiFunction;" (fun q => b ≤ q) U H
theorem xSt.same {b sa sv : Nat} {u U : State} {H : Heap} (hv : U.vm = u.vm) (h : xSt b sa sv u H) : xSt b sa sv U H := by
  have ha : u.vm.Alike U.vm := by rw [hv]; exact Vm.Alike.refl u.vm
  exact ⟨h.1.moved ha, h.2.1.moved ha, h.2.2.moved ha⟩
theorem xSt.warm {b sa sv : Nat} {s U : State} {H : Heap} (hW : s.WarmedH U.vm) (h : xSt b sa sv s H) : xSt b sa sv U H := ⟨h.1.moved hW.alike, h.2.1.moved hW.alike, h.2.2.moved hW.alike⟩
theorem xSt.kept {b sa sv : Nat} {U : State} {H H1 : Heap} (h : xSt b sa sv U H) (hq : ∀ q : Nat, q < b → H1[q]? = H[q]?) : xSt b sa sv U H1 :=
  ⟨h.1.kept (fun a _ z => hq a (Nat.not_le.mp z)), h.2.1.kept (fun a _ z => hq a (Nat.not_le.mp z)), h.2.2.kept (fun a _ z => hq a (Nat.not_le.mp z))⟩
def xStr (b : Nat) (U : State) (H : Heap) : Prop := ∃ sa sv : Nat, vk_R RX9 274 xTx sa U ∧ xSt b sa sv U H
def xEx (b : Nat) (U : State) (H : Heap) : Prop := (∀ w ∈ xNest, va_Nw w U) ∧ va_AO RX6 U ∧ xStr b U H
theorem xNest_of {w : Cond} (h : w ∈ xNest) : ∃ (a : String) (i : Nat) (x : MethodName) (q : String), w = .methodLinkNest a i x q := by
  have h2 := (List.mem_filter.mp h).2
  cases w <;> first | exact ⟨_, _, _, _, rfl⟩ | (simp at h2)
theorem xEx.same {b : Nat} {u U : State} {H : Heap} (hv : U.vm = u.vm) (h : xEx b u H) : xEx b U H := by
  have ha : u.vm.Alike U.vm := by rw [hv]; exact Vm.Alike.refl u.vm
  obtain ⟨h1, h2, sa, sv, h3, h4⟩ := h
  refine ⟨fun w hw => ?_, h2.moved ha, sa, sv, h3.same hv, h4.same hv⟩
  obtain ⟨a, i, x, q, rfl⟩ := xNest_of hw
  exact va_Nw.same rfl hv.symm (h1 _ hw)
theorem xEx.warm {b : Nat} {s U : State} {H : Heap} (hW : s.WarmedH U.vm) (h : xEx b s H) : xEx b U H := by
  obtain ⟨h1, h2, sa, sv, h3, h4⟩ := h
  refine ⟨fun w hw => ?_, h2.moved hW.alike, sa, sv, h3.warm hW, h4.warm hW⟩
  obtain ⟨a, i, x, q, rfl⟩ := xNest_of hw
  exact va_Nw.warmM hW (h1 _ hw)
theorem xEx.kept {b : Nat} {U : State} {H H1 : Heap} (h : xEx b U H) (hq : ∀ q : Nat, q < b → H1[q]? = H[q]?) : xEx b U H1 := by
  obtain ⟨h1, h2, sa, sv, h3, h4⟩ := h
  exact ⟨h1, h2, sa, sv, h3, h4.kept hq⟩
