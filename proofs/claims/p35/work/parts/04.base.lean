abbrev vwCl : List vw_C := [(RJ0, TJ0, 2), (RJx00060, TJx00060, 6), (RJx4a65c, TJx4a65c, 3), (RX0, TX0, 9), (RX1, TX1, 4), (RX2, TX2, 5), (RX3, TX3, 8), (RX4, TX4, 4), (RX5, TX5, 4), (RX6, TX6, 3), (RX7, TX7, 7)]
/-! the state of the store in words of numbers: rows of numbers by a row's number and a place; and the addresses of its cells by kind and place -/
abbrev QSt : Type := Nat → Nat → Nat
abbrev QG : Type := va_G × (Nat → ClassId)
def qup (f : QSt) (k j v : Nat) : QSt := fun a b => if a = k ∧ b = j then v else f a b
theorem qup_s (f : QSt) (k j v : Nat) : qup f k j v k j = v := by simp [qup]
theorem qup_k {f : QSt} {k j v a b : Nat} (h : a ≠ k) : qup f k j v a b = f a b := by simp [qup, h]
theorem qup_j {f : QSt} {k j v a b : Nat} (h : b ≠ j) : qup f k j v a b = f a b := by simp [qup, h]
abbrev qtys (G : QG) : List (ClassId × FieldType) := [(G.2 0, .object "java/lang/Object"), (G.2 1, .int), (G.2 2, .long), (G.2 3, .boolean)]
/-- words of the tables that the walk carries along -/
def qwords : List Cond := [.methodLinkNest "LogWeave" 345 ⟨"LogWeave$Alert", "counts", "(LLogWeave$Line;I)Z"⟩ "LogWeave",
  .methodLinkNest "LogWeave$Alert" 35 ⟨"LogWeave$Line", "cameWithin", "(II)Z"⟩ "LogWeave",
  .methodLinkNest "LogWeave$Alert" 39 ⟨"LogWeave$Filter", "takes", "(LLogWeave$Line;)Z"⟩ "LogWeave",
  .methodLinkNest "LogWeave$Filter" 34 ⟨"LogWeave$Words", "at", "(I)I"⟩ "LogWeave",
  .methodLinkNest "LogWeave" 239 ⟨"LogWeave$Firing", "hasLine", "(I)Z"⟩ "LogWeave",
  .methodLinkNest "LogWeave" 313 ⟨"LogWeave$Pattern", "suits", "(ILLogWeave$Words;)Z"⟩ "LogWeave",
  .methodLinkNest "LogWeave$Pattern" 22 ⟨"LogWeave$Words", "at", "(I)I"⟩ "LogWeave",
  .castable "java/lang/IllegalArgumentException" "java/lang/IllegalArgumentException",
  .declares ⟨"java/lang/RuntimeException", "<init>", "()V"⟩,
  .declares ⟨"java/lang/RuntimeException", "<init>", "(Ljava/lang/String;)V"⟩,
  .declares ⟨"java/lang/Exception", "<init>", "()V"⟩,
  .declares ⟨"java/lang/Exception", "<init>", "(Ljava/lang/String;)V"⟩,
  .declares ⟨"java/lang/Throwable", "<init>", "()V"⟩,
  .declares ⟨"java/lang/Throwable", "<init>", "(Ljava/lang/String;)V"⟩,
  .castable "java/lang/IllegalStateException" "java/lang/IllegalStateException",
  .methodLinkNest "LogWeave" 64 ⟨"LogWeave$Words", "<init>", "(III)V"⟩ "LogWeave",
  .fieldLinkNest "LogWeave" 317 "LogWeave$Words" "first" "I" "LogWeave",
  .fieldLinkNest "LogWeave" 320 "LogWeave$Words" "second" "I" "LogWeave",
  .fieldLinkNest "LogWeave" 323 "LogWeave$Words" "third" "I" "LogWeave",
  .methodLinkNest "LogWeave" 326 ⟨"LogWeave$Pattern", "<init>", "(IILLogWeave$Words;)V"⟩ "LogWeave",
  .fieldLinkNest "LogWeave" 111 "LogWeave$Pattern" "number" "I" "LogWeave",
  .fieldLinkNest "LogWeave" 124 "LogWeave$Pattern" "source" "I" "LogWeave",
  .fieldLinkNest "LogWeave" 138 "LogWeave$Pattern" "words" "LLogWeave$Words;" "LogWeave",
  .fieldLinkNest "LogWeave" 127 "LogWeave$Pattern" "merged" "Z" "LogWeave",
  .methodLinkNest "LogWeave" 80 ⟨"LogWeave$Line", "<init>", "(IILLogWeave$Words;IILLogWeave$Pattern;)V"⟩ "LogWeave",
  .fieldLinkNest "LogWeave$Filter" 24 "LogWeave$Line" "source" "I" "LogWeave",
  .fieldLinkNest "LogWeave" 157 "LogWeave$Line" "source" "I" "LogWeave",
  .fieldLinkNest "LogWeave$Filter" 27 "LogWeave$Line" "rank" "I" "LogWeave",
  .fieldLinkNest "LogWeave" 281 "LogWeave$Line" "rank" "I" "LogWeave",
  .fieldLinkNest "LogWeave$Filter" 30 "LogWeave$Line" "words" "LLogWeave$Words;" "LogWeave",
  .fieldLinkNest "LogWeave" 145 "LogWeave$Line" "words" "LLogWeave$Words;" "LogWeave",
  .fieldLinkNest "LogWeave" 273 "LogWeave$Line" "bytes" "I" "LogWeave",
  .fieldLinkNest "LogWeave" 386 "LogWeave$Line" "came" "I" "LogWeave",
  .fieldLinkNest "LogWeave" 107 "LogWeave$Line" "pattern" "LLogWeave$Pattern;" "LogWeave",
  .fieldLinkNest "LogWeave$Alert" 32 "LogWeave$Line" "state" "C" "LogWeave",
  .fieldLinkNest "LogWeave" 103 "LogWeave$Line" "state" "C" "LogWeave",
  .fieldLinkNest "LogWeave" 263 "LogWeave$Line" "guards" "I" "LogWeave",
  .methodLinkNest "LogWeave" 337 ⟨"LogWeave$Words", "differences", "(LLogWeave$Words;)I"⟩ "LogWeave",
  .methodLinkNest "LogWeave" 142 ⟨"LogWeave$Words", "at", "(I)I"⟩ "LogWeave",
  .methodLinkNest "LogWeave" 341 ⟨"LogWeave$Words", "put", "(II)V"⟩ "LogWeave",
  .methodLinkNest "LogWeave" 352 ⟨"LogWeave$Firing", "<init>", "(LLogWeave$Alert;I)V"⟩ "LogWeave",
  .fieldLinkNest "LogWeave" 227 "LogWeave$Firing" "alert" "LLogWeave$Alert;" "LogWeave",
  .fieldLinkNest "LogWeave" 234 "LogWeave$Firing" "began" "I" "LogWeave",
  .fieldLinkNest "LogWeave" 242 "LogWeave$Firing" "released" "Z" "LogWeave",
  .fieldLinkNest "LogWeave" 237 "LogWeave$Firing" "size" "I" "LogWeave",
  .methodLinkNest "LogWeave" 364 ⟨"LogWeave$Line", "cameWithin", "(II)Z"⟩ "LogWeave",
  .methodLinkNest "LogWeave" 368 ⟨"LogWeave$Firing", "putLine", "(I)V"⟩ "LogWeave",
  .castable "java/util/NoSuchElementException" "java/util/NoSuchElementException",
  .methodLinkNest "LogWeave" 166 ⟨"LogWeave$Filter", "<init>", "(IIII)V"⟩ "LogWeave",
  .methodLinkNest "LogWeave" 393 ⟨"LogWeave$Filter", "takes", "(LLogWeave$Line;)Z"⟩ "LogWeave",
  .methodLinkNest "LogWeave" 175 ⟨"LogWeave$Request", "<init>", "(LLogWeave$Filter;I)V"⟩ "LogWeave",
  .fieldLinkNest "LogWeave" 400 "LogWeave$Request" "filter" "LLogWeave$Filter;" "LogWeave",
  .fieldLinkNest "LogWeave" 397 "LogWeave$Request" "due" "I" "LogWeave",
  .fieldLinkNest "LogWeave" 183 "LogWeave$Request" "answered" "Z" "LogWeave",
  .fieldLinkNest "LogWeave" 188 "LogWeave$Request" "lines" "I" "LogWeave",
  .methodLinkNest "LogWeave" 197 ⟨"LogWeave$Alert", "<init>", "(ILLogWeave$Filter;III)V"⟩ "LogWeave",
  .fieldLinkNest "LogWeave" 233 "LogWeave$Alert" "number" "I" "LogWeave",
  .fieldLinkNest "LogWeave" 389 "LogWeave$Alert" "filter" "LLogWeave$Filter;" "LogWeave",
  .fieldLinkNest "LogWeave" 349 "LogWeave$Alert" "goal" "I" "LogWeave",
  .fieldLinkNest "LogWeave" 361 "LogWeave$Alert" "window" "I" "LogWeave",
  .fieldLinkNest "LogWeave" 358 "LogWeave$Alert" "hold" "I" "LogWeave",
  .fieldLinkNest "LogWeave" 212 "LogWeave$Alert" "state" "C" "LogWeave",
  .fieldLinkNest "LogWeave" 213 "LogWeave$Alert" "count" "I" "LogWeave",
  .fieldLinkNest "LogWeave" 220 "LogWeave$Alert" "heldTicks" "I" "LogWeave",
  .fieldLinkNest "LogWeave" 247 "LogWeave$Alert" "firing" "LLogWeave$Firing;" "LogWeave",
  .castable "java/lang/ArrayIndexOutOfBoundsException" "java/lang/ArrayIndexOutOfBoundsException",
  .declares ⟨"java/lang/IndexOutOfBoundsException", "<init>", "()V"⟩,
  .declares ⟨"java/lang/IndexOutOfBoundsException", "<init>", "(Ljava/lang/String;)V"⟩,
  .castable "java/lang/IndexOutOfBoundsException" "java/lang/IndexOutOfBoundsException",
  .castable "java/lang/UnsupportedOperationException" "java/lang/UnsupportedOperationException",
  .methodLinkNest "LogWeave" 371 ⟨"LogWeave$Firing", "clearLines", "()V"⟩ "LogWeave",
  .methodLinkNest "LogWeave" 380 ⟨"LogWeave$Alert", "shortenHold", "()V"⟩ "LogWeave",
  .castable "java/lang/ArithmeticException" "java/lang/ArithmeticException",
  .castable "java/lang/ArrayIndexOutOfBoundsException" "java/lang/IndexOutOfBoundsException",
  .castable "LogWeave" "java/lang/Object",
  .castable "java/util/ArrayList" "java/lang/Object",
  .castable "LogWeave" "java/lang/Object",
  .castable "java/lang/IllegalArgumentException" "java/lang/Object",
  .castable "java/lang/IllegalStateException" "java/lang/Object",
  .castable "LogWeave$Words" "java/lang/Object",
  .castable "LogWeave$Pattern" "java/lang/Object",
  .castable "LogWeave$Line" "java/lang/Object",
  .castable "LogWeave$Firing" "java/lang/Object",
  .castable "java/util/NoSuchElementException" "java/lang/Object",
  .castable "LogWeave$Filter" "java/lang/Object",
  .castable "LogWeave$Request" "java/lang/Object",
  .castable "LogWeave$Alert" "java/lang/Object",
  .castable "java/lang/ArrayIndexOutOfBoundsException" "java/lang/Object",
  .castable "java/lang/IndexOutOfBoundsException" "java/lang/Object",
  .castable "java/lang/UnsupportedOperationException" "java/lang/Object",
  .castable "java/lang/ArithmeticException" "java/lang/Object",
  .castable "java/lang/Throwable" "java/lang/Object",
  .castable "java/lang/String" "java/lang/Object",
  .declares ⟨"java/lang/Object", "getClass", "()Ljava/lang/Class;"⟩,
  .castable "[I" "java/lang/Object",
  .castable "[B" "java/lang/Object",
  .castable "[Ljava/lang/Object;" "java/lang/Object",
  .castable "[J" "java/lang/Object",
  .castable "[I" "java/lang/Object",
  .castable "[Z" "java/lang/Object",
  .castable "[I" "java/lang/Object"]
def qok (w : Cond) : Bool := match w with
  | .fieldLinkNest _ _ _ _ _ _ => true
  | .methodLinkNest _ _ _ _ => true
  | .castable _ _ => true
  | .declares _ => true
  | _ => false
theorem qok_words : ∀ w ∈ qwords, qok w = true := by decide +kernel
theorem qwarm {w : Cond} {s U : State} (h : qok w = true) (hW : s.WarmedH U.vm) (hZ : va_Nw w s) : va_Nw w U := by
  cases w <;> first
    | exact va_Nw.warmF hW hZ
    | exact va_Nw.warmM hW hZ
    | exact va_Nw.warmC hW hZ
    | exact va_Nw.warmD hW hZ
    | (simp [qok] at h; done)
theorem qok_tab {w : Cond} (h : qok w = true) : w.onTables = true := by
  cases w <;> first
    | rfl
    | (simp [qok] at h; done)
/-- what the tables say: the kinds of cells, and the words above -/
def qCX (G : QG) (U : State) : Prop := va_K G.1 vwCl (qtys G) U ∧ (∀ w ∈ qwords, va_Nw w U) ∧ va_AO "java/lang/Object" U ∧ (∃ mi : Nat, va_Mi "[Ljava/lang/Object;" mi U)
theorem qCX.K {G : QG} {U : State} (h : qCX G U) : va_K G.1 vwCl (qtys G) U := h.1
theorem qCX.N {G : QG} {U : State} (h : qCX G U) (w : Cond) (hw : w ∈ qwords) : va_Nw w U := h.2.1 w hw
theorem qCX.warm {G : QG} {s U : State} (hW : s.WarmedH U.vm) (h : qCX G s) : qCX G U :=
  ⟨va_K.moved hW.alike h.1, fun w hw => qwarm (qok_words w hw) hW (h.2.1 w hw), va_AO.moved hW.alike h.2.2.1, h.2.2.2.elim fun mi hm => ⟨mi, va_Mi.moved hW.alike hm⟩⟩
theorem qCX.blind {G : QG} {U : State} {g : JFrame} {mk : MethodId} {a : Array Value} (h : qCX G U) : qCX G (U.calling g mk a) :=
  ⟨va_K.moved (u := U) (U := U.calling g mk a) (Vm.Alike.refl U.vm) h.1, fun w hw => va_Nw.same (u := U) (U := U.calling g mk a) (qok_tab (qok_words w hw)) rfl (h.2.1 w hw), va_AO.moved (u := U) (U := U.calling g mk a) (Vm.Alike.refl U.vm) h.2.2.1, h.2.2.2.elim fun mi hm => ⟨mi, va_Mi.moved (u := U) (U := U.calling g mk a) (Vm.Alike.refl U.vm) hm⟩⟩
/-- the statics that the walk meets -/
def qSZ (es : Nat) (A : Nat → Prop) (U : State) (H : Heap) : Prop := va_Z "java/util/ArrayList" "DEFAULTCAPACITY_EMPTY_ELEMENTDATA" "[Ljava/lang/Object;" (.ref es) A U H ∧ va_T (.object "java/lang/Object") es 0 (fun _ => .null) A U H ∧ vx_Zq Bundle.tN "UNASSIGNED_STACK" Bundle.steD A U H ∧ vx_Zq Bundle.tN "SUPPRESSED_SENTINEL" Bundle.listD A U H
theorem qSZ.moved {es : Nat} {A : Nat → Prop} {u U : State} {H : Heap} (hvm : u.vm.Alike U.vm) (h : qSZ es A u H) : qSZ es A U H := ⟨va_Z.moved hvm h.1, va_T.moved hvm h.2.1, vx_Zq.moved hvm h.2.2.1, vx_Zq.moved hvm h.2.2.2⟩
theorem qSZ.kept {es : Nat} {A : Nat → Prop} {U : State} {H H1 : Heap} (h : qSZ es A U H) (hq : ∀ a : Nat, a < H.size → ¬ A a → H1[a]? = H[a]?) : qSZ es A U H1 := ⟨va_Z.kept h.1 hq, va_T.kept h.2.1 hq, vx_Zq.kept h.2.2.1 hq, vx_Zq.kept h.2.2.2 hq⟩
theorem qSZ.narrow {es : Nat} {A B : Nat → Prop} {U : State} {H : Heap} (h : qSZ es A U H) (hAB : ∀ q, B q → A q) : qSZ es B U H := ⟨va_Z.narrow h.1 hAB, va_T.narrow h.2.1 hAB, vx_Zq.narrow h.2.2.1 hAB, vx_Zq.narrow h.2.2.2 hAB⟩
theorem qSZ.blind {es : Nat} {A : Nat → Prop} {U : State} {H : Heap} {g : JFrame} {mk : MethodId} {a : Array Value} (h : qSZ es A U H) : qSZ es A (U.calling g mk a) H := qSZ.moved (u := U) (U := U.calling g mk a) (Vm.Alike.refl U.vm) h
/-- the bits of a row of marks, k to a word -/
def qbv (f : Nat → Nat) (o : Nat) : Nat → BitVec 64
  | 0 => 0#64
  | n + 1 => if f (o + n) = 1 then qbv f o n ||| BitVec.twoPow 64 n else qbv f o n
def qbits (f : Nat → Nat) (k w : Nat) : Int64 := ⟨⟨qbv f (k * w) k⟩⟩
/-- the cells of the store, by kind and place -/
def qLV (G : QG) (es : Nat) (σ ad : QSt) (k j : Nat) : Option va_E :=
  match k with
  | 0 => if j = 0 then some (.inr (10, [.ref (ad 1 0), .ref (ad 1 1), .ref (ad 1 2), .ref (ad 1 3), .ref (ad 1 4), .ref (ad 3 0), .int (nI (σ 1 0))])) else none
  | 1 => if j < 5 then some (.inr (2, [.int (nI (σ 16 j)), .ref (if σ 32 j = 0 then es else ad 2 j), .int (nI (σ 0 j))])) else none
  | 2 => if j < 5 ∧ 0 < σ 32 j then some (.inl (G.2 0, σ 32 j, .inr (.inr (.inr (.inr (fun i => if i < σ 0 j then some (ad (4 + 2 * j) i) else none)))))) else none
  | 3 => if j = 0 then some (.inl (G.2 1, 4, .inl (fun i => nI (σ 48 i)))) else none
  | 4 => if j < σ 0 0 then some (.inr (6, [.int (nI (σ 64 j)), .int (nI (σ 65 j)), .ref (ad 5 j), .int (nI (σ 66 j)), .int (nI (σ 67 j)), .ref (ad 6 (σ 68 j)), .int (nI (σ 69 j)), .int (nI (σ 70 j))])) else none
  | 5 => if j < σ 0 0 then some (.inr (9, [.int (nI (σ 80 j)), .int (nI (σ 81 j)), .int (nI (σ 82 j))])) else none
  | 6 => if j < σ 0 1 then some (.inr (7, [.int (nI j), .int (nI (σ 96 j)), .ref (ad 7 j), .int (nI (σ 97 j))])) else none
  | 7 => if j < σ 0 1 then some (.inr (9, [.int (nI (σ 112 j) - 1), .int (nI (σ 113 j) - 1), .int (nI (σ 114 j) - 1)])) else none
  | 8 => if j < σ 0 2 then some (.inr (3, [.int (nI j), .ref (ad 9 j), .int (nI (σ 128 j)), .int (nI (σ 129 j)), .int (nI (σ 130 j)), .int (nI (σ 131 j)), .int (nI (σ 132 j)), .int (nI (σ 133 j)), (if σ 134 j = 0 then .null else .ref (ad 10 (σ 134 j - 1)))])) else none
  | 9 => if j < σ 0 2 then some (.inr (4, [.int (nI (σ 144 j)), .int (nI (σ 145 j)), .int (nI (σ 146 j) - 1), .int (nI (σ 147 j))])) else none
  | 10 => if j < σ 0 3 then some (.inr (5, [.ref (ad 8 (σ 160 j)), .int (nI (σ 161 j)), .int (nI (σ 162 j)), .int (nI (σ 163 j)), .ref (ad 11 j)])) else none
  | 11 => if j < σ 0 3 then some (.inl (G.2 2, 4, .inr (.inl (qbits (σ (1000 + j)) 64)))) else none
  | 12 => if j < σ 0 4 then some (.inr (8, [.ref (ad 13 j), .int (nI (σ 192 j)), .int (nI (σ 193 j)), .int (nI (σ 194 j))])) else none
  | 13 => if j < σ 0 4 then some (.inr (4, [.int (nI (σ 208 j)), .int (nI (σ 209 j)), .int (nI 0 - 1), .int (nI 0)])) else none
  | _ => none
theorem qLV0 {G : QG} {es : Nat} {σ ad : QSt} : qLV G es σ ad 0 0 = some (.inr (10, [.ref (ad 1 0), .ref (ad 1 1), .ref (ad 1 2), .ref (ad 1 3), .ref (ad 1 4), .ref (ad 3 0), .int (nI (σ 1 0))])) := rfl
theorem qLV1 {G : QG} {es : Nat} {σ ad : QSt} {j : Nat} (h : j < 5) : qLV G es σ ad 1 j = some (.inr (2, [.int (nI (σ 16 j)), .ref (if σ 32 j = 0 then es else ad 2 j), .int (nI (σ 0 j))])) := if_pos h
theorem qLV2 {G : QG} {es : Nat} {σ ad : QSt} {j : Nat} (h : j < 5) (h0 : 0 < σ 32 j) : qLV G es σ ad 2 j = some (.inl (G.2 0, σ 32 j, .inr (.inr (.inr (.inr (fun i => if i < σ 0 j then some (ad (4 + 2 * j) i) else none)))))) := if_pos ⟨h, h0⟩
theorem qLV3 {G : QG} {es : Nat} {σ ad : QSt} : qLV G es σ ad 3 0 = some (.inl (G.2 1, 4, .inl (fun i => nI (σ 48 i)))) := rfl
theorem qLV4 {G : QG} {es : Nat} {σ ad : QSt} {j : Nat} (h : j < σ 0 0) : qLV G es σ ad 4 j = some (.inr (6, [.int (nI (σ 64 j)), .int (nI (σ 65 j)), .ref (ad 5 j), .int (nI (σ 66 j)), .int (nI (σ 67 j)), .ref (ad 6 (σ 68 j)), .int (nI (σ 69 j)), .int (nI (σ 70 j))])) := if_pos h
theorem qLV5 {G : QG} {es : Nat} {σ ad : QSt} {j : Nat} (h : j < σ 0 0) : qLV G es σ ad 5 j = some (.inr (9, [.int (nI (σ 80 j)), .int (nI (σ 81 j)), .int (nI (σ 82 j))])) := if_pos h
theorem qLV6 {G : QG} {es : Nat} {σ ad : QSt} {j : Nat} (h : j < σ 0 1) : qLV G es σ ad 6 j = some (.inr (7, [.int (nI j), .int (nI (σ 96 j)), .ref (ad 7 j), .int (nI (σ 97 j))])) := if_pos h
theorem qLV7 {G : QG} {es : Nat} {σ ad : QSt} {j : Nat} (h : j < σ 0 1) : qLV G es σ ad 7 j = some (.inr (9, [.int (nI (σ 112 j) - 1), .int (nI (σ 113 j) - 1), .int (nI (σ 114 j) - 1)])) := if_pos h
theorem qLV8 {G : QG} {es : Nat} {σ ad : QSt} {j : Nat} (h : j < σ 0 2) : qLV G es σ ad 8 j = some (.inr (3, [.int (nI j), .ref (ad 9 j), .int (nI (σ 128 j)), .int (nI (σ 129 j)), .int (nI (σ 130 j)), .int (nI (σ 131 j)), .int (nI (σ 132 j)), .int (nI (σ 133 j)), (if σ 134 j = 0 then .null else .ref (ad 10 (σ 134 j - 1)))])) := if_pos h
theorem qLV9 {G : QG} {es : Nat} {σ ad : QSt} {j : Nat} (h : j < σ 0 2) : qLV G es σ ad 9 j = some (.inr (4, [.int (nI (σ 144 j)), .int (nI (σ 145 j)), .int (nI (σ 146 j) - 1), .int (nI (σ 147 j))])) := if_pos h
theorem qLV10 {G : QG} {es : Nat} {σ ad : QSt} {j : Nat} (h : j < σ 0 3) : qLV G es σ ad 10 j = some (.inr (5, [.ref (ad 8 (σ 160 j)), .int (nI (σ 161 j)), .int (nI (σ 162 j)), .int (nI (σ 163 j)), .ref (ad 11 j)])) := if_pos h
theorem qLV11 {G : QG} {es : Nat} {σ ad : QSt} {j : Nat} (h : j < σ 0 3) : qLV G es σ ad 11 j = some (.inl (G.2 2, 4, .inr (.inl (qbits (σ (1000 + j)) 64)))) := if_pos h
theorem qLV12 {G : QG} {es : Nat} {σ ad : QSt} {j : Nat} (h : j < σ 0 4) : qLV G es σ ad 12 j = some (.inr (8, [.ref (ad 13 j), .int (nI (σ 192 j)), .int (nI (σ 193 j)), .int (nI (σ 194 j))])) := if_pos h
theorem qLV13 {G : QG} {es : Nat} {σ ad : QSt} {j : Nat} (h : j < σ 0 4) : qLV G es σ ad 13 j = some (.inr (4, [.int (nI (σ 208 j)), .int (nI (σ 209 j)), .int (nI 0 - 1), .int (nI 0)])) := if_pos h
/-- a world of cells, by kind and place: each lies at its address, in A; the addresses are apart -/
def qPW (D : va_G) (A : Nat → Prop) (V : Nat → Nat → Option va_E) (ad : QSt) (H : Heap) : Prop :=
  (∀ k j e, V k j = some e → va_at D vwCl (ad k j, e) H ∧ A (ad k j)) ∧ (∀ k j k' j' e e', V k j = some e → V k' j' = some e' → ad k j = ad k' j' → k = k' ∧ j = j')
def qLW (G : QG) (es : Nat) (A : Nat → Prop) (σ ad : QSt) (H : Heap) : Prop := qPW G.1 A (qLV G es σ ad) ad H
theorem qPW.to {D : va_G} {A : Nat → Prop} {V : Nat → Nat → Option va_E} {ad : QSt} {H : Heap} (h : qPW D A V ad H) {k j : Nat} {e : va_E} (hv : V k j = some e) : va_at D vwCl (ad k j, e) H := (h.1 k j e hv).1
theorem qLW.to {G : QG} {es : Nat} {A : Nat → Prop} {σ ad : QSt} {H : Heap} (h : qLW G es A σ ad H) {k j : Nat} {e : va_E} (hv : qLV G es σ ad k j = some e) : va_at G.1 vwCl (ad k j, e) H := (h.1 k j e hv).1
theorem qPW.in {D : va_G} {A : Nat → Prop} {V : Nat → Nat → Option va_E} {ad : QSt} {H : Heap} (h : qPW D A V ad H) {k j : Nat} {e : va_E} (hv : V k j = some e) : A (ad k j) := (h.1 k j e hv).2
theorem qLW.in {G : QG} {es : Nat} {A : Nat → Prop} {σ ad : QSt} {H : Heap} (h : qLW G es A σ ad H) {k j : Nat} {e : va_E} (hv : qLV G es σ ad k j = some e) : A (ad k j) := (h.1 k j e hv).2
theorem qPW.weaken {D : va_G} {A B : Nat → Prop} {V : Nat → Nat → Option va_E} {ad : QSt} {H : Heap} (h : qPW D A V ad H) (hAB : ∀ q, A q → B q) : qPW D B V ad H := ⟨fun k j e hv => ⟨(h.1 k j e hv).1, hAB _ (h.1 k j e hv).2⟩, h.2⟩
theorem qPW.kept {D : va_G} {A : Nat → Prop} {V : Nat → Nat → Option va_E} {ad : QSt} {H H1 : Heap} (h : qPW D A V ad H) (hk : ∀ k j e, V k j = some e → H1[ad k j]? = H[ad k j]?) : qPW D A V ad H1 := ⟨fun k j e hv => ⟨(h.1 k j e hv).1.kept (hk k j e hv), (h.1 k j e hv).2⟩, h.2⟩
theorem qPW.put {D : va_G} {A : Nat → Prop} {V V' : Nat → Nat → Option va_E} {ad : QSt} {H H1 : Heap} (h : qPW D A V ad H) {k j : Nat} {e0 e1 : va_E} (hv : V k j = some e0) (he : va_at D vwCl (ad k j, e1) H1) (oq : ∀ q, q ≠ ad k j → H1[q]? = H[q]?) (hs : V' k j = some e1) (ho : ∀ k' j', ¬ (k' = k ∧ j' = j) → V' k' j' = V k' j') : qPW D A V' ad H1 := by
  have key : ∀ k' j' e, V' k' j' = some e → ∃ e', V k' j' = some e' := by
    intro k' j' e hv'
    by_cases c : k' = k ∧ j' = j
    · obtain ⟨rfl, rfl⟩ := c
      exact ⟨_, hv⟩
    · exact ⟨e, by rw [← ho k' j' c]; exact hv'⟩
  refine ⟨fun k' j' e hv' => ?_, fun k1 j1 k2 j2 e e' h1 h2 h3 => ?_⟩
  · by_cases c : k' = k ∧ j' = j
    · obtain ⟨rfl, rfl⟩ := c
      rw [hs] at hv'
      cases hv'
      exact ⟨he, (h.1 _ _ _ hv).2⟩
    · rw [ho k' j' c] at hv'
      refine ⟨(h.1 _ _ _ hv').1.kept (oq _ fun z => c (h.2 _ _ _ _ _ _ hv' hv z)), (h.1 _ _ _ hv').2⟩
  · obtain ⟨x1, g1⟩ := key _ _ _ h1
    obtain ⟨x2, g2⟩ := key _ _ _ h2
    exact h.2 _ _ _ _ _ _ g1 g2 h3
/-- the cells that live -/
def qlive (V : Nat → Nat → Option va_E) (ad : QSt) (q : Nat) : Prop := ∃ k j e, V k j = some e ∧ ad k j = q
def qA (V : Nat → Nat → Option va_E) (ad : QSt) (sz : Nat) (q : Nat) : Prop := qlive V ad q ∨ sz ≤ q
theorem qPW.lt {D : va_G} {A : Nat → Prop} {V : Nat → Nat → Option va_E} {ad : QSt} {H : Heap} (h : qPW D A V ad H) {q : Nat} (hq : qlive V ad q) : q < H.size := by
  obtain ⟨k, j, e, hv, rfl⟩ := hq
  exact (h.1 k j e hv).1.lt
theorem qPW.self {D : va_G} {A : Nat → Prop} {V : Nat → Nat → Option va_E} {ad : QSt} {H : Heap} (h : qPW D A V ad H) (sz : Nat) : qPW D (qA V ad sz) V ad H := ⟨fun k j e hv => ⟨(h.1 k j e hv).1, Or.inl ⟨k, j, e, hv, rfl⟩⟩, h.2⟩
theorem qPW.inA {D : va_G} {A : Nat → Prop} {V : Nat → Nat → Option va_E} {ad : QSt} {H : Heap} (h : qPW D A V ad H) {sz : Nat} (hA : ∀ q, sz ≤ q → A q) : ∀ q, qA V ad sz q → A q := by
  intro q hq
  rcases hq with ⟨k, j, e, hv, rfl⟩ | hq
  · exact (h.1 k j e hv).2
  · exact hA q hq
/-- a method's ends: an answer that is said, and the heap as it was, or a world behind it -/
def qPV (v : Option Value) : Array Value → State → Outcome → State → Prop := fun _ st o t => o = .returned v ∧ t.heap = st.heap
def qWV (v : Option Value) (P : Heap → Prop) (A : Nat → Prop) : Array Value → State → Outcome → State → Prop := fun _ st o t => o = .returned v ∧ P t.heap ∧ va_F A st t
def qWX (P : Nat → Heap → Prop) (A : Nat → Prop) : Array Value → State → Outcome → State → Prop := fun _ st o t => ∃ a : Nat, o = .returned (some (.ref a)) ∧ P a t.heap ∧ va_F A st t
theorem va_P1 {D : va_G} {cl : List vw_C} {q : Nat × va_E} {H : Heap} (h : va_at D cl q H) : va_P D cl [q] H := by
  intro k x hk
  cases k with
  | zero => cases hk; exact h
  | succ k => simp at hk
theorem qrecv {s : State} {H : Heap} {G : QG} {a ci : Nat} {q : vw_C} {fs : List Value} (hC : qCX G s) (hat : va_at G.1 vwCl (a, .inr (ci, fs)) H) (hc : vwCl[ci]? = some q) : ∃ cell : Cell, H[a]? = some cell ∧ cell.vm.isStatics = false ∧ s.vm.findClass q.1 = some cell.cls := va_recv hC.1 (va_P1 hat) (q0 := 0) hc rfl
theorem q31 {n : Nat} (h : n < 1073741824) : n < 2 ^ 31 := Nat.lt_trans h (by decide)
