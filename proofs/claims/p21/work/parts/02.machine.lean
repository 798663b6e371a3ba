/-! THE ABSTRACT MACHINE: EvQ speaks of a method's frame over an abstract heap (G: shapes and references, h: ints);
    each rule below is one instruction. Abstract address 0 is the script, k > 0 is the k-th cell made since the law began. -/
abbrev Shp : Type := Nat ⊕ (FieldType × Nat)
abbrev Geo : Type := List (Shp × List (Option Nat))
abbrev Hp : Type := Nat → Nat → Int32
abbrev Ent : Type := Instr × Nat × Nat
abbrev Tab : Type := List (Nat × List (Nat × Ent))
/-- name, code, locals, return, frames, locals' words, class, table -/
abbrev MI : Type := MethodName × ByteArray × Nat × Option FieldType × Nat × Nat × Nat × Tab
abbrev mi_C (mi : MI) : ByteArray := mi.2.1
abbrev mi_L (mi : MI) : Nat := mi.2.2.1
abbrev mi_R (mi : MI) : Option FieldType := mi.2.2.2.1
abbrev mi_F (mi : MI) : Nat := mi.2.2.2.2.1
abbrev mi_S (mi : MI) : Nat := mi.2.2.2.2.2.1
abbrev mi_T (mi : MI) : Tab := mi.2.2.2.2.2.2.2
def ev_l1 : List (Nat × Ent) → Nat → Option Ent
  | [], _ => none
  | q :: r, pc => bif Nat.beq q.1 pc then some q.2 else ev_l1 r pc
def ev_l2 : Tab → Nat → Option Ent
  | [], _ => none
  | c :: r, pc => bif Nat.ble pc c.1 then ev_l1 c.2 pc else ev_l2 r pc
abbrev ev_at (mi : MI) (pc : Nat) : Option Ent := ev_l2 (mi_T mi) pc
def ev_off (pc : Nat) (tg : Nat) : Instr → Bool
  | .goto o => (pc : Int) + o == (tg : Int)
  | .ifCond _ o => (pc : Int) + o == (tg : Int)
  | .if_icmp _ o => (pc : Int) + o == (tg : Int)
  | .ifnull o => (pc : Int) + o == (tg : Int)
  | .ifnonnull o => (pc : Int) + o == (tg : Int)
  | _ => true
def ev_ok (mi : MI) : Prop := ∀ pc i nx tg, ev_at mi pc = some (i, nx, tg) → decode (mi_C mi) pc = .ok (i, nx - pc) ∧ pc ≤ nx ∧ ev_off pc tg i = true
theorem ev_l1_in : ∀ (l : List (Nat × Ent)) (pc : Nat) (x : Ent), ev_l1 l pc = some x → (pc, x) ∈ l
  | [], _, _, h => by cases h
  | q :: r, pc, x, h => by
    unfold ev_l1 at h
    cases hq : Nat.beq q.1 pc with
    | true =>
      rw [hq] at h
      have h1 : q.1 = pc := Nat.eq_of_beq_eq_true hq
      have h2 : q.2 = x := Option.some.inj h
      rw [← h1, ← h2]
      exact List.mem_cons_self
    | false =>
      rw [hq] at h
      exact List.mem_cons_of_mem _ (ev_l1_in r pc x h)
theorem ev_l2_in : ∀ (l : Tab) (pc : Nat) (x : Ent), ev_l2 l pc = some x → ∃ c ∈ l, (pc, x) ∈ c.2
  | [], _, _, h => by cases h
  | c :: r, pc, x, h => by
    unfold ev_l2 at h
    cases hq : Nat.ble pc c.1 with
    | true => rw [hq] at h; exact ⟨c, List.mem_cons_self, ev_l1_in _ _ _ h⟩
    | false =>
      rw [hq] at h
      obtain ⟨d, hd, hx⟩ := ev_l2_in r pc x h
      exact ⟨d, List.mem_cons_of_mem _ hd, hx⟩
/-! tables of instructions: one pass over the bytes -/
def fdb (op a b : Nat) : Option (Jvm.ClassFile.Instr × Nat) :=
  bif Nat.ble op 90 then
    bif Nat.ble op 31 then
      bif Nat.ble op 17 then
        bif Nat.ble op 6 then
          bif Nat.ble op 3 then
            bif Nat.ble op 1 then
              bif Nat.beq op 1 then some (.aconst_null, 1) else none
            else
              bif Nat.ble op 2 then
                bif Nat.beq op 2 then some (.iconst (-1), 1) else none
              else
                bif Nat.beq op 3 then some (.iconst (0), 1) else none
          else
            bif Nat.ble op 4 then
              bif Nat.beq op 4 then some (.iconst (1), 1) else none
            else
              bif Nat.ble op 5 then
                bif Nat.beq op 5 then some (.iconst (2), 1) else none
              else
                bif Nat.beq op 6 then some (.iconst (3), 1) else none
        else
          bif Nat.ble op 9 then
            bif Nat.ble op 7 then
              bif Nat.beq op 7 then some (.iconst (4), 1) else none
            else
              bif Nat.ble op 8 then
                bif Nat.beq op 8 then some (.iconst (5), 1) else none
              else
                bif Nat.beq op 9 then some (.lconst 0, 1) else none
          else
            bif Nat.ble op 10 then
              bif Nat.beq op 10 then some (.lconst 1, 1) else none
            else
              bif Nat.ble op 16 then
                bif Nat.beq op 16 then some (.bipush (Jvm.ClassFile.Reader.signed 8 a), 2) else none
              else
                bif Nat.beq op 17 then some (.sipush (Jvm.ClassFile.Reader.signed 16 (a * 256 + b)), 3) else none
      else
        bif Nat.ble op 25 then
          bif Nat.ble op 20 then
            bif Nat.ble op 18 then
              bif Nat.beq op 18 then some (.ldc a, 2) else none
            else
              bif Nat.ble op 19 then
                bif Nat.beq op 19 then some (.ldc_w (a * 256 + b), 3) else none
              else
                bif Nat.beq op 20 then some (.ldc2_w (a * 256 + b), 3) else none
          else
            bif Nat.ble op 21 then
              bif Nat.beq op 21 then some (.iload a, 2) else none
            else
              bif Nat.ble op 22 then
                bif Nat.beq op 22 then some (.lload a, 2) else none
              else
                bif Nat.beq op 25 then some (.aload a, 2) else none
        else
          bif Nat.ble op 28 then
            bif Nat.ble op 26 then
              bif Nat.beq op 26 then some (.iload_n 0, 1) else none
            else
              bif Nat.ble op 27 then
                bif Nat.beq op 27 then some (.iload_n 1, 1) else none
              else
                bif Nat.beq op 28 then some (.iload_n 2, 1) else none
          else
            bif Nat.ble op 29 then
              bif Nat.beq op 29 then some (.iload_n 3, 1) else none
            else
              bif Nat.ble op 30 then
                bif Nat.beq op 30 then some (.lload_n 0, 1) else none
              else
                bif Nat.beq op 31 then some (.lload_n 1, 1) else none
    else
      bif Nat.ble op 58 then
        bif Nat.ble op 45 then
          bif Nat.ble op 42 then
            bif Nat.ble op 32 then
              bif Nat.beq op 32 then some (.lload_n 2, 1) else none
            else
              bif Nat.ble op 33 then
                bif Nat.beq op 33 then some (.lload_n 3, 1) else none
              else
                bif Nat.beq op 42 then some (.aload_n 0, 1) else none
          else
            bif Nat.ble op 43 then
              bif Nat.beq op 43 then some (.aload_n 1, 1) else none
            else
              bif Nat.ble op 44 then
                bif Nat.beq op 44 then some (.aload_n 2, 1) else none
              else
                bif Nat.beq op 45 then some (.aload_n 3, 1) else none
        else
          bif Nat.ble op 51 then
            bif Nat.ble op 46 then
              bif Nat.beq op 46 then some (.iaload, 1) else none
            else
              bif Nat.ble op 50 then
                bif Nat.beq op 50 then some (.aaload, 1) else none
              else
                bif Nat.beq op 51 then some (.baload, 1) else none
          else
            bif Nat.ble op 54 then
              bif Nat.beq op 54 then some (.istore a, 2) else none
            else
              bif Nat.ble op 55 then
                bif Nat.beq op 55 then some (.lstore a, 2) else none
              else
                bif Nat.beq op 58 then some (.astore a, 2) else none
      else
        bif Nat.ble op 76 then
          bif Nat.ble op 61 then
            bif Nat.ble op 59 then
              bif Nat.beq op 59 then some (.istore_n 0, 1) else none
            else
              bif Nat.ble op 60 then
                bif Nat.beq op 60 then some (.istore_n 1, 1) else none
              else
                bif Nat.beq op 61 then some (.istore_n 2, 1) else none
          else
            bif Nat.ble op 62 then
              bif Nat.beq op 62 then some (.istore_n 3, 1) else none
            else
              bif Nat.ble op 75 then
                bif Nat.beq op 75 then some (.astore_n 0, 1) else none
              else
                bif Nat.beq op 76 then some (.astore_n 1, 1) else none
        else
          bif Nat.ble op 79 then
            bif Nat.ble op 77 then
              bif Nat.beq op 77 then some (.astore_n 2, 1) else none
            else
              bif Nat.ble op 78 then
                bif Nat.beq op 78 then some (.astore_n 3, 1) else none
              else
                bif Nat.beq op 79 then some (.iastore, 1) else none
          else
            bif Nat.ble op 87 then
              bif Nat.ble op 84 then
                bif Nat.beq op 84 then some (.bastore, 1) else none
              else
                bif Nat.beq op 87 then some (.pop, 1) else none
            else
              bif Nat.ble op 89 then
                bif Nat.beq op 89 then some (.dup, 1) else none
              else
                bif Nat.beq op 90 then some (.dup_x1, 1) else none
  else
    bif Nat.ble op 147 then
      bif Nat.ble op 122 then
        bif Nat.ble op 104 then
          bif Nat.ble op 97 then
            bif Nat.ble op 92 then
              bif Nat.beq op 92 then some (.dup2, 1) else none
            else
              bif Nat.ble op 96 then
                bif Nat.beq op 96 then some (.iadd, 1) else none
              else
                bif Nat.beq op 97 then some (.ladd, 1) else none
          else
            bif Nat.ble op 100 then
              bif Nat.beq op 100 then some (.isub, 1) else none
            else
              bif Nat.ble op 101 then
                bif Nat.beq op 101 then some (.lsub, 1) else none
              else
                bif Nat.beq op 104 then some (.imul, 1) else none
        else
          bif Nat.ble op 116 then
            bif Nat.ble op 108 then
              bif Nat.beq op 108 then some (.idiv, 1) else none
            else
              bif Nat.ble op 112 then
                bif Nat.beq op 112 then some (.irem, 1) else none
              else
                bif Nat.beq op 116 then some (.ineg, 1) else none
          else
            bif Nat.ble op 120 then
              bif Nat.beq op 120 then some (.ishl, 1) else none
            else
              bif Nat.ble op 121 then
                bif Nat.beq op 121 then some (.lshl, 1) else none
              else
                bif Nat.beq op 122 then some (.ishr, 1) else none
      else
        bif Nat.ble op 129 then
          bif Nat.ble op 126 then
            bif Nat.ble op 123 then
              bif Nat.beq op 123 then some (.lshr, 1) else none
            else
              bif Nat.ble op 124 then
                bif Nat.beq op 124 then some (.iushr, 1) else none
              else
                bif Nat.beq op 126 then some (.iand, 1) else none
          else
            bif Nat.ble op 127 then
              bif Nat.beq op 127 then some (.land, 1) else none
            else
              bif Nat.ble op 128 then
                bif Nat.beq op 128 then some (.ior, 1) else none
              else
                bif Nat.beq op 129 then some (.lor, 1) else none
        else
          bif Nat.ble op 133 then
            bif Nat.ble op 130 then
              bif Nat.beq op 130 then some (.ixor, 1) else none
            else
              bif Nat.ble op 132 then
                bif Nat.beq op 132 then some (.iinc a (Jvm.ClassFile.Reader.signed 8 b), 3) else none
              else
                bif Nat.beq op 133 then some (.i2l, 1) else none
          else
            bif Nat.ble op 136 then
              bif Nat.beq op 136 then some (.l2i, 1) else none
            else
              bif Nat.ble op 145 then
                bif Nat.beq op 145 then some (.i2b, 1) else none
              else
                bif Nat.beq op 147 then some (.i2s, 1) else none
    else
      bif Nat.ble op 163 then
        bif Nat.ble op 157 then
          bif Nat.ble op 154 then
            bif Nat.ble op 148 then
              bif Nat.beq op 148 then some (.lcmp, 1) else none
            else
              bif Nat.ble op 153 then
                bif Nat.beq op 153 then some (.ifCond .eq (Jvm.ClassFile.Reader.signed 16 (a * 256 + b)), 3) else none
              else
                bif Nat.beq op 154 then some (.ifCond .ne (Jvm.ClassFile.Reader.signed 16 (a * 256 + b)), 3) else none
          else
            bif Nat.ble op 155 then
              bif Nat.beq op 155 then some (.ifCond .lt (Jvm.ClassFile.Reader.signed 16 (a * 256 + b)), 3) else none
            else
              bif Nat.ble op 156 then
                bif Nat.beq op 156 then some (.ifCond .ge (Jvm.ClassFile.Reader.signed 16 (a * 256 + b)), 3) else none
              else
                bif Nat.beq op 157 then some (.ifCond .gt (Jvm.ClassFile.Reader.signed 16 (a * 256 + b)), 3) else none
        else
          bif Nat.ble op 160 then
            bif Nat.ble op 158 then
              bif Nat.beq op 158 then some (.ifCond .le (Jvm.ClassFile.Reader.signed 16 (a * 256 + b)), 3) else none
            else
              bif Nat.ble op 159 then
                bif Nat.beq op 159 then some (.if_icmp .eq (Jvm.ClassFile.Reader.signed 16 (a * 256 + b)), 3) else none
              else
                bif Nat.beq op 160 then some (.if_icmp .ne (Jvm.ClassFile.Reader.signed 16 (a * 256 + b)), 3) else none
          else
            bif Nat.ble op 161 then
              bif Nat.beq op 161 then some (.if_icmp .lt (Jvm.ClassFile.Reader.signed 16 (a * 256 + b)), 3) else none
            else
              bif Nat.ble op 162 then
                bif Nat.beq op 162 then some (.if_icmp .ge (Jvm.ClassFile.Reader.signed 16 (a * 256 + b)), 3) else none
              else
                bif Nat.beq op 163 then some (.if_icmp .gt (Jvm.ClassFile.Reader.signed 16 (a * 256 + b)), 3) else none
      else
        bif Nat.ble op 181 then
          bif Nat.ble op 172 then
            bif Nat.ble op 164 then
              bif Nat.beq op 164 then some (.if_icmp .le (Jvm.ClassFile.Reader.signed 16 (a * 256 + b)), 3) else none
            else
              bif Nat.ble op 167 then
                bif Nat.beq op 167 then some (.goto (Jvm.ClassFile.Reader.signed 16 (a * 256 + b)), 3) else none
              else
                bif Nat.beq op 172 then some (.ireturn, 1) else none
          else
            bif Nat.ble op 177 then
              bif Nat.beq op 177 then some (.return_, 1) else none
            else
              bif Nat.ble op 180 then
                bif Nat.beq op 180 then some (.getfield (a * 256 + b), 3) else none
              else
                bif Nat.beq op 181 then some (.putfield (a * 256 + b), 3) else none
        else
          bif Nat.ble op 184 then
            bif Nat.ble op 182 then
              bif Nat.beq op 182 then some (.invokevirtual (a * 256 + b), 3) else none
            else
              bif Nat.ble op 183 then
                bif Nat.beq op 183 then some (.invokespecial (a * 256 + b), 3) else none
              else
                bif Nat.beq op 184 then some (.invokestatic (a * 256 + b), 3) else none
          else
            bif Nat.ble op 190 then
              bif Nat.ble op 187 then
                bif Nat.beq op 187 then some (.new (a * 256 + b), 3) else none
              else
                bif Nat.beq op 190 then some (.arraylength, 1) else none
            else
              bif Nat.ble op 191 then
                bif Nat.beq op 191 then some (.athrow, 1) else none
              else
                bif Nat.beq op 199 then some (.ifnonnull (Jvm.ClassFile.Reader.signed 16 (a * 256 + b)), 3) else none
abbrev fdu : Jvm.ClassFile.Decoder Nat := Jvm.ClassFile.Reader.u1
def fd_w (r : Jvm.ClassFile.Decoder Jvm.ClassFile.Instr) (code : ByteArray) (pc : Nat) : Except Jvm.ClassFile.DecodeError (Jvm.ClassFile.Instr × Nat) := match Jvm.ClassFile.Reader.runAt r code (pc + 1) with
  | .ok x => .ok (x.1, x.2 - pc)
  | .error e => .error e
theorem fd_b {α β : Type} {r : Jvm.ClassFile.Decoder β} (K : β → Jvm.ClassFile.Decoder α) {code : ByteArray} {pc nx : Nat} {x : β} (hu : Jvm.ClassFile.Reader.runAt r code pc = .ok (x, nx)) : Jvm.ClassFile.Reader.runAt (r >>= K) code pc = Jvm.ClassFile.Reader.runAt (K x) code nx := by
  have e : Jvm.ClassFile.Reader.runAt (r >>= K) code pc = Except.bind (Jvm.ClassFile.Reader.runAt r code pc) (fun p => Jvm.ClassFile.Reader.runAt (K p.1) code p.2) := rfl
  rw [e, hu]
  rfl
theorem fd_d {code : ByteArray} {pc op : Nat} (hu : Jvm.ClassFile.Reader.runAt fdu code pc = .ok (op, pc + 1)) {K : Nat → Jvm.ClassFile.Decoder Jvm.ClassFile.Instr} (hi : Jvm.ClassFile.Decoder.instr pc = fdu >>= K) {r : Jvm.ClassFile.Decoder Jvm.ClassFile.Instr} (hk : K op = r) : decode code pc = fd_w r code pc := by
  have d : decode code pc = Except.bind (Jvm.ClassFile.Reader.runAt (Jvm.ClassFile.Decoder.instr pc) code pc) (fun p => .ok (p.1, p.2 - pc)) := rfl
  rw [d, hi, fd_b K hu, hk]
  unfold fd_w
  cases Jvm.ClassFile.Reader.runAt r code (pc + 1) <;> rfl
theorem fe_ok {r : Jvm.ClassFile.Decoder Jvm.ClassFile.Instr} {code : ByteArray} {pc n : Nat} {i : Jvm.ClassFile.Instr} (h : Jvm.ClassFile.Reader.runAt r code (pc + 1) = .ok (i, pc + n)) : fd_w r code pc = .ok (i, n) := by
  unfold fd_w
  rw [h]
  show Except.ok (i, pc + n - pc) = _
  rw [Nat.add_sub_cancel_left]
section FE
variable {code : ByteArray} {pc a b : Nat}
theorem fe_0 (i : Jvm.ClassFile.Instr) : fd_w (pure i) code pc = .ok (i, 1) := fe_ok rfl
theorem fe_1 (f : Nat → Jvm.ClassFile.Instr) (ha : Jvm.ClassFile.Reader.runAt fdu code (pc + 1) = .ok (a, pc + 2)) : fd_w (Jvm.ClassFile.Reader.u1 >>= fun x => pure (f x)) code pc = .ok (f a, 2) := fe_ok (fd_b _ ha)
theorem fe_u2 (p : Nat) (ha : Jvm.ClassFile.Reader.runAt fdu code p = .ok (a, p + 1)) (hb : Jvm.ClassFile.Reader.runAt fdu code (p + 1) = .ok (b, p + 2)) : Jvm.ClassFile.Reader.runAt (Jvm.ClassFile.Reader.u2 : Jvm.ClassFile.Decoder Nat) code p = .ok (a * 256 + b, p + 2) := (fd_b (r := fdu) (fun hi => fdu >>= fun lo => pure (hi * 256 + lo)) ha).trans (fd_b (r := fdu) (fun lo => pure (a * 256 + lo)) hb)
theorem fe_m {f : Nat → Int} {r : Jvm.ClassFile.Decoder Nat} {p q x : Nat} (h : Jvm.ClassFile.Reader.runAt r code p = .ok (x, q)) : Jvm.ClassFile.Reader.runAt (f <$> r) code p = .ok (f x, q) := by
  have e : Jvm.ClassFile.Reader.runAt (f <$> r) code p = Except.bind (Jvm.ClassFile.Reader.runAt r code p) (fun z => .ok (f z.1, z.2)) := rfl
  rw [e, h]
  rfl
theorem fe_2 (f : Nat → Jvm.ClassFile.Instr) (ha : Jvm.ClassFile.Reader.runAt fdu code (pc + 1) = .ok (a, pc + 2)) (hb : Jvm.ClassFile.Reader.runAt fdu code (pc + 2) = .ok (b, pc + 3)) : fd_w (Jvm.ClassFile.Reader.u2 >>= fun x => pure (f x)) code pc = .ok (f (a * 256 + b), 3) := fe_ok (fd_b _ (fe_u2 (pc + 1) ha hb))
theorem fe_s1 (f : Int → Jvm.ClassFile.Instr) (ha : Jvm.ClassFile.Reader.runAt fdu code (pc + 1) = .ok (a, pc + 2)) : fd_w (Jvm.ClassFile.Reader.s1 >>= fun x => pure (f x)) code pc = .ok (f (Jvm.ClassFile.Reader.signed 8 a), 2) := fe_ok (fd_b _ (fe_m (f := Jvm.ClassFile.Reader.signed 8) ha))
theorem fe_s2 (f : Int → Jvm.ClassFile.Instr) (ha : Jvm.ClassFile.Reader.runAt fdu code (pc + 1) = .ok (a, pc + 2)) (hb : Jvm.ClassFile.Reader.runAt fdu code (pc + 2) = .ok (b, pc + 3)) : fd_w (Jvm.ClassFile.Reader.s2 >>= fun x => pure (f x)) code pc = .ok (f (Jvm.ClassFile.Reader.signed 16 (a * 256 + b)), 3) := fe_ok (fd_b _ (fe_m (f := Jvm.ClassFile.Reader.signed 16) (fe_u2 (pc + 1) ha hb)))
theorem fe_ii (ha : Jvm.ClassFile.Reader.runAt fdu code (pc + 1) = .ok (a, pc + 2)) (hb : Jvm.ClassFile.Reader.runAt fdu code (pc + 2) = .ok (b, pc + 3)) : fd_w (Jvm.ClassFile.Reader.u1 >>= fun x => Jvm.ClassFile.Reader.s1 >>= fun y => pure (.iinc x y)) code pc = .ok (.iinc a (Jvm.ClassFile.Reader.signed 8 b), 3) := fe_ok ((fd_b _ ha).trans (fd_b _ (fe_m (f := Jvm.ClassFile.Reader.signed 8) hb)))
end FE
theorem lt12 : 1 < 2 := by decide
theorem lt13 : 1 < 3 := by decide
theorem lt23 : 2 < 3 := by decide
theorem fd_c {α : Type} {b : Bool} {x y : Option α} {r : α} (h : (bif b then x else y) = some r) : (b = true ∧ x = some r) ∨ y = some r := by
  cases b with
  | true => exact Or.inl ⟨rfl, h⟩
  | false => exact Or.inr h
theorem fd_l {op k : Nat} {d r : Jvm.ClassFile.Instr × Nat} (h : (bif Nat.beq op k then some d else none) = some r) : op = k ∧ d = r := by
  rcases fd_c h with ⟨q, h⟩ | h
  · exact ⟨Nat.eq_of_beq_eq_true q, Option.some.inj h⟩
  · cases h
theorem fdb_ok {op a b : Nat} {r : Jvm.ClassFile.Instr × Nat} (h : fdb op a b = some r) {code : ByteArray} {pc : Nat} (hu : Jvm.ClassFile.Reader.runAt fdu code pc = .ok (op, pc + 1)) (ha : 1 < r.2 → Jvm.ClassFile.Reader.runAt fdu code (pc + 1) = .ok (a, pc + 2)) (hb : 2 < r.2 → Jvm.ClassFile.Reader.runAt fdu code (pc + 2) = .ok (b, pc + 3)) : decode code pc = .ok r := by
  unfold fdb at h
  rcases fd_c h with ⟨-, h⟩ | h
  · rcases fd_c h with ⟨-, h⟩ | h
    · rcases fd_c h with ⟨-, h⟩ | h
      · rcases fd_c h with ⟨-, h⟩ | h
        · rcases fd_c h with ⟨-, h⟩ | h
          · rcases fd_c h with ⟨-, h⟩ | h
            · obtain ⟨rfl, rfl⟩ := fd_l h
              exact (fd_d hu rfl rfl).trans (fe_0 _)
            · rcases fd_c h with ⟨-, h⟩ | h
              · obtain ⟨rfl, rfl⟩ := fd_l h
                exact (fd_d hu rfl rfl).trans (fe_0 _)
              · obtain ⟨rfl, rfl⟩ := fd_l h
                exact (fd_d hu rfl rfl).trans (fe_0 _)
          · rcases fd_c h with ⟨-, h⟩ | h
            · obtain ⟨rfl, rfl⟩ := fd_l h
              exact (fd_d hu rfl rfl).trans (fe_0 _)
            · rcases fd_c h with ⟨-, h⟩ | h
              · obtain ⟨rfl, rfl⟩ := fd_l h
                exact (fd_d hu rfl rfl).trans (fe_0 _)
              · obtain ⟨rfl, rfl⟩ := fd_l h
                exact (fd_d hu rfl rfl).trans (fe_0 _)
        · rcases fd_c h with ⟨-, h⟩ | h
          · rcases fd_c h with ⟨-, h⟩ | h
            · obtain ⟨rfl, rfl⟩ := fd_l h
              exact (fd_d hu rfl rfl).trans (fe_0 _)
            · rcases fd_c h with ⟨-, h⟩ | h
              · obtain ⟨rfl, rfl⟩ := fd_l h
                exact (fd_d hu rfl rfl).trans (fe_0 _)
              · obtain ⟨rfl, rfl⟩ := fd_l h
                exact (fd_d hu rfl rfl).trans (fe_0 _)
          · rcases fd_c h with ⟨-, h⟩ | h
            · obtain ⟨rfl, rfl⟩ := fd_l h
              exact (fd_d hu rfl rfl).trans (fe_0 _)
            · rcases fd_c h with ⟨-, h⟩ | h
              · obtain ⟨rfl, rfl⟩ := fd_l h
                exact (fd_d hu rfl rfl).trans (fe_s1 (fun x => .bipush x) (ha lt12))
              · obtain ⟨rfl, rfl⟩ := fd_l h
                exact (fd_d hu rfl rfl).trans (fe_s2 (fun x => .sipush x) (ha lt13) (hb lt23))
      · rcases fd_c h with ⟨-, h⟩ | h
        · rcases fd_c h with ⟨-, h⟩ | h
          · rcases fd_c h with ⟨-, h⟩ | h
            · obtain ⟨rfl, rfl⟩ := fd_l h
              exact (fd_d hu rfl rfl).trans (fe_1 (fun x => .ldc x) (ha lt12))
            · rcases fd_c h with ⟨-, h⟩ | h
              · obtain ⟨rfl, rfl⟩ := fd_l h
                exact (fd_d hu rfl rfl).trans (fe_2 (fun x => .ldc_w x) (ha lt13) (hb lt23))
              · obtain ⟨rfl, rfl⟩ := fd_l h
                exact (fd_d hu rfl rfl).trans (fe_2 (fun x => .ldc2_w x) (ha lt13) (hb lt23))
          · rcases fd_c h with ⟨-, h⟩ | h
            · obtain ⟨rfl, rfl⟩ := fd_l h
              exact (fd_d hu rfl rfl).trans (fe_1 (fun x => .iload x) (ha lt12))
            · rcases fd_c h with ⟨-, h⟩ | h
              · obtain ⟨rfl, rfl⟩ := fd_l h
                exact (fd_d hu rfl rfl).trans (fe_1 (fun x => .lload x) (ha lt12))
              · obtain ⟨rfl, rfl⟩ := fd_l h
                exact (fd_d hu rfl rfl).trans (fe_1 (fun x => .aload x) (ha lt12))
        · rcases fd_c h with ⟨-, h⟩ | h
          · rcases fd_c h with ⟨-, h⟩ | h
            · obtain ⟨rfl, rfl⟩ := fd_l h
              exact (fd_d hu rfl rfl).trans (fe_0 _)
            · rcases fd_c h with ⟨-, h⟩ | h
              · obtain ⟨rfl, rfl⟩ := fd_l h
                exact (fd_d hu rfl rfl).trans (fe_0 _)
              · obtain ⟨rfl, rfl⟩ := fd_l h
                exact (fd_d hu rfl rfl).trans (fe_0 _)
          · rcases fd_c h with ⟨-, h⟩ | h
            · obtain ⟨rfl, rfl⟩ := fd_l h
              exact (fd_d hu rfl rfl).trans (fe_0 _)
            · rcases fd_c h with ⟨-, h⟩ | h
              · obtain ⟨rfl, rfl⟩ := fd_l h
                exact (fd_d hu rfl rfl).trans (fe_0 _)
              · obtain ⟨rfl, rfl⟩ := fd_l h
                exact (fd_d hu rfl rfl).trans (fe_0 _)
    · rcases fd_c h with ⟨-, h⟩ | h
      · rcases fd_c h with ⟨-, h⟩ | h
        · rcases fd_c h with ⟨-, h⟩ | h
          · rcases fd_c h with ⟨-, h⟩ | h
            · obtain ⟨rfl, rfl⟩ := fd_l h
              exact (fd_d hu rfl rfl).trans (fe_0 _)
            · rcases fd_c h with ⟨-, h⟩ | h
              · obtain ⟨rfl, rfl⟩ := fd_l h
                exact (fd_d hu rfl rfl).trans (fe_0 _)
              · obtain ⟨rfl, rfl⟩ := fd_l h
                exact (fd_d hu rfl rfl).trans (fe_0 _)
          · rcases fd_c h with ⟨-, h⟩ | h
            · obtain ⟨rfl, rfl⟩ := fd_l h
              exact (fd_d hu rfl rfl).trans (fe_0 _)
            · rcases fd_c h with ⟨-, h⟩ | h
              · obtain ⟨rfl, rfl⟩ := fd_l h
                exact (fd_d hu rfl rfl).trans (fe_0 _)
              · obtain ⟨rfl, rfl⟩ := fd_l h
                exact (fd_d hu rfl rfl).trans (fe_0 _)
        · rcases fd_c h with ⟨-, h⟩ | h
          · rcases fd_c h with ⟨-, h⟩ | h
            · obtain ⟨rfl, rfl⟩ := fd_l h
              exact (fd_d hu rfl rfl).trans (fe_0 _)
            · rcases fd_c h with ⟨-, h⟩ | h
              · obtain ⟨rfl, rfl⟩ := fd_l h
                exact (fd_d hu rfl rfl).trans (fe_0 _)
              · obtain ⟨rfl, rfl⟩ := fd_l h
                exact (fd_d hu rfl rfl).trans (fe_0 _)
          · rcases fd_c h with ⟨-, h⟩ | h
            · obtain ⟨rfl, rfl⟩ := fd_l h
              exact (fd_d hu rfl rfl).trans (fe_1 (fun x => .istore x) (ha lt12))
            · rcases fd_c h with ⟨-, h⟩ | h
              · obtain ⟨rfl, rfl⟩ := fd_l h
                exact (fd_d hu rfl rfl).trans (fe_1 (fun x => .lstore x) (ha lt12))
              · obtain ⟨rfl, rfl⟩ := fd_l h
                exact (fd_d hu rfl rfl).trans (fe_1 (fun x => .astore x) (ha lt12))
      · rcases fd_c h with ⟨-, h⟩ | h
        · rcases fd_c h with ⟨-, h⟩ | h
          · rcases fd_c h with ⟨-, h⟩ | h
            · obtain ⟨rfl, rfl⟩ := fd_l h
              exact (fd_d hu rfl rfl).trans (fe_0 _)
            · rcases fd_c h with ⟨-, h⟩ | h
              · obtain ⟨rfl, rfl⟩ := fd_l h
                exact (fd_d hu rfl rfl).trans (fe_0 _)
              · obtain ⟨rfl, rfl⟩ := fd_l h
                exact (fd_d hu rfl rfl).trans (fe_0 _)
          · rcases fd_c h with ⟨-, h⟩ | h
            · obtain ⟨rfl, rfl⟩ := fd_l h
              exact (fd_d hu rfl rfl).trans (fe_0 _)
            · rcases fd_c h with ⟨-, h⟩ | h
              · obtain ⟨rfl, rfl⟩ := fd_l h
                exact (fd_d hu rfl rfl).trans (fe_0 _)
              · obtain ⟨rfl, rfl⟩ := fd_l h
                exact (fd_d hu rfl rfl).trans (fe_0 _)
        · rcases fd_c h with ⟨-, h⟩ | h
          · rcases fd_c h with ⟨-, h⟩ | h
            · obtain ⟨rfl, rfl⟩ := fd_l h
              exact (fd_d hu rfl rfl).trans (fe_0 _)
            · rcases fd_c h with ⟨-, h⟩ | h
              · obtain ⟨rfl, rfl⟩ := fd_l h
                exact (fd_d hu rfl rfl).trans (fe_0 _)
              · obtain ⟨rfl, rfl⟩ := fd_l h
                exact (fd_d hu rfl rfl).trans (fe_0 _)
          · rcases fd_c h with ⟨-, h⟩ | h
            · rcases fd_c h with ⟨-, h⟩ | h
              · obtain ⟨rfl, rfl⟩ := fd_l h
                exact (fd_d hu rfl rfl).trans (fe_0 _)
              · obtain ⟨rfl, rfl⟩ := fd_l h
                exact (fd_d hu rfl rfl).trans (fe_0 _)
            · rcases fd_c h with ⟨-, h⟩ | h
              · obtain ⟨rfl, rfl⟩ := fd_l h
                exact (fd_d hu rfl rfl).trans (fe_0 _)
              · obtain ⟨rfl, rfl⟩ := fd_l h
                exact (fd_d hu rfl rfl).trans (fe_0 _)
  · rcases fd_c h with ⟨-, h⟩ | h
    · rcases fd_c h with ⟨-, h⟩ | h
      · rcases fd_c h with ⟨-, h⟩ | h
        · rcases fd_c h with ⟨-, h⟩ | h
          · rcases fd_c h with ⟨-, h⟩ | h
            · obtain ⟨rfl, rfl⟩ := fd_l h
              exact (fd_d hu rfl rfl).trans (fe_0 _)
            · rcases fd_c h with ⟨-, h⟩ | h
              · obtain ⟨rfl, rfl⟩ := fd_l h
                exact (fd_d hu rfl rfl).trans (fe_0 _)
              · obtain ⟨rfl, rfl⟩ := fd_l h
                exact (fd_d hu rfl rfl).trans (fe_0 _)
          · rcases fd_c h with ⟨-, h⟩ | h
            · obtain ⟨rfl, rfl⟩ := fd_l h
              exact (fd_d hu rfl rfl).trans (fe_0 _)
            · rcases fd_c h with ⟨-, h⟩ | h
              · obtain ⟨rfl, rfl⟩ := fd_l h
                exact (fd_d hu rfl rfl).trans (fe_0 _)
              · obtain ⟨rfl, rfl⟩ := fd_l h
                exact (fd_d hu rfl rfl).trans (fe_0 _)
        · rcases fd_c h with ⟨-, h⟩ | h
          · rcases fd_c h with ⟨-, h⟩ | h
            · obtain ⟨rfl, rfl⟩ := fd_l h
              exact (fd_d hu rfl rfl).trans (fe_0 _)
            · rcases fd_c h with ⟨-, h⟩ | h
              · obtain ⟨rfl, rfl⟩ := fd_l h
                exact (fd_d hu rfl rfl).trans (fe_0 _)
              · obtain ⟨rfl, rfl⟩ := fd_l h
                exact (fd_d hu rfl rfl).trans (fe_0 _)
          · rcases fd_c h with ⟨-, h⟩ | h
            · obtain ⟨rfl, rfl⟩ := fd_l h
              exact (fd_d hu rfl rfl).trans (fe_0 _)
            · rcases fd_c h with ⟨-, h⟩ | h
              · obtain ⟨rfl, rfl⟩ := fd_l h
                exact (fd_d hu rfl rfl).trans (fe_0 _)
              · obtain ⟨rfl, rfl⟩ := fd_l h
                exact (fd_d hu rfl rfl).trans (fe_0 _)
      · rcases fd_c h with ⟨-, h⟩ | h
        · rcases fd_c h with ⟨-, h⟩ | h
          · rcases fd_c h with ⟨-, h⟩ | h
            · obtain ⟨rfl, rfl⟩ := fd_l h
              exact (fd_d hu rfl rfl).trans (fe_0 _)
            · rcases fd_c h with ⟨-, h⟩ | h
              · obtain ⟨rfl, rfl⟩ := fd_l h
                exact (fd_d hu rfl rfl).trans (fe_0 _)
              · obtain ⟨rfl, rfl⟩ := fd_l h
                exact (fd_d hu rfl rfl).trans (fe_0 _)
          · rcases fd_c h with ⟨-, h⟩ | h
            · obtain ⟨rfl, rfl⟩ := fd_l h
              exact (fd_d hu rfl rfl).trans (fe_0 _)
            · rcases fd_c h with ⟨-, h⟩ | h
              · obtain ⟨rfl, rfl⟩ := fd_l h
                exact (fd_d hu rfl rfl).trans (fe_0 _)
              · obtain ⟨rfl, rfl⟩ := fd_l h
                exact (fd_d hu rfl rfl).trans (fe_0 _)
        · rcases fd_c h with ⟨-, h⟩ | h
          · rcases fd_c h with ⟨-, h⟩ | h
            · obtain ⟨rfl, rfl⟩ := fd_l h
              exact (fd_d hu rfl rfl).trans (fe_0 _)
            · rcases fd_c h with ⟨-, h⟩ | h
              · obtain ⟨rfl, rfl⟩ := fd_l h
                exact (fd_d hu rfl rfl).trans (fe_ii (ha lt13) (hb lt23))
              · obtain ⟨rfl, rfl⟩ := fd_l h
                exact (fd_d hu rfl rfl).trans (fe_0 _)
          · rcases fd_c h with ⟨-, h⟩ | h
            · obtain ⟨rfl, rfl⟩ := fd_l h
              exact (fd_d hu rfl rfl).trans (fe_0 _)
            · rcases fd_c h with ⟨-, h⟩ | h
              · obtain ⟨rfl, rfl⟩ := fd_l h
                exact (fd_d hu rfl rfl).trans (fe_0 _)
              · obtain ⟨rfl, rfl⟩ := fd_l h
                exact (fd_d hu rfl rfl).trans (fe_0 _)
    · rcases fd_c h with ⟨-, h⟩ | h
      · rcases fd_c h with ⟨-, h⟩ | h
        · rcases fd_c h with ⟨-, h⟩ | h
          · rcases fd_c h with ⟨-, h⟩ | h
            · obtain ⟨rfl, rfl⟩ := fd_l h
              exact (fd_d hu rfl rfl).trans (fe_0 _)
            · rcases fd_c h with ⟨-, h⟩ | h
              · obtain ⟨rfl, rfl⟩ := fd_l h
                exact (fd_d hu rfl rfl).trans (fe_s2 (fun x => .ifCond .eq x) (ha lt13) (hb lt23))
              · obtain ⟨rfl, rfl⟩ := fd_l h
                exact (fd_d hu rfl rfl).trans (fe_s2 (fun x => .ifCond .ne x) (ha lt13) (hb lt23))
          · rcases fd_c h with ⟨-, h⟩ | h
            · obtain ⟨rfl, rfl⟩ := fd_l h
              exact (fd_d hu rfl rfl).trans (fe_s2 (fun x => .ifCond .lt x) (ha lt13) (hb lt23))
            · rcases fd_c h with ⟨-, h⟩ | h
              · obtain ⟨rfl, rfl⟩ := fd_l h
                exact (fd_d hu rfl rfl).trans (fe_s2 (fun x => .ifCond .ge x) (ha lt13) (hb lt23))
              · obtain ⟨rfl, rfl⟩ := fd_l h
                exact (fd_d hu rfl rfl).trans (fe_s2 (fun x => .ifCond .gt x) (ha lt13) (hb lt23))
        · rcases fd_c h with ⟨-, h⟩ | h
          · rcases fd_c h with ⟨-, h⟩ | h
            · obtain ⟨rfl, rfl⟩ := fd_l h
              exact (fd_d hu rfl rfl).trans (fe_s2 (fun x => .ifCond .le x) (ha lt13) (hb lt23))
            · rcases fd_c h with ⟨-, h⟩ | h
              · obtain ⟨rfl, rfl⟩ := fd_l h
                exact (fd_d hu rfl rfl).trans (fe_s2 (fun x => .if_icmp .eq x) (ha lt13) (hb lt23))
              · obtain ⟨rfl, rfl⟩ := fd_l h
                exact (fd_d hu rfl rfl).trans (fe_s2 (fun x => .if_icmp .ne x) (ha lt13) (hb lt23))
          · rcases fd_c h with ⟨-, h⟩ | h
            · obtain ⟨rfl, rfl⟩ := fd_l h
              exact (fd_d hu rfl rfl).trans (fe_s2 (fun x => .if_icmp .lt x) (ha lt13) (hb lt23))
            · rcases fd_c h with ⟨-, h⟩ | h
              · obtain ⟨rfl, rfl⟩ := fd_l h
                exact (fd_d hu rfl rfl).trans (fe_s2 (fun x => .if_icmp .ge x) (ha lt13) (hb lt23))
              · obtain ⟨rfl, rfl⟩ := fd_l h
                exact (fd_d hu rfl rfl).trans (fe_s2 (fun x => .if_icmp .gt x) (ha lt13) (hb lt23))
      · rcases fd_c h with ⟨-, h⟩ | h
        · rcases fd_c h with ⟨-, h⟩ | h
          · rcases fd_c h with ⟨-, h⟩ | h
            · obtain ⟨rfl, rfl⟩ := fd_l h
              exact (fd_d hu rfl rfl).trans (fe_s2 (fun x => .if_icmp .le x) (ha lt13) (hb lt23))
            · rcases fd_c h with ⟨-, h⟩ | h
              · obtain ⟨rfl, rfl⟩ := fd_l h
                exact (fd_d hu rfl rfl).trans (fe_s2 (fun x => .goto x) (ha lt13) (hb lt23))
              · obtain ⟨rfl, rfl⟩ := fd_l h
                exact (fd_d hu rfl rfl).trans (fe_0 _)
          · rcases fd_c h with ⟨-, h⟩ | h
            · obtain ⟨rfl, rfl⟩ := fd_l h
              exact (fd_d hu rfl rfl).trans (fe_0 _)
            · rcases fd_c h with ⟨-, h⟩ | h
              · obtain ⟨rfl, rfl⟩ := fd_l h
                exact (fd_d hu rfl rfl).trans (fe_2 (fun x => .getfield x) (ha lt13) (hb lt23))
              · obtain ⟨rfl, rfl⟩ := fd_l h
                exact (fd_d hu rfl rfl).trans (fe_2 (fun x => .putfield x) (ha lt13) (hb lt23))
        · rcases fd_c h with ⟨-, h⟩ | h
          · rcases fd_c h with ⟨-, h⟩ | h
            · obtain ⟨rfl, rfl⟩ := fd_l h
              exact (fd_d hu rfl rfl).trans (fe_2 (fun x => .invokevirtual x) (ha lt13) (hb lt23))
            · rcases fd_c h with ⟨-, h⟩ | h
              · obtain ⟨rfl, rfl⟩ := fd_l h
                exact (fd_d hu rfl rfl).trans (fe_2 (fun x => .invokespecial x) (ha lt13) (hb lt23))
              · obtain ⟨rfl, rfl⟩ := fd_l h
                exact (fd_d hu rfl rfl).trans (fe_2 (fun x => .invokestatic x) (ha lt13) (hb lt23))
          · rcases fd_c h with ⟨-, h⟩ | h
            · rcases fd_c h with ⟨-, h⟩ | h
              · obtain ⟨rfl, rfl⟩ := fd_l h
                exact (fd_d hu rfl rfl).trans (fe_2 (fun x => .new x) (ha lt13) (hb lt23))
              · obtain ⟨rfl, rfl⟩ := fd_l h
                exact (fd_d hu rfl rfl).trans (fe_0 _)
            · rcases fd_c h with ⟨-, h⟩ | h
              · obtain ⟨rfl, rfl⟩ := fd_l h
                exact (fd_d hu rfl rfl).trans (fe_0 _)
              · obtain ⟨rfl, rfl⟩ := fd_l h
                exact (fd_d hu rfl rfl).trans (fe_s2 (fun x => .ifnonnull x) (ha lt13) (hb lt23))
theorem fd_get {code : ByteArray} {raw : List Nat} (hr : code.data.toList.map UInt8.toNat = raw) {p x : Nat} {t : List Nat} (hd : (raw ++ [0, 0]).drop p = x :: t) (hp : p < raw.length) : Jvm.ClassFile.Reader.runAt fdu code p = .ok (x, p + 1) := by
  have hl : raw.length = code.size := by
    rw [← hr, List.length_map]
    rfl
  have h : p < code.size := by omega
  have e : Jvm.ClassFile.Reader.runAt fdu code p = .ok (code[p].toNat, p + 1) := by
    show (if h : p < code.size then _ else _ : Jvm.ClassFile.Decoder Nat) code p = _
    rw [dif_pos h]
    rfl
  have ex : (raw ++ [0, 0])[p]? = some x := by
    have z : ((raw ++ [0, 0]).drop p)[0]? = some x := by rw [hd]; rfl
    rw [List.getElem?_drop, Nat.add_zero] at z
    exact z
  rw [List.getElem?_append_left hp, ← hr, List.getElem?_map] at ex
  have h2 : p < code.data.toList.length := h
  rw [List.getElem?_eq_getElem h2] at ex
  have ex2 : code[p].toNat = x := Option.some.inj ex
  rw [e, ex2]
def v1 (cc : ByteArray) (N : Nat) (q : Nat × Ent) : List Nat → Bool
  | x :: y :: z :: _ => (match fdb x y z with
    | some d => decide (d = (q.2.1, q.2.2.1 - q.1))
    | none => decide (decode cc q.1 = .ok (q.2.1, q.2.2.1 - q.1))) && Nat.blt q.1 q.2.2.1 && Nat.ble q.2.2.1 N && ev_off q.1 q.2.2.2 q.2.1
  | _ => false
def vt (cc : ByteArray) (N : Nat) : List (Nat × Ent) → List Nat → Nat → Bool
  | [], _, _ => true
  | q :: r, l, p => Nat.beq q.1 p && v1 cc N q l && vt cc N r (l.drop (q.2.2.1 - q.1)) q.2.2.1
theorem v1_ok {cc : ByteArray} {raw : List Nat} {N : Nat} (hr : cc.data.toList.map UInt8.toNat = raw) (hN : raw.length = N) {q : Nat × Ent} {l : List Nat} (hd : (raw ++ [0, 0]).drop q.1 = l) (h : v1 cc N q l = true) : decode cc q.1 = .ok (q.2.1, q.2.2.1 - q.1) ∧ q.1 ≤ q.2.2.1 ∧ ev_off q.1 q.2.2.2 q.2.1 = true := by
  unfold v1 at h
  split at h
  · rename_i x y z t
    rw [Bool.and_eq_true, Bool.and_eq_true, Bool.and_eq_true] at h
    obtain ⟨⟨⟨h1, h2⟩, h3⟩, h4⟩ := h
    have l2 : q.1 < q.2.2.1 := Nat.le_of_ble_eq_true h2
    have l3 := Nat.le_of_ble_eq_true h3
    refine ⟨?_, by omega, h4⟩
    split at h1
    · rename_i d hf
      have e := of_decide_eq_true h1
      subst e
      have d1 : (raw ++ [0, 0]).drop (q.1 + 1) = y :: z :: t := by rw [← List.drop_drop, hd]; rfl
      have d2 : (raw ++ [0, 0]).drop (q.1 + 2) = z :: t := by rw [← List.drop_drop, hd]; rfl
      exact fdb_ok hf (fd_get hr hd (by omega)) (fun g => fd_get hr d1 (by have g2 : 1 < q.2.2.1 - q.1 := g; omega)) (fun g => fd_get hr d2 (by have g2 : 2 < q.2.2.1 - q.1 := g; omega))
    · exact of_decide_eq_true h1
  · cases h
theorem vt_ok {cc : ByteArray} {raw : List Nat} {N : Nat} (hr : cc.data.toList.map UInt8.toNat = raw) (hN : raw.length = N) : ∀ (es : List (Nat × Ent)) (l : List Nat) (p : Nat), (raw ++ [0, 0]).drop p = l → vt cc N es l p = true → ∀ q ∈ es, decode cc q.1 = .ok (q.2.1, q.2.2.1 - q.1) ∧ q.1 ≤ q.2.2.1 ∧ ev_off q.1 q.2.2.2 q.2.1 = true
  | [], _, _, _, _ => fun q hq => absurd hq List.not_mem_nil
  | e :: r, l, p, hd, h => fun q hq => by
    unfold vt at h
    rw [Bool.and_eq_true, Bool.and_eq_true] at h
    obtain ⟨⟨h1, h2⟩, h3⟩ := h
    have ep := Nat.eq_of_beq_eq_true h1
    subst ep
    have z := v1_ok hr hN hd h2
    rcases List.mem_cons.mp hq with e1 | e1
    · rw [e1]; exact z
    · refine vt_ok hr hN r _ _ ?_ h3 q e1
      rw [← hd, List.drop_drop]
      congr 1
      omega
theorem ev_ok_of2 {mi : MI} {raw : List Nat} {N : Nat} (hr : (mi_C mi).data.toList.map UInt8.toNat = raw) (hN : raw.length = N) (h : vt (mi_C mi) N ((mi_T mi).flatMap (fun c => c.2)) (raw ++ [0, 0]) 0 = true) : ev_ok mi := by
  intro pc i nx tg hx
  obtain ⟨c, hc, hm⟩ := ev_l2_in _ _ _ hx
  exact vt_ok hr hN _ _ 0 rfl h (pc, i, nx, tg) (List.mem_flatMap.mpr ⟨c, hc, hm⟩)
/-! addresses and values -/
def ev_ad (b base k : Nat) : Nat := if k = 0 then b else base + k
def ev_rv (b base : Nat) : Value → Value
  | .ref k => .ref (ev_ad b base k)
  | v => v
theorem ev_rv_cat (b base : Nat) (v : Value) : (ev_rv b base v).category = v.category := by cases v <;> rfl
def ev_rf (b base : Nat) (r : Option Nat) : Value := match r with
  | none => .null
  | some k => .ref (ev_ad b base k)
def ev_vf (r : Option Nat) : Value := match r with
  | none => .null
  | some k => .ref k
theorem ev_rv_vf (b base : Nat) (r : Option Nat) : ev_rv b base (ev_vf r) = ev_rf b base r := by cases r <;> rfl
def ev_sh (G : Geo) (a : Nat) : Option Shp := (G[a]?).map (fun c => c.1)
def ev_gr (G : Geo) (a k : Nat) : Option Nat := match G[a]? with
  | none => none
  | some c => match c.2[k]? with
    | none => none
    | some r => r
def ev_sv (b base : Nat) (ty : FieldType) (G : Geo) (h : Hp) (a k : Nat) : Value := if ty.isReference = true then ev_rf b base (ev_gr G a k) else .int (h a k)
def ev_set (h : Hp) (a k : Nat) (x : Int32) : Hp := fun i j => if i = a ∧ j = k then x else h i j
def ev_rset (G : Geo) (a k : Nat) (r : Option Nat) : Geo := G.modify a (fun c => (c.1, c.2.set k r))
/-- the cell k > 0 of the abstract heap -/
def ev_cell (b base : Nat) (G : Geo) (h : Hp) (U : State) (H : Heap) (a : Nat) (z : Shp) : Prop := match z with
  | .inl c => ∃ (q : vw_C) (cC : ClassId) (iS : Nat → Nat), vwCl[c]? = some q ∧ u_Kn U q.1 q.2.1 q.2.2 cC iS ∧ t_OB (base + a) cC q.2.2 iS H (fun k => ev_sv b base (tyCl c k) G h a k)
  | .inr (ty, n) => ∃ cA : ClassId, ArrOfT U cA ty ∧ H[base + a]? = some (arrV cA n (fun j => ev_sv b base ty G h a j))
def ev_S (b base : Nat) (G : Geo) (h : Hp) (U : State) (H : Heap) : Prop :=
  b ≤ base ∧ H.size = base + G.length ∧ (∃ L : Nat, ev_sh G 0 = some (.inr (.int, L)) ∧ va_X b L (h 0) U H) ∧ ∀ (a : Nat) (z : Shp), 0 < a → ev_sh G a = some z → ev_cell b base G h U H a z
/-- the nest's words -/
def ev_N (U : State) : Prop := (∀ q ∈ nest_w, va_Nw (.methodLinkNest q.1 q.2.1 q.2.2.1 q.2.2.2) U) ∧ (Cond.arrayOver (.array .int)).before #[] U = true
theorem ev_N.moved {s U : State} (hW : s.WarmedH U.vm) (h : ev_N s) : ev_N U := ⟨fun q hq => va_Nw.warmM hW (h.1 q hq), over_moved hW.alike h.2⟩
theorem ev_cell.moved {b base : Nat} {G : Geo} {h : Hp} {u U : State} {H : Heap} {a : Nat} {z : Shp} (hvm : u.vm.Alike U.vm) (hc : ev_cell b base G h u H a z) : ev_cell b base G h U H a z := by
  cases z with
  | inl c =>
    obtain ⟨q, cC, iS, h1, h2, h3⟩ := hc
    exact ⟨q, cC, iS, h1, u_Kn_moved hvm h2, h3⟩
  | inr t =>
    obtain ⟨ty, n⟩ := t
    obtain ⟨cA, h1, h2⟩ := hc
    exact ⟨cA, arrOfT_moved hvm h1, h2⟩
theorem ev_S.moved {b base : Nat} {G : Geo} {h : Hp} {u U : State} {H : Heap} (hvm : u.vm.Alike U.vm) (hS : ev_S b base G h u H) : ev_S b base G h U H := by
  obtain ⟨h1, h2, ⟨L, h3, h4⟩, h5⟩ := hS
  exact ⟨h1, h2, ⟨L, h3, h4.moved hvm⟩, fun a z ha hz => (h5 a z ha hz).moved hvm⟩
theorem ev_sh_lt {G : Geo} {a : Nat} {z : Shp} (h : ev_sh G a = some z) : a < G.length := by
  unfold ev_sh at h
  cases hg : G[a]? with
  | none => rw [hg] at h; cases h
  | some c => exact (List.getElem?_eq_some_iff.mp hg).1
/-- an array is read: the script's or one of ours -/
theorem ev_S.arr {b base : Nat} {G : Geo} {h : Hp} {U : State} {H : Heap} (hS : ev_S b base G h U H) {a n : Nat} {ty : FieldType} (hz : ev_sh G a = some (.inr (ty, n))) :
    ∃ cell : Cell, H[ev_ad b base a]? = some cell ∧ U.isArrayOf cell ty ∧ cell.vm ≠ .unknown ∧ cell.slots.size = n ∧ ∀ j : Nat, j < n → cell.slots[j]? = some (ev_sv b base ty G h a j) := by
  obtain ⟨h1, h2, ⟨L, h3, scr, x1, x2, x3, x4, x5⟩, h5⟩ := hS
  by_cases ha : a = 0
  · subst ha
    rw [h3] at hz
    cases hz
    exact ⟨scr, x1, x2, x3, x4, fun j hj => by rw [x5 j hj]; rfl⟩
  · obtain ⟨cA, g1, g2⟩ := h5 a _ (Nat.pos_of_ne_zero ha) hz
    have e : ev_ad b base a = base + a := if_neg ha
    rw [e]
    exact ⟨_, g2, g1 _ _, (fun q => by cases q), arrV_size _ _ _, fun j hj => arrV_read _ _ hj⟩
/-- locals -/
def ev_L (b base nL : Nat) (lo : List (Option Value)) (ls : Array Slot) : Prop := ∃ l : List (Nat × Value), lv_has ls nL l ∧ ∀ (k : Nat) (v : Value), lo[k]? = some (some v) → (k, ev_rv b base v) ∈ l
theorem ev_L.get {b base nL k : Nat} {lo : List (Option Value)} {ls : Array Slot} {v : Value} (h : ev_L b base nL lo ls) (hk : lo[k]? = some (some v)) : ls[k]? = some (.val (ev_rv b base v)) := by
  obtain ⟨l, h1, h2⟩ := h
  exact h1.2.2 _ (h2 k v hk)
def ev_c1 (lo : List (Option Value)) : Nat → Bool
  | 0 => true
  | k + 1 => match lo[k]? with
    | some (some v) => Nat.beq v.category 1
    | _ => true
theorem ev_c1_spec {lo : List (Option Value)} {k : Nat} {w : Value} (h : ev_c1 lo (k + 1) = true) (hk : lo[k]? = some (some w)) : w.category = 1 := by
  simp only [ev_c1, hk] at h
  exact Nat.eq_of_beq_eq_true h
theorem ev_L.put1 {b base nL i : Nat} {lo : List (Option Value)} {l : List (Nat × Value)} {ls' : Array Slot} {v : Value} (h2 : ∀ (k : Nat) (w : Value), lo[k]? = some (some w) → (k, ev_rv b base w) ∈ l) (hc : ev_c1 lo i = true)
    (h : lv_has ls' nL ((i, ev_rv b base v) :: l.filter (fun q => !(q.1 == i) && !(q.1 + 1 == i && q.2.category == 2)))) : ev_L b base nL (lo.set i (some v)) ls' := by
  refine ⟨_, h, fun k w hk => ?_⟩
  by_cases e : k = i
  · subst e
    have hl : k < lo.length := by
      have := (List.getElem?_eq_some_iff.mp hk).1
      simpa using this
    rw [List.getElem?_set_self hl] at hk
    cases hk
    exact List.mem_cons_self
  · rw [List.getElem?_set_ne (Ne.symm e)] at hk
    refine List.mem_cons_of_mem _ (List.mem_filter.mpr ⟨h2 k w hk, ?_⟩)
    have e1 : (k == i) = false := by simpa using e
    have e2 : (k + 1 == i && (ev_rv b base w).category == 2) = false := by
      by_cases e3 : k + 1 = i
      · subst e3
        rw [ev_rv_cat, ev_c1_spec hc hk]
        simp
      · have : (k + 1 == i) = false := by simpa using e3
        rw [this]; rfl
    simp only [e1, e2]; rfl
theorem ev_L.put2 {b base nL i : Nat} {lo : List (Option Value)} {l : List (Nat × Value)} {ls' : Array Slot} {v : Value} (h2 : ∀ (k : Nat) (w : Value), lo[k]? = some (some w) → (k, ev_rv b base w) ∈ l) (hc : ev_c1 lo i = true)
    (h : lv_has ls' nL ((i, ev_rv b base v) :: l.filter (fun q => !(q.1 == i) && (!(q.1 == i + 1) && !(q.1 + 1 == i && q.2.category == 2))))) : ev_L b base nL ((lo.set i (some v)).set (i + 1) none) ls' := by
  refine ⟨_, h, fun k w hk => ?_⟩
  by_cases e0 : k = i + 1
  · subst e0
    exfalso
    have hl : i + 1 < (lo.set i (some v)).length := by
      have := (List.getElem?_eq_some_iff.mp hk).1
      simpa using this
    rw [List.getElem?_set_self hl] at hk
    cases hk
  rw [List.getElem?_set_ne (Ne.symm e0)] at hk
  by_cases e : k = i
  · subst e
    have hl : k < lo.length := by
      have := (List.getElem?_eq_some_iff.mp hk).1
      simpa using this
    rw [List.getElem?_set_self hl] at hk
    cases hk
    exact List.mem_cons_self
  · rw [List.getElem?_set_ne (Ne.symm e)] at hk
    refine List.mem_cons_of_mem _ (List.mem_filter.mpr ⟨h2 k w hk, ?_⟩)
    have e1 : (k == i) = false := by simpa using e
    have e4 : (k == i + 1) = false := by simpa using e0
    have e2 : (k + 1 == i && (ev_rv b base w).category == 2) = false := by
      by_cases e3 : k + 1 = i
      · subst e3
        rw [ev_rv_cat, ev_c1_spec hc hk]
        simp
      · have : (k + 1 == i) = false := by simpa using e3
        rw [this]; rfl
    simp only [e1, e2, e4]; rfl
def ev_al : List Value → List (Option Value)
  | [] => []
  | v :: vs => if v.category = 2 then some v :: none :: ev_al vs else some v :: ev_al vs
theorem ev_al_cons (v : Value) (vs : List Value) : ev_al (v :: vs) = if v.category = 2 then some v :: none :: ev_al vs else some v :: ev_al vs := rfl
theorem ev_al_in (b base : Nat) : ∀ (vs : List Value) (i k : Nat) (v : Value), (ev_al vs)[k]? = some (some v) → (i + k, ev_rv b base v) ∈ lv_args i (vs.map (ev_rv b base))
  | [], i, k, v, h => by simp [ev_al] at h
  | w :: vs, i, k, v, h => by
    rw [List.map_cons]
    unfold lv_args
    rw [ev_al_cons] at h
    rw [ev_rv_cat]
    by_cases hc : w.category = 2
    · rw [if_pos hc] at h ⊢
      match k, h with
      | 0, h => cases h; exact List.mem_cons_self
      | 1, h => cases h
      | k + 2, h =>
        have h' : (ev_al vs)[k]? = some (some v) := h
        have := ev_al_in b base vs (i + 2) k v h'
        rw [show i + 2 + k = i + (k + 2) by omega] at this
        exact List.mem_cons_of_mem _ this
    · rw [if_neg hc] at h ⊢
      match k, h with
      | 0, h => cases h; exact List.mem_cons_self
      | k + 1, h =>
        have h' : (ev_al vs)[k]? = some (some v) := h
        have := ev_al_in b base vs (i + 1) k v h'
        rw [show i + 1 + k = i + (k + 1) by omega] at this
        exact List.mem_cons_of_mem _ this
def ev_lo (nL : Nat) (args : List Value) : List (Option Value) := ev_al args ++ List.replicate (nL - (ev_al args).length) none
theorem ev_lo_in (b base nL : Nat) (vs : List Value) (k : Nat) (v : Value) (h : (ev_lo nL vs)[k]? = some (some v)) : (k, ev_rv b base v) ∈ lv_args 0 (vs.map (ev_rv b base)) := by
  unfold ev_lo at h
  by_cases hk : k < (ev_al vs).length
  · rw [List.getElem?_append_left hk] at h
    have := ev_al_in b base vs 0 k v h
    rwa [Nat.zero_add] at this
  · rw [List.getElem?_append_right (by omega)] at h
    have := List.eq_of_mem_replicate (List.mem_of_getElem? h)
    cases this
theorem ev_al_len : ∀ (b base : Nat) (vs : List Value), (lg_sl (vs.map (ev_rv b base))).length = (ev_al vs).length
  | b, base, [] => rfl
  | b, base, v :: vs => by
    have ih := ev_al_len b base vs
    unfold lg_sl at ih ⊢
    rw [List.map_cons, List.flatMap_cons, List.length_append, ih, ev_rv_cat, ev_al_cons]
    by_cases hc : v.category = 2
    · rw [if_pos hc, if_pos hc]; simp; omega
    · rw [if_neg hc, if_neg hc]; simp; omega
/-! words -/
def gwl : List Cond := lw_tbl.filter goodWord
theorem gwl_in {w : Cond} (i : Nat) (h : lw_tbl[i]? = some w) (g : goodWord w = true) : w ∈ gwl := List.mem_filter.mpr ⟨List.mem_of_getElem? h, g⟩
theorem gwl_all (ws : List Cond) (ps : List Nat) (hp : ws = ps.filterMap (fun i => lw_tbl[i]?)) (h : ws.all goodWord = true) : ∀ w ∈ ws, w ∈ gwl := by
  intro w hw
  have h1 := List.all_eq_true.mp h w hw
  rw [hp] at hw
  obtain ⟨i, -, hi⟩ := List.mem_filterMap.mp hw
  exact gwl_in i hi h1
theorem gwl_good : GoodIn gwl gwl := fun w hw => ⟨hw, good_of_word (List.mem_filter.mp hw).2⟩
/-- which field a pool index names: the class's number, the field's number, by its words -/
def ev_fl (own : String) (ix c k : Nat) : Prop := ∃ q : vw_C, vwCl[c]? = some q ∧ k < q.2.2 ∧ (∀ w ∈ u_ws q.1 q.2.1 q.2.2, w ∈ gwl) ∧ Cond.fieldLink own ix (q.2.1 k).1 (q.2.1 k).2.1 (q.2.1 k).2.2.1 ∈ gwl ∧ (∀ j, j < q.2.2 → parseFieldDescriptor (q.2.1 j).2.2.1 = some (tyCl c j)) ∧ (∀ a, a < q.2.2 → ∀ b, b < q.2.2 → a ≠ b → (q.2.1 a).2.1 ≠ (q.2.1 b).2.1)
def ev_lk (own : String) (ix : Nat) (ce : MI) (n : Nat) : Prop := Cond.methodLink own ix ce.1 ∈ gwl ∧ Cond.code ce.1 (mi_C ce) (mi_L ce) (mi_R ce) ∈ gwl ∧ Cond.initialized ce.1.cls ∈ gwl ∧ ce.1.cls ≠ "java/lang/invoke/MethodHandle" ∧ ce.1.cls ≠ "java/lang/invoke/VarHandle" ∧ (parseMethodDescriptor ce.1.desc).map (fun d => d.parameters.length) = some n
def ev_ln (own : String) (ix : Nat) (ce : MI) (n : Nat) : Prop := (∃ host : String, (own, ix, ce.1, host) ∈ nest_w) ∧ Cond.code ce.1 (mi_C ce) (mi_L ce) (mi_R ce) ∈ gwl ∧ Cond.initialized ce.1.cls ∈ gwl ∧ ce.1.cls ≠ "java/lang/invoke/MethodHandle" ∧ ce.1.cls ≠ "java/lang/invoke/VarHandle" ∧ (parseMethodDescriptor ce.1.desc).map (fun d => d.parameters.length) = some n
def ev_cl (own : String) (ix c : Nat) : Prop := ∃ q : vw_C, vwCl[c]? = some q ∧ Cond.classLink own ix q.1 ∈ gwl ∧ Cond.instantiable q.1 q.2.2 ∈ gwl ∧ Cond.initialized q.1 ∈ gwl ∧ (∀ w ∈ u_ws q.1 q.2.1 q.2.2, w ∈ gwl) ∧ (∀ j, j < q.2.2 → parseFieldDescriptor (q.2.1 j).2.2.1 = some (tyCl c j)) ∧ (∀ j, j < q.2.2 → (tyCl c j).isReference = true ∨ defaultValue (tyCl c j) = .int 0)

