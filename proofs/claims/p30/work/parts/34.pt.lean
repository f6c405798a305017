/-! THE CLASS'S PLAN: its object, its signs, its numbers -/
abbrev ptF (ad : Nat → Nat) (ln a kd : Int32) : List Value := [.ref (ad 1), .int ln, .int a, .int kd, .ref (ad 2)]
def ptc (ct : Nat → ClassId) (ad : Nat → Nat) (B A : Nat → Int32) (ln a kd : Int32) : Nat → va_E := fun i => match i with
  | 0 => .inr (3, ptF ad ln a kd)
  | 1 => .inl (ct 2, 60, .inl B)
  | _ => .inl (ct 0, 4, .inl A)
section PT
variable {p : Program} {l : Launch} {e : Env} {R : Room} {s : State} {m : MethodId} {args : Array Value} {below : List Frame} {meth : Method} {c : Code} {H : Heap} {locs : List Loc} {cells slots : Nat} {Q : State → Prop}
variable {cc : ByteArray} {pc : Nat} {ls : Array Slot} {rest : List Value} {D : va_G} {ct : Nat → ClassId} {ad : Nat → Nat} {B A : Nat → Int32} {ln a kd : Int32} {H0 : Heap} {own : String} {idx : Nat}
end PT
