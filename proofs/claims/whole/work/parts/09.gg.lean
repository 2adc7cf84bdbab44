/-! what varies in a claim's start: class numbers, slots, the old heap, the room -/
abbrev Ux : Type := va_G × (Nat → ClassId) × (Nat → ClassId) × Heap × Nat × Nat
def YS : List Cond := [.isRef (.static "java/lang/Throwable" "UNASSIGNED_STACK" "[Ljava/lang/StackTraceElement;"), .isRef (.static "java/lang/Throwable" "SUPPRESSED_SENTINEL" "Ljava/util/List;")]
abbrev gg (u : Ux) : Gx := (WS, YS, clS, u.1, taS, u.2.1, [("java/lang/IllegalArgumentException", u.2.2.1 0), ("java/lang/IllegalStateException", u.2.2.1 1), ("java/lang/UnsupportedOperationException", u.2.2.1 2), ("java/lang/IndexOutOfBoundsException", u.2.2.1 3)], u.2.2.2.1, u.2.2.2.2.1, u.2.2.2.2.2)
