/-- worlds by their leaves -/
def qDj (x0 : Nat) (x1 x2 x3 x4 x5 x6 x7 x8 x9 x10 x11 x12 x13 x14 x15 x16 x17 x18 x19 x20 x21 : Value) (x22 : Int32) (x23 x24 x25 x26 x27 x28 x29 x30 x31 x32 x33 x34 x35 x36 x37 x38 x39 x40 : Value) (x41 : Nat) (x42 x43 x44 x45 x46 x47 x48 x49 x50 x51 x52 x53 x54 x55 : Value) (x56 : Nat) (x57 : ClassId) (x58 : NI) : va_W := [(x0, .inr (11, [x1, x2, x3, x4, x5, x6, x7, x8, x9, x10, x11, x12, x13, x14, x15, x16, x17, x18, x19, x20, x21, .int x22, x23, x24, x25, x26, x27, x28, x29, x30, x31, x32, x33, x34, x35, x36, x37, x38, x39, x40, .ref x41, x42, x43, x44, x45, x46, x47, x48, x49, x50, x51, x52, x53, x54, x55])), (x56, .inl (x57, 68, .inl x58))]
def qy5 (x0 : Nat) (x1 : Int32) (x2 : Nat) (x3 x4 x5 x6 x7 x8 x9 x10 x11 x12 x13 x14 x15 x16 x17 x18 x19 x20 x21 : Value) (x22 : Int32) (x23 x24 x25 x26 x27 x28 x29 x30 x31 x32 x33 x34 x35 x36 x37 x38 x39 : Value) (x40 x41 : Nat) (x42 x43 x44 x45 x46 x47 x48 x49 x50 x51 x52 x53 x54 x55 : Value) (x56 : Nat) (x57 : ClassId) (x58 : NI) (x59 : Nat) (x60 : ClassId) (x61 : NI) (x62 : Nat) (x63 : ClassId) (x64 : NI) : va_W := [(x0, .inr (11, [.int x1, .ref x2, x3, x4, x5, x6, x7, x8, x9, x10, x11, x12, x13, x14, x15, x16, x17, x18, x19, x20, x21, .int x22, x23, x24, x25, x26, x27, x28, x29, x30, x31, x32, x33, x34, x35, x36, x37, x38, x39, .ref x40, .ref x41, x42, x43, x44, x45, x46, x47, x48, x49, x50, x51, x52, x53, x54, x55])), (x56, .inl (x57, 2, .inl x58)), (x59, .inl (x60, 68, .inl x61)), (x62, .inl (x63, 68, .inl x64))]
def qaLZ (x0 : Nat) (x1 : Int32) (x2 : Nat) (x3 x4 x5 x6 x7 x8 x9 x10 x11 x12 x13 x14 x15 x16 x17 x18 x19 x20 x21 : Value) (x22 : Int32) (x23 x24 x25 x26 x27 x28 x29 x30 x31 x32 x33 x34 x35 x36 x37 x38 x39 : Value) (x40 x41 : Nat) (x42 x43 x44 x45 x46 x47 x48 x49 x50 x51 x52 x53 x54 x55 : Value) (x56 : Nat) (x57 : ClassId) (x58 : NI) : va_W := [(x0, .inr (11, [.int x1, .ref x2, x3, x4, x5, x6, x7, x8, x9, x10, x11, x12, x13, x14, x15, x16, x17, x18, x19, x20, x21, .int x22, x23, x24, x25, x26, x27, x28, x29, x30, x31, x32, x33, x34, x35, x36, x37, x38, x39, .ref x40, .ref x41, x42, x43, x44, x45, x46, x47, x48, x49, x50, x51, x52, x53, x54, x55])), (x56, .inl (x57, 68, .inl x58))]
def qa4Y (x0 : Nat) (x1 : ClassId) (x2 : NI) (x3 : Nat) (x4 : ClassId) (x5 : NI) : va_W := [(x0, .inl (x1, 2, .inl x2)), (x3, .inl (x4, 68, .inl x5))]
def qa0X (x0 : Nat) (x1 : Int32) (x2 : Nat) (x3 x4 x5 x6 x7 x8 x9 x10 x11 x12 x13 x14 x15 x16 x17 x18 x19 x20 x21 : Value) (x22 : Int32) (x23 x24 x25 x26 x27 x28 x29 x30 x31 x32 x33 x34 x35 x36 x37 x38 x39 : Value) (x40 x41 : Nat) (x42 x43 x44 x45 x46 x47 x48 x49 x50 x51 x52 x53 x54 x55 : Value) (x56 : Nat) (x57 : ClassId) (x58 : NI) : va_W := [(x0, .inr (11, [.int x1, .ref x2, x3, x4, x5, x6, x7, x8, x9, x10, x11, x12, x13, x14, x15, x16, x17, x18, x19, x20, x21, .int x22, x23, x24, x25, x26, x27, x28, x29, x30, x31, x32, x33, x34, x35, x36, x37, x38, x39, .ref x40, .ref x41, x42, x43, x44, x45, x46, x47, x48, x49, x50, x51, x52, x53, x54, x55])), (x56, .inl (x57, 2, .inl x58))]
def qbdH (x0 : Nat) (x1 : ClassId) (x2 : NI) (x3 : Nat) (x4 : ClassId) (x5 : NI) : va_W := [(x0, .inl (x1, 68, .inl x2)), (x3, .inl (x4, 68, .inl x5))]
def qbdb (x0 : Nat) (x1 : Int32) (x2 : Nat) (x3 x4 x5 x6 x7 x8 x9 x10 x11 x12 x13 x14 x15 x16 x17 x18 x19 x20 x21 : Value) (x22 : Int32) (x23 x24 x25 x26 x27 x28 x29 x30 x31 x32 x33 x34 x35 x36 x37 x38 x39 : Value) (x40 x41 : Nat) (x42 x43 x44 x45 x46 x47 x48 x49 x50 x51 x52 x53 x54 x55 : Value) (x56 : Nat) (x57 : ClassId) (x58 : NI) (x59 : Nat) (x60 : ClassId) (x61 : NI) : va_W := [(x0, .inr (11, [.int x1, .ref x2, x3, x4, x5, x6, x7, x8, x9, x10, x11, x12, x13, x14, x15, x16, x17, x18, x19, x20, x21, .int x22, x23, x24, x25, x26, x27, x28, x29, x30, x31, x32, x33, x34, x35, x36, x37, x38, x39, .ref x40, .ref x41, x42, x43, x44, x45, x46, x47, x48, x49, x50, x51, x52, x53, x54, x55])), (x56, .inl (x57, 68, .inl x58)), (x59, .inl (x60, 68, .inl x61))]
def qagT (x0 : Nat) (x1 : Int32) (x2 : Value) (x3 : Int32) (x4 x5 x6 x7 x8 x9 x10 x11 x12 x13 x14 x15 x16 x17 x18 x19 x20 x21 x22 x23 x24 x25 x26 x27 x28 x29 x30 x31 x32 x33 x34 : Value) (x35 : Int32) (x36 x37 x38 x39 x40 x41 x42 x43 x44 x45 x46 x47 x48 x49 x50 x51 x52 x53 x54 : Value) (x55 : Int32) : va_W := [(x0, .inr (11, [.int x1, x2, .int x3, x4, x5, x6, x7, x8, x9, x10, x11, x12, x13, x14, x15, x16, x17, x18, x19, x20, x21, x22, x23, x24, x25, x26, x27, x28, x29, x30, x31, x32, x33, x34, .int x35, x36, x37, x38, x39, x40, x41, x42, x43, x44, x45, x46, x47, x48, x49, x50, x51, x52, x53, x54, .int x55]))]
def q4n (x0 : Nat) (x1 : Int32) (x2 : Nat) (x3 x4 x5 x6 x7 x8 x9 x10 x11 x12 x13 x14 x15 x16 x17 x18 x19 x20 x21 : Value) (x22 : Int32) (x23 x24 x25 x26 x27 x28 x29 x30 x31 x32 x33 x34 x35 x36 x37 x38 x39 : Value) (x40 : Nat) (x41 x42 x43 x44 x45 x46 x47 x48 x49 x50 x51 x52 x53 x54 x55 : Value) (x56 : Nat) (x57 : ClassId) (x58 : NI) (x59 : Nat) (x60 : ClassId) (x61 : NI) : va_W := [(x0, .inr (11, [.int x1, .ref x2, x3, x4, x5, x6, x7, x8, x9, x10, x11, x12, x13, x14, x15, x16, x17, x18, x19, x20, x21, .int x22, x23, x24, x25, x26, x27, x28, x29, x30, x31, x32, x33, x34, x35, x36, x37, x38, x39, .ref x40, x41, x42, x43, x44, x45, x46, x47, x48, x49, x50, x51, x52, x53, x54, x55])), (x56, .inl (x57, 2, .inl x58)), (x59, .inl (x60, 68, .inl x61))]
def qa0h (x0 : Nat) (x1 : Int32) (x2 : Nat) (x3 x4 x5 x6 x7 x8 x9 x10 x11 x12 x13 x14 x15 x16 x17 x18 x19 x20 x21 : Value) (x22 : Int32) (x23 x24 x25 x26 x27 x28 x29 x30 x31 x32 x33 x34 x35 x36 x37 x38 x39 : Value) (x40 : Nat) (x41 x42 x43 x44 x45 x46 x47 x48 x49 x50 x51 x52 x53 x54 x55 : Value) (x56 : Nat) (x57 : ClassId) (x58 : NI) : va_W := [(x0, .inr (11, [.int x1, .ref x2, x3, x4, x5, x6, x7, x8, x9, x10, x11, x12, x13, x14, x15, x16, x17, x18, x19, x20, x21, .int x22, x23, x24, x25, x26, x27, x28, x29, x30, x31, x32, x33, x34, x35, x36, x37, x38, x39, .ref x40, x41, x42, x43, x44, x45, x46, x47, x48, x49, x50, x51, x52, x53, x54, x55])), (x56, .inl (x57, 2, .inl x58))]
def qnU (x0 : Nat) (x1 x2 x3 : Value) (x4 x5 : Int32) (x6 x7 x8 x9 : Value) (x10 : Nat) (x11 x12 x13 x14 x15 x16 x17 x18 x19 x20 x21 x22 x23 x24 x25 x26 x27 x28 x29 x30 x31 x32 x33 x34 x35 x36 x37 x38 x39 x40 x41 x42 x43 x44 x45 x46 x47 x48 x49 x50 x51 x52 x53 x54 x55 : Value) (x56 : Nat) (x57 : ClassId) (x58 : NI) : va_W := [(x0, .inr (11, [x1, x2, x3, .int x4, .int x5, x6, x7, x8, x9, .ref x10, x11, x12, x13, x14, x15, x16, x17, x18, x19, x20, x21, x22, x23, x24, x25, x26, x27, x28, x29, x30, x31, x32, x33, x34, x35, x36, x37, x38, x39, x40, x41, x42, x43, x44, x45, x46, x47, x48, x49, x50, x51, x52, x53, x54, x55])), (x56, .inl (x57, 600, .inl x58))]
def qS9 (x0 : Nat) (x1 x2 x3 : Value) (x4 x5 x6 x7 : Int32) (x8 x9 : Value) (x10 : Nat) (x11 x12 x13 x14 x15 x16 x17 x18 : Value) (x19 : Int32) (x20 x21 x22 x23 x24 x25 x26 x27 x28 x29 x30 x31 x32 x33 x34 x35 x36 x37 x38 x39 x40 x41 x42 x43 x44 x45 x46 x47 x48 x49 x50 x51 x52 x53 x54 x55 : Value) (x56 : Nat) (x57 : ClassId) (x58 : NI) : va_W := [(x0, .inr (11, [x1, x2, x3, .int x4, .int x5, .int x6, .int x7, x8, x9, .ref x10, x11, x12, x13, x14, x15, x16, x17, x18, .int x19, x20, x21, x22, x23, x24, x25, x26, x27, x28, x29, x30, x31, x32, x33, x34, x35, x36, x37, x38, x39, x40, x41, x42, x43, x44, x45, x46, x47, x48, x49, x50, x51, x52, x53, x54, x55])), (x56, .inl (x57, 600, .inl x58))]
def qzr (x0 : Nat) (x1 x2 x3 : Value) (x4 x5 x6 x7 : Int32) (x8 x9 : Value) (x10 : Nat) (x11 x12 x13 : Value) (x14 : Nat) (x15 x16 x17 x18 : Value) (x19 : Int32) (x20 x21 x22 x23 x24 x25 x26 x27 x28 x29 x30 x31 x32 x33 x34 x35 x36 x37 x38 x39 x40 x41 x42 x43 x44 x45 x46 x47 x48 x49 x50 x51 x52 x53 x54 x55 : Value) (x56 : Nat) (x57 : ClassId) (x58 : NI) (x59 : Nat) (x60 : ClassId) (x61 : NI) : va_W := [(x0, .inr (11, [x1, x2, x3, .int x4, .int x5, .int x6, .int x7, x8, x9, .ref x10, x11, x12, x13, .ref x14, x15, x16, x17, x18, .int x19, x20, x21, x22, x23, x24, x25, x26, x27, x28, x29, x30, x31, x32, x33, x34, x35, x36, x37, x38, x39, x40, x41, x42, x43, x44, x45, x46, x47, x48, x49, x50, x51, x52, x53, x54, x55])), (x56, .inl (x57, 600, .inl x58)), (x59, .inl (x60, 36, .inl x61))]
def q3k (x0 : Nat) (x1 x2 x3 : Value) (x4 x5 x6 x7 : Int32) (x8 x9 : Value) (x10 : Nat) (x11 x12 x13 : Value) (x14 : Nat) (x15 x16 x17 x18 : Value) (x19 : Int32) (x20 x21 x22 x23 x24 x25 x26 x27 x28 x29 x30 x31 x32 x33 x34 x35 x36 x37 x38 x39 x40 x41 x42 x43 x44 x45 x46 x47 x48 x49 x50 x51 x52 x53 x54 x55 : Value) (x56 : Nat) (x57 : ClassId) (x58 : NI) : va_W := [(x0, .inr (11, [x1, x2, x3, .int x4, .int x5, .int x6, .int x7, x8, x9, .ref x10, x11, x12, x13, .ref x14, x15, x16, x17, x18, .int x19, x20, x21, x22, x23, x24, x25, x26, x27, x28, x29, x30, x31, x32, x33, x34, x35, x36, x37, x38, x39, x40, x41, x42, x43, x44, x45, x46, x47, x48, x49, x50, x51, x52, x53, x54, x55])), (x56, .inl (x57, 600, .inl x58))]
def qaR0 (x0 : Nat) (x1 : ClassId) (x2 : NI) : va_W := [(x0, .inl (x1, 36, .inl x2))]
def qalZ (x0 : Nat) (x1 x2 x3 : Value) (x4 x5 x6 x7 : Int32) (x8 x9 : Value) (x10 : Nat) (x11 x12 x13 : Value) (x14 : Nat) (x15 x16 x17 x18 : Value) (x19 : Int32) (x20 x21 x22 x23 x24 x25 x26 x27 x28 x29 x30 x31 x32 x33 x34 x35 x36 x37 x38 x39 x40 x41 x42 x43 x44 x45 x46 x47 x48 x49 x50 x51 x52 x53 x54 x55 : Value) : va_W := [(x0, .inr (11, [x1, x2, x3, .int x4, .int x5, .int x6, .int x7, x8, x9, .ref x10, x11, x12, x13, .ref x14, x15, x16, x17, x18, .int x19, x20, x21, x22, x23, x24, x25, x26, x27, x28, x29, x30, x31, x32, x33, x34, x35, x36, x37, x38, x39, x40, x41, x42, x43, x44, x45, x46, x47, x48, x49, x50, x51, x52, x53, x54, x55]))]
def qa0e (x0 : Nat) (x1 : ClassId) (x2 : NI) (x3 : Nat) (x4 : ClassId) (x5 : NI) : va_W := [(x0, .inl (x1, 600, .inl x2)), (x3, .inl (x4, 36, .inl x5))]
def qhs (x0 : Nat) (x1 x2 x3 x4 x5 x6 x7 x8 x9 x10 : Value) (x11 x12 x13 x14 x15 x16 x17 : Nat) (x18 x19 x20 x21 x22 x23 : Int32) (x24 x25 x26 x27 x28 x29 : Value) (x30 : Int32) (x31 x32 x33 x34 : Value) (x35 x36 : Int32) (x37 x38 x39 : Value) (x40 : Nat) (x41 x42 x43 : Value) (x44 : Nat) (x45 : Int32) (x46 x47 x48 x49 x50 x51 x52 x53 x54 : Value) (x55 : Int32) (x56 : Nat) (x57 : ClassId) (x58 : NI) (x59 : Nat) (x60 : ClassId) (x61 : NI) (x62 : Nat) (x63 : ClassId) (x64 : NI) (x65 : Nat) (x66 : ClassId) (x67 : NI) (x68 : Nat) (x69 : ClassId) (x70 : NI) (x71 : Nat) (x72 : ClassId) (x73 : NI) (x74 : Nat) (x75 : ClassId) (x76 : NI) (x77 : Nat) (x78 : ClassId) (x79 : NI) (x80 : Nat) (x81 : ClassId) (x82 : NI) : va_W := [(x0, .inr (11, [x1, x2, x3, x4, x5, x6, x7, x8, x9, x10, .ref x11, .ref x12, .ref x13, .ref x14, .ref x15, .ref x16, .ref x17, .int x18, .int x19, .int x20, .int x21, .int x22, .int x23, x24, x25, x26, x27, x28, x29, .int x30, x31, x32, x33, x34, .int x35, .int x36, x37, x38, x39, .ref x40, x41, x42, x43, .ref x44, .int x45, x46, x47, x48, x49, x50, x51, x52, x53, x54, .int x55])), (x56, .inl (x57, 16, .inl x58)), (x59, .inl (x60, 16, .inl x61)), (x62, .inl (x63, 12, .inl x64)), (x65, .inl (x66, 12, .inl x67)), (x68, .inl (x69, 8, .inl x70)), (x71, .inl (x72, 8, .inl x73)), (x74, .inl (x75, 8, .inl x76)), (x77, .inl (x78, 68, .inl x79)), (x80, .inl (x81, 36, .inl x82))]
def qa6e (x0 : Nat) (x1 x2 x3 x4 x5 x6 x7 x8 x9 x10 : Value) (x11 x12 x13 x14 x15 x16 x17 : Nat) (x18 x19 x20 x21 x22 x23 : Int32) (x24 x25 x26 x27 x28 x29 : Value) (x30 : Int32) (x31 x32 x33 x34 : Value) (x35 x36 : Int32) (x37 x38 x39 : Value) (x40 : Nat) (x41 x42 x43 : Value) (x44 : Nat) (x45 : Int32) (x46 x47 x48 x49 x50 x51 x52 x53 x54 : Value) (x55 : Int32) (x56 : Nat) (x57 : ClassId) (x58 : NI) (x59 : Nat) (x60 : ClassId) (x61 : NI) : va_W := [(x0, .inr (11, [x1, x2, x3, x4, x5, x6, x7, x8, x9, x10, .ref x11, .ref x12, .ref x13, .ref x14, .ref x15, .ref x16, .ref x17, .int x18, .int x19, .int x20, .int x21, .int x22, .int x23, x24, x25, x26, x27, x28, x29, .int x30, x31, x32, x33, x34, .int x35, .int x36, x37, x38, x39, .ref x40, x41, x42, x43, .ref x44, .int x45, x46, x47, x48, x49, x50, x51, x52, x53, x54, .int x55])), (x56, .inl (x57, 16, .inl x58)), (x59, .inl (x60, 16, .inl x61))]
def qa77 (x0 : Nat) (x1 x2 x3 x4 x5 x6 x7 x8 x9 x10 : Value) (x11 x12 x13 x14 x15 x16 x17 : Nat) (x18 x19 x20 x21 x22 x23 : Int32) (x24 x25 x26 x27 x28 x29 : Value) (x30 : Int32) (x31 x32 x33 x34 : Value) (x35 x36 : Int32) (x37 x38 x39 : Value) (x40 : Nat) (x41 x42 x43 : Value) (x44 : Nat) (x45 : Int32) (x46 x47 x48 x49 x50 x51 x52 x53 x54 : Value) (x55 : Int32) (x56 : Nat) (x57 : ClassId) (x58 : NI) (x59 : Nat) (x60 : ClassId) (x61 : NI) : va_W := [(x0, .inr (11, [x1, x2, x3, x4, x5, x6, x7, x8, x9, x10, .ref x11, .ref x12, .ref x13, .ref x14, .ref x15, .ref x16, .ref x17, .int x18, .int x19, .int x20, .int x21, .int x22, .int x23, x24, x25, x26, x27, x28, x29, .int x30, x31, x32, x33, x34, .int x35, .int x36, x37, x38, x39, .ref x40, x41, x42, x43, .ref x44, .int x45, x46, x47, x48, x49, x50, x51, x52, x53, x54, .int x55])), (x56, .inl (x57, 12, .inl x58)), (x59, .inl (x60, 12, .inl x61))]
def qa4w (x0 : Nat) (x1 x2 x3 x4 x5 x6 x7 x8 x9 x10 : Value) (x11 x12 x13 x14 x15 x16 x17 : Nat) (x18 x19 x20 x21 x22 x23 : Int32) (x24 x25 x26 x27 x28 x29 : Value) (x30 : Int32) (x31 x32 x33 x34 : Value) (x35 x36 : Int32) (x37 x38 x39 : Value) (x40 : Nat) (x41 x42 x43 : Value) (x44 : Nat) (x45 : Int32) (x46 x47 x48 x49 x50 x51 x52 x53 x54 : Value) (x55 : Int32) (x56 : Nat) (x57 : ClassId) (x58 : NI) (x59 : Nat) (x60 : ClassId) (x61 : NI) : va_W := [(x0, .inr (11, [x1, x2, x3, x4, x5, x6, x7, x8, x9, x10, .ref x11, .ref x12, .ref x13, .ref x14, .ref x15, .ref x16, .ref x17, .int x18, .int x19, .int x20, .int x21, .int x22, .int x23, x24, x25, x26, x27, x28, x29, .int x30, x31, x32, x33, x34, .int x35, .int x36, x37, x38, x39, .ref x40, x41, x42, x43, .ref x44, .int x45, x46, x47, x48, x49, x50, x51, x52, x53, x54, .int x55])), (x56, .inl (x57, 8, .inl x58)), (x59, .inl (x60, 8, .inl x61))]
def qYk (x0 : Nat) (x1 x2 x3 x4 x5 x6 x7 x8 x9 x10 x11 x12 x13 x14 x15 x16 x17 x18 x19 x20 x21 x22 x23 x24 x25 x26 x27 x28 x29 x30 x31 x32 x33 x34 x35 x36 x37 x38 x39 x40 x41 x42 x43 x44 x45 x46 x47 x48 x49 x50 x51 : Value) (x52 : Int32) (x53 x54 x55 : Value) : va_W := [(x0, .inr (11, [x1, x2, x3, x4, x5, x6, x7, x8, x9, x10, x11, x12, x13, x14, x15, x16, x17, x18, x19, x20, x21, x22, x23, x24, x25, x26, x27, x28, x29, x30, x31, x32, x33, x34, x35, x36, x37, x38, x39, x40, x41, x42, x43, x44, x45, x46, x47, x48, x49, x50, x51, .int x52, x53, x54, x55]))]
def qGM (x0 : Nat) (x1 x2 x3 x4 x5 : Value) (x6 : Int32) (x7 x8 x9 x10 x11 x12 x13 x14 x15 x16 x17 x18 x19 x20 x21 x22 x23 : Value) (x24 x25 : Nat) (x26 x27 x28 : Value) (x29 : Int32) (x30 x31 x32 x33 x34 x35 x36 x37 x38 x39 x40 x41 x42 x43 x44 x45 x46 x47 x48 x49 x50 x51 x52 x53 x54 x55 : Value) (x56 : Nat) (x57 : ClassId) (x58 : NI) (x59 : Nat) (x60 : ClassId) (x61 : NI) : va_W := [(x0, .inr (11, [x1, x2, x3, x4, x5, .int x6, x7, x8, x9, x10, x11, x12, x13, x14, x15, x16, x17, x18, x19, x20, x21, x22, x23, .ref x24, .ref x25, x26, x27, x28, .int x29, x30, x31, x32, x33, x34, x35, x36, x37, x38, x39, x40, x41, x42, x43, x44, x45, x46, x47, x48, x49, x50, x51, x52, x53, x54, x55])), (x56, .inl (x57, 150, .inl x58)), (x59, .inl (x60, 150, .inl x61))]
def qa3w (x0 : Nat) (x1 x2 x3 x4 x5 : Value) (x6 : Int32) (x7 x8 x9 x10 x11 x12 x13 x14 x15 x16 x17 x18 x19 x20 x21 x22 x23 : Value) (x24 x25 : Nat) (x26 x27 x28 : Value) (x29 : Int32) (x30 x31 x32 x33 x34 x35 x36 x37 x38 x39 x40 x41 x42 x43 x44 x45 x46 x47 x48 x49 x50 x51 x52 x53 x54 x55 : Value) : va_W := [(x0, .inr (11, [x1, x2, x3, x4, x5, .int x6, x7, x8, x9, x10, x11, x12, x13, x14, x15, x16, x17, x18, x19, x20, x21, x22, x23, .ref x24, .ref x25, x26, x27, x28, .int x29, x30, x31, x32, x33, x34, x35, x36, x37, x38, x39, x40, x41, x42, x43, x44, x45, x46, x47, x48, x49, x50, x51, x52, x53, x54, x55]))]
def qMa (x0 : Nat) (x1 : Int32) (x2 : Nat) (x3 x4 x5 x6 x7 x8 x9 x10 x11 x12 x13 x14 : Value) (x15 : Nat) (x16 x17 x18 x19 x20 : Value) (x21 : Int32) (x22 x23 x24 x25 x26 x27 x28 x29 x30 x31 x32 x33 x34 x35 x36 x37 x38 x39 x40 x41 x42 x43 x44 x45 x46 x47 x48 x49 x50 x51 x52 x53 x54 x55 : Value) (x56 : Nat) (x57 : ClassId) (x58 : NI) (x59 : Nat) (x60 : ClassId) (x61 : NI) : va_W := [(x0, .inr (11, [.int x1, .ref x2, x3, x4, x5, x6, x7, x8, x9, x10, x11, x12, x13, x14, .ref x15, x16, x17, x18, x19, x20, .int x21, x22, x23, x24, x25, x26, x27, x28, x29, x30, x31, x32, x33, x34, x35, x36, x37, x38, x39, x40, x41, x42, x43, x44, x45, x46, x47, x48, x49, x50, x51, x52, x53, x54, x55])), (x56, .inl (x57, 2, .inl x58)), (x59, .inl (x60, 16, .inl x61))]
def qaRV (x0 : Nat) (x1 : Int32) (x2 : Nat) (x3 x4 x5 x6 x7 x8 x9 x10 x11 x12 x13 x14 : Value) (x15 : Nat) (x16 x17 x18 x19 x20 : Value) (x21 : Int32) (x22 x23 x24 x25 x26 x27 x28 x29 x30 x31 x32 x33 x34 x35 x36 x37 x38 x39 x40 x41 x42 x43 x44 x45 x46 x47 x48 x49 x50 x51 x52 x53 x54 x55 : Value) (x56 : Nat) (x57 : ClassId) (x58 : NI) : va_W := [(x0, .inr (11, [.int x1, .ref x2, x3, x4, x5, x6, x7, x8, x9, x10, x11, x12, x13, x14, .ref x15, x16, x17, x18, x19, x20, .int x21, x22, x23, x24, x25, x26, x27, x28, x29, x30, x31, x32, x33, x34, x35, x36, x37, x38, x39, x40, x41, x42, x43, x44, x45, x46, x47, x48, x49, x50, x51, x52, x53, x54, x55])), (x56, .inl (x57, 2, .inl x58))]
def qa5n (x0 : Nat) (x1 : ClassId) (x2 : NI) : va_W := [(x0, .inl (x1, 16, .inl x2))]
def qa7W (x0 : Nat) (x1 : Int32) (x2 : Nat) (x3 x4 x5 x6 x7 x8 x9 x10 x11 x12 x13 x14 : Value) (x15 : Nat) (x16 x17 x18 x19 x20 : Value) (x21 : Int32) (x22 x23 x24 x25 x26 x27 x28 x29 x30 x31 x32 x33 x34 x35 x36 x37 x38 x39 x40 x41 x42 x43 x44 x45 x46 x47 x48 x49 x50 x51 x52 x53 x54 x55 : Value) (x56 : Nat) (x57 : ClassId) (x58 : NI) : va_W := [(x0, .inr (11, [.int x1, .ref x2, x3, x4, x5, x6, x7, x8, x9, x10, x11, x12, x13, x14, .ref x15, x16, x17, x18, x19, x20, .int x21, x22, x23, x24, x25, x26, x27, x28, x29, x30, x31, x32, x33, x34, x35, x36, x37, x38, x39, x40, x41, x42, x43, x44, x45, x46, x47, x48, x49, x50, x51, x52, x53, x54, x55])), (x56, .inl (x57, 16, .inl x58))]
def qXH (x0 : Nat) (x1 : Int32) (x2 x3 x4 x5 x6 x7 x8 : Value) (x9 : Int32) (x10 x11 x12 x13 x14 x15 x16 x17 x18 x19 x20 x21 x22 x23 x24 x25 x26 x27 x28 x29 x30 x31 x32 x33 x34 x35 x36 x37 x38 x39 x40 x41 x42 x43 x44 x45 x46 x47 x48 x49 x50 x51 x52 x53 x54 x55 : Value) : va_W := [(x0, .inr (11, [.int x1, x2, x3, x4, x5, x6, x7, x8, .int x9, x10, x11, x12, x13, x14, x15, x16, x17, x18, x19, x20, x21, x22, x23, x24, x25, x26, x27, x28, x29, x30, x31, x32, x33, x34, x35, x36, x37, x38, x39, x40, x41, x42, x43, x44, x45, x46, x47, x48, x49, x50, x51, x52, x53, x54, x55]))]
def qwn (x0 : Nat) (x1 : Int32) (x2 : Value) (x3 : Int32) (x4 x5 x6 x7 x8 x9 : Value) (x10 : Nat) (x11 x12 x13 x14 x15 x16 x17 x18 x19 x20 x21 x22 x23 x24 x25 x26 x27 x28 x29 x30 x31 x32 x33 x34 x35 x36 x37 x38 x39 x40 x41 x42 x43 x44 x45 x46 x47 x48 x49 x50 x51 x52 x53 x54 x55 : Value) (x56 : Nat) (x57 : ClassId) (x58 : NI) : va_W := [(x0, .inr (11, [.int x1, x2, .int x3, x4, x5, x6, x7, x8, x9, .ref x10, x11, x12, x13, x14, x15, x16, x17, x18, x19, x20, x21, x22, x23, x24, x25, x26, x27, x28, x29, x30, x31, x32, x33, x34, x35, x36, x37, x38, x39, x40, x41, x42, x43, x44, x45, x46, x47, x48, x49, x50, x51, x52, x53, x54, x55])), (x56, .inl (x57, 600, .inl x58))]
def qdK (x0 : Nat) (x1 : Int32) (x2 : Nat) (x3 x4 x5 x6 x7 x8 x9 x10 x11 x12 x13 x14 x15 x16 x17 x18 x19 x20 x21 x22 x23 x24 x25 x26 x27 x28 x29 x30 x31 x32 x33 x34 x35 x36 x37 x38 x39 x40 x41 x42 x43 x44 x45 x46 x47 x48 x49 x50 : Value) (x51 : Nat) (x52 x53 x54 x55 : Value) (x56 : Nat) (x57 : ClassId) (x58 : NI) (x59 : Nat) (x60 : ClassId) (x61 : Nat → Int64) : va_W := [(x0, .inr (11, [.int x1, .ref x2, x3, x4, x5, x6, x7, x8, x9, x10, x11, x12, x13, x14, x15, x16, x17, x18, x19, x20, x21, x22, x23, x24, x25, x26, x27, x28, x29, x30, x31, x32, x33, x34, x35, x36, x37, x38, x39, x40, x41, x42, x43, x44, x45, x46, x47, x48, x49, x50, .ref x51, x52, x53, x54, x55])), (x56, .inl (x57, 2, .inl x58)), (x59, .inl (x60, 14, .inr (.inl x61)))]
def qa86 (x0 : Nat) (x1 : Int32) (x2 : Nat) (x3 x4 x5 x6 x7 x8 x9 x10 x11 x12 x13 x14 x15 x16 x17 x18 x19 x20 x21 x22 x23 x24 x25 x26 x27 x28 x29 x30 x31 x32 x33 x34 x35 x36 x37 x38 x39 x40 x41 x42 x43 x44 x45 x46 x47 x48 x49 x50 : Value) (x51 : Nat) (x52 x53 x54 x55 : Value) (x56 : Nat) (x57 : ClassId) (x58 : NI) : va_W := [(x0, .inr (11, [.int x1, .ref x2, x3, x4, x5, x6, x7, x8, x9, x10, x11, x12, x13, x14, x15, x16, x17, x18, x19, x20, x21, x22, x23, x24, x25, x26, x27, x28, x29, x30, x31, x32, x33, x34, x35, x36, x37, x38, x39, x40, x41, x42, x43, x44, x45, x46, x47, x48, x49, x50, .ref x51, x52, x53, x54, x55])), (x56, .inl (x57, 2, .inl x58))]
def qzY (x0 : Nat) (x1 x2 x3 x4 x5 x6 x7 x8 x9 x10 x11 x12 x13 x14 : Value) (x15 : Nat) (x16 x17 x18 x19 x20 : Value) (x21 x22 : Int32) (x23 x24 x25 : Value) (x26 x27 x28 : Nat) (x29 : Value) (x30 : Int32) (x31 : Nat) (x32 x33 x34 x35 x36 x37 x38 x39 x40 : Value) (x41 : Nat) (x42 x43 x44 x45 x46 x47 x48 x49 x50 x51 x52 x53 x54 x55 : Value) (x56 : Nat) (x57 : ClassId) (x58 : NI) (x59 : Nat) (x60 : ClassId) (x61 : NI) (x62 : Nat) (x63 : ClassId) (x64 : NI) (x65 : Nat) (x66 : ClassId) (x67 : NI) (x68 : Nat) (x69 : ClassId) (x70 : NI) (x71 : Nat) (x72 : ClassId) (x73 : NI) : va_W := [(x0, .inr (11, [x1, x2, x3, x4, x5, x6, x7, x8, x9, x10, x11, x12, x13, x14, .ref x15, x16, x17, x18, x19, x20, .int x21, .int x22, x23, x24, x25, .ref x26, .ref x27, .ref x28, x29, .int x30, .ref x31, x32, x33, x34, x35, x36, x37, x38, x39, x40, .ref x41, x42, x43, x44, x45, x46, x47, x48, x49, x50, x51, x52, x53, x54, x55])), (x56, .inl (x57, 68, .inl x58)), (x59, .inl (x60, 16, .inl x61)), (x62, .inl (x63, 8, .inl x64)), (x65, .inl (x66, 150, .inl x67)), (x68, .inl (x69, 150, .inl x70)), (x71, .inl (x72, 150, .inl x73))]
def qzv (x0 : Nat) (x1 x2 x3 x4 x5 x6 x7 x8 x9 x10 x11 x12 x13 x14 : Value) (x15 : Nat) (x16 : Value) (x17 : Nat) (x18 x19 x20 : Value) (x21 : Int32) (x22 : Value) (x23 : Int32) (x24 x25 x26 x27 x28 x29 x30 x31 x32 x33 x34 x35 x36 x37 x38 x39 x40 x41 x42 x43 x44 x45 x46 x47 x48 x49 x50 x51 x52 x53 x54 x55 : Value) (x56 : Nat) (x57 : ClassId) (x58 : NI) (x59 : Nat) (x60 : ClassId) (x61 : NI) : va_W := [(x0, .inr (11, [x1, x2, x3, x4, x5, x6, x7, x8, x9, x10, x11, x12, x13, x14, .ref x15, x16, .ref x17, x18, x19, x20, .int x21, x22, .int x23, x24, x25, x26, x27, x28, x29, x30, x31, x32, x33, x34, x35, x36, x37, x38, x39, x40, x41, x42, x43, x44, x45, x46, x47, x48, x49, x50, x51, x52, x53, x54, x55])), (x56, .inl (x57, 16, .inl x58)), (x59, .inl (x60, 8, .inl x61))]
def qbN (x0 : Nat) (x1 x2 x3 x4 x5 x6 x7 x8 x9 x10 x11 x12 x13 x14 : Value) (x15 : Nat) (x16 : Value) (x17 : Nat) (x18 x19 x20 : Value) (x21 x22 x23 : Int32) (x24 x25 : Value) (x26 x27 x28 : Nat) (x29 : Value) (x30 : Int32) (x31 : Nat) (x32 x33 x34 x35 x36 x37 x38 x39 : Value) (x40 x41 : Nat) (x42 x43 x44 x45 : Value) (x46 x47 x48 : Nat) (x49 x50 x51 x52 x53 x54 x55 : Value) (x56 : Nat) (x57 : ClassId) (x58 : NI) (x59 : Nat) (x60 : ClassId) (x61 : NI) (x62 : Nat) (x63 : ClassId) (x64 : NI) (x65 : Nat) (x66 : ClassId) (x67 : NI) (x68 : Nat) (x69 : ClassId) (x70 : NI) (x71 : Nat) (x72 : ClassId) (x73 : NI) (x74 : Nat) (x75 : ClassId) (x76 : NI) (x77 : Nat) (x78 : ClassId) (x79 : NI) (x80 : Nat) (x81 : ClassId) (x82 : NI) (x83 : Nat) (x84 : ClassId) (x85 : NI) (x86 : Nat) (x87 : ClassId) (x88 : NI) : va_W := [(x0, .inr (11, [x1, x2, x3, x4, x5, x6, x7, x8, x9, x10, x11, x12, x13, x14, .ref x15, x16, .ref x17, x18, x19, x20, .int x21, .int x22, .int x23, x24, x25, .ref x26, .ref x27, .ref x28, x29, .int x30, .ref x31, x32, x33, x34, x35, x36, x37, x38, x39, .ref x40, .ref x41, x42, x43, x44, x45, .ref x46, .ref x47, .ref x48, x49, x50, x51, x52, x53, x54, x55])), (x56, .inl (x57, 68, .inl x58)), (x59, .inl (x60, 68, .inl x61)), (x62, .inl (x63, 16, .inl x64)), (x65, .inl (x66, 8, .inl x67)), (x68, .inl (x69, 150, .inl x70)), (x71, .inl (x72, 150, .inl x73)), (x74, .inl (x75, 150, .inl x76)), (x77, .inl (x78, 8, .inl x79)), (x80, .inl (x81, 1792, .inl x82)), (x83, .inl (x84, 6, .inl x85)), (x86, .inl (x87, 6, .inl x88))]
def qa49 (x0 : Nat) (x1 x2 x3 x4 x5 x6 x7 x8 x9 x10 x11 x12 x13 x14 : Value) (x15 : Nat) (x16 : Value) (x17 : Nat) (x18 x19 x20 : Value) (x21 x22 x23 : Int32) (x24 x25 : Value) (x26 x27 x28 : Nat) (x29 : Value) (x30 : Int32) (x31 : Nat) (x32 x33 x34 x35 x36 x37 x38 x39 : Value) (x40 x41 : Nat) (x42 x43 x44 x45 : Value) (x46 x47 x48 : Nat) (x49 x50 x51 x52 x53 x54 x55 : Value) (x56 : Nat) (x57 : ClassId) (x58 : NI) : va_W := [(x0, .inr (11, [x1, x2, x3, x4, x5, x6, x7, x8, x9, x10, x11, x12, x13, x14, .ref x15, x16, .ref x17, x18, x19, x20, .int x21, .int x22, .int x23, x24, x25, .ref x26, .ref x27, .ref x28, x29, .int x30, .ref x31, x32, x33, x34, x35, x36, x37, x38, x39, .ref x40, .ref x41, x42, x43, x44, x45, .ref x46, .ref x47, .ref x48, x49, x50, x51, x52, x53, x54, x55])), (x56, .inl (x57, 68, .inl x58))]
def qa64 (x0 : Nat) (x1 x2 x3 x4 x5 x6 x7 x8 x9 x10 x11 x12 x13 x14 : Value) (x15 : Nat) (x16 : Value) (x17 : Nat) (x18 x19 x20 : Value) (x21 x22 x23 : Int32) (x24 x25 : Value) (x26 x27 x28 : Nat) (x29 : Value) (x30 : Int32) (x31 : Nat) (x32 x33 x34 x35 x36 x37 x38 x39 : Value) (x40 x41 : Nat) (x42 x43 x44 x45 : Value) (x46 x47 x48 : Nat) (x49 x50 x51 x52 x53 x54 x55 : Value) (x56 : Nat) (x57 : ClassId) (x58 : NI) (x59 : Nat) (x60 : ClassId) (x61 : NI) (x62 : Nat) (x63 : ClassId) (x64 : NI) (x65 : Nat) (x66 : ClassId) (x67 : NI) (x68 : Nat) (x69 : ClassId) (x70 : NI) (x71 : Nat) (x72 : ClassId) (x73 : NI) : va_W := [(x0, .inr (11, [x1, x2, x3, x4, x5, x6, x7, x8, x9, x10, x11, x12, x13, x14, .ref x15, x16, .ref x17, x18, x19, x20, .int x21, .int x22, .int x23, x24, x25, .ref x26, .ref x27, .ref x28, x29, .int x30, .ref x31, x32, x33, x34, x35, x36, x37, x38, x39, .ref x40, .ref x41, x42, x43, x44, x45, .ref x46, .ref x47, .ref x48, x49, x50, x51, x52, x53, x54, x55])), (x56, .inl (x57, 68, .inl x58)), (x59, .inl (x60, 16, .inl x61)), (x62, .inl (x63, 8, .inl x64)), (x65, .inl (x66, 150, .inl x67)), (x68, .inl (x69, 150, .inl x70)), (x71, .inl (x72, 150, .inl x73))]
def qa8r (x0 : Nat) (x1 x2 x3 x4 x5 x6 x7 x8 x9 x10 x11 x12 x13 x14 : Value) (x15 : Nat) (x16 : Value) (x17 : Nat) (x18 x19 x20 : Value) (x21 x22 x23 : Int32) (x24 x25 : Value) (x26 x27 x28 : Nat) (x29 : Value) (x30 : Int32) (x31 : Nat) (x32 x33 x34 x35 x36 x37 x38 x39 : Value) (x40 x41 : Nat) (x42 x43 x44 x45 : Value) (x46 x47 x48 : Nat) (x49 x50 x51 x52 x53 x54 x55 : Value) (x56 : Nat) (x57 : ClassId) (x58 : NI) (x59 : Nat) (x60 : ClassId) (x61 : NI) : va_W := [(x0, .inr (11, [x1, x2, x3, x4, x5, x6, x7, x8, x9, x10, x11, x12, x13, x14, .ref x15, x16, .ref x17, x18, x19, x20, .int x21, .int x22, .int x23, x24, x25, .ref x26, .ref x27, .ref x28, x29, .int x30, .ref x31, x32, x33, x34, x35, x36, x37, x38, x39, .ref x40, .ref x41, x42, x43, x44, x45, .ref x46, .ref x47, .ref x48, x49, x50, x51, x52, x53, x54, x55])), (x56, .inl (x57, 16, .inl x58)), (x59, .inl (x60, 8, .inl x61))]
def qa4O (x0 : Nat) (x1 x2 x3 x4 x5 x6 x7 x8 x9 x10 x11 x12 x13 x14 : Value) (x15 : Nat) (x16 : Value) (x17 : Nat) (x18 x19 x20 : Value) (x21 x22 x23 : Int32) (x24 x25 : Value) (x26 x27 x28 : Nat) (x29 : Value) (x30 : Int32) (x31 : Nat) (x32 x33 x34 x35 x36 x37 x38 x39 : Value) (x40 x41 : Nat) (x42 x43 x44 x45 : Value) (x46 x47 x48 : Nat) (x49 x50 x51 x52 x53 x54 x55 : Value) (x56 : Nat) (x57 : ClassId) (x58 : NI) (x59 : Nat) (x60 : ClassId) (x61 : NI) : va_W := [(x0, .inr (11, [x1, x2, x3, x4, x5, x6, x7, x8, x9, x10, x11, x12, x13, x14, .ref x15, x16, .ref x17, x18, x19, x20, .int x21, .int x22, .int x23, x24, x25, .ref x26, .ref x27, .ref x28, x29, .int x30, .ref x31, x32, x33, x34, x35, x36, x37, x38, x39, .ref x40, .ref x41, x42, x43, x44, x45, .ref x46, .ref x47, .ref x48, x49, x50, x51, x52, x53, x54, x55])), (x56, .inl (x57, 68, .inl x58)), (x59, .inl (x60, 68, .inl x61))]
theorem q8H : ∀ w ∈ u_ws RX11 TX11 55, w ∈ wsX11_cloverBy := uiM qKm qfa (by decide +kernel)
theorem q6v : (.fieldLink RX11 169 "MarchHaresModel" "hares" "I" : Cond) ∈ wsX11_cloverBy := qKm 520 (by decide +kernel)
set_option maxHeartbeats 4000000 in
set_option maxRecDepth 100000 in
theorem qSt {p : Program} {l : Launch} {e : Env} {s : State} {m : MethodId} {args : Array Value} {below : List Frame} {meth : Method} {c : Code} {A : Nat → Prop} (dC : Nat → ClassId) (dI : Nat → Nat → Nat) (cyB cyI cyJ cyP : ClassId) (a0 a0_s : Nat) (jaX jaF jaD ja7 jby jbe jaM jaY jap jaK jal jam jax jao ja6 jaV ja8 jae jag jaf ja0 jaP jaw jaI jaZ jaG jaS jan jaU jaE jar jaL jah jaB jaa jaz jaH jab ja2 jaq jai jaO jaA jat jau jav jaj jas jaJ jak jad jay jac : Value) (jaC : Int32) (f0_s : NI) (Q : Int32 → Prop) (K5 : Int32 → Int32 → Int32 → Int32 → Prop) (hK5 : ∀ (H : Heap) (locs : List Loc) (ls : Array Slot) (l1 l2 l3 l4 : Int32), va_P (dC, dI) vwCl (qDj a0 jaX jaF jaD ja7 jby jbe jaM jaY jap jaK jal jam jax jao ja6 jaV ja8 jae jag jaf ja0 jaC jaP jaw jaI jaZ jaG jaS jan jaU jaE jar jaL jah jaB jaa jaz jaH jab ja2 a0_s jaq jai jaO jaA jat jau jav jaj jas jaJ jak jad jay jac a0_s cyI f0_s) H → va_D A (qDj a0 jaX jaF jaD ja7 jby jbe jaM jaY jap jaK jal jam jax jao ja6 jaV ja8 jae jag jaf ja0 jaC jaP jaw jaI jaZ jaG jaS jan jaU jaE jar jaL jah jaB jaa jaz jaH jab ja2 a0_s jaq jai jaO jaA jat jau jav jaj jas jaJ jak jad jay jac a0_s cyI f0_s) → va_S A s.heap H locs → lv_has ls 5 [(0, .ref a0), (1, .int l1), (2, .int l2), (3, .int l3), (4, .int l4)] → K5 l1 l2 l3 l4 → W p l e (headSpec wsX11_cloverBy ({ frames := 1, cells := 0, slots := 0, locals := 23 })).room s m args below meth c H locs 0 0 (MQ below (va_Qi (fun (r : Int32) (_ : Unit) => Q r ) (cB (dC, dI) (kT cyB cyI cyJ cyP) A (fun u : Unit => ((qDj a0 jaX jaF jaD ja7 jby jbe jaM jaY jap jaK jal jam jax jao ja6 jaV ja8 jae jag jaf ja0 jaC jaP jaw jaI jaZ jaG jaS jan jaU jaE jar jaL jah jaB jaa jaz jaH jab ja2 a0_s jaq jai jaO jaA jat jau jav jaj jas jaJ jak jad jay jac a0_s cyI f0_s) : va_W))) A) args s 0 0 A) (F0 m 5 ls [])) (C0 : cfx p s m args meth c cX11_cloverBy (some .int) wsX11_cloverBy RX11 5 A (dC, dI) (kT cyB cyI cyJ cyP)) : ∀ (H : Heap) (locs : List Loc) (ls : Array Slot) (l1 l2 l4 s0 s1 s2 : Int32), va_P (dC, dI) vwCl (qDj a0 jaX jaF jaD ja7 jby jbe jaM jaY jap jaK jal jam jax jao ja6 jaV ja8 jae jag jaf ja0 jaC jaP jaw jaI jaZ jaG jaS jan jaU jaE jar jaL jah jaB jaa jaz jaH jab ja2 a0_s jaq jai jaO jaA jat jau jav jaj jas jaJ jak jad jay jac a0_s cyI f0_s) H → va_D A (qDj a0 jaX jaF jaD ja7 jby jbe jaM jaY jap jaK jal jam jax jao ja6 jaV ja8 jae jag jaf ja0 jaC jaP jaw jaI jaZ jaG jaS jan jaU jaE jar jaL jah jaB jaa jaz jaH jab ja2 a0_s jaq jai jaO jaA jat jau jav jaj jas jaJ jak jad jay jac a0_s cyI f0_s) → va_S A s.heap H locs → lv_has ls 5 [(0, .ref a0), (1, .int l1), (2, .int l2), (4, .int l4)] → qHE jaC f0_s Q K5 l1 l2 l4 s0 s1 s2 → W p l e (headSpec wsX11_cloverBy ({ frames := 1, cells := 0, slots := 0, locals := 23 })).room s m args below meth c H locs 0 0 (MQ below (va_Qi (fun (r : Int32) (_ : Unit) => Q r ) (cB (dC, dI) (kT cyB cyI cyJ cyP) A (fun u : Unit => ((qDj a0 jaX jaF jaD ja7 jby jbe jaM jaY jap jaK jal jam jax jao ja6 jaV ja8 jae jag jaf ja0 jaC jaP jaw jaI jaZ jaG jaS jan jaU jaE jar jaL jah jaB jaa jaz jaH jab ja2 a0_s jaq jai jaO jaA jat jau jav jaj jas jaJ jak jad jay jac a0_s cyI f0_s) : va_W))) A) args s 0 0 A) (F0 m 41 ls [.int s2, .int s1, .int s0]) := by
  obtain ⟨hx, hb, hr, hts, hown, hlocks, hml, hA, hK, hNw⟩ := id C0
  intro H locs ls l1 l2 l4 s0 s1 s2 hP hD hS hl hw
  refine lv_imul hx hb (qaa qdQ 8 rfl) ?_
  refine lv_iadd hx hb (qaa qdQ 9 rfl) ?_
  refine lv_topi (fun x5 ex5 => ?_)
  have hw := hw x5 ex5
  refine lv_istore_n (lv' := [(3, .int x5), (0, .ref a0), (1, .int l1), (2, .int l2), (4, .int l4)]) hx hb (qaa qdQ 10 rfl) rfl hl (by decide) rfl (fun ls hl => ?_)
  obtain ⟨x6, ex6⟩ : ∃ y : Int32, y = l4 + 1 := ⟨_, rfl⟩
  have hw := hw x6 ex6
  refine lv_iinc (v := x6) (lv' := [(4, .int x6), (3, .int x5), (0, .ref a0), (1, .int l1), (2, .int l2)]) hx hb (qaa qdQ 11 rfl) hl (k := 4) rfl (by rw [ex6]; rfl) (by decide) rfl (fun ls hl => ?_)
  refine lv_goto (tgt := 5) hx hb (qaa qdQ 12 rfl) (by decide) ?_
  exact hK5 _ _ _ l1 l2 x5 x6 hP hD hS (lv_sub hl [2, 3, 4, 1, 0] rfl) hw
set_option maxHeartbeats 4000000 in
set_option maxRecDepth 100000 in
theorem qalM {p : Program} {l : Launch} {e : Env} {s : State} {m : MethodId} {args : Array Value} {below : List Frame} {meth : Method} {c : Code} {A : Nat → Prop} (dC : Nat → ClassId) (dI : Nat → Nat → Nat) (cyB cyI cyJ cyP : ClassId) (a0 a0_s : Nat) (jaX jaF jaD ja7 jby jbe jaM jaY jap jaK jal jam jax jao ja6 jaV ja8 jae jag jaf ja0 jaP jaw jaI jaZ jaG jaS jan jaU jaE jar jaL jah jaB jaa jaz jaH jab ja2 jaq jai jaO jaA jat jau jav jaj jas jaJ jak jad jay jac : Value) (jaC : Int32) (f0_s : NI) (Q : Int32 → Prop) (C0 : cfx p s m args meth c cX11_cloverBy (some .int) wsX11_cloverBy RX11 5 A (dC, dI) (kT cyB cyI cyJ cyP)) : ∀ (n : Nat) (H : Heap) (locs : List Loc) (ls : Array Slot) (l1 l2 l3 l4 : Int32), va_P (dC, dI) vwCl (qDj a0 jaX jaF jaD ja7 jby jbe jaM jaY jap jaK jal jam jax jao ja6 jaV ja8 jae jag jaf ja0 jaC jaP jaw jaI jaZ jaG jaS jan jaU jaE jar jaL jah jaB jaa jaz jaH jab ja2 a0_s jaq jai jaO jaA jat jau jav jaj jas jaJ jak jad jay jac a0_s cyI f0_s) H → va_D A (qDj a0 jaX jaF jaD ja7 jby jbe jaM jaY jap jaK jal jam jax jao ja6 jaV ja8 jae jag jaf ja0 jaC jaP jaw jaI jaZ jaG jaS jan jaU jaE jar jaL jah jaB jaa jaz jaH jab ja2 a0_s jaq jai jaO jaA jat jau jav jaj jas jaJ jak jad jay jac a0_s cyI f0_s) → va_S A s.heap H locs → lv_has ls 5 [(0, .ref a0), (1, .int l1), (2, .int l2), (3, .int l3), (4, .int l4)] → qs6 jaC f0_s Q n l1 l2 l3 l4 → W p l e (headSpec wsX11_cloverBy ({ frames := 1, cells := 0, slots := 0, locals := 23 })).room s m args below meth c H locs 0 0 (MQ below (va_Qi (fun (r : Int32) (_ : Unit) => Q r ) (cB (dC, dI) (kT cyB cyI cyJ cyP) A (fun u : Unit => ((qDj a0 jaX jaF jaD ja7 jby jbe jaM jaY jap jaK jal jam jax jao ja6 jaV ja8 jae jag jaf ja0 jaC jaP jaw jaI jaZ jaG jaS jan jaU jaE jar jaL jah jaB jaa jaz jaH jab ja2 a0_s jaq jai jaO jaA jat jau jav jaj jas jaJ jak jad jay jac a0_s cyI f0_s) : va_W))) A) args s 0 0 A) (F0 m 5 ls []) := by
  obtain ⟨hx, hb, hr, hts, hown, hlocks, hml, hA, hK, hNw⟩ := id C0
  intro n
  induction n with
  | zero => intro H locs ls l1 l2 l3 l4 hP hD hS hl hw; exact False.elim hw
  | succ n ih =>
    intro H locs ls l1 l2 l3 l4 hP hD hS hl hw
    refine lv_iload hx hb (qaa qd2 4 rfl) (lv_at hl 4 rfl) ?_
    refine lv_aload_n hx hb (qaa qd2 5 rfl) rfl (lv_at hl 0 rfl) ?_
    refine va_get (D := (dC, dI)) (ci := 11) (v := .int jaC) (C := RX11) (T := TX11) (N := 55) hx hb hts q8H hown hK hP 0 rfl rfl 21 (by decide) (hts _ q6v) (fun _ h9 => h9) rfl (qaa qd2 6 rfl) ?_
    refine lv_icmp_ge (tgt := 50) hx hb (qaa qd2 7 rfl) (by decide) (fun c1 => ?_) (fun c1 => ?_)
    · have hw := hw.1 c1
      refine lv_iload_n hx hb (qaa qdQ 13 rfl) rfl (lv_at hl 3 rfl) ?_
      exact ((W.iret (v := l3) hx hb hr (fun t ht hW => ⟨⟨l3, (), rfl, hw, by rw [ht]; exact hP, va_K.moved hW.alike hK, hD⟩, hS.F ht⟩) hS.2.2 (qaa qdQ 14 rfl)))
    · have hw := hw.2 c1
      refine lv_iload_n hx hb (qaa qd2 8 rfl) rfl (lv_at hl 3 rfl) ?_
      refine lv_iload_n hx hb (qaa qd2 9 rfl) rfl (lv_at hl 1 rfl) ?_
      refine lv_iload hx hb (qaa qd2 10 rfl) (lv_at hl 4 rfl) ?_
      refine lv_ishr hx hb (qaa qd2 11 rfl) ?_
      refine lv_iconst (v := 1) hx hb (qaa qd2 12 rfl) (by decide) ?_
      refine lv_iand hx hb (qaa qd2 13 rfl) ?_
      refine lv_aload_n hx hb (qaa qd2 14 rfl) rfl (lv_at hl 0 rfl) ?_
      refine lv_iload hx hb (qaa qd2 15 rfl) (lv_at hl 4 rfl) ?_
      obtain ⟨hCc, hPc, hDc, hFc⟩ := qac (ws' := (qDj a0 jaX jaF jaD ja7 jby jbe jaM jaY jap jaK jal jam jax jao ja6 jaV ja8 jae jag jaf ja0 jaC jaP jaw jaI jaZ jaG jaS jan jaU jaE jar jaL jah jaB jaa jaz jaH jab ja2 a0_s jaq jai jaO jaA jat jau jav jaj jas jaJ jak jad jay jac a0_s cyI f0_s)) hP hD hS hA [0, 1] (by decide +kernel) rfl
      refine va_calli (va_runV (As := [.int l4]) (rest := [.int ((l1 >>> (l4 &&& 31)) &&& 1), .int l3]) ⟨hx, hb, hml, hown, hts⟩ (qCM l dC dI cyB cyI cyJ cyP a0 a0_s H.size (jaX) (jaF) (jaD) (ja7) (jby) (jbe) (jaM) (jaY) (jap) (jaK) (jal) (jam) (jax) (jao) (ja6) (jaV) (ja8) (jae) (jag) (jaf) (ja0) (jaP) (jaw) (jaI) (jaZ) (jaG) (jaS) (jan) (jaU) (jaE) (jar) (jaL) (jah) (jaB) (jaa) (jaz) (jaH) (jab) (ja2) (jaq) (jai) (jaO) (jaA) (jat) (jau) (jav) (jaj) (jas) (jaJ) (jak) (jad) (jay) (jac) jaC f0_s l4 hw) (cwV 1 hts gX11_cloverBy_X11_isOwed rfl rfl rfl (by decide +kernel) ⟨nbq rfl, nbq rfl⟩) ⟨qab, va_recv (q := (RX11, TX11, 55)) hK hPc (ci := 11) (q0 := 0) rfl rfl, qae hPc hK hDc hNw⟩ rfl rfl hl.1 rfl (lv_room (nbq rfl)) (qaa qdQ 0 rfl) ⟨nbq rfl, nbq rfl⟩) hS (fun q _ h => hFc q h) hFc (fun r2 u t H1 locs ht hvm hw hB hz1 hk1 hS => ?_)
      obtain ⟨hP1, hK1, hD1⟩ := hB
      rw [ht] at hP1
      obtain ⟨hP, hD⟩ := qah (wr := []) (w1 := (qDj a0 jaX jaF jaD ja7 jby jbe jaM jaY jap jaK jal jam jax jao ja6 jaV ja8 jae jag jaf ja0 jaC jaP jaw jaI jaZ jaG jaS jan jaU jaE jar jaL jah jaB jaa jaz jaH jab ja2 a0_s jaq jai jaO jaA jat jau jav jaj jas jaJ jak jad jay jac a0_s cyI f0_s)) (wn := (qDj a0 jaX jaF jaD ja7 jby jbe jaM jaY jap jaK jal jam jax jao ja6 jaV ja8 jae jag jaf ja0 jaC jaP jaw jaI jaZ jaG jaS jan jaU jaE jar jaL jah jaB jaa jaz jaH jab ja2 a0_s jaq jai jaO jaA jat jau jav jaj jas jaJ jak jad jay jac a0_s cyI f0_s)) hP hD [0, 1] [] hCc rfl (by decide +kernel) (by decide +kernel) rfl hk1 hFc hP1 hD1
      generalize H1 = H at hP hS ⊢
      refine lv_iload_n hx hb (qaa qdQ 1 rfl) rfl (lv_at hl 2 rfl) ?_
      refine lv_icmp_ge (tgt := 40) hx hb (qaa qdQ 2 rfl) (by decide) (fun c3 => ?_) (fun c3 => ?_)
      · have hw := hw.1 c3
        refine lv_iload_n hx hb (qaa qdQ 7 rfl) rfl (lv_at hl 2 rfl) ?_
        exact qSt dC dI cyB cyI cyJ cyP a0 a0_s jaX jaF jaD ja7 jby jbe jaM jaY jap jaK jal jam jax jao ja6 jaV ja8 jae jag jaf ja0 jaP jaw jaI jaZ jaG jaS jan jaU jaE jar jaL jah jaB jaa jaz jaH jab ja2 jaq jai jaO jaA jat jau jav jaj jas jaJ jak jad jay jac jaC f0_s Q (qs6 jaC f0_s Q n) ih C0 _ _ _ l1 l2 l4 l3 ((l1 >>> (l4 &&& 31)) &&& 1) l2 hP hD hS (lv_sub hl [0, 1, 2, 4] rfl) hw
      · have hw := hw.2 c3
        refine lv_aload_n hx hb (qaa qdQ 3 rfl) rfl (lv_at hl 0 rfl) ?_
        refine lv_iload hx hb (qaa qdQ 4 rfl) (lv_at hl 4 rfl) ?_
        obtain ⟨hCc, hPc, hDc, hFc⟩ := qac (ws' := (qDj a0 jaX jaF jaD ja7 jby jbe jaM jaY jap jaK jal jam jax jao ja6 jaV ja8 jae jag jaf ja0 jaC jaP jaw jaI jaZ jaG jaS jan jaU jaE jar jaL jah jaB jaa jaz jaH jab ja2 a0_s jaq jai jaO jaA jat jau jav jaj jas jaJ jak jad jay jac a0_s cyI f0_s)) hP hD hS hA [0, 1] (by decide +kernel) rfl
        refine va_calli (va_runV (As := [.int l4]) (rest := [.int ((l1 >>> (l4 &&& 31)) &&& 1), .int l3]) ⟨hx, hb, hml, hown, hts⟩ (qCM l dC dI cyB cyI cyJ cyP a0 a0_s H.size (jaX) (jaF) (jaD) (ja7) (jby) (jbe) (jaM) (jaY) (jap) (jaK) (jal) (jam) (jax) (jao) (ja6) (jaV) (ja8) (jae) (jag) (jaf) (ja0) (jaP) (jaw) (jaI) (jaZ) (jaG) (jaS) (jan) (jaU) (jaE) (jar) (jaL) (jah) (jaB) (jaa) (jaz) (jaH) (jab) (ja2) (jaq) (jai) (jaO) (jaA) (jat) (jau) (jav) (jaj) (jas) (jaJ) (jak) (jad) (jay) (jac) jaC f0_s l4 hw) (cwV 1 hts gX11_cloverBy_X11_isOwed rfl rfl rfl (by decide +kernel) ⟨nbq rfl, nbq rfl⟩) ⟨qab, va_recv (q := (RX11, TX11, 55)) hK hPc (ci := 11) (q0 := 0) rfl rfl, qae hPc hK hDc hNw⟩ rfl rfl hl.1 rfl (lv_room (nbq rfl)) (qaa qdQ 5 rfl) ⟨nbq rfl, nbq rfl⟩) hS (fun q _ h => hFc q h) hFc (fun r4 u t H1 locs ht hvm hw hB hz1 hk1 hS => ?_)
        obtain ⟨hP1, hK1, hD1⟩ := hB
        rw [ht] at hP1
        obtain ⟨hP, hD⟩ := qah (wr := []) (w1 := (qDj a0 jaX jaF jaD ja7 jby jbe jaM jaY jap jaK jal jam jax jao ja6 jaV ja8 jae jag jaf ja0 jaC jaP jaw jaI jaZ jaG jaS jan jaU jaE jar jaL jah jaB jaa jaz jaH jab ja2 a0_s jaq jai jaO jaA jat jau jav jaj jas jaJ jak jad jay jac a0_s cyI f0_s)) (wn := (qDj a0 jaX jaF jaD ja7 jby jbe jaM jaY jap jaK jal jam jax jao ja6 jaV ja8 jae jag jaf ja0 jaC jaP jaw jaI jaZ jaG jaS jan jaU jaE jar jaL jah jaB jaa jaz jaH jab ja2 a0_s jaq jai jaO jaA jat jau jav jaj jas jaJ jak jad jay jac a0_s cyI f0_s)) hP hD [0, 1] [] hCc rfl (by decide +kernel) (by decide +kernel) rfl hk1 hFc hP1 hD1
        generalize H1 = H at hP hS ⊢
        refine lv_goto (tgt := 41) hx hb (qaa qdQ 6 rfl) (by decide) ?_
        exact qSt dC dI cyB cyI cyJ cyP a0 a0_s jaX jaF jaD ja7 jby jbe jaM jaY jap jaK jal jam jax jao ja6 jaV ja8 jae jag jaf ja0 jaP jaw jaI jaZ jaG jaS jan jaU jaE jar jaL jah jaB jaa jaz jaH jab ja2 jaq jai jaO jaA jat jau jav jaj jas jaJ jak jad jay jac jaC f0_s Q (qs6 jaC f0_s Q n) ih C0 _ _ _ l1 l2 l4 l3 ((l1 >>> (l4 &&& 31)) &&& 1) r4 hP hD hS (lv_sub hl [0, 1, 2, 4] rfl) hw
set_option maxHeartbeats 4000000 in
set_option maxRecDepth 100000 in
theorem qaC6 (l : Launch) (dC : Nat → ClassId) (dI : Nat → Nat → Nat) (cyB cyI cyJ cyP : ClassId) (a0 a0_s sz : Nat) (jaX jaF jaD ja7 jby jbe jaM jaY jap jaK jal jam jax jao ja6 jaV ja8 jae jag jaf ja0 jaP jaw jaI jaZ jaG jaS jan jaU jaE jar jaL jah jaB jaa jaz jaH jab ja2 jaq jai jaO jaA jat jau jav jaj jas jaJ jak jad jay jac : Value) (jaC : Int32) (f0_s : NI) (p1 p2 : Int32) {Q : Int32 → Prop} (hw : qIV jaC f0_s p1 p2 Q) : Met l yX11_cloverBy wsX11_cloverBy ({ frames := 1, cells := 0, slots := 0, locals := 23 }) (va_Pc [.ref a0, .int p1, .int p2] (cPc (dC, dI) (kT cyB cyI cyJ cyP) (qDj a0 jaX jaF jaD ja7 jby jbe jaM jaY jap jaK jal jam jax jao ja6 jaV ja8 jae jag jaf ja0 jaC jaP jaw jaI jaZ jaG jaS jan jaU jaE jar jaL jah jaB jaa jaz jaH jab ja2 a0_s jaq jai jaO jaA jat jau jav jaj jas jaJ jak jad jay jac a0_s cyI f0_s) sz)) (va_Qi (fun (r : Int32) (_ : Unit) => Q r ) (cB (dC, dI) (kT cyB cyI cyJ cyP) (va_A (qDj a0 jaX jaF jaD ja7 jby jbe jaM jaY jap jaK jal jam jax jao ja6 jaV ja8 jae jag jaf ja0 jaC jaP jaw jaI jaZ jaG jaS jan jaU jaE jar jaL jah jaB jaa jaz jaH jab ja2 a0_s jaq jai jaO jaA jat jau jav jaj jas jaJ jak jad jay jac a0_s cyI f0_s) sz) (fun u : Unit => ((qDj a0 jaX jaF jaD ja7 jby jbe jaM jaY jap jaK jal jam jax jao ja6 jaV ja8 jae jag jaf ja0 jaC jaP jaw jaI jaZ jaG jaS jan jaU jaE jar jaL jah jaB jaa jaz jaH jab ja2 a0_s jaq jai jaO jaA jat jau jav jaj jas jaJ jak jad jay jac a0_s cyI f0_s) : va_W))) (va_A (qDj a0 jaX jaF jaD ja7 jby jbe jaM jaY jap jaK jal jam jax jao ja6 jaV ja8 jae jag jaf ja0 jaC jaP jaw jaI jaZ jaG jaS jan jaU jaE jar jaL jah jaB jaa jaz jaH jab ja2 a0_s jaq jai jaO jaA jat jau jav jaj jas jaJ jak jad jay jac a0_s cyI f0_s) sz)) 0 0 (va_A (qDj a0 jaX jaF jaD ja7 jby jbe jaM jaY jap jaK jal jam jax jao ja6 jaV ja8 jae jag jaf ja0 jaC jaP jaw jaI jaZ jaG jaS jan jaU jaE jar jaL jah jaB jaa jaz jaH jab ja2 a0_s jaq jai jaO jaA jat jau jav jaj jas jaJ jak jad jay jac a0_s cyI f0_s) sz) := by
  refine Met.ofW (cc := cX11_cloverBy) (maxL := 5) (ret := (some .int)) (by decide) rfl ?_
  intro p e s m args below meth c s₁ B hml hv
  obtain ⟨rfl, hsz, hP, hK, hD0, hNw⟩ := hv
  have hx := B.exec
  have hb := B.bytes
  have hr := B.returns
  have hts := atoms_spec (ws := wsX11_cloverBy) B.pre
  have hown : s.vm.findClass RX11 = some m.cls := findClass_of_methodNamed B.named
  have hlocks := B.notSynchronized
  subst hsz
  have hD := hD0.self (sz := s.heap.size)
  generalize hAe : va_A (qDj a0 jaX jaF jaD ja7 jby jbe jaM jaY jap jaK jal jam jax jao ja6 jaV ja8 jae jag jaf ja0 jaC jaP jaw jaI jaZ jaG jaS jan jaU jaE jar jaL jah jaB jaa jaz jaH jab ja2 a0_s jaq jai jaO jaA jat jau jav jaj jas jaJ jak jad jay jac a0_s cyI f0_s) s.heap.size = A at hD ⊢
  have hA : ∀ q : Nat, s.heap.size ≤ q → A q := fun q h => by rw [← hAe]; exact Or.inr h
  have hS : va_S A s.heap s.heap [] := va_S.rf
  have hP : va_P (dC, dI) vwCl (qDj a0 jaX jaF jaD ja7 jby jbe jaM jaY jap jaK jal jam jax jao ja6 jaV ja8 jae jag jaf ja0 jaC jaP jaw jaI jaZ jaG jaS jan jaU jaE jar jaL jah jaB jaa jaz jaH jab ja2 a0_s jaq jai jaO jaA jat jau jav jaj jas jaJ jak jad jay jac a0_s cyI f0_s) s.heap := hP
  have hl := lv_entry ([.ref a0, .int p1, .int p2]) (n := 5) (nbq rfl)
  rw [lg_entry_eq]
  generalize (lg_sl ([.ref a0, .int p1, .int p2]) ++ List.replicate (5 - (lg_sl ([.ref a0, .int p1, .int p2])).length) Slot.unset).toArray = ls at hl ⊢
  have hl : lv_has ls 5 [(0, .ref a0), (1, .int p1), (2, .int p2)] := hl
  have C0 : cfx p s m _ meth c cX11_cloverBy (some .int) wsX11_cloverBy RX11 5 A (dC, dI) (kT cyB cyI cyJ cyP) := ⟨hx, hb, hr, hts, hown, hlocks, hml, hA, hK, hNw⟩
  clear hAe
  obtain ⟨H, hH⟩ : ∃ H, H = s.heap := ⟨_, rfl⟩
  rw [← hH] at hP ⊢
  have hS : va_S A s.heap H [] := by rw [hH]; exact va_S.rf
  have hS := hS
  refine lv_iconst (v := 0) hx hb (qaa qd2 0 rfl) (by decide) ?_
  refine lv_istore_n (lv' := [(3, .int 0), (0, .ref a0), (1, .int p1), (2, .int p2)]) hx hb (qaa qd2 1 rfl) rfl hl (by decide) rfl (fun ls hl => ?_)
  refine lv_iconst (v := 0) hx hb (qaa qd2 2 rfl) (by decide) ?_
  refine lv_istore (lv' := [(4, .int 0), (3, .int 0), (0, .ref a0), (1, .int p1), (2, .int p2)]) hx hb (qaa qd2 3 rfl) hl (by decide) rfl (fun ls hl => ?_)
  obtain ⟨n9, hw⟩ := hw
  exact qalM dC dI cyB cyI cyJ cyP a0 a0_s jaX jaF jaD ja7 jby jbe jaM jaY jap jaK jal jam jax jao ja6 jaV ja8 jae jag jaf ja0 jaP jaw jaI jaZ jaG jaS jan jaU jaE jar jaL jah jaB jaa jaz jaH jab ja2 jaq jai jaO jaA jat jau jav jaj jas jaJ jak jad jay jac jaC f0_s Q C0 n9 _ _ _ p1 p2 0 0 hP hD hS (lv_sub hl [2, 3, 4, 1, 0] rfl) hw
theorem qUN : ∀ w ∈ u_ws RX11 TX11 55, w ∈ wsX11_clover := uiM qo4 qfa (by decide +kernel)
theorem qaew : (.fieldLink RX11 169 "MarchHaresModel" "hares" "I" : Cond) ∈ wsX11_clover := qo4 520 (by decide +kernel)
theorem qatX : (.fieldLink RX11 3 "MarchHaresModel" "thrown" "I" : Cond) ∈ wsX11_clover := qo4 589 (by decide +kernel)
set_option maxHeartbeats 4000000 in
set_option maxRecDepth 100000 in
theorem qatj {p : Program} {l : Launch} {e : Env} {s : State} {m : MethodId} {args : Array Value} {below : List Frame} {meth : Method} {c : Code} {A : Nat → Prop} (dC : Nat → ClassId) (dI : Nat → Nat → Nat) (cyB cyI cyJ cyP : ClassId) (a0 jaQ jaT a0_s : Nat) (jaD ja7 jby jbe jaM jaY jap jaK jal jam jax jao ja6 jaV ja8 jae jag jaf ja0 jaP jaw jaI jaZ jaG jaS jan jaU jaE jar jaL jah jaB jaa jaz jaH jab jaq jai jaO jaA jat jau jav jaj jas jaJ jak jad jay jac : Value) (jaC : Int32) (jb2 : NI) (Q : Int32 → Int32 → NI → NI → Prop) (C0 : cfx p s m args meth c cX11_clover (some .int) wsX11_clover RX11 5 A (dC, dI) (kT cyB cyI cyJ cyP)) : ∀ (n : Nat) (H : Heap) (locs : List Loc) (ls : Array Slot) (jbd : Int32) (ja9 f0_s : NI) (l1 l2 l3 l4 : Int32), va_P (dC, dI) vwCl (qy5 a0 jbd jaQ jaD ja7 jby jbe jaM jaY jap jaK jal jam jax jao ja6 jaV ja8 jae jag jaf ja0 jaC jaP jaw jaI jaZ jaG jaS jan jaU jaE jar jaL jah jaB jaa jaz jaH jab jaT a0_s jaq jai jaO jaA jat jau jav jaj jas jaJ jak jad jay jac jaQ cyI ja9 jaT cyI jb2 a0_s cyI f0_s) H → va_D A (qy5 a0 jbd jaQ jaD ja7 jby jbe jaM jaY jap jaK jal jam jax jao ja6 jaV ja8 jae jag jaf ja0 jaC jaP jaw jaI jaZ jaG jaS jan jaU jaE jar jaL jah jaB jaa jaz jaH jab jaT a0_s jaq jai jaO jaA jat jau jav jaj jas jaJ jak jad jay jac jaQ cyI ja9 jaT cyI jb2 a0_s cyI f0_s) → va_S A s.heap H locs → lv_has ls 5 [(0, .ref a0), (1, .int l1), (2, .int l2), (3, .int l3), (4, .int l4)] → qz4 jaC jb2 Q n jbd ja9 f0_s l1 l2 l3 l4 → W p l e (headSpec wsX11_clover ({ frames := 2, cells := 0, slots := 0, locals := 47 })).room s m args below meth c H locs 0 0 (MQ below (va_Qi (fun (r : Int32) (u : Int32 × NI × NI) => Q r u.1 u.2.1 u.2.2) (cB (dC, dI) (kT cyB cyI cyJ cyP) A (fun u : Int32 × NI × NI => ((qy5 a0 u.1 jaQ jaD ja7 jby jbe jaM jaY jap jaK jal jam jax jao ja6 jaV ja8 jae jag jaf ja0 jaC jaP jaw jaI jaZ jaG jaS jan jaU jaE jar jaL jah jaB jaa jaz jaH jab jaT a0_s jaq jai jaO jaA jat jau jav jaj jas jaJ jak jad jay jac jaQ cyI u.2.1 jaT cyI jb2 a0_s cyI u.2.2) : va_W))) A) args s 0 0 A) (F0 m 64 ls []) := by
  obtain ⟨hx, hb, hr, hts, hown, hlocks, hml, hA, hK, hNw⟩ := id C0
  intro n
  induction n with
  | zero => intro H locs ls jbd ja9 f0_s l1 l2 l3 l4 hP hD hS hl hw; exact False.elim hw
  | succ n ih =>
    intro H locs ls jbd ja9 f0_s l1 l2 l3 l4 hP hD hS hl hw
    have hw : qIV jaC f0_s l2 l4 (fun r14 => ((r14 ≤ l3 → ((¬ ((l2 >>> (l1 &&& 31)) &&& 1) = 0 → qrS jaC f0_s l1 (fun r17 => ((l4 ≤ r17 → (Q l4 jbd ja9 f0_s)) ∧ (¬ l4 ≤ r17 → qrS jaC f0_s l1 (fun r19 => (Q r19 jbd ja9 f0_s)))))) ∧ (((l2 >>> (l1 &&& 31)) &&& 1) = 0 → (Q 0 jbd ja9 f0_s)))) ∧ (¬ r14 ≤ l3 → ∀ x20 : Int32, x20 = l4 + (-1) → (qz4 jaC jb2 Q n jbd ja9 f0_s l1 l2 l3 x20)))) := hw
    refine lv_aload_n hx hb (qaa qfh 3 rfl) rfl (lv_at hl 0 rfl) ?_
    refine lv_iload_n hx hb (qaa qfh 4 rfl) rfl (lv_at hl 2 rfl) ?_
    refine lv_iload hx hb (qaa qfh 5 rfl) (lv_at hl 4 rfl) ?_
    obtain ⟨hCc, hPc, hDc, hFc⟩ := qac (ws' := (qaLZ a0 jbd jaQ jaD ja7 jby jbe jaM jaY jap jaK jal jam jax jao ja6 jaV ja8 jae jag jaf ja0 jaC jaP jaw jaI jaZ jaG jaS jan jaU jaE jar jaL jah jaB jaa jaz jaH jab jaT a0_s jaq jai jaO jaA jat jau jav jaj jas jaJ jak jad jay jac a0_s cyI f0_s)) hP hD hS hA [0, 3] (by decide +kernel) rfl
    refine va_calli (va_runV (As := [.int l2, .int l4]) (rest := []) ⟨hx, hb, hml, hown, hts⟩ (qaC6 l dC dI cyB cyI cyJ cyP a0 a0_s H.size (.int jbd) (.ref jaQ) (jaD) (ja7) (jby) (jbe) (jaM) (jaY) (jap) (jaK) (jal) (jam) (jax) (jao) (ja6) (jaV) (ja8) (jae) (jag) (jaf) (ja0) (jaP) (jaw) (jaI) (jaZ) (jaG) (jaS) (jan) (jaU) (jaE) (jar) (jaL) (jah) (jaB) (jaa) (jaz) (jaH) (jab) (.ref jaT) (jaq) (jai) (jaO) (jaA) (jat) (jau) (jav) (jaj) (jas) (jaJ) (jak) (jad) (jay) (jac) jaC f0_s l2 l4 hw) (cwV 2 hts gX11_clover_X11_cloverBy rfl rfl rfl (by decide +kernel) ⟨nbq rfl, nbq rfl⟩) ⟨qab, va_recv (q := (RX11, TX11, 55)) hK hPc (ci := 11) (q0 := 0) rfl rfl, qae hPc hK hDc hNw⟩ rfl rfl hl.1 rfl (lv_room (nbq rfl)) (qaa qfh 6 rfl) ⟨nbq rfl, nbq rfl⟩) hS (fun q _ h => hFc q h) hFc (fun r14 u t H1 locs ht hvm hw hB hz1 hk1 hS => ?_)
    obtain ⟨hP1, hK1, hD1⟩ := hB
    rw [ht] at hP1
    obtain ⟨hP, hD⟩ := qad (wr := (qa4Y jaQ cyI ja9 jaT cyI jb2)) (w1 := (qaLZ a0 jbd jaQ jaD ja7 jby jbe jaM jaY jap jaK jal jam jax jao ja6 jaV ja8 jae jag jaf ja0 jaC jaP jaw jaI jaZ jaG jaS jan jaU jaE jar jaL jah jaB jaa jaz jaH jab jaT a0_s jaq jai jaO jaA jat jau jav jaj jas jaJ jak jad jay jac a0_s cyI f0_s)) (wn := (qy5 a0 jbd jaQ jaD ja7 jby jbe jaM jaY jap jaK jal jam jax jao ja6 jaV ja8 jae jag jaf ja0 jaC jaP jaw jaI jaZ jaG jaS jan jaU jaE jar jaL jah jaB jaa jaz jaH jab jaT a0_s jaq jai jaO jaA jat jau jav jaj jas jaJ jak jad jay jac jaQ cyI ja9 jaT cyI jb2 a0_s cyI f0_s)) hP hD [0, 3] [1, 2] [2, 0, 1, 3] hCc rfl (by decide +kernel) (by decide +kernel) (by decide +kernel) rfl hk1 hFc hP1 hD1
    generalize H1 = H at hP hS ⊢
    refine lv_iload_n hx hb (qaa qfh 7 rfl) rfl (lv_at hl 3 rfl) ?_
    refine lv_icmp_le (tgt := 81) hx hb (qaa qfh 8 rfl) (by decide) (fun c15 => ?_) (fun c15 => ?_)
    · have hw := hw.1 c15
      refine lv_iload_n hx hb (qaa qfh 11 rfl) rfl (lv_at hl 2 rfl) ?_
      refine lv_iload_n hx hb (qaa qfh 12 rfl) rfl (lv_at hl 1 rfl) ?_
      refine lv_ishr hx hb (qaa qfh 13 rfl) ?_
      refine lv_iconst (v := 1) hx hb (qaa qfh 14 rfl) (by decide) ?_
      refine lv_iand hx hb (qaa qfh 15 rfl) ?_
      refine lv_if_ne (tgt := 91) hx hb (qaa qgy 0 rfl) (by decide) (fun c16 => ?_) (fun c16 => ?_)
      · have hw := hw.1 c16
        refine lv_aload_n hx hb (qaa qgy 3 rfl) rfl (lv_at hl 0 rfl) ?_
        refine lv_iload_n hx hb (qaa qgy 4 rfl) rfl (lv_at hl 1 rfl) ?_
        obtain ⟨hCc, hPc, hDc, hFc⟩ := qac (ws' := (qaLZ a0 jbd jaQ jaD ja7 jby jbe jaM jaY jap jaK jal jam jax jao ja6 jaV ja8 jae jag jaf ja0 jaC jaP jaw jaI jaZ jaG jaS jan jaU jaE jar jaL jah jaB jaa jaz jaH jab jaT a0_s jaq jai jaO jaA jat jau jav jaj jas jaJ jak jad jay jac a0_s cyI f0_s)) hP hD hS hA [0, 3] (by decide +kernel) rfl
        refine va_calli (va_runV (As := [.int l1]) (rest := []) ⟨hx, hb, hml, hown, hts⟩ (qCM l dC dI cyB cyI cyJ cyP a0 a0_s H.size (.int jbd) (.ref jaQ) (jaD) (ja7) (jby) (jbe) (jaM) (jaY) (jap) (jaK) (jal) (jam) (jax) (jao) (ja6) (jaV) (ja8) (jae) (jag) (jaf) (ja0) (jaP) (jaw) (jaI) (jaZ) (jaG) (jaS) (jan) (jaU) (jaE) (jar) (jaL) (jah) (jaB) (jaa) (jaz) (jaH) (jab) (.ref jaT) (jaq) (jai) (jaO) (jaA) (jat) (jau) (jav) (jaj) (jas) (jaJ) (jak) (jad) (jay) (jac) jaC f0_s l1 hw) (cwV 1 hts gX11_clover_X11_isOwed rfl rfl rfl (by decide +kernel) ⟨nbq rfl, nbq rfl⟩) ⟨qab, va_recv (q := (RX11, TX11, 55)) hK hPc (ci := 11) (q0 := 0) rfl rfl, qae hPc hK hDc hNw⟩ rfl rfl hl.1 rfl (lv_room (nbq rfl)) (qaa qgy 5 rfl) ⟨nbq rfl, nbq rfl⟩) hS (fun q _ h => hFc q h) hFc (fun r17 u t H1 locs ht hvm hw hB hz1 hk1 hS => ?_)
        obtain ⟨hP1, hK1, hD1⟩ := hB
        rw [ht] at hP1
        obtain ⟨hP, hD⟩ := qad (wr := (qa4Y jaQ cyI ja9 jaT cyI jb2)) (w1 := (qaLZ a0 jbd jaQ jaD ja7 jby jbe jaM jaY jap jaK jal jam jax jao ja6 jaV ja8 jae jag jaf ja0 jaC jaP jaw jaI jaZ jaG jaS jan jaU jaE jar jaL jah jaB jaa jaz jaH jab jaT a0_s jaq jai jaO jaA jat jau jav jaj jas jaJ jak jad jay jac a0_s cyI f0_s)) (wn := (qy5 a0 jbd jaQ jaD ja7 jby jbe jaM jaY jap jaK jal jam jax jao ja6 jaV ja8 jae jag jaf ja0 jaC jaP jaw jaI jaZ jaG jaS jan jaU jaE jar jaL jah jaB jaa jaz jaH jab jaT a0_s jaq jai jaO jaA jat jau jav jaj jas jaJ jak jad jay jac jaQ cyI ja9 jaT cyI jb2 a0_s cyI f0_s)) hP hD [0, 3] [1, 2] [2, 0, 1, 3] hCc rfl (by decide +kernel) (by decide +kernel) (by decide +kernel) rfl hk1 hFc hP1 hD1
        generalize H1 = H at hP hS ⊢
        refine lv_iload hx hb (qaa qgy 6 rfl) (lv_at hl 4 rfl) ?_
        refine lv_icmp_ge (tgt := 109) hx hb (qaa qgy 7 rfl) (by decide) (fun c18 => ?_) (fun c18 => ?_)
        · have hw := hw.1 c18
          refine lv_iload hx hb (qaa qgy 12 rfl) (lv_at hl 4 rfl) ?_
          exact ((W.iret (v := l4) hx hb hr (fun t ht hW => ⟨⟨l4, (jbd, ja9, f0_s), rfl, hw, by rw [ht]; exact hP, va_K.moved hW.alike hK, hD⟩, hS.F ht⟩) hS.2.2 (qaa qgy 13 rfl)))
        · have hw := hw.2 c18
          refine lv_aload_n hx hb (qaa qgy 8 rfl) rfl (lv_at hl 0 rfl) ?_
          refine lv_iload_n hx hb (qaa qgy 9 rfl) rfl (lv_at hl 1 rfl) ?_
          obtain ⟨hCc, hPc, hDc, hFc⟩ := qac (ws' := (qaLZ a0 jbd jaQ jaD ja7 jby jbe jaM jaY jap jaK jal jam jax jao ja6 jaV ja8 jae jag jaf ja0 jaC jaP jaw jaI jaZ jaG jaS jan jaU jaE jar jaL jah jaB jaa jaz jaH jab jaT a0_s jaq jai jaO jaA jat jau jav jaj jas jaJ jak jad jay jac a0_s cyI f0_s)) hP hD hS hA [0, 3] (by decide +kernel) rfl
          refine va_calli (va_runV (As := [.int l1]) (rest := []) ⟨hx, hb, hml, hown, hts⟩ (qCM l dC dI cyB cyI cyJ cyP a0 a0_s H.size (.int jbd) (.ref jaQ) (jaD) (ja7) (jby) (jbe) (jaM) (jaY) (jap) (jaK) (jal) (jam) (jax) (jao) (ja6) (jaV) (ja8) (jae) (jag) (jaf) (ja0) (jaP) (jaw) (jaI) (jaZ) (jaG) (jaS) (jan) (jaU) (jaE) (jar) (jaL) (jah) (jaB) (jaa) (jaz) (jaH) (jab) (.ref jaT) (jaq) (jai) (jaO) (jaA) (jat) (jau) (jav) (jaj) (jas) (jaJ) (jak) (jad) (jay) (jac) jaC f0_s l1 hw) (cwV 1 hts gX11_clover_X11_isOwed rfl rfl rfl (by decide +kernel) ⟨nbq rfl, nbq rfl⟩) ⟨qab, va_recv (q := (RX11, TX11, 55)) hK hPc (ci := 11) (q0 := 0) rfl rfl, qae hPc hK hDc hNw⟩ rfl rfl hl.1 rfl (lv_room (nbq rfl)) (qaa qgy 10 rfl) ⟨nbq rfl, nbq rfl⟩) hS (fun q _ h => hFc q h) hFc (fun r19 u t H1 locs ht hvm hw hB hz1 hk1 hS => ?_)
          obtain ⟨hP1, hK1, hD1⟩ := hB
          rw [ht] at hP1
          obtain ⟨hP, hD⟩ := qad (wr := (qa4Y jaQ cyI ja9 jaT cyI jb2)) (w1 := (qaLZ a0 jbd jaQ jaD ja7 jby jbe jaM jaY jap jaK jal jam jax jao ja6 jaV ja8 jae jag jaf ja0 jaC jaP jaw jaI jaZ jaG jaS jan jaU jaE jar jaL jah jaB jaa jaz jaH jab jaT a0_s jaq jai jaO jaA jat jau jav jaj jas jaJ jak jad jay jac a0_s cyI f0_s)) (wn := (qy5 a0 jbd jaQ jaD ja7 jby jbe jaM jaY jap jaK jal jam jax jao ja6 jaV ja8 jae jag jaf ja0 jaC jaP jaw jaI jaZ jaG jaS jan jaU jaE jar jaL jah jaB jaa jaz jaH jab jaT a0_s jaq jai jaO jaA jat jau jav jaj jas jaJ jak jad jay jac jaQ cyI ja9 jaT cyI jb2 a0_s cyI f0_s)) hP hD [0, 3] [1, 2] [2, 0, 1, 3] hCc rfl (by decide +kernel) (by decide +kernel) (by decide +kernel) rfl hk1 hFc hP1 hD1
          generalize H1 = H at hP hS ⊢
          refine lv_goto (tgt := 111) hx hb (qaa qgy 11 rfl) (by decide) ?_
          exact ((W.iret (v := r19) hx hb hr (fun t ht hW => ⟨⟨r19, (jbd, ja9, f0_s), rfl, hw, by rw [ht]; exact hP, va_K.moved hW.alike hK, hD⟩, hS.F ht⟩) hS.2.2 (qaa qgy 13 rfl)))
      · have hw := hw.2 c16
        refine lv_iconst (v := 0) hx hb (qaa qgy 1 rfl) (by decide) ?_
        exact ((W.iret (v := 0) hx hb hr (fun t ht hW => ⟨⟨0, (jbd, ja9, f0_s), rfl, hw, by rw [ht]; exact hP, va_K.moved hW.alike hK, hD⟩, hS.F ht⟩) hS.2.2 (qaa qgy 2 rfl)))
    · have hw := hw.2 c15
      obtain ⟨x20, ex20⟩ : ∃ y : Int32, y = l4 + (-1) := ⟨_, rfl⟩
      have hw := hw x20 ex20
      refine lv_iinc (v := x20) (lv' := [(4, .int x20), (0, .ref a0), (1, .int l1), (2, .int l2), (3, .int l3)]) hx hb (qaa qfh 9 rfl) hl (k := 4) rfl (by rw [ex20]; rfl) (by decide) rfl (fun ls hl => ?_)
      refine lv_goto (tgt := 64) hx hb (qaa qfh 10 rfl) (by decide) ?_
      exact ih _ _ _ jbd ja9 f0_s l1 l2 l3 x20 hP hD hS (lv_sub hl [1, 2, 3, 4, 0] rfl) hw
set_option maxHeartbeats 4000000 in
set_option maxRecDepth 100000 in
theorem qZ0 {p : Program} {l : Launch} {e : Env} {s : State} {m : MethodId} {args : Array Value} {below : List Frame} {meth : Method} {c : Code} {A : Nat → Prop} (dC : Nat → ClassId) (dI : Nat → Nat → Nat) (cyB cyI cyJ cyP : ClassId) (a0 jaQ jaT a0_s : Nat) (jaD ja7 jby jbe jaM jaY jap jaK jal jam jax jao ja6 jaV ja8 jae jag jaf ja0 jaP jaw jaI jaZ jaG jaS jan jaU jaE jar jaL jah jaB jaa jaz jaH jab jaq jai jaO jaA jat jau jav jaj jas jaJ jak jad jay jac : Value) (jaC : Int32) (jb2 : NI) (Q : Int32 → Int32 → NI → NI → Prop) (C0 : cfx p s m args meth c cX11_clover (some .int) wsX11_clover RX11 5 A (dC, dI) (kT cyB cyI cyJ cyP)) : ∀ (H : Heap) (locs : List Loc) (ls : Array Slot) (jbd : Int32) (ja9 f0_s : NI) (l1 l2 l3 s1 : Int32), va_P (dC, dI) vwCl (qy5 a0 jbd jaQ jaD ja7 jby jbe jaM jaY jap jaK jal jam jax jao ja6 jaV ja8 jae jag jaf ja0 jaC jaP jaw jaI jaZ jaG jaS jan jaU jaE jar jaL jah jaB jaa jaz jaH jab jaT a0_s jaq jai jaO jaA jat jau jav jaj jas jaJ jak jad jay jac jaQ cyI ja9 jaT cyI jb2 a0_s cyI f0_s) H → va_D A (qy5 a0 jbd jaQ jaD ja7 jby jbe jaM jaY jap jaK jal jam jax jao ja6 jaV ja8 jae jag jaf ja0 jaC jaP jaw jaI jaZ jaG jaS jan jaU jaE jar jaL jah jaB jaa jaz jaH jab jaT a0_s jaq jai jaO jaA jat jau jav jaj jas jaJ jak jad jay jac jaQ cyI ja9 jaT cyI jb2 a0_s cyI f0_s) → va_S A s.heap H locs → lv_has ls 5 [(0, .ref a0), (1, .int l1), (2, .int l2), (3, .int l3)] → qMI jaC jb2 Q jbd ja9 f0_s l1 l2 l3 s1 → W p l e (headSpec wsX11_clover ({ frames := 2, cells := 0, slots := 0, locals := 47 })).room s m args below meth c H locs 0 0 (MQ below (va_Qi (fun (r : Int32) (u : Int32 × NI × NI) => Q r u.1 u.2.1 u.2.2) (cB (dC, dI) (kT cyB cyI cyJ cyP) A (fun u : Int32 × NI × NI => ((qy5 a0 u.1 jaQ jaD ja7 jby jbe jaM jaY jap jaK jal jam jax jao ja6 jaV ja8 jae jag jaf ja0 jaC jaP jaw jaI jaZ jaG jaS jan jaU jaE jar jaL jah jaB jaa jaz jaH jab jaT a0_s jaq jai jaO jaA jat jau jav jaj jas jaJ jak jad jay jac jaQ cyI u.2.1 jaT cyI jb2 a0_s cyI u.2.2) : va_W))) A) args s 0 0 A) (F0 m 45 ls [.int s1, .ref a0]) := by
  obtain ⟨hx, hb, hr, hts, hown, hlocks, hml, hA, hK, hNw⟩ := id C0
  intro H locs ls jbd ja9 f0_s l1 l2 l3 s1 hP hD hS hl hw
  refine lv_iconst (v := 2) hx hb (qaa qdI 9 rfl) (by decide) ?_
  refine lv_iconst (v := 1) hx hb (qaa qdI 10 rfl) (by decide) ?_
  obtain ⟨hCc, hPc, hDc, hFc⟩ := qac (ws' := (qa0X a0 jbd jaQ jaD ja7 jby jbe jaM jaY jap jaK jal jam jax jao ja6 jaV ja8 jae jag jaf ja0 jaC jaP jaw jaI jaZ jaG jaS jan jaU jaE jar jaL jah jaB jaa jaz jaH jab jaT a0_s jaq jai jaO jaA jat jau jav jaj jas jaJ jak jad jay jac jaQ cyI ja9)) hP hD hS hA [0, 1] (by decide +kernel) rfl
  refine va_calli (va_runV (As := [.int s1, .int 2, .int 1]) (rest := []) ⟨hx, hb, hml, hown, hts⟩ (qkE l dC dI cyB cyI cyJ cyP a0 jaQ H.size (jaD) (ja7) (jby) (jbe) (jaM) (jaY) (jap) (jaK) (jal) (jam) (jax) (jao) (ja6) (jaV) (ja8) (jae) (jag) (jaf) (ja0) (.int jaC) (jaP) (jaw) (jaI) (jaZ) (jaG) (jaS) (jan) (jaU) (jaE) (jar) (jaL) (jah) (jaB) (jaa) (jaz) (jaH) (jab) (.ref jaT) (.ref a0_s) (jaq) (jai) (jaO) (jaA) (jat) (jau) (jav) (jaj) (jas) (jaJ) (jak) (jad) (jay) (jac) jbd ja9 s1 2 1 hw) (cwV 3 hts gX11_clover_X11_may rfl rfl rfl (by decide +kernel) ⟨nbq rfl, nbq rfl⟩) ⟨qab, va_recv (q := (RX11, TX11, 55)) hK hPc (ci := 11) (q0 := 0) rfl rfl, qae hPc hK hDc hNw⟩ rfl rfl hl.1 rfl (lv_room (nbq rfl)) (qaa qdI 11 rfl) ⟨nbq rfl, nbq rfl⟩) hS (fun q _ h => hFc q h) hFc (fun r11 u t H1 locs ht hvm hw hB hz1 hk1 hS => ?_)
  obtain ⟨x9, f10⟩ := u
  obtain ⟨hP1, hK1, hD1⟩ := hB
  rw [ht] at hP1
  obtain ⟨hP, hD⟩ := qad (wr := (qbdH jaT cyI jb2 a0_s cyI f0_s)) (w1 := (qa0X a0 x9 jaQ jaD ja7 jby jbe jaM jaY jap jaK jal jam jax jao ja6 jaV ja8 jae jag jaf ja0 jaC jaP jaw jaI jaZ jaG jaS jan jaU jaE jar jaL jah jaB jaa jaz jaH jab jaT a0_s jaq jai jaO jaA jat jau jav jaj jas jaJ jak jad jay jac jaQ cyI f10)) (wn := (qy5 a0 x9 jaQ jaD ja7 jby jbe jaM jaY jap jaK jal jam jax jao ja6 jaV ja8 jae jag jaf ja0 jaC jaP jaw jaI jaZ jaG jaS jan jaU jaE jar jaL jah jaB jaa jaz jaH jab jaT a0_s jaq jai jaO jaA jat jau jav jaj jas jaJ jak jad jay jac jaQ cyI f10 jaT cyI jb2 a0_s cyI f0_s)) hP hD [0, 1] [2, 3] [2, 3, 0, 1] hCc rfl (by decide +kernel) (by decide +kernel) (by decide +kernel) rfl hk1 hFc hP1 hD1
  generalize H1 = H at hP hS ⊢
  refine lv_if_ne (tgt := 55) hx hb (qaa qdI 12 rfl) (by decide) (fun c12 => ?_) (fun c12 => ?_)
  · have hw := hw.1 c12
    refine lv_aload_n hx hb (qaa qdI 15 rfl) rfl (lv_at hl 0 rfl) ?_
    obtain ⟨hCc, hPc, hDc, hFc⟩ := qac (ws' := (qbdb a0 x9 jaQ jaD ja7 jby jbe jaM jaY jap jaK jal jam jax jao ja6 jaV ja8 jae jag jaf ja0 jaC jaP jaw jaI jaZ jaG jaS jan jaU jaE jar jaL jah jaB jaa jaz jaH jab jaT a0_s jaq jai jaO jaA jat jau jav jaj jas jaJ jak jad jay jac jaT cyI jb2 a0_s cyI f0_s)) hP hD hS hA [0, 2, 3] (by decide +kernel) rfl
    refine va_callv (va_runV (As := []) (rest := []) ⟨hx, hb, hml, hown, hts⟩ (qq7 l dC dI cyB cyI cyJ cyP a0 jaT a0_s H.size (.int x9) (.ref jaQ) (jaD) (ja7) (jby) (jbe) (jaM) (jaY) (jap) (jaK) (jal) (jam) (jax) (jao) (ja6) (jaV) (ja8) (jae) (jag) (jaf) (ja0) (.int jaC) (jaP) (jaw) (jaI) (jaZ) (jaG) (jaS) (jan) (jaU) (jaE) (jar) (jaL) (jah) (jaB) (jaa) (jaz) (jaH) (jab) (jaq) (jai) (jaO) (jaA) (jat) (jau) (jav) (jaj) (jas) (jaJ) (jak) (jad) (jay) (jac) jb2 f0_s hw) (cwV 0 hts gX11_clover_X11_take rfl rfl rfl (by decide +kernel) ⟨nbq rfl, nbq rfl⟩) ⟨qab, va_recv (q := (RX11, TX11, 55)) hK hPc (ci := 11) (q0 := 0) rfl rfl, qae hPc hK hDc hNw⟩ rfl rfl hl.1 rfl (lv_room (nbq rfl)) (qaa qfh 0 rfl) ⟨nbq rfl, nbq rfl⟩) hS (fun q _ h => hFc q h) hFc (fun u t H1 locs ht hvm hw hB hz1 hk1 hS => ?_)
    obtain ⟨f13, rfl⟩ : ∃ z, z = u := ⟨_, rfl⟩
    obtain ⟨hP1, hK1, hD1⟩ := hB
    rw [ht] at hP1
    obtain ⟨hP, hD⟩ := qad (wr := [(jaQ, .inl (cyI, 2, .inl f10))]) (w1 := (qbdb a0 x9 jaQ jaD ja7 jby jbe jaM jaY jap jaK jal jam jax jao ja6 jaV ja8 jae jag jaf ja0 jaC jaP jaw jaI jaZ jaG jaS jan jaU jaE jar jaL jah jaB jaa jaz jaH jab jaT a0_s jaq jai jaO jaA jat jau jav jaj jas jaJ jak jad jay jac jaT cyI jb2 a0_s cyI f13)) (wn := (qy5 a0 x9 jaQ jaD ja7 jby jbe jaM jaY jap jaK jal jam jax jao ja6 jaV ja8 jae jag jaf ja0 jaC jaP jaw jaI jaZ jaG jaS jan jaU jaE jar jaL jah jaB jaa jaz jaH jab jaT a0_s jaq jai jaO jaA jat jau jav jaj jas jaJ jak jad jay jac jaQ cyI f10 jaT cyI jb2 a0_s cyI f13)) hP hD [0, 2, 3] [1] [1, 0, 2, 3] hCc rfl (by decide +kernel) (by decide +kernel) (by decide +kernel) rfl hk1 hFc hP1 hD1
    generalize H1 = H at hP hS ⊢
    refine lv_sipush (v := 495) hx hb (qaa qfh 1 rfl) (by decide) ?_
    refine lv_istore (lv' := [(4, .int 495), (0, .ref a0), (1, .int l1), (2, .int l2), (3, .int l3)]) hx hb (qaa qfh 2 rfl) hl (by decide) rfl (fun ls hl => ?_)
    obtain ⟨n9, hw⟩ := hw
    exact qatj dC dI cyB cyI cyJ cyP a0 jaQ jaT a0_s jaD ja7 jby jbe jaM jaY jap jaK jal jam jax jao ja6 jaV ja8 jae jag jaf ja0 jaP jaw jaI jaZ jaG jaS jan jaU jaE jar jaL jah jaB jaa jaz jaH jab jaq jai jaO jaA jat jau jav jaj jas jaJ jak jad jay jac jaC jb2 Q C0 n9 _ _ _ x9 f10 f13 l1 l2 l3 495 hP hD hS (lv_sub hl [1, 2, 3, 4, 0] rfl) hw
  · have hw := hw.2 c12
    refine lv_iconst (v := 0) hx hb (qaa qdI 13 rfl) (by decide) ?_
    exact ((W.iret (v := 0) hx hb hr (fun t ht hW => ⟨⟨0, (x9, f10, f0_s), rfl, hw, by rw [ht]; exact hP, va_K.moved hW.alike hK, hD⟩, hS.F ht⟩) hS.2.2 (qaa qdI 14 rfl)))
set_option maxHeartbeats 4000000 in
set_option maxRecDepth 100000 in
theorem qMo {p : Program} {l : Launch} {e : Env} {s : State} {m : MethodId} {args : Array Value} {below : List Frame} {meth : Method} {c : Code} {A : Nat → Prop} (dC : Nat → ClassId) (dI : Nat → Nat → Nat) (cyB cyI cyJ cyP : ClassId) (a0 jaQ jaT a0_s : Nat) (jaD ja7 jby jbe jaM jaY jap jaK jal jam jax jao ja6 jaV ja8 jae jag jaf ja0 jaP jaw jaI jaZ jaG jaS jan jaU jaE jar jaL jah jaB jaa jaz jaH jab jaq jai jaO jaA jat jau jav jaj jas jaJ jak jad jay jac : Value) (jaC : Int32) (jb2 : NI) (Q : Int32 → Int32 → NI → NI → Prop) (C0 : cfx p s m args meth c cX11_clover (some .int) wsX11_clover RX11 5 A (dC, dI) (kT cyB cyI cyJ cyP)) : ∀ (H : Heap) (locs : List Loc) (ls : Array Slot) (jbd : Int32) (ja9 f0_s : NI) (l1 l2 l3 : Int32), va_P (dC, dI) vwCl (qy5 a0 jbd jaQ jaD ja7 jby jbe jaM jaY jap jaK jal jam jax jao ja6 jaV ja8 jae jag jaf ja0 jaC jaP jaw jaI jaZ jaG jaS jan jaU jaE jar jaL jah jaB jaa jaz jaH jab jaT a0_s jaq jai jaO jaA jat jau jav jaj jas jaJ jak jad jay jac jaQ cyI ja9 jaT cyI jb2 a0_s cyI f0_s) H → va_D A (qy5 a0 jbd jaQ jaD ja7 jby jbe jaM jaY jap jaK jal jam jax jao ja6 jaV ja8 jae jag jaf ja0 jaC jaP jaw jaI jaZ jaG jaS jan jaU jaE jar jaL jah jaB jaa jaz jaH jab jaT a0_s jaq jai jaO jaA jat jau jav jaj jas jaJ jak jad jay jac jaQ cyI ja9 jaT cyI jb2 a0_s cyI f0_s) → va_S A s.heap H locs → lv_has ls 5 [(0, .ref a0), (1, .int l1), (2, .int l2), (3, .int l3)] → qET jaC jb2 Q jbd ja9 f0_s l1 l2 l3 → W p l e (headSpec wsX11_clover ({ frames := 2, cells := 0, slots := 0, locals := 47 })).room s m args below meth c H locs 0 0 (MQ below (va_Qi (fun (r : Int32) (u : Int32 × NI × NI) => Q r u.1 u.2.1 u.2.2) (cB (dC, dI) (kT cyB cyI cyJ cyP) A (fun u : Int32 × NI × NI => ((qy5 a0 u.1 jaQ jaD ja7 jby jbe jaM jaY jap jaK jal jam jax jao ja6 jaV ja8 jae jag jaf ja0 jaC jaP jaw jaI jaZ jaG jaS jan jaU jaE jar jaL jah jaB jaa jaz jaH jab jaT a0_s jaq jai jaO jaA jat jau jav jaj jas jaJ jak jad jay jac jaQ cyI u.2.1 jaT cyI jb2 a0_s cyI u.2.2) : va_W))) A) args s 0 0 A) (F0 m 44 ls [.ref a0]) := by
  obtain ⟨hx, hb, hr, hts, hown, hlocks, hml, hA, hK, hNw⟩ := id C0
  intro H locs ls jbd ja9 f0_s l1 l2 l3 hP hD hS hl hw
  refine lv_iconst (v := 0) hx hb (qaa qdI 8 rfl) (by decide) ?_
  exact qZ0 dC dI cyB cyI cyJ cyP a0 jaQ jaT a0_s jaD ja7 jby jbe jaM jaY jap jaK jal jam jax jao ja6 jaV ja8 jae jag jaf ja0 jaP jaw jaI jaZ jaG jaS jan jaU jaE jar jaL jah jaB jaa jaz jaH jab jaq jai jaO jaA jat jau jav jaj jas jaJ jak jad jay jac jaC jb2 Q C0 _ _ _ jbd ja9 f0_s l1 l2 l3 0 hP hD hS (lv_sub hl [0, 1, 2, 3] rfl) hw
set_option maxHeartbeats 4000000 in
set_option maxRecDepth 100000 in
theorem qaSH (l : Launch) (dC : Nat → ClassId) (dI : Nat → Nat → Nat) (cyB cyI cyJ cyP : ClassId) (a0 jaQ jaT a0_s sz : Nat) (jaD ja7 jby jbe jaM jaY jap jaK jal jam jax jao ja6 jaV ja8 jae jag jaf ja0 jaP jaw jaI jaZ jaG jaS jan jaU jaE jar jaL jah jaB jaa jaz jaH jab jaq jai jaO jaA jat jau jav jaj jas jaJ jak jad jay jac : Value) (jaC : Int32) (jb2 : NI) (jbd : Int32) (ja9 f0_s : NI) (p1 p2 p3 : Int32) {Q : Int32 → Int32 → NI → NI → Prop} (hw : qWG jaC jb2 jbd ja9 f0_s p1 p2 p3 Q) : Met l yX11_clover wsX11_clover ({ frames := 2, cells := 0, slots := 0, locals := 47 }) (va_Pc [.ref a0, .int p1, .int p2, .int p3] (cPc (dC, dI) (kT cyB cyI cyJ cyP) (qy5 a0 jbd jaQ jaD ja7 jby jbe jaM jaY jap jaK jal jam jax jao ja6 jaV ja8 jae jag jaf ja0 jaC jaP jaw jaI jaZ jaG jaS jan jaU jaE jar jaL jah jaB jaa jaz jaH jab jaT a0_s jaq jai jaO jaA jat jau jav jaj jas jaJ jak jad jay jac jaQ cyI ja9 jaT cyI jb2 a0_s cyI f0_s) sz)) (va_Qi (fun (r : Int32) (u : Int32 × NI × NI) => Q r u.1 u.2.1 u.2.2) (cB (dC, dI) (kT cyB cyI cyJ cyP) (va_A (qy5 a0 jbd jaQ jaD ja7 jby jbe jaM jaY jap jaK jal jam jax jao ja6 jaV ja8 jae jag jaf ja0 jaC jaP jaw jaI jaZ jaG jaS jan jaU jaE jar jaL jah jaB jaa jaz jaH jab jaT a0_s jaq jai jaO jaA jat jau jav jaj jas jaJ jak jad jay jac jaQ cyI ja9 jaT cyI jb2 a0_s cyI f0_s) sz) (fun u : Int32 × NI × NI => ((qy5 a0 u.1 jaQ jaD ja7 jby jbe jaM jaY jap jaK jal jam jax jao ja6 jaV ja8 jae jag jaf ja0 jaC jaP jaw jaI jaZ jaG jaS jan jaU jaE jar jaL jah jaB jaa jaz jaH jab jaT a0_s jaq jai jaO jaA jat jau jav jaj jas jaJ jak jad jay jac jaQ cyI u.2.1 jaT cyI jb2 a0_s cyI u.2.2) : va_W))) (va_A (qy5 a0 jbd jaQ jaD ja7 jby jbe jaM jaY jap jaK jal jam jax jao ja6 jaV ja8 jae jag jaf ja0 jaC jaP jaw jaI jaZ jaG jaS jan jaU jaE jar jaL jah jaB jaa jaz jaH jab jaT a0_s jaq jai jaO jaA jat jau jav jaj jas jaJ jak jad jay jac jaQ cyI ja9 jaT cyI jb2 a0_s cyI f0_s) sz)) 0 0 (va_A (qy5 a0 jbd jaQ jaD ja7 jby jbe jaM jaY jap jaK jal jam jax jao ja6 jaV ja8 jae jag jaf ja0 jaC jaP jaw jaI jaZ jaG jaS jan jaU jaE jar jaL jah jaB jaa jaz jaH jab jaT a0_s jaq jai jaO jaA jat jau jav jaj jas jaJ jak jad jay jac jaQ cyI ja9 jaT cyI jb2 a0_s cyI f0_s) sz) := by
  refine Met.ofW (cc := cX11_clover) (maxL := 5) (ret := (some .int)) (by decide) rfl ?_
  intro p e s m args below meth c s₁ B hml hv
  obtain ⟨rfl, hsz, hP, hK, hD0, hNw⟩ := hv
  have hx := B.exec
  have hb := B.bytes
  have hr := B.returns
  have hts := atoms_spec (ws := wsX11_clover) B.pre
  have hown : s.vm.findClass RX11 = some m.cls := findClass_of_methodNamed B.named
  have hlocks := B.notSynchronized
  subst hsz
  have hD := hD0.self (sz := s.heap.size)
  generalize hAe : va_A (qy5 a0 jbd jaQ jaD ja7 jby jbe jaM jaY jap jaK jal jam jax jao ja6 jaV ja8 jae jag jaf ja0 jaC jaP jaw jaI jaZ jaG jaS jan jaU jaE jar jaL jah jaB jaa jaz jaH jab jaT a0_s jaq jai jaO jaA jat jau jav jaj jas jaJ jak jad jay jac jaQ cyI ja9 jaT cyI jb2 a0_s cyI f0_s) s.heap.size = A at hD ⊢
  have hA : ∀ q : Nat, s.heap.size ≤ q → A q := fun q h => by rw [← hAe]; exact Or.inr h
  have hS : va_S A s.heap s.heap [] := va_S.rf
  have hP : va_P (dC, dI) vwCl (qy5 a0 jbd jaQ jaD ja7 jby jbe jaM jaY jap jaK jal jam jax jao ja6 jaV ja8 jae jag jaf ja0 jaC jaP jaw jaI jaZ jaG jaS jan jaU jaE jar jaL jah jaB jaa jaz jaH jab jaT a0_s jaq jai jaO jaA jat jau jav jaj jas jaJ jak jad jay jac jaQ cyI ja9 jaT cyI jb2 a0_s cyI f0_s) s.heap := hP
  have hl := lv_entry ([.ref a0, .int p1, .int p2, .int p3]) (n := 5) (nbq rfl)
  rw [lg_entry_eq]
  generalize (lg_sl ([.ref a0, .int p1, .int p2, .int p3]) ++ List.replicate (5 - (lg_sl ([.ref a0, .int p1, .int p2, .int p3])).length) Slot.unset).toArray = ls at hl ⊢
  have hl : lv_has ls 5 [(0, .ref a0), (1, .int p1), (2, .int p2), (3, .int p3)] := hl
  have C0 : cfx p s m _ meth c cX11_clover (some .int) wsX11_clover RX11 5 A (dC, dI) (kT cyB cyI cyJ cyP) := ⟨hx, hb, hr, hts, hown, hlocks, hml, hA, hK, hNw⟩
  clear hAe
  obtain ⟨H, hH⟩ : ∃ H, H = s.heap := ⟨_, rfl⟩
  rw [← hH] at hP ⊢
  have hS : va_S A s.heap H [] := by rw [hH]; exact va_S.rf
  have hS := hS
  refine lv_aload_n hx hb (qaa qhw 0 rfl) rfl (lv_at hl 0 rfl) ?_
  refine lv_iconst (v := 0) hx hb (qaa qhw 1 rfl) (by decide) ?_
  refine va_put (D := (dC, dI)) (ci := 11) (v := .int 0) (ty := .int) (C := RX11) (T := TX11) (N := 55) hx hb hts qUN tyX11 tyX11_ok nmX11 hown hK hP hD hS 0 rfl rfl 0 (by decide) (hts _ qatX) (fun _ h9 => h9) rfl (by decide +kernel) rfl rfl (nbq rfl) (qaa qhw 2 rfl) (fun H locs hP hD hS => ?_)
  have hP : va_P (dC, dI) vwCl (qy5 a0 0 jaQ jaD ja7 jby jbe jaM jaY jap jaK jal jam jax jao ja6 jaV ja8 jae jag jaf ja0 jaC jaP jaw jaI jaZ jaG jaS jan jaU jaE jar jaL jah jaB jaa jaz jaH jab jaT a0_s jaq jai jaO jaA jat jau jav jaj jas jaJ jak jad jay jac jaQ cyI ja9 jaT cyI jb2 a0_s cyI f0_s) H := hP
  have hD : va_D A (qy5 a0 0 jaQ jaD ja7 jby jbe jaM jaY jap jaK jal jam jax jao ja6 jaV ja8 jae jag jaf ja0 jaC jaP jaw jaI jaZ jaG jaS jan jaU jaE jar jaL jah jaB jaa jaz jaH jab jaT a0_s jaq jai jaO jaA jat jau jav jaj jas jaJ jak jad jay jac jaQ cyI ja9 jaT cyI jb2 a0_s cyI f0_s) := hD
  refine lv_aload_n hx hb (qaa qhw 3 rfl) rfl (lv_at hl 0 rfl) ?_
  refine lv_iload_n hx hb (qaa qhw 4 rfl) rfl (lv_at hl 1 rfl) ?_
  refine lv_iconst (v := 1) hx hb (qaa qhw 5 rfl) (by decide) ?_
  obtain ⟨hCc, hPc, hDc, hFc⟩ := qac (ws' := (qa0X a0 0 jaQ jaD ja7 jby jbe jaM jaY jap jaK jal jam jax jao ja6 jaV ja8 jae jag jaf ja0 jaC jaP jaw jaI jaZ jaG jaS jan jaU jaE jar jaL jah jaB jaa jaz jaH jab jaT a0_s jaq jai jaO jaA jat jau jav jaj jas jaJ jak jad jay jac jaQ cyI ja9)) hP hD hS hA [0, 1] (by decide +kernel) rfl
  refine va_calli (va_runV (As := [.int p1, .int 1]) (rest := []) ⟨hx, hb, hml, hown, hts⟩ (qtR l dC dI cyB cyI cyJ cyP a0 jaQ H.size (jaD) (ja7) (jby) (jbe) (jaM) (jaY) (jap) (jaK) (jal) (jam) (jax) (jao) (ja6) (jaV) (ja8) (jae) (jag) (jaf) (ja0) (jaP) (jaw) (jaI) (jaZ) (jaG) (jaS) (jan) (jaU) (jaE) (jar) (jaL) (jah) (jaB) (jaa) (jaz) (jaH) (jab) (.ref jaT) (.ref a0_s) (jaq) (jai) (jaO) (jaA) (jat) (jau) (jav) (jaj) (jas) (jaJ) (jak) (jad) (jay) (jac) jaC 0 ja9 p1 1 hw) (cwV 2 hts gX11_clover_X11_isHare rfl rfl rfl (by decide +kernel) ⟨nbq rfl, nbq rfl⟩) ⟨qab, va_recv (q := (RX11, TX11, 55)) hK hPc (ci := 11) (q0 := 0) rfl rfl, qae hPc hK hDc hNw⟩ rfl rfl hl.1 rfl (lv_room (nbq rfl)) (qaa qhw 6 rfl) ⟨nbq rfl, nbq rfl⟩) hS (fun q _ h => hFc q h) hFc (fun r3 u t H1 locs ht hvm hw hB hz1 hk1 hS => ?_)
  obtain ⟨x1, f2⟩ := u
  obtain ⟨hP1, hK1, hD1⟩ := hB
  rw [ht] at hP1
  obtain ⟨hP, hD⟩ := qad (wr := (qbdH jaT cyI jb2 a0_s cyI f0_s)) (w1 := (qa0X a0 x1 jaQ jaD ja7 jby jbe jaM jaY jap jaK jal jam jax jao ja6 jaV ja8 jae jag jaf ja0 jaC jaP jaw jaI jaZ jaG jaS jan jaU jaE jar jaL jah jaB jaa jaz jaH jab jaT a0_s jaq jai jaO jaA jat jau jav jaj jas jaJ jak jad jay jac jaQ cyI f2)) (wn := (qy5 a0 x1 jaQ jaD ja7 jby jbe jaM jaY jap jaK jal jam jax jao ja6 jaV ja8 jae jag jaf ja0 jaC jaP jaw jaI jaZ jaG jaS jan jaU jaE jar jaL jah jaB jaa jaz jaH jab jaT a0_s jaq jai jaO jaA jat jau jav jaj jas jaJ jak jad jay jac jaQ cyI f2 jaT cyI jb2 a0_s cyI f0_s)) hP hD [0, 1] [2, 3] [2, 3, 0, 1] hCc rfl (by decide +kernel) (by decide +kernel) (by decide +kernel) rfl hk1 hFc hP1 hD1
  generalize H1 = H at hP hS ⊢
  refine lv_if_eq (tgt := 53) hx hb (qaa qhw 7 rfl) (by decide) (fun c4 => ?_) (fun c4 => ?_)
  · have hw := hw.1 c4
    refine lv_iconst (v := 0) hx hb (qaa qdI 13 rfl) (by decide) ?_
    exact ((W.iret (v := 0) hx hb hr (fun t ht hW => ⟨⟨0, (x1, f2, f0_s), rfl, hw, by rw [ht]; exact hP, va_K.moved hW.alike hK, hD⟩, hS.F ht⟩) hS.2.2 (qaa qdI 14 rfl)))
  · have hw := hw.2 c4
    refine lv_aload_n hx hb (qaa qhw 8 rfl) rfl (lv_at hl 0 rfl) ?_
    refine lv_iload_n hx hb (qaa qhw 9 rfl) rfl (lv_at hl 2 rfl) ?_
    refine lv_if_lt (tgt := 44) hx hb (qaa qhw 10 rfl) (by decide) (fun c5 => ?_) (fun c5 => ?_)
    · have hw := hw.1 c5
      exact qMo dC dI cyB cyI cyJ cyP a0 jaQ jaT a0_s jaD ja7 jby jbe jaM jaY jap jaK jal jam jax jao ja6 jaV ja8 jae jag jaf ja0 jaP jaw jaI jaZ jaG jaS jan jaU jaE jar jaL jah jaB jaa jaz jaH jab jaq jai jaO jaA jat jau jav jaj jas jaJ jak jad jay jac jaC jb2 Q C0 _ _ _ x1 f2 f0_s p1 p2 p3 hP hD hS (lv_sub hl [0, 1, 2, 3] rfl) hw
    · have hw := hw.2 c5
      refine lv_iload_n hx hb (qaa qhw 11 rfl) rfl (lv_at hl 2 rfl) ?_
      refine lv_iconst (v := 1) hx hb (qaa qhw 12 rfl) (by decide) ?_
      refine lv_aload_n hx hb (qaa qhw 13 rfl) rfl (lv_at hl 0 rfl) ?_
      refine va_get (D := (dC, dI)) (ci := 11) (v := .int jaC) (C := RX11) (T := TX11) (N := 55) hx hb hts qUN hown hK hP 0 rfl rfl 21 (by decide) (hts _ qaew) (fun _ h9 => h9) rfl (qaa qhw 14 rfl) ?_
      refine lv_ishl hx hb (qaa qhw 15 rfl) ?_
      refine lv_icmp_ge (tgt := 44) hx hb (qaa qdI 0 rfl) (by decide) (fun c6 => ?_) (fun c6 => ?_)
      · have hw := hw.1 c6
        exact qMo dC dI cyB cyI cyJ cyP a0 jaQ jaT a0_s jaD ja7 jby jbe jaM jaY jap jaK jal jam jax jao ja6 jaV ja8 jae jag jaf ja0 jaP jaw jaI jaZ jaG jaS jan jaU jaE jar jaL jah jaB jaa jaz jaH jab jaq jai jaO jaA jat jau jav jaj jas jaJ jak jad jay jac jaC jb2 Q C0 _ _ _ x1 f2 f0_s p1 p2 p3 hP hD hS (lv_sub hl [0, 1, 2, 3] rfl) hw
      · have hw := hw.2 c6
        refine lv_iload_n hx hb (qaa qdI 1 rfl) rfl (lv_at hl 3 rfl) ?_
        refine lv_iconst (v := 0) hx hb (qaa qdI 2 rfl) (by decide) ?_
        refine lv_sipush (v := 999) hx hb (qaa qdI 3 rfl) (by decide) ?_
        obtain ⟨hCc, hPc, hDc, hFc⟩ := qac (ws' := []) hP hD hS hA [] (by decide +kernel) rfl
        refine va_calli (va_runS (As := [.int p3, .int 0, .int 999]) (rest := [.ref a0]) ⟨hx, hb, hml, hown, hts⟩ (qbG l dC dI cyB cyI cyJ cyP H.size p3 0 999 hw) (va_cwS 3 hts gX11_clover_X11_within rfl rfl rfl (by decide +kernel) ⟨nbq rfl, nbq rfl⟩) ⟨qab, qae hPc hK hDc hNw⟩ rfl rfl hl.1 rfl (lv_room (nbq rfl)) (qaa qdI 4 rfl) ⟨nbq rfl, nbq rfl⟩) hS (fun q _ h => hFc q h) hFc (fun r7 u t H1 locs ht hvm hw hB hz1 hk1 hS => ?_)
        obtain ⟨hP1, hK1, hD1⟩ := hB
        rw [ht] at hP1
        obtain ⟨hP, hD⟩ := qah (wr := (qy5 a0 x1 jaQ jaD ja7 jby jbe jaM jaY jap jaK jal jam jax jao ja6 jaV ja8 jae jag jaf ja0 jaC jaP jaw jaI jaZ jaG jaS jan jaU jaE jar jaL jah jaB jaa jaz jaH jab jaT a0_s jaq jai jaO jaA jat jau jav jaj jas jaJ jak jad jay jac jaQ cyI f2 jaT cyI jb2 a0_s cyI f0_s)) (w1 := []) (wn := (qy5 a0 x1 jaQ jaD ja7 jby jbe jaM jaY jap jaK jal jam jax jao ja6 jaV ja8 jae jag jaf ja0 jaC jaP jaw jaI jaZ jaG jaS jan jaU jaE jar jaL jah jaB jaa jaz jaH jab jaT a0_s jaq jai jaO jaA jat jau jav jaj jas jaJ jak jad jay jac jaQ cyI f2 jaT cyI jb2 a0_s cyI f0_s)) hP hD [] [0, 1, 2, 3] hCc rfl (by decide +kernel) (by decide +kernel) rfl hk1 hFc hP1 hD1
        generalize H1 = H at hP hS ⊢
        refine lv_if_eq (tgt := 44) hx hb (qaa qdI 5 rfl) (by decide) (fun c8 => ?_) (fun c8 => ?_)
        · have hw := hw.1 c8
          exact qMo dC dI cyB cyI cyJ cyP a0 jaQ jaT a0_s jaD ja7 jby jbe jaM jaY jap jaK jal jam jax jao ja6 jaV ja8 jae jag jaf ja0 jaP jaw jaI jaZ jaG jaS jan jaU jaE jar jaL jah jaB jaa jaz jaH jab jaq jai jaO jaA jat jau jav jaj jas jaJ jak jad jay jac jaC jb2 Q C0 _ _ _ x1 f2 f0_s p1 p2 p3 hP hD hS (lv_sub hl [0, 1, 2, 3] rfl) hw
        · have hw := hw.2 c8
          refine lv_iconst (v := 1) hx hb (qaa qdI 6 rfl) (by decide) ?_
          refine lv_goto (tgt := 45) hx hb (qaa qdI 7 rfl) (by decide) ?_
          exact qZ0 dC dI cyB cyI cyJ cyP a0 jaQ jaT a0_s jaD ja7 jby jbe jaM jaY jap jaK jal jam jax jao ja6 jaV ja8 jae jag jaf ja0 jaP jaw jaI jaZ jaG jaS jan jaU jaE jar jaL jah jaB jaa jaz jaH jab jaq jai jaO jaA jat jau jav jaj jas jaJ jak jad jay jac jaC jb2 Q C0 _ _ _ x1 f2 f0_s p1 p2 p3 1 hP hD hS (lv_sub hl [0, 1, 2, 3] rfl) hw
theorem qEu : ∀ w ∈ u_ws RX11 TX11 55, w ∈ wsX11_count := uiM qRd qfa (by decide +kernel)
theorem qalc : (.fieldLink RX11 111 "MarchHaresModel" "taped" "I" : Cond) ∈ wsX11_count := qRd 590 (by decide +kernel)
theorem qam0 : (.fieldLink RX11 185 "MarchHaresModel" "works" "I" : Cond) ∈ wsX11_count := qRd 524 (by decide +kernel)
theorem qajv : (.fieldLink RX11 188 "MarchHaresModel" "images" "I" : Cond) ∈ wsX11_count := qRd 525 (by decide +kernel)
theorem qayv : (.fieldLink RX11 3 "MarchHaresModel" "thrown" "I" : Cond) ∈ wsX11_count := qRd 589 (by decide +kernel)
set_option maxHeartbeats 4000000 in
set_option maxRecDepth 100000 in
theorem qaU2 (l : Launch) (dC : Nat → ClassId) (dI : Nat → Nat → Nat) (cyB cyI cyJ cyP : ClassId) (a0 sz : Nat) (jaF ja7 jby jbe jaM jaY jap jaK jal jam jax jao ja6 jaV ja8 jae jag jaf ja0 ja4 jaP jaw jaI jaZ jaG jaS jan jaU jaE jar jaL jah jaa jaz jaH jab ja2 z0_s jaq jai jaO jaA jat jau jav jaj jas jaJ jak jad jay : Value) (jgt jhQ ji3 jbd p1 : Int32) {Q : Int32 → Int32 → Prop} (hw : q0E jgt jhQ ji3 jbd p1 Q) : Met l yX11_count wsX11_count ({ frames := 0, cells := 0, slots := 0, locals := 0 }) (va_Pc [.ref a0, .int p1] (cPc (dC, dI) (kT cyB cyI cyJ cyP) (qagT a0 jbd jaF jgt ja7 jby jbe jaM jaY jap jaK jal jam jax jao ja6 jaV ja8 jae jag jaf ja0 ja4 jaP jaw jaI jaZ jaG jaS jan jaU jaE jar jaL jah jhQ jaa jaz jaH jab ja2 z0_s jaq jai jaO jaA jat jau jav jaj jas jaJ jak jad jay ji3) sz)) (va_Qi (fun (r u : Int32) => Q r u) (cB (dC, dI) (kT cyB cyI cyJ cyP) (va_A (qagT a0 jbd jaF jgt ja7 jby jbe jaM jaY jap jaK jal jam jax jao ja6 jaV ja8 jae jag jaf ja0 ja4 jaP jaw jaI jaZ jaG jaS jan jaU jaE jar jaL jah jhQ jaa jaz jaH jab ja2 z0_s jaq jai jaO jaA jat jau jav jaj jas jaJ jak jad jay ji3) sz) (fun u : Int32 => ((qagT a0 u jaF jgt ja7 jby jbe jaM jaY jap jaK jal jam jax jao ja6 jaV ja8 jae jag jaf ja0 ja4 jaP jaw jaI jaZ jaG jaS jan jaU jaE jar jaL jah jhQ jaa jaz jaH jab ja2 z0_s jaq jai jaO jaA jat jau jav jaj jas jaJ jak jad jay ji3) : va_W))) (va_A (qagT a0 jbd jaF jgt ja7 jby jbe jaM jaY jap jaK jal jam jax jao ja6 jaV ja8 jae jag jaf ja0 ja4 jaP jaw jaI jaZ jaG jaS jan jaU jaE jar jaL jah jhQ jaa jaz jaH jab ja2 z0_s jaq jai jaO jaA jat jau jav jaj jas jaJ jak jad jay ji3) sz)) 0 0 (va_A (qagT a0 jbd jaF jgt ja7 jby jbe jaM jaY jap jaK jal jam jax jao ja6 jaV ja8 jae jag jaf ja0 ja4 jaP jaw jaI jaZ jaG jaS jan jaU jaE jar jaL jah jhQ jaa jaz jaH jab ja2 z0_s jaq jai jaO jaA jat jau jav jaj jas jaJ jak jad jay ji3) sz) := by
  refine Met.ofW (cc := cX11_count) (maxL := 2) (ret := (some .int)) (by decide) rfl ?_
  intro p e s m args below meth c s₁ B hml hv
  obtain ⟨rfl, hsz, hP, hK, hD0, hNw⟩ := hv
  have hx := B.exec
  have hb := B.bytes
  have hr := B.returns
  have hts := atoms_spec (ws := wsX11_count) B.pre
  have hown : s.vm.findClass RX11 = some m.cls := findClass_of_methodNamed B.named
  have hlocks := B.notSynchronized
  subst hsz
  have hD := hD0.self (sz := s.heap.size)
  generalize hAe : va_A (qagT a0 jbd jaF jgt ja7 jby jbe jaM jaY jap jaK jal jam jax jao ja6 jaV ja8 jae jag jaf ja0 ja4 jaP jaw jaI jaZ jaG jaS jan jaU jaE jar jaL jah jhQ jaa jaz jaH jab ja2 z0_s jaq jai jaO jaA jat jau jav jaj jas jaJ jak jad jay ji3) s.heap.size = A at hD ⊢
  have hA : ∀ q : Nat, s.heap.size ≤ q → A q := fun q h => by rw [← hAe]; exact Or.inr h
  have hS : va_S A s.heap s.heap [] := va_S.rf
  have hP : va_P (dC, dI) vwCl (qagT a0 jbd jaF jgt ja7 jby jbe jaM jaY jap jaK jal jam jax jao ja6 jaV ja8 jae jag jaf ja0 ja4 jaP jaw jaI jaZ jaG jaS jan jaU jaE jar jaL jah jhQ jaa jaz jaH jab ja2 z0_s jaq jai jaO jaA jat jau jav jaj jas jaJ jak jad jay ji3) s.heap := hP
  have hl := lv_entry ([.ref a0, .int p1]) (n := 2) (nbq rfl)
  rw [lg_entry_eq]
  generalize (lg_sl ([.ref a0, .int p1]) ++ List.replicate (2 - (lg_sl ([.ref a0, .int p1])).length) Slot.unset).toArray = ls at hl ⊢
  have hl : lv_has ls 2 [(0, .ref a0), (1, .int p1)] := hl
  have C0 : cfx p s m _ meth c cX11_count (some .int) wsX11_count RX11 2 A (dC, dI) (kT cyB cyI cyJ cyP) := ⟨hx, hb, hr, hts, hown, hlocks, hml, hA, hK, hNw⟩
  clear hAe
  obtain ⟨H, hH⟩ : ∃ H, H = s.heap := ⟨_, rfl⟩
  rw [← hH] at hP ⊢
  have hS : va_S A s.heap H [] := by rw [hH]; exact va_S.rf
  have hS := hS
  refine lv_aload_n hx hb (qaa qjz 0 rfl) rfl (lv_at hl 0 rfl) ?_
  refine lv_iconst (v := 0) hx hb (qaa qjz 1 rfl) (by decide) ?_
  refine va_put (D := (dC, dI)) (ci := 11) (v := .int 0) (ty := .int) (C := RX11) (T := TX11) (N := 55) hx hb hts qEu tyX11 tyX11_ok nmX11 hown hK hP hD hS 0 rfl rfl 0 (by decide) (hts _ qayv) (fun _ h9 => h9) rfl (by decide +kernel) rfl rfl (nbq rfl) (qaa qjz 2 rfl) (fun H locs hP hD hS => ?_)
  have hP : va_P (dC, dI) vwCl (qagT a0 0 jaF jgt ja7 jby jbe jaM jaY jap jaK jal jam jax jao ja6 jaV ja8 jae jag jaf ja0 ja4 jaP jaw jaI jaZ jaG jaS jan jaU jaE jar jaL jah jhQ jaa jaz jaH jab ja2 z0_s jaq jai jaO jaA jat jau jav jaj jas jaJ jak jad jay ji3) H := hP
  have hD : va_D A (qagT a0 0 jaF jgt ja7 jby jbe jaM jaY jap jaK jal jam jax jao ja6 jaV ja8 jae jag jaf ja0 ja4 jaP jaw jaI jaZ jaG jaS jan jaU jaE jar jaL jah jhQ jaa jaz jaH jab ja2 z0_s jaq jai jaO jaA jat jau jav jaj jas jaJ jak jad jay ji3) := hD
  refine lv_iload_n hx hb (qaa qjz 3 rfl) rfl (lv_at hl 1 rfl) ?_
  refine lv_if_ne (tgt := 16) hx hb (qaa qjz 4 rfl) (by decide) (fun c1 => ?_) (fun c1 => ?_)
  · have hw := hw.1 c1
    refine lv_iload_n hx hb (qaa qjz 8 rfl) rfl (lv_at hl 1 rfl) ?_
    refine lv_iconst (v := 1) hx hb (qaa qjz 9 rfl) (by decide) ?_
    refine lv_icmp_ne (tgt := 28) hx hb (qaa qjz 10 rfl) (by decide) (fun c2 => ?_) (fun c2 => ?_)
    · have hw := hw.1 c2
      refine lv_iload_n hx hb (qaa qjz 14 rfl) rfl (lv_at hl 1 rfl) ?_
      refine lv_iconst (v := 2) hx hb (qaa qjz 15 rfl) (by decide) ?_
      refine lv_icmp_ne (tgt := 40) hx hb (qaa qr5 0 rfl) (by decide) (fun c3 => ?_) (fun c3 => ?_)
      · have hw := hw.1 c3
        refine lv_iconst (v := (-1)) hx hb (qaa qr5 4 rfl) (by decide) ?_
        exact ((W.iret (v := (-1)) hx hb hr (fun t ht hW => ⟨⟨(-1), (0), rfl, hw, by rw [ht]; exact hP, va_K.moved hW.alike hK, hD⟩, hS.F ht⟩) hS.2.2 (qaa qr5 5 rfl)))
      · have hw := hw.2 c3
        refine lv_aload_n hx hb (qaa qr5 1 rfl) rfl (lv_at hl 0 rfl) ?_
        refine va_get (D := (dC, dI)) (ci := 11) (v := .int jhQ) (C := RX11) (T := TX11) (N := 55) hx hb hts qEu hown hK hP 0 rfl rfl 34 (by decide) (hts _ qam0) (fun _ h9 => h9) rfl (qaa qr5 2 rfl) ?_
        refine lv_goto (tgt := 41) hx hb (qaa qr5 3 rfl) (by decide) ?_
        exact ((W.iret (v := jhQ) hx hb hr (fun t ht hW => ⟨⟨jhQ, (0), rfl, hw, by rw [ht]; exact hP, va_K.moved hW.alike hK, hD⟩, hS.F ht⟩) hS.2.2 (qaa qr5 5 rfl)))
    · have hw := hw.2 c2
      refine lv_aload_n hx hb (qaa qjz 11 rfl) rfl (lv_at hl 0 rfl) ?_
      refine va_get (D := (dC, dI)) (ci := 11) (v := .int jgt) (C := RX11) (T := TX11) (N := 55) hx hb hts qEu hown hK hP 0 rfl rfl 2 (by decide) (hts _ qalc) (fun _ h9 => h9) rfl (qaa qjz 12 rfl) ?_
      refine lv_goto (tgt := 41) hx hb (qaa qjz 13 rfl) (by decide) ?_
      exact ((W.iret (v := jgt) hx hb hr (fun t ht hW => ⟨⟨jgt, (0), rfl, hw, by rw [ht]; exact hP, va_K.moved hW.alike hK, hD⟩, hS.F ht⟩) hS.2.2 (qaa qr5 5 rfl)))
  · have hw := hw.2 c1
    refine lv_aload_n hx hb (qaa qjz 5 rfl) rfl (lv_at hl 0 rfl) ?_
    refine va_get (D := (dC, dI)) (ci := 11) (v := .int ji3) (C := RX11) (T := TX11) (N := 55) hx hb hts qEu hown hK hP 0 rfl rfl 54 (by decide) (hts _ qajv) (fun _ h9 => h9) rfl (qaa qjz 6 rfl) ?_
    refine lv_goto (tgt := 41) hx hb (qaa qjz 7 rfl) (by decide) ?_
    exact ((W.iret (v := ji3) hx hb hr (fun t ht hW => ⟨⟨ji3, (0), rfl, hw, by rw [ht]; exact hP, va_K.moved hW.alike hK, hD⟩, hS.F ht⟩) hS.2.2 (qaa qr5 5 rfl)))
theorem q3M : ∀ w ∈ u_ws RX11 TX11 55, w ∈ wsX11_debt := uiM qVh qfa (by decide +kernel)
theorem qaJs : (.fieldLink RX11 3 "MarchHaresModel" "thrown" "I" : Cond) ∈ wsX11_debt := qVh 589 (by decide +kernel)
theorem qaC2 : (.fieldLink RX11 68 "MarchHaresModel" "now" "[I" : Cond) ∈ wsX11_debt := qVh 456 (by decide +kernel)
set_option maxHeartbeats 4000000 in
set_option maxRecDepth 100000 in
theorem qaX2 (l : Launch) (dC : Nat → ClassId) (dI : Nat → Nat → Nat) (cyB cyI cyJ cyP : ClassId) (a0 jaQ jaT sz : Nat) (jaD ja7 jby jbe jaM jaY jap jaK jal jam jax jao ja6 jaV ja8 jae jag jaf ja0 jaP jaw jaI jaZ jaG jaS jan jaU jaE jar jaL jah jaB jaa jaz jaH jab z0_s jaq jai jaO jaA jat jau jav jaj jas jaJ jak jad jay jac : Value) (jaC : Int32) (jb2 : NI) (jbd : Int32) (ja9 : NI) (p1 p2 : Int32) {Q : Int32 → Int32 → NI → Prop} (hw : q94 jaC jb2 jbd ja9 p1 p2 Q) : Met l yX11_debt wsX11_debt ({ frames := 2, cells := 0, slots := 0, locals := 45 }) (va_Pc [.ref a0, .int p1, .int p2] (cPc (dC, dI) (kT cyB cyI cyJ cyP) (q4n a0 jbd jaQ jaD ja7 jby jbe jaM jaY jap jaK jal jam jax jao ja6 jaV ja8 jae jag jaf ja0 jaC jaP jaw jaI jaZ jaG jaS jan jaU jaE jar jaL jah jaB jaa jaz jaH jab jaT z0_s jaq jai jaO jaA jat jau jav jaj jas jaJ jak jad jay jac jaQ cyI ja9 jaT cyI jb2) sz)) (va_Qi (fun (r : Int32) (u : Int32 × NI) => Q r u.1 u.2) (cB (dC, dI) (kT cyB cyI cyJ cyP) (va_A (q4n a0 jbd jaQ jaD ja7 jby jbe jaM jaY jap jaK jal jam jax jao ja6 jaV ja8 jae jag jaf ja0 jaC jaP jaw jaI jaZ jaG jaS jan jaU jaE jar jaL jah jaB jaa jaz jaH jab jaT z0_s jaq jai jaO jaA jat jau jav jaj jas jaJ jak jad jay jac jaQ cyI ja9 jaT cyI jb2) sz) (fun u : Int32 × NI => ((q4n a0 u.1 jaQ jaD ja7 jby jbe jaM jaY jap jaK jal jam jax jao ja6 jaV ja8 jae jag jaf ja0 jaC jaP jaw jaI jaZ jaG jaS jan jaU jaE jar jaL jah jaB jaa jaz jaH jab jaT z0_s jaq jai jaO jaA jat jau jav jaj jas jaJ jak jad jay jac jaQ cyI u.2 jaT cyI jb2) : va_W))) (va_A (q4n a0 jbd jaQ jaD ja7 jby jbe jaM jaY jap jaK jal jam jax jao ja6 jaV ja8 jae jag jaf ja0 jaC jaP jaw jaI jaZ jaG jaS jan jaU jaE jar jaL jah jaB jaa jaz jaH jab jaT z0_s jaq jai jaO jaA jat jau jav jaj jas jaJ jak jad jay jac jaQ cyI ja9 jaT cyI jb2) sz)) 0 0 (va_A (q4n a0 jbd jaQ jaD ja7 jby jbe jaM jaY jap jaK jal jam jax jao ja6 jaV ja8 jae jag jaf ja0 jaC jaP jaw jaI jaZ jaG jaS jan jaU jaE jar jaL jah jaB jaa jaz jaH jab jaT z0_s jaq jai jaO jaA jat jau jav jaj jas jaJ jak jad jay jac jaQ cyI ja9 jaT cyI jb2) sz) := by
  refine Met.ofW (cc := cX11_debt) (maxL := 3) (ret := (some .int)) (by decide) rfl ?_
  intro p e s m args below meth c s₁ B hml hv
  obtain ⟨rfl, hsz, hP, hK, hD0, hNw⟩ := hv
  have hx := B.exec
  have hb := B.bytes
  have hr := B.returns
  have hts := atoms_spec (ws := wsX11_debt) B.pre
  have hown : s.vm.findClass RX11 = some m.cls := findClass_of_methodNamed B.named
  have hlocks := B.notSynchronized
  subst hsz
  have hD := hD0.self (sz := s.heap.size)
  generalize hAe : va_A (q4n a0 jbd jaQ jaD ja7 jby jbe jaM jaY jap jaK jal jam jax jao ja6 jaV ja8 jae jag jaf ja0 jaC jaP jaw jaI jaZ jaG jaS jan jaU jaE jar jaL jah jaB jaa jaz jaH jab jaT z0_s jaq jai jaO jaA jat jau jav jaj jas jaJ jak jad jay jac jaQ cyI ja9 jaT cyI jb2) s.heap.size = A at hD ⊢
  have hA : ∀ q : Nat, s.heap.size ≤ q → A q := fun q h => by rw [← hAe]; exact Or.inr h
  have hS : va_S A s.heap s.heap [] := va_S.rf
  have hP : va_P (dC, dI) vwCl (q4n a0 jbd jaQ jaD ja7 jby jbe jaM jaY jap jaK jal jam jax jao ja6 jaV ja8 jae jag jaf ja0 jaC jaP jaw jaI jaZ jaG jaS jan jaU jaE jar jaL jah jaB jaa jaz jaH jab jaT z0_s jaq jai jaO jaA jat jau jav jaj jas jaJ jak jad jay jac jaQ cyI ja9 jaT cyI jb2) s.heap := hP
  have hl := lv_entry ([.ref a0, .int p1, .int p2]) (n := 3) (nbq rfl)
  rw [lg_entry_eq]
  generalize (lg_sl ([.ref a0, .int p1, .int p2]) ++ List.replicate (3 - (lg_sl ([.ref a0, .int p1, .int p2])).length) Slot.unset).toArray = ls at hl ⊢
  have hl : lv_has ls 3 [(0, .ref a0), (1, .int p1), (2, .int p2)] := hl
  have C0 : cfx p s m _ meth c cX11_debt (some .int) wsX11_debt RX11 3 A (dC, dI) (kT cyB cyI cyJ cyP) := ⟨hx, hb, hr, hts, hown, hlocks, hml, hA, hK, hNw⟩
  clear hAe
  obtain ⟨H, hH⟩ : ∃ H, H = s.heap := ⟨_, rfl⟩
  rw [← hH] at hP ⊢
  have hS : va_S A s.heap H [] := by rw [hH]; exact va_S.rf
  have hS := hS
  refine lv_aload_n hx hb (qaa qmK 0 rfl) rfl (lv_at hl 0 rfl) ?_
  refine lv_iconst (v := 0) hx hb (qaa qmK 1 rfl) (by decide) ?_
  refine va_put (D := (dC, dI)) (ci := 11) (v := .int 0) (ty := .int) (C := RX11) (T := TX11) (N := 55) hx hb hts q3M tyX11 tyX11_ok nmX11 hown hK hP hD hS 0 rfl rfl 0 (by decide) (hts _ qaJs) (fun _ h9 => h9) rfl (by decide +kernel) rfl rfl (nbq rfl) (qaa qmK 2 rfl) (fun H locs hP hD hS => ?_)
  have hP : va_P (dC, dI) vwCl (q4n a0 0 jaQ jaD ja7 jby jbe jaM jaY jap jaK jal jam jax jao ja6 jaV ja8 jae jag jaf ja0 jaC jaP jaw jaI jaZ jaG jaS jan jaU jaE jar jaL jah jaB jaa jaz jaH jab jaT z0_s jaq jai jaO jaA jat jau jav jaj jas jaJ jak jad jay jac jaQ cyI ja9 jaT cyI jb2) H := hP
  have hD : va_D A (q4n a0 0 jaQ jaD ja7 jby jbe jaM jaY jap jaK jal jam jax jao ja6 jaV ja8 jae jag jaf ja0 jaC jaP jaw jaI jaZ jaG jaS jan jaU jaE jar jaL jah jaB jaa jaz jaH jab jaT z0_s jaq jai jaO jaA jat jau jav jaj jas jaJ jak jad jay jac jaQ cyI ja9 jaT cyI jb2) := hD
  refine lv_aload_n hx hb (qaa qmK 3 rfl) rfl (lv_at hl 0 rfl) ?_
  refine lv_iload_n hx hb (qaa qmK 4 rfl) rfl (lv_at hl 1 rfl) ?_
  refine lv_iconst (v := 1) hx hb (qaa qmK 5 rfl) (by decide) ?_
  obtain ⟨hCc, hPc, hDc, hFc⟩ := qac (ws' := (qa0h a0 0 jaQ jaD ja7 jby jbe jaM jaY jap jaK jal jam jax jao ja6 jaV ja8 jae jag jaf ja0 jaC jaP jaw jaI jaZ jaG jaS jan jaU jaE jar jaL jah jaB jaa jaz jaH jab jaT z0_s jaq jai jaO jaA jat jau jav jaj jas jaJ jak jad jay jac jaQ cyI ja9)) hP hD hS hA [0, 1] (by decide +kernel) rfl
  refine va_calli (va_runV (As := [.int p1, .int 1]) (rest := []) ⟨hx, hb, hml, hown, hts⟩ (qtR l dC dI cyB cyI cyJ cyP a0 jaQ H.size (jaD) (ja7) (jby) (jbe) (jaM) (jaY) (jap) (jaK) (jal) (jam) (jax) (jao) (ja6) (jaV) (ja8) (jae) (jag) (jaf) (ja0) (jaP) (jaw) (jaI) (jaZ) (jaG) (jaS) (jan) (jaU) (jaE) (jar) (jaL) (jah) (jaB) (jaa) (jaz) (jaH) (jab) (.ref jaT) (z0_s) (jaq) (jai) (jaO) (jaA) (jat) (jau) (jav) (jaj) (jas) (jaJ) (jak) (jad) (jay) (jac) jaC 0 ja9 p1 1 hw) (cwV 2 hts gX11_debt_X11_isHare rfl rfl rfl (by decide +kernel) ⟨nbq rfl, nbq rfl⟩) ⟨qab, va_recv (q := (RX11, TX11, 55)) hK hPc (ci := 11) (q0 := 0) rfl rfl, qae hPc hK hDc hNw⟩ rfl rfl hl.1 rfl (lv_room (nbq rfl)) (qaa qmK 6 rfl) ⟨nbq rfl, nbq rfl⟩) hS (fun q _ h => hFc q h) hFc (fun r3 u t H1 locs ht hvm hw hB hz1 hk1 hS => ?_)
  obtain ⟨x1, f2⟩ := u
  obtain ⟨hP1, hK1, hD1⟩ := hB
  rw [ht] at hP1
  obtain ⟨hP, hD⟩ := qad (wr := [(jaT, .inl (cyI, 68, .inl jb2))]) (w1 := (qa0h a0 x1 jaQ jaD ja7 jby jbe jaM jaY jap jaK jal jam jax jao ja6 jaV ja8 jae jag jaf ja0 jaC jaP jaw jaI jaZ jaG jaS jan jaU jaE jar jaL jah jaB jaa jaz jaH jab jaT z0_s jaq jai jaO jaA jat jau jav jaj jas jaJ jak jad jay jac jaQ cyI f2)) (wn := (q4n a0 x1 jaQ jaD ja7 jby jbe jaM jaY jap jaK jal jam jax jao ja6 jaV ja8 jae jag jaf ja0 jaC jaP jaw jaI jaZ jaG jaS jan jaU jaE jar jaL jah jaB jaa jaz jaH jab jaT z0_s jaq jai jaO jaA jat jau jav jaj jas jaJ jak jad jay jac jaQ cyI f2 jaT cyI jb2)) hP hD [0, 1] [2] [1, 2, 0] hCc rfl (by decide +kernel) (by decide +kernel) (by decide +kernel) rfl hk1 hFc hP1 hD1
  generalize H1 = H at hP hS ⊢
  refine lv_if_eq (tgt := 40) hx hb (qaa qmK 7 rfl) (by decide) (fun c4 => ?_) (fun c4 => ?_)
  · have hw := hw.1 c4
    refine lv_iconst (v := 0) hx hb (qaa qoc 8 rfl) (by decide) ?_
    exact ((W.iret (v := 0) hx hb hr (fun t ht hW => ⟨⟨0, (x1, f2), rfl, hw, by rw [ht]; exact hP, va_K.moved hW.alike hK, hD⟩, hS.F ht⟩) hS.2.2 (qaa qoc 9 rfl)))
  · have hw := hw.2 c4
    refine lv_aload_n hx hb (qaa qmK 8 rfl) rfl (lv_at hl 0 rfl) ?_
    refine lv_iload_n hx hb (qaa qmK 9 rfl) rfl (lv_at hl 2 rfl) ?_
    refine lv_iconst (v := 1) hx hb (qaa qmK 10 rfl) (by decide) ?_
    obtain ⟨hCc, hPc, hDc, hFc⟩ := qac (ws' := (qa0h a0 x1 jaQ jaD ja7 jby jbe jaM jaY jap jaK jal jam jax jao ja6 jaV ja8 jae jag jaf ja0 jaC jaP jaw jaI jaZ jaG jaS jan jaU jaE jar jaL jah jaB jaa jaz jaH jab jaT z0_s jaq jai jaO jaA jat jau jav jaj jas jaJ jak jad jay jac jaQ cyI f2)) hP hD hS hA [0, 1] (by decide +kernel) rfl
    refine va_calli (va_runV (As := [.int p2, .int 1]) (rest := []) ⟨hx, hb, hml, hown, hts⟩ (qtR l dC dI cyB cyI cyJ cyP a0 jaQ H.size (jaD) (ja7) (jby) (jbe) (jaM) (jaY) (jap) (jaK) (jal) (jam) (jax) (jao) (ja6) (jaV) (ja8) (jae) (jag) (jaf) (ja0) (jaP) (jaw) (jaI) (jaZ) (jaG) (jaS) (jan) (jaU) (jaE) (jar) (jaL) (jah) (jaB) (jaa) (jaz) (jaH) (jab) (.ref jaT) (z0_s) (jaq) (jai) (jaO) (jaA) (jat) (jau) (jav) (jaj) (jas) (jaJ) (jak) (jad) (jay) (jac) jaC x1 f2 p2 1 hw) (cwV 2 hts gX11_debt_X11_isHare rfl rfl rfl (by decide +kernel) ⟨nbq rfl, nbq rfl⟩) ⟨qab, va_recv (q := (RX11, TX11, 55)) hK hPc (ci := 11) (q0 := 0) rfl rfl, qae hPc hK hDc hNw⟩ rfl rfl hl.1 rfl (lv_room (nbq rfl)) (qaa qmK 11 rfl) ⟨nbq rfl, nbq rfl⟩) hS (fun q _ h => hFc q h) hFc (fun r7 u t H1 locs ht hvm hw hB hz1 hk1 hS => ?_)
    obtain ⟨x5, f6⟩ := u
    obtain ⟨hP1, hK1, hD1⟩ := hB
    rw [ht] at hP1
    obtain ⟨hP, hD⟩ := qad (wr := [(jaT, .inl (cyI, 68, .inl jb2))]) (w1 := (qa0h a0 x5 jaQ jaD ja7 jby jbe jaM jaY jap jaK jal jam jax jao ja6 jaV ja8 jae jag jaf ja0 jaC jaP jaw jaI jaZ jaG jaS jan jaU jaE jar jaL jah jaB jaa jaz jaH jab jaT z0_s jaq jai jaO jaA jat jau jav jaj jas jaJ jak jad jay jac jaQ cyI f6)) (wn := (q4n a0 x5 jaQ jaD ja7 jby jbe jaM jaY jap jaK jal jam jax jao ja6 jaV ja8 jae jag jaf ja0 jaC jaP jaw jaI jaZ jaG jaS jan jaU jaE jar jaL jah jaB jaa jaz jaH jab jaT z0_s jaq jai jaO jaA jat jau jav jaj jas jaJ jak jad jay jac jaQ cyI f6 jaT cyI jb2)) hP hD [0, 1] [2] [1, 2, 0] hCc rfl (by decide +kernel) (by decide +kernel) (by decide +kernel) rfl hk1 hFc hP1 hD1
    generalize H1 = H at hP hS ⊢
    refine lv_if_eq (tgt := 40) hx hb (qaa qmK 12 rfl) (by decide) (fun c8 => ?_) (fun c8 => ?_)
    · have hw := hw.1 c8
      refine lv_iconst (v := 0) hx hb (qaa qoc 8 rfl) (by decide) ?_
      exact ((W.iret (v := 0) hx hb hr (fun t ht hW => ⟨⟨0, (x5, f6), rfl, hw, by rw [ht]; exact hP, va_K.moved hW.alike hK, hD⟩, hS.F ht⟩) hS.2.2 (qaa qoc 9 rfl)))
    · have hw := hw.2 c8
      refine lv_aload_n hx hb (qaa qmK 13 rfl) rfl (lv_at hl 0 rfl) ?_
      refine va_get (D := (dC, dI)) (ci := 11) (v := .ref jaT) (C := RX11) (T := TX11) (N := 55) hx hb hts q3M hown hK hP 0 rfl rfl 39 (by decide) (hts _ qaC2) (fun _ h9 => h9) rfl (qaa qmK 14 rfl) ?_
      refine lv_bipush (v := 30) hx hb (qaa qmK 15 rfl) (by decide) ?_
      refine lv_bipush (v := 6) hx hb (qaa qoc 0 rfl) (by decide) ?_
      refine lv_iload_n hx hb (qaa qoc 1 rfl) rfl (lv_at hl 1 rfl) ?_
      refine lv_imul hx hb (qaa qoc 2 rfl) ?_
      refine lv_iadd hx hb (qaa qoc 3 rfl) ?_
      refine lv_topi (fun x9 ex9 => ?_)
      have hw := hw x9 ex9
      refine lv_iload_n hx hb (qaa qoc 4 rfl) rfl (lv_at hl 2 rfl) ?_
      refine lv_iadd hx hb (qaa qoc 5 rfl) ?_
      refine lv_topi (fun x10 ex10 => ?_)
      have hw := hw x10 ex10
      obtain ⟨hi9, hw⟩ := hw
      refine va_iald hx hb hK hP 2 1 rfl rfl hi9 (qaa qoc 6 rfl) ?_
      refine lv_topi (fun x11 ex11 => ?_)
      have hw := hw x11 ex11
      refine lv_goto (tgt := 41) hx hb (qaa qoc 7 rfl) (by decide) ?_
      exact ((W.iret (v := x11) hx hb hr (fun t ht hW => ⟨⟨x11, (x5, f6), rfl, hw, by rw [ht]; exact hP, va_K.moved hW.alike hK, hD⟩, hS.F ht⟩) hS.2.2 (qaa qoc 9 rfl)))
set_option maxHeartbeats 4000000 in
set_option maxRecDepth 100000 in
theorem q7q (l : Launch) (dC : Nat → ClassId) (dI : Nat → Nat → Nat) (cyB cyI cyJ cyP : ClassId) (sz : Nat) (p0 : Int32) {Q : Int32 → Prop} (hw : qK0 p0 Q) : Met l yX11_isSmall wsX11_isSmall ({ frames := 0, cells := 0, slots := 0, locals := 0 }) (va_Pc [.int p0] (cPc (dC, dI) (kT cyB cyI cyJ cyP) [] sz)) (va_Qi (fun (r : Int32) (_ : Unit) => Q r ) (cB (dC, dI) (kT cyB cyI cyJ cyP) (va_A [] sz) (fun u : Unit => ([] : va_W))) (va_A [] sz)) 0 0 (va_A [] sz) := by
  refine Met.ofW (cc := cX11_isSmall) (maxL := 1) (ret := (some .boolean)) (by decide) rfl ?_
  intro p e s m args below meth c s₁ B hml hv
  obtain ⟨rfl, hsz, hP, hK, hD0, hNw⟩ := hv
  have hx := B.exec
  have hb := B.bytes
  have hr := B.returns
  have hts := atoms_spec (ws := wsX11_isSmall) B.pre
  have hown : s.vm.findClass RX11 = some m.cls := findClass_of_methodNamed B.named
  have hlocks := B.notSynchronized
  subst hsz
  have hD := hD0.self (sz := s.heap.size)
  generalize hAe : va_A [] s.heap.size = A at hD ⊢
  have hA : ∀ q : Nat, s.heap.size ≤ q → A q := fun q h => by rw [← hAe]; exact Or.inr h
  have hS : va_S A s.heap s.heap [] := va_S.rf
  have hP : va_P (dC, dI) vwCl [] s.heap := hP
  have hl := lv_entry ([.int p0]) (n := 1) (nbq rfl)
  rw [lg_entry_eq]
  generalize (lg_sl ([.int p0]) ++ List.replicate (1 - (lg_sl ([.int p0])).length) Slot.unset).toArray = ls at hl ⊢
  have hl : lv_has ls 1 [(0, .int p0)] := hl
  have C0 : cfx p s m _ meth c cX11_isSmall (some .boolean) wsX11_isSmall RX11 1 A (dC, dI) (kT cyB cyI cyJ cyP) := ⟨hx, hb, hr, hts, hown, hlocks, hml, hA, hK, hNw⟩
  clear hAe
  obtain ⟨H, hH⟩ : ∃ H, H = s.heap := ⟨_, rfl⟩
  rw [← hH] at hP ⊢
  have hS : va_S A s.heap H [] := by rw [hH]; exact va_S.rf
  have hS := hS
  refine lv_iload_n hx hb (qaa qkH 0 rfl) rfl (lv_at hl 0 rfl) ?_
  refine lv_bipush (v := 97) hx hb (qaa qkH 1 rfl) (by decide) ?_
  refine lv_icmp_lt (tgt := 16) hx hb (qaa qkH 2 rfl) (by decide) (fun c1 => ?_) (fun c1 => ?_)
  · have hw := hw.1 c1
    refine lv_iconst (v := 0) hx hb (qaa qkH 8 rfl) (by decide) ?_
    exact ((W.zret (v := 0) hx hb hr rfl (fun t ht hW => ⟨⟨0, (), rfl, hw, by rw [ht]; exact hP, va_K.moved hW.alike hK, hD⟩, hS.F ht⟩) hS.2.2 (qaa qkH 9 rfl)))
  · have hw := hw.2 c1
    refine lv_iload_n hx hb (qaa qkH 3 rfl) rfl (lv_at hl 0 rfl) ?_
    refine lv_bipush (v := 122) hx hb (qaa qkH 4 rfl) (by decide) ?_
    refine lv_icmp_gt (tgt := 16) hx hb (qaa qkH 5 rfl) (by decide) (fun c2 => ?_) (fun c2 => ?_)
    · have hw := hw.1 c2
      refine lv_iconst (v := 0) hx hb (qaa qkH 8 rfl) (by decide) ?_
      exact ((W.zret (v := 0) hx hb hr rfl (fun t ht hW => ⟨⟨0, (), rfl, hw, by rw [ht]; exact hP, va_K.moved hW.alike hK, hD⟩, hS.F ht⟩) hS.2.2 (qaa qkH 9 rfl)))
    · have hw := hw.2 c2
      refine lv_iconst (v := 1) hx hb (qaa qkH 6 rfl) (by decide) ?_
      refine lv_goto (tgt := 17) hx hb (qaa qkH 7 rfl) (by decide) ?_
      exact ((W.zret (v := 1) hx hb hr rfl (fun t ht hW => ⟨⟨1, (), rfl, hw, by rw [ht]; exact hP, va_K.moved hW.alike hK, hD⟩, hS.F ht⟩) hS.2.2 (qaa qkH 9 rfl)))
theorem qH8 : ∀ w ∈ u_ws RX11 TX11 55, w ∈ wsX11_word := uiM qGv qfa (by decide +kernel)
theorem qao2 : (.fieldLink RX11 120 "MarchHaresModel" "at" "I" : Cond) ∈ wsX11_word := qGv 1103 (by decide +kernel)
theorem qaqM : (.fieldLink RX11 123 "MarchHaresModel" "size" "I" : Cond) ∈ wsX11_word := qGv 1153 (by decide +kernel)
theorem q1Z : (.fieldLink RX11 20 "MarchHaresModel" "tape" "[I" : Cond) ∈ wsX11_word := qGv 400 (by decide +kernel)
set_option maxHeartbeats 4000000 in
set_option maxRecDepth 100000 in
theorem q7M {p : Program} {l : Launch} {e : Env} {s : State} {m : MethodId} {args : Array Value} {below : List Frame} {meth : Method} {c : Code} {A : Nat → Prop} (dC : Nat → ClassId) (dI : Nat → Nat → Nat) (cyB cyI cyJ cyP : ClassId) (a0 jaW : Nat) (jaX jaF jaD jbe jaM jaY jap jal jam jax jao ja6 jaV ja8 jae jag jaf ja0 ja4 jaP jaw jaI jaZ jaG jaS jan jaU jaE jar jaL jah jaB jaa jaz jaH jab ja2 z0_s jaq jai jaO jaA jat jau jav jaj jas jaJ jak jad jay jac : Value) (jbx : Int32) (jbC : NI) (Q : Int32 → Int32 → Prop) (K14 : Int32 → Int32 → Int32 → Int32 → Prop) (hK14 : ∀ (H : Heap) (locs : List Loc) (ls : Array Slot) (jcP l1 l2 l3 : Int32), va_P (dC, dI) vwCl (qnU a0 jaX jaF jaD jbx jcP jbe jaM jaY jap jaW jal jam jax jao ja6 jaV ja8 jae jag jaf ja0 ja4 jaP jaw jaI jaZ jaG jaS jan jaU jaE jar jaL jah jaB jaa jaz jaH jab ja2 z0_s jaq jai jaO jaA jat jau jav jaj jas jaJ jak jad jay jac jaW cyI jbC) H → va_D A (qnU a0 jaX jaF jaD jbx jcP jbe jaM jaY jap jaW jal jam jax jao ja6 jaV ja8 jae jag jaf ja0 ja4 jaP jaw jaI jaZ jaG jaS jan jaU jaE jar jaL jah jaB jaa jaz jaH jab ja2 z0_s jaq jai jaO jaA jat jau jav jaj jas jaJ jak jad jay jac jaW cyI jbC) → va_S A s.heap H locs → lv_has ls 4 [(0, .ref a0), (1, .int l1), (2, .int l2), (3, .int l3)] → K14 jcP l1 l2 l3 → W p l e (headSpec wsX11_word ({ frames := 1, cells := 0, slots := 0, locals := 20 })).room s m args below meth c H locs 0 0 (MQ below (va_Qi (fun (r u : Int32) => Q r u) (cB (dC, dI) (kT cyB cyI cyJ cyP) A (fun u : Int32 => ((qnU a0 jaX jaF jaD jbx u jbe jaM jaY jap jaW jal jam jax jao ja6 jaV ja8 jae jag jaf ja0 ja4 jaP jaw jaI jaZ jaG jaS jan jaU jaE jar jaL jah jaB jaa jaz jaH jab ja2 z0_s jaq jai jaO jaA jat jau jav jaj jas jaJ jak jad jay jac jaW cyI jbC) : va_W))) A) args s 0 0 A) (F0 m 14 ls [])) (C0 : cfx p s m args meth c cX11_word (some .int) wsX11_word RX11 4 A (dC, dI) (kT cyB cyI cyJ cyP)) : ∀ (H : Heap) (locs : List Loc) (ls : Array Slot) (jcP l2 l3 s0 : Int32), va_P (dC, dI) vwCl (qnU a0 jaX jaF jaD jbx jcP jbe jaM jaY jap jaW jal jam jax jao ja6 jaV ja8 jae jag jaf ja0 ja4 jaP jaw jaI jaZ jaG jaS jan jaU jaE jar jaL jah jaB jaa jaz jaH jab ja2 z0_s jaq jai jaO jaA jat jau jav jaj jas jaJ jak jad jay jac jaW cyI jbC) H → va_D A (qnU a0 jaX jaF jaD jbx jcP jbe jaM jaY jap jaW jal jam jax jao ja6 jaV ja8 jae jag jaf ja0 ja4 jaP jaw jaI jaZ jaG jaS jan jaU jaE jar jaL jah jaB jaa jaz jaH jab ja2 z0_s jaq jai jaO jaA jat jau jav jaj jas jaJ jak jad jay jac jaW cyI jbC) → va_S A s.heap H locs → lv_has ls 4 [(0, .ref a0), (2, .int l2), (3, .int l3)] → qUC jbx jbC Q K14 jcP l2 l3 s0 → W p l e (headSpec wsX11_word ({ frames := 1, cells := 0, slots := 0, locals := 20 })).room s m args below meth c H locs 0 0 (MQ below (va_Qi (fun (r u : Int32) => Q r u) (cB (dC, dI) (kT cyB cyI cyJ cyP) A (fun u : Int32 => ((qnU a0 jaX jaF jaD jbx u jbe jaM jaY jap jaW jal jam jax jao ja6 jaV ja8 jae jag jaf ja0 ja4 jaP jaw jaI jaZ jaG jaS jan jaU jaE jar jaL jah jaB jaa jaz jaH jab ja2 z0_s jaq jai jaO jaA jat jau jav jaj jas jaJ jak jad jay jac jaW cyI jbC) : va_W))) A) args s 0 0 A) (F0 m 57 ls [.int s0]) := by
  obtain ⟨hx, hb, hr, hts, hown, hlocks, hml, hA, hK, hNw⟩ := id C0
  intro H locs ls jcP l2 l3 s0 hP hD hS hl hw
  refine lv_istore_n (lv' := [(1, .int s0), (0, .ref a0), (2, .int l2), (3, .int l3)]) hx hb (qaa qk7 3 rfl) rfl hl (by decide) rfl (fun ls hl => ?_)
  obtain ⟨x10, ex10⟩ : ∃ y : Int32, y = l2 + 1 := ⟨_, rfl⟩
  have hw := hw x10 ex10
  refine lv_iinc (v := x10) (lv' := [(2, .int x10), (1, .int s0), (0, .ref a0), (3, .int l3)]) hx hb (qaa qk7 4 rfl) hl (k := 2) rfl (by rw [ex10]; rfl) (by decide) rfl (fun ls hl => ?_)
  obtain ⟨x11, ex11⟩ : ∃ y : Int32, y = l3 + 1 := ⟨_, rfl⟩
  have hw := hw x11 ex11
  refine lv_iinc (v := x11) (lv' := [(3, .int x11), (2, .int x10), (1, .int s0), (0, .ref a0)]) hx hb (qaa qk7 5 rfl) hl (k := 3) rfl (by rw [ex11]; rfl) (by decide) rfl (fun ls hl => ?_)
  refine lv_goto (tgt := 14) hx hb (qaa qk7 6 rfl) (by decide) ?_
  exact hK14 _ _ _ jcP s0 x10 x11 hP hD hS (lv_sub hl [3, 2, 1, 0] rfl) hw
set_option maxHeartbeats 4000000 in
set_option maxRecDepth 100000 in
theorem q7i {p : Program} {l : Launch} {e : Env} {s : State} {m : MethodId} {args : Array Value} {below : List Frame} {meth : Method} {c : Code} {A : Nat → Prop} (dC : Nat → ClassId) (dI : Nat → Nat → Nat) (cyB cyI cyJ cyP : ClassId) (a0 jaW : Nat) (jaX jaF jaD jbe jaM jaY jap jal jam jax jao ja6 jaV ja8 jae jag jaf ja0 ja4 jaP jaw jaI jaZ jaG jaS jan jaU jaE jar jaL jah jaB jaa jaz jaH jab ja2 z0_s jaq jai jaO jaA jat jau jav jaj jas jaJ jak jad jay jac : Value) (jbx : Int32) (jbC : NI) (Q : Int32 → Int32 → Prop) (C0 : cfx p s m args meth c cX11_word (some .int) wsX11_word RX11 4 A (dC, dI) (kT cyB cyI cyJ cyP)) : ∀ (H : Heap) (locs : List Loc) (ls : Array Slot) (jcP l1 l2 : Int32), va_P (dC, dI) vwCl (qnU a0 jaX jaF jaD jbx jcP jbe jaM jaY jap jaW jal jam jax jao ja6 jaV ja8 jae jag jaf ja0 ja4 jaP jaw jaI jaZ jaG jaS jan jaU jaE jar jaL jah jaB jaa jaz jaH jab ja2 z0_s jaq jai jaO jaA jat jau jav jaj jas jaJ jak jad jay jac jaW cyI jbC) H → va_D A (qnU a0 jaX jaF jaD jbx jcP jbe jaM jaY jap jaW jal jam jax jao ja6 jaV ja8 jae jag jaf ja0 ja4 jaP jaw jaI jaZ jaG jaS jan jaU jaE jar jaL jah jaB jaa jaz jaH jab ja2 z0_s jaq jai jaO jaA jat jau jav jaj jas jaJ jak jad jay jac jaW cyI jbC) → va_S A s.heap H locs → lv_has ls 4 [(1, .int l1), (2, .int l2)] → qKG jbx jbC Q jcP l1 l2 → W p l e (headSpec wsX11_word ({ frames := 1, cells := 0, slots := 0, locals := 20 })).room s m args below meth c H locs 0 0 (MQ below (va_Qi (fun (r u : Int32) => Q r u) (cB (dC, dI) (kT cyB cyI cyJ cyP) A (fun u : Int32 => ((qnU a0 jaX jaF jaD jbx u jbe jaM jaY jap jaW jal jam jax jao ja6 jaV ja8 jae jag jaf ja0 ja4 jaP jaw jaI jaZ jaG jaS jan jaU jaE jar jaL jah jaB jaa jaz jaH jab ja2 z0_s jaq jai jaO jaA jat jau jav jaj jas jaJ jak jad jay jac jaW cyI jbC) : va_W))) A) args s 0 0 A) (F0 m 67 ls []) := by
  obtain ⟨hx, hb, hr, hts, hown, hlocks, hml, hA, hK, hNw⟩ := id C0
  intro H locs ls jcP l1 l2 hP hD hS hl hw
  refine lv_iload_n hx hb (qaa qk7 7 rfl) rfl (lv_at hl 1 rfl) ?_
  refine lv_bipush (v := 6) hx hb (qaa qk7 8 rfl) (by decide) ?_
  refine lv_icmp_le (tgt := 77) hx hb (qaa qk7 9 rfl) (by decide) (fun c9 => ?_) (fun c9 => ?_)
  · have hw := hw.1 c9
    refine lv_iload_n hx hb (qaa qk7 12 rfl) rfl (lv_at hl 0 rfl) ?_
    exact ((W.iret (v := l1) hx hb hr (fun t ht hW => ⟨⟨l1, (jcP), rfl, hw, by rw [ht]; exact hP, va_K.moved hW.alike hK, hD⟩, hS.F ht⟩) hS.2.2 (qaa qk7 13 rfl)))
  · have hw := hw.2 c9
    refine lv_iconst (v := 0) hx hb (qaa qk7 10 rfl) (by decide) ?_
    refine lv_goto (tgt := 78) hx hb (qaa qk7 11 rfl) (by decide) ?_
    exact ((W.iret (v := 0) hx hb hr (fun t ht hW => ⟨⟨0, (jcP), rfl, hw, by rw [ht]; exact hP, va_K.moved hW.alike hK, hD⟩, hS.F ht⟩) hS.2.2 (qaa qk7 13 rfl)))
set_option maxHeartbeats 4000000 in
set_option maxRecDepth 100000 in
theorem qaG6 {p : Program} {l : Launch} {e : Env} {s : State} {m : MethodId} {args : Array Value} {below : List Frame} {meth : Method} {c : Code} {A : Nat → Prop} (dC : Nat → ClassId) (dI : Nat → Nat → Nat) (cyB cyI cyJ cyP : ClassId) (a0 jaW : Nat) (jaX jaF jaD jbe jaM jaY jap jal jam jax jao ja6 jaV ja8 jae jag jaf ja0 ja4 jaP jaw jaI jaZ jaG jaS jan jaU jaE jar jaL jah jaB jaa jaz jaH jab ja2 z0_s jaq jai jaO jaA jat jau jav jaj jas jaJ jak jad jay jac : Value) (jbx : Int32) (jbC : NI) (Q : Int32 → Int32 → Prop) (C0 : cfx p s m args meth c cX11_word (some .int) wsX11_word RX11 4 A (dC, dI) (kT cyB cyI cyJ cyP)) : ∀ (n : Nat) (H : Heap) (locs : List Loc) (ls : Array Slot) (jcP l1 l2 l3 : Int32), va_P (dC, dI) vwCl (qnU a0 jaX jaF jaD jbx jcP jbe jaM jaY jap jaW jal jam jax jao ja6 jaV ja8 jae jag jaf ja0 ja4 jaP jaw jaI jaZ jaG jaS jan jaU jaE jar jaL jah jaB jaa jaz jaH jab ja2 z0_s jaq jai jaO jaA jat jau jav jaj jas jaJ jak jad jay jac jaW cyI jbC) H → va_D A (qnU a0 jaX jaF jaD jbx jcP jbe jaM jaY jap jaW jal jam jax jao ja6 jaV ja8 jae jag jaf ja0 ja4 jaP jaw jaI jaZ jaG jaS jan jaU jaE jar jaL jah jaB jaa jaz jaH jab ja2 z0_s jaq jai jaO jaA jat jau jav jaj jas jaJ jak jad jay jac jaW cyI jbC) → va_S A s.heap H locs → lv_has ls 4 [(0, .ref a0), (1, .int l1), (2, .int l2), (3, .int l3)] → qxF jbx jbC Q n jcP l1 l2 l3 → W p l e (headSpec wsX11_word ({ frames := 1, cells := 0, slots := 0, locals := 20 })).room s m args below meth c H locs 0 0 (MQ below (va_Qi (fun (r u : Int32) => Q r u) (cB (dC, dI) (kT cyB cyI cyJ cyP) A (fun u : Int32 => ((qnU a0 jaX jaF jaD jbx u jbe jaM jaY jap jaW jal jam jax jao ja6 jaV ja8 jae jag jaf ja0 ja4 jaP jaw jaI jaZ jaG jaS jan jaU jaE jar jaL jah jaB jaa jaz jaH jab ja2 z0_s jaq jai jaO jaA jat jau jav jaj jas jaJ jak jad jay jac jaW cyI jbC) : va_W))) A) args s 0 0 A) (F0 m 14 ls []) := by
  obtain ⟨hx, hb, hr, hts, hown, hlocks, hml, hA, hK, hNw⟩ := id C0
  intro n
  induction n with
  | zero => intro H locs ls jcP l1 l2 l3 hP hD hS hl hw; exact False.elim hw
  | succ n ih =>
    intro H locs ls jcP l1 l2 l3 hP hD hS hl hw
    refine lv_iload_n hx hb (qaa qlu 10 rfl) rfl (lv_at hl 3 rfl) ?_
    refine lv_aload_n hx hb (qaa qlu 11 rfl) rfl (lv_at hl 0 rfl) ?_
    refine va_get (D := (dC, dI)) (ci := 11) (v := .int jbx) (C := RX11) (T := TX11) (N := 55) hx hb hts qH8 hown hK hP 0 rfl rfl 3 (by decide) (hts _ qaqM) (fun _ h9 => h9) rfl (qaa qlu 12 rfl) ?_
    refine lv_icmp_ge (tgt := 67) hx hb (qaa qlu 13 rfl) (by decide) (fun c3 => ?_) (fun c3 => ?_)
    · have hw := hw.1 c3
      exact q7i dC dI cyB cyI cyJ cyP a0 jaW jaX jaF jaD jbe jaM jaY jap jal jam jax jao ja6 jaV ja8 jae jag jaf ja0 ja4 jaP jaw jaI jaZ jaG jaS jan jaU jaE jar jaL jah jaB jaa jaz jaH jab ja2 z0_s jaq jai jaO jaA jat jau jav jaj jas jaJ jak jad jay jac jbx jbC Q C0 _ _ _ jcP l1 l2 hP hD hS (lv_sub hl [1, 2] rfl) hw
    · have hw := hw.2 c3
      refine lv_aload_n hx hb (qaa qlu 14 rfl) rfl (lv_at hl 0 rfl) ?_
      refine va_get (D := (dC, dI)) (ci := 11) (v := .ref jaW) (C := RX11) (T := TX11) (N := 55) hx hb hts qH8 hown hK hP 0 rfl rfl 9 (by decide) (hts _ q1Z) (fun _ h9 => h9) rfl (qaa qlu 15 rfl) ?_
      refine lv_iload_n hx hb (qaa qkv 0 rfl) rfl (lv_at hl 3 rfl) ?_
      obtain ⟨hi9, hw⟩ := hw
      refine va_iald hx hb hK hP 1 1 rfl rfl hi9 (qaa qkv 1 rfl) ?_
      refine lv_topi (fun x4 ex4 => ?_)
      have hw := hw x4 ex4
      obtain ⟨hCc, hPc, hDc, hFc⟩ := qac (ws' := []) hP hD hS hA [] (by decide +kernel) rfl
      refine va_calli (va_runS (As := [.int x4]) (rest := []) ⟨hx, hb, hml, hown, hts⟩ (q7q l dC dI cyB cyI cyJ cyP H.size x4 hw) (va_cwS 1 hts gX11_word_X11_isSmall rfl rfl rfl (by decide +kernel) ⟨nbq rfl, nbq rfl⟩) ⟨qab, qae hPc hK hDc hNw⟩ rfl rfl hl.1 rfl (lv_room (nbq rfl)) (qaa qkv 2 rfl) ⟨nbq rfl, nbq rfl⟩) hS (fun q _ h => hFc q h) hFc (fun r5 u t H1 locs ht hvm hw hB hz1 hk1 hS => ?_)
      obtain ⟨hP1, hK1, hD1⟩ := hB
      rw [ht] at hP1
      obtain ⟨hP, hD⟩ := qah (wr := (qnU a0 jaX jaF jaD jbx jcP jbe jaM jaY jap jaW jal jam jax jao ja6 jaV ja8 jae jag jaf ja0 ja4 jaP jaw jaI jaZ jaG jaS jan jaU jaE jar jaL jah jaB jaa jaz jaH jab ja2 z0_s jaq jai jaO jaA jat jau jav jaj jas jaJ jak jad jay jac jaW cyI jbC)) (w1 := []) (wn := (qnU a0 jaX jaF jaD jbx jcP jbe jaM jaY jap jaW jal jam jax jao ja6 jaV ja8 jae jag jaf ja0 ja4 jaP jaw jaI jaZ jaG jaS jan jaU jaE jar jaL jah jaB jaa jaz jaH jab ja2 z0_s jaq jai jaO jaA jat jau jav jaj jas jaJ jak jad jay jac jaW cyI jbC)) hP hD [] [0, 1] hCc rfl (by decide +kernel) (by decide +kernel) rfl hk1 hFc hP1 hD1
      generalize H1 = H at hP hS ⊢
      refine lv_if_eq (tgt := 67) hx hb (qaa qkv 3 rfl) (by decide) (fun c6 => ?_) (fun c6 => ?_)
      · have hw := hw.1 c6
        exact q7i dC dI cyB cyI cyJ cyP a0 jaW jaX jaF jaD jbe jaM jaY jap jal jam jax jao ja6 jaV ja8 jae jag jaf ja0 ja4 jaP jaw jaI jaZ jaG jaS jan jaU jaE jar jaL jah jaB jaa jaz jaH jab ja2 z0_s jaq jai jaO jaA jat jau jav jaj jas jaJ jak jad jay jac jbx jbC Q C0 _ _ _ jcP l1 l2 hP hD hS (lv_sub hl [1, 2] rfl) hw
      · have hw := hw.2 c6
        refine lv_iload_n hx hb (qaa qkv 4 rfl) rfl (lv_at hl 2 rfl) ?_
        refine lv_bipush (v := 6) hx hb (qaa qkv 5 rfl) (by decide) ?_
        refine lv_icmp_ge (tgt := 56) hx hb (qaa qkv 6 rfl) (by decide) (fun c7 => ?_) (fun c7 => ?_)
        · have hw := hw.1 c7
          refine lv_iconst (v := 0) hx hb (qaa qk7 2 rfl) (by decide) ?_
          exact q7M dC dI cyB cyI cyJ cyP a0 jaW jaX jaF jaD jbe jaM jaY jap jal jam jax jao ja6 jaV ja8 jae jag jaf ja0 ja4 jaP jaw jaI jaZ jaG jaS jan jaU jaE jar jaL jah jaB jaa jaz jaH jab ja2 z0_s jaq jai jaO jaA jat jau jav jaj jas jaJ jak jad jay jac jbx jbC Q (qxF jbx jbC Q n) ih C0 _ _ _ jcP l2 l3 0 hP hD hS (lv_sub hl [0, 2, 3] rfl) hw
        · have hw := hw.2 c7
          refine lv_iload_n hx hb (qaa qkv 7 rfl) rfl (lv_at hl 1 rfl) ?_
          refine lv_iconst (v := 5) hx hb (qaa qkv 8 rfl) (by decide) ?_
          refine lv_ishl hx hb (qaa qkv 9 rfl) ?_
          refine lv_aload_n hx hb (qaa qkv 10 rfl) rfl (lv_at hl 0 rfl) ?_
          refine va_get (D := (dC, dI)) (ci := 11) (v := .ref jaW) (C := RX11) (T := TX11) (N := 55) hx hb hts qH8 hown hK hP 0 rfl rfl 9 (by decide) (hts _ q1Z) (fun _ h9 => h9) rfl (qaa qkv 11 rfl) ?_
          refine lv_iload_n hx hb (qaa qkv 12 rfl) rfl (lv_at hl 3 rfl) ?_
          obtain ⟨hi9, hw⟩ := hw
          refine va_iald hx hb hK hP 1 1 rfl rfl hi9 (qaa qkv 13 rfl) ?_
          refine lv_topi (fun x8 ex8 => ?_)
          have hw := hw x8 ex8
          refine lv_bipush (v := 96) hx hb (qaa qkv 14 rfl) (by decide) ?_
          refine lv_isub hx hb (qaa qkv 15 rfl) ?_
          refine lv_ior hx hb (qaa qk7 0 rfl) ?_
          refine lv_goto (tgt := 57) hx hb (qaa qk7 1 rfl) (by decide) ?_
          exact q7M dC dI cyB cyI cyJ cyP a0 jaW jaX jaF jaD jbe jaM jaY jap jal jam jax jao ja6 jaV ja8 jae jag jaf ja0 ja4 jaP jaw jaI jaZ jaG jaS jan jaU jaE jar jaL jah jaB jaa jaz jaH jab ja2 z0_s jaq jai jaO jaA jat jau jav jaj jas jaJ jak jad jay jac jbx jbC Q (qxF jbx jbC Q n) ih C0 _ _ _ jcP l2 l3 ((l1 <<< (5 &&& 31)) ||| (x8 - 96)) hP hD hS (lv_sub hl [0, 2, 3] rfl) hw
set_option maxHeartbeats 4000000 in
set_option maxRecDepth 100000 in
theorem qB7 (l : Launch) (dC : Nat → ClassId) (dI : Nat → Nat → Nat) (cyB cyI cyJ cyP : ClassId) (a0 jaW sz : Nat) (jaX jaF jaD jbe jaM jaY jap jal jam jax jao ja6 jaV ja8 jae jag jaf ja0 ja4 jaP jaw jaI jaZ jaG jaS jan jaU jaE jar jaL jah jaB jaa jaz jaH jab ja2 z0_s jaq jai jaO jaA jat jau jav jaj jas jaJ jak jad jay jac : Value) (jbx : Int32) (jbC : NI) (jcP : Int32) {Q : Int32 → Int32 → Prop} (hw : quL jbx jbC jcP Q) : Met l yX11_word wsX11_word ({ frames := 1, cells := 0, slots := 0, locals := 20 }) (va_Pc [.ref a0] (cPc (dC, dI) (kT cyB cyI cyJ cyP) (qnU a0 jaX jaF jaD jbx jcP jbe jaM jaY jap jaW jal jam jax jao ja6 jaV ja8 jae jag jaf ja0 ja4 jaP jaw jaI jaZ jaG jaS jan jaU jaE jar jaL jah jaB jaa jaz jaH jab ja2 z0_s jaq jai jaO jaA jat jau jav jaj jas jaJ jak jad jay jac jaW cyI jbC) sz)) (va_Qi (fun (r u : Int32) => Q r u) (cB (dC, dI) (kT cyB cyI cyJ cyP) (va_A (qnU a0 jaX jaF jaD jbx jcP jbe jaM jaY jap jaW jal jam jax jao ja6 jaV ja8 jae jag jaf ja0 ja4 jaP jaw jaI jaZ jaG jaS jan jaU jaE jar jaL jah jaB jaa jaz jaH jab ja2 z0_s jaq jai jaO jaA jat jau jav jaj jas jaJ jak jad jay jac jaW cyI jbC) sz) (fun u : Int32 => ((qnU a0 jaX jaF jaD jbx u jbe jaM jaY jap jaW jal jam jax jao ja6 jaV ja8 jae jag jaf ja0 ja4 jaP jaw jaI jaZ jaG jaS jan jaU jaE jar jaL jah jaB jaa jaz jaH jab ja2 z0_s jaq jai jaO jaA jat jau jav jaj jas jaJ jak jad jay jac jaW cyI jbC) : va_W))) (va_A (qnU a0 jaX jaF jaD jbx jcP jbe jaM jaY jap jaW jal jam jax jao ja6 jaV ja8 jae jag jaf ja0 ja4 jaP jaw jaI jaZ jaG jaS jan jaU jaE jar jaL jah jaB jaa jaz jaH jab ja2 z0_s jaq jai jaO jaA jat jau jav jaj jas jaJ jak jad jay jac jaW cyI jbC) sz)) 0 0 (va_A (qnU a0 jaX jaF jaD jbx jcP jbe jaM jaY jap jaW jal jam jax jao ja6 jaV ja8 jae jag jaf ja0 ja4 jaP jaw jaI jaZ jaG jaS jan jaU jaE jar jaL jah jaB jaa jaz jaH jab ja2 z0_s jaq jai jaO jaA jat jau jav jaj jas jaJ jak jad jay jac jaW cyI jbC) sz) := by
  refine Met.ofW (cc := cX11_word) (maxL := 4) (ret := (some .int)) (by decide) rfl ?_
  intro p e s m args below meth c s₁ B hml hv
  obtain ⟨rfl, hsz, hP, hK, hD0, hNw⟩ := hv
  have hx := B.exec
  have hb := B.bytes
  have hr := B.returns
  have hts := atoms_spec (ws := wsX11_word) B.pre
  have hown : s.vm.findClass RX11 = some m.cls := findClass_of_methodNamed B.named
  have hlocks := B.notSynchronized
  subst hsz
  have hD := hD0.self (sz := s.heap.size)
  generalize hAe : va_A (qnU a0 jaX jaF jaD jbx jcP jbe jaM jaY jap jaW jal jam jax jao ja6 jaV ja8 jae jag jaf ja0 ja4 jaP jaw jaI jaZ jaG jaS jan jaU jaE jar jaL jah jaB jaa jaz jaH jab ja2 z0_s jaq jai jaO jaA jat jau jav jaj jas jaJ jak jad jay jac jaW cyI jbC) s.heap.size = A at hD ⊢
  have hA : ∀ q : Nat, s.heap.size ≤ q → A q := fun q h => by rw [← hAe]; exact Or.inr h
  have hS : va_S A s.heap s.heap [] := va_S.rf
  have hP : va_P (dC, dI) vwCl (qnU a0 jaX jaF jaD jbx jcP jbe jaM jaY jap jaW jal jam jax jao ja6 jaV ja8 jae jag jaf ja0 ja4 jaP jaw jaI jaZ jaG jaS jan jaU jaE jar jaL jah jaB jaa jaz jaH jab ja2 z0_s jaq jai jaO jaA jat jau jav jaj jas jaJ jak jad jay jac jaW cyI jbC) s.heap := hP
  have hl := lv_entry ([.ref a0]) (n := 4) (nbq rfl)
  rw [lg_entry_eq]
  generalize (lg_sl ([.ref a0]) ++ List.replicate (4 - (lg_sl ([.ref a0])).length) Slot.unset).toArray = ls at hl ⊢
  have hl : lv_has ls 4 [(0, .ref a0)] := hl
  have C0 : cfx p s m _ meth c cX11_word (some .int) wsX11_word RX11 4 A (dC, dI) (kT cyB cyI cyJ cyP) := ⟨hx, hb, hr, hts, hown, hlocks, hml, hA, hK, hNw⟩
  clear hAe
  obtain ⟨H, hH⟩ : ∃ H, H = s.heap := ⟨_, rfl⟩
  rw [← hH] at hP ⊢
  have hS : va_S A s.heap H [] := by rw [hH]; exact va_S.rf
  have hS := hS
  refine lv_aload_n hx hb (qaa qlu 0 rfl) rfl (lv_at hl 0 rfl) ?_
  obtain ⟨hCc, hPc, hDc, hFc⟩ := qac (ws' := (qnU a0 jaX jaF jaD jbx jcP jbe jaM jaY jap jaW jal jam jax jao ja6 jaV ja8 jae jag jaf ja0 ja4 jaP jaw jaI jaZ jaG jaS jan jaU jaE jar jaL jah jaB jaa jaz jaH jab ja2 z0_s jaq jai jaO jaA jat jau jav jaj jas jaJ jak jad jay jac jaW cyI jbC)) hP hD hS hA [0, 1] (by decide +kernel) rfl
  refine va_calli (va_runV (As := []) (rest := []) ⟨hx, hb, hml, hown, hts⟩ (qeS l dC dI cyB cyI cyJ cyP a0 jaW H.size (jaX) (jaF) (jaD) (jbe) (jaM) (jaY) (jap) (jal) (jam) (jax) (jao) (ja6) (jaV) (ja8) (jae) (jag) (jaf) (ja0) (ja4) (jaP) (jaw) (jaI) (jaZ) (jaG) (jaS) (jan) (jaU) (jaE) (jar) (jaL) (jah) (jaB) (jaa) (jaz) (jaH) (jab) (ja2) (z0_s) (jaq) (jai) (jaO) (jaA) (jat) (jau) (jav) (jaj) (jas) (jaJ) (jak) (jad) (jay) (jac) jbx jbC jcP hw) (cwV 0 hts gX11_word_X11_here rfl rfl rfl (by decide +kernel) ⟨nbq rfl, nbq rfl⟩) ⟨qab, va_recv (q := (RX11, TX11, 55)) hK hPc (ci := 11) (q0 := 0) rfl rfl, qae hPc hK hDc hNw⟩ rfl rfl hl.1 rfl (lv_room (nbq rfl)) (qaa qlu 1 rfl) ⟨nbq rfl, nbq rfl⟩) hS (fun q _ h => hFc q h) hFc (fun r2 u t H1 locs ht hvm hw hB hz1 hk1 hS => ?_)
  obtain ⟨x1, rfl⟩ : ∃ z, z = u := ⟨_, rfl⟩
  obtain ⟨hP1, hK1, hD1⟩ := hB
  rw [ht] at hP1
  obtain ⟨hP, hD⟩ := qah (wr := []) (w1 := (qnU a0 jaX jaF jaD jbx x1 jbe jaM jaY jap jaW jal jam jax jao ja6 jaV ja8 jae jag jaf ja0 ja4 jaP jaw jaI jaZ jaG jaS jan jaU jaE jar jaL jah jaB jaa jaz jaH jab ja2 z0_s jaq jai jaO jaA jat jau jav jaj jas jaJ jak jad jay jac jaW cyI jbC)) (wn := (qnU a0 jaX jaF jaD jbx x1 jbe jaM jaY jap jaW jal jam jax jao ja6 jaV ja8 jae jag jaf ja0 ja4 jaP jaw jaI jaZ jaG jaS jan jaU jaE jar jaL jah jaB jaa jaz jaH jab ja2 z0_s jaq jai jaO jaA jat jau jav jaj jas jaJ jak jad jay jac jaW cyI jbC)) hP hD [0, 1] [] hCc rfl (by decide +kernel) (by decide +kernel) rfl hk1 hFc hP1 hD1
  generalize H1 = H at hP hS ⊢
  refine lv_pop hx hb (qaa qlu 2 rfl) rfl ?_
  refine lv_iconst (v := 0) hx hb (qaa qlu 3 rfl) (by decide) ?_
  refine lv_istore_n (lv' := [(1, .int 0), (0, .ref a0)]) hx hb (qaa qlu 4 rfl) rfl hl (by decide) rfl (fun ls hl => ?_)
  refine lv_iconst (v := 0) hx hb (qaa qlu 5 rfl) (by decide) ?_
  refine lv_istore_n (lv' := [(2, .int 0), (1, .int 0), (0, .ref a0)]) hx hb (qaa qlu 6 rfl) rfl hl (by decide) rfl (fun ls hl => ?_)
  refine lv_aload_n hx hb (qaa qlu 7 rfl) rfl (lv_at hl 2 rfl) ?_
  refine va_get (D := (dC, dI)) (ci := 11) (v := .int x1) (C := RX11) (T := TX11) (N := 55) hx hb hts qH8 hown hK hP 0 rfl rfl 4 (by decide) (hts _ qao2) (fun _ h9 => h9) rfl (qaa qlu 8 rfl) ?_
  refine lv_istore_n (lv' := [(3, .int x1), (2, .int 0), (1, .int 0), (0, .ref a0)]) hx hb (qaa qlu 9 rfl) rfl hl (by decide) rfl (fun ls hl => ?_)
  obtain ⟨n9, hw⟩ := hw
  exact qaG6 dC dI cyB cyI cyJ cyP a0 jaW jaX jaF jaD jbe jaM jaY jap jal jam jax jao ja6 jaV ja8 jae jag jaf ja0 ja4 jaP jaw jaI jaZ jaG jaS jan jaU jaE jar jaL jah jaB jaa jaz jaH jab ja2 z0_s jaq jai jaO jaA jat jau jav jaj jas jaJ jak jad jay jac jbx jbC Q C0 n9 _ _ _ x1 0 0 x1 hP hD hS (lv_sub hl [3, 2, 1, 0] rfl) hw
theorem qy0 : ∀ w ∈ u_ws RX11 TX11 55, w ∈ wsX11_pass := uiM qOE qfa (by decide +kernel)
theorem qE0 : (.fieldLink RX11 120 "MarchHaresModel" "at" "I" : Cond) ∈ wsX11_pass := qOE 1103 (by decide +kernel)
theorem qaoR : (.fieldLink RX11 123 "MarchHaresModel" "size" "I" : Cond) ∈ wsX11_pass := qOE 1153 (by decide +kernel)
theorem qaEt : (.fieldLink RX11 20 "MarchHaresModel" "tape" "[I" : Cond) ∈ wsX11_pass := qOE 400 (by decide +kernel)
set_option maxHeartbeats 4000000 in
set_option maxRecDepth 100000 in
theorem qaM9 {p : Program} {l : Launch} {e : Env} {s : State} {m : MethodId} {args : Array Value} {below : List Frame} {meth : Method} {c : Code} {A : Nat → Prop} (dC : Nat → ClassId) (dI : Nat → Nat → Nat) (cyB cyI cyJ cyP : ClassId) (a0 jaW : Nat) (jaX jaF jaD jbe jaM jaY jap jal jam jax jao ja6 jaV ja8 jae jag jaf ja0 ja4 jaP jaw jaI jaZ jaG jaS jan jaU jaE jar jaL jah jaB jaa jaz jaH jab ja2 z0_s jaq jai jaO jaA jat jau jav jaj jas jaJ jak jad jay jac : Value) (jbx : Int32) (jbC : NI) (Q : Int32 → Prop) (C0 : cfx p s m args meth c cX11_pass none wsX11_pass RX11 1 A (dC, dI) (kT cyB cyI cyJ cyP)) : ∀ (n : Nat) (H : Heap) (locs : List Loc) (ls : Array Slot) (jcP : Int32), va_P (dC, dI) vwCl (qnU a0 jaX jaF jaD jbx jcP jbe jaM jaY jap jaW jal jam jax jao ja6 jaV ja8 jae jag jaf ja0 ja4 jaP jaw jaI jaZ jaG jaS jan jaU jaE jar jaL jah jaB jaa jaz jaH jab ja2 z0_s jaq jai jaO jaA jat jau jav jaj jas jaJ jak jad jay jac jaW cyI jbC) H → va_D A (qnU a0 jaX jaF jaD jbx jcP jbe jaM jaY jap jaW jal jam jax jao ja6 jaV ja8 jae jag jaf ja0 ja4 jaP jaw jaI jaZ jaG jaS jan jaU jaE jar jaL jah jaB jaa jaz jaH jab ja2 z0_s jaq jai jaO jaA jat jau jav jaj jas jaJ jak jad jay jac jaW cyI jbC) → va_S A s.heap H locs → lv_has ls 1 [(0, .ref a0)] → qN7 jbx jbC Q n jcP → W p l e (headSpec wsX11_pass ({ frames := 1, cells := 0, slots := 0, locals := 20 })).room s m args below meth c H locs 0 0 (MQ below (va_Qv (fun (u : Int32) => Q u) (cB (dC, dI) (kT cyB cyI cyJ cyP) A (fun u : Int32 => ((qnU a0 jaX jaF jaD jbx u jbe jaM jaY jap jaW jal jam jax jao ja6 jaV ja8 jae jag jaf ja0 ja4 jaP jaw jaI jaZ jaG jaS jan jaU jaE jar jaL jah jaB jaa jaz jaH jab ja2 z0_s jaq jai jaO jaA jat jau jav jaj jas jaJ jak jad jay jac jaW cyI jbC) : va_W))) A) args s 0 0 A) (F0 m 0 ls []) := by
  obtain ⟨hx, hb, hr, hts, hown, hlocks, hml, hA, hK, hNw⟩ := id C0
  intro n
  induction n with
  | zero => intro H locs ls jcP hP hD hS hl hw; exact False.elim hw
  | succ n ih =>
    intro H locs ls jcP hP hD hS hl hw
    refine lv_aload_n hx hb (qaa qlS 0 rfl) rfl (lv_at hl 0 rfl) ?_
    refine va_get (D := (dC, dI)) (ci := 11) (v := .int jcP) (C := RX11) (T := TX11) (N := 55) hx hb hts qy0 hown hK hP 0 rfl rfl 4 (by decide) (hts _ qE0) (fun _ h9 => h9) rfl (qaa qlS 1 rfl) ?_
    refine lv_aload_n hx hb (qaa qlS 2 rfl) rfl (lv_at hl 0 rfl) ?_
    refine va_get (D := (dC, dI)) (ci := 11) (v := .int jbx) (C := RX11) (T := TX11) (N := 55) hx hb hts qy0 hown hK hP 0 rfl rfl 3 (by decide) (hts _ qaoR) (fun _ h9 => h9) rfl (qaa qlS 3 rfl) ?_
    refine lv_icmp_ge (tgt := 39) hx hb (qaa qlS 4 rfl) (by decide) (fun c1 => ?_) (fun c1 => ?_)
    · have hw := hw.1 c1
      exact ((W.vret hx hb hr (fun t ht hW => ⟨⟨(jcP), rfl, hw, by rw [ht]; exact hP, va_K.moved hW.alike hK, hD⟩, hS.F ht⟩) hS.2.2 (qaa qDY 3 rfl)))
    · have hw := hw.2 c1
      refine lv_aload_n hx hb (qaa qlS 5 rfl) rfl (lv_at hl 0 rfl) ?_
      refine va_get (D := (dC, dI)) (ci := 11) (v := .ref jaW) (C := RX11) (T := TX11) (N := 55) hx hb hts qy0 hown hK hP 0 rfl rfl 9 (by decide) (hts _ qaEt) (fun _ h9 => h9) rfl (qaa qlS 6 rfl) ?_
      refine lv_aload_n hx hb (qaa qlS 7 rfl) rfl (lv_at hl 0 rfl) ?_
      refine va_get (D := (dC, dI)) (ci := 11) (v := .int jcP) (C := RX11) (T := TX11) (N := 55) hx hb hts qy0 hown hK hP 0 rfl rfl 4 (by decide) (hts _ qE0) (fun _ h9 => h9) rfl (qaa qlS 8 rfl) ?_
      obtain ⟨hi9, hw⟩ := hw
      refine va_iald hx hb hK hP 1 1 rfl rfl hi9 (qaa qlS 9 rfl) ?_
      refine lv_topi (fun x2 ex2 => ?_)
      have hw := hw x2 ex2
      obtain ⟨hCc, hPc, hDc, hFc⟩ := qac (ws' := []) hP hD hS hA [] (by decide +kernel) rfl
      refine va_calli (va_runS (As := [.int x2]) (rest := []) ⟨hx, hb, hml, hown, hts⟩ (q7q l dC dI cyB cyI cyJ cyP H.size x2 hw) (va_cwS 1 hts gX11_pass_X11_isSmall rfl rfl rfl (by decide +kernel) ⟨nbq rfl, nbq rfl⟩) ⟨qab, qae hPc hK hDc hNw⟩ rfl rfl hl.1 rfl (lv_room (nbq rfl)) (qaa qlS 10 rfl) ⟨nbq rfl, nbq rfl⟩) hS (fun q _ h => hFc q h) hFc (fun r3 u t H1 locs ht hvm hw hB hz1 hk1 hS => ?_)
      obtain ⟨hP1, hK1, hD1⟩ := hB
      rw [ht] at hP1
      obtain ⟨hP, hD⟩ := qah (wr := (qnU a0 jaX jaF jaD jbx jcP jbe jaM jaY jap jaW jal jam jax jao ja6 jaV ja8 jae jag jaf ja0 ja4 jaP jaw jaI jaZ jaG jaS jan jaU jaE jar jaL jah jaB jaa jaz jaH jab ja2 z0_s jaq jai jaO jaA jat jau jav jaj jas jaJ jak jad jay jac jaW cyI jbC)) (w1 := []) (wn := (qnU a0 jaX jaF jaD jbx jcP jbe jaM jaY jap jaW jal jam jax jao ja6 jaV ja8 jae jag jaf ja0 ja4 jaP jaw jaI jaZ jaG jaS jan jaU jaE jar jaL jah jaB jaa jaz jaH jab ja2 z0_s jaq jai jaO jaA jat jau jav jaj jas jaJ jak jad jay jac jaW cyI jbC)) hP hD [] [0, 1] hCc rfl (by decide +kernel) (by decide +kernel) rfl hk1 hFc hP1 hD1
      generalize H1 = H at hP hS ⊢
      refine lv_if_eq (tgt := 39) hx hb (qaa qlS 11 rfl) (by decide) (fun c4 => ?_) (fun c4 => ?_)
      · have hw := hw.1 c4
        exact ((W.vret hx hb hr (fun t ht hW => ⟨⟨(jcP), rfl, hw, by rw [ht]; exact hP, va_K.moved hW.alike hK, hD⟩, hS.F ht⟩) hS.2.2 (qaa qDY 3 rfl)))
      · have hw := hw.2 c4
        refine lv_aload_n hx hb (qaa qlS 12 rfl) rfl (lv_at hl 0 rfl) ?_
        refine lv_dup hx hb (qaa qlS 13 rfl) rfl ?_
        refine va_get (D := (dC, dI)) (ci := 11) (v := .int jcP) (C := RX11) (T := TX11) (N := 55) hx hb hts qy0 hown hK hP 0 rfl rfl 4 (by decide) (hts _ qE0) (fun _ h9 => h9) rfl (qaa qlS 14 rfl) ?_
        refine lv_iconst (v := 1) hx hb (qaa qlS 15 rfl) (by decide) ?_
        refine lv_iadd hx hb (qaa qDY 0 rfl) ?_
        refine lv_topi (fun x5 ex5 => ?_)
        have hw := hw x5 ex5
        refine va_put (D := (dC, dI)) (ci := 11) (v := .int x5) (ty := .int) (C := RX11) (T := TX11) (N := 55) hx hb hts qy0 tyX11 tyX11_ok nmX11 hown hK hP hD hS 0 rfl rfl 4 (by decide) (hts _ qE0) (fun _ h9 => h9) rfl (by decide +kernel) rfl rfl (nbq rfl) (qaa qDY 1 rfl) (fun H locs hP hD hS => ?_)
        have hP : va_P (dC, dI) vwCl (qnU a0 jaX jaF jaD jbx x5 jbe jaM jaY jap jaW jal jam jax jao ja6 jaV ja8 jae jag jaf ja0 ja4 jaP jaw jaI jaZ jaG jaS jan jaU jaE jar jaL jah jaB jaa jaz jaH jab ja2 z0_s jaq jai jaO jaA jat jau jav jaj jas jaJ jak jad jay jac jaW cyI jbC) H := hP
        have hD : va_D A (qnU a0 jaX jaF jaD jbx x5 jbe jaM jaY jap jaW jal jam jax jao ja6 jaV ja8 jae jag jaf ja0 ja4 jaP jaw jaI jaZ jaG jaS jan jaU jaE jar jaL jah jaB jaa jaz jaH jab ja2 z0_s jaq jai jaO jaA jat jau jav jaj jas jaJ jak jad jay jac jaW cyI jbC) := hD
        refine lv_goto (tgt := 0) hx hb (qaa qDY 2 rfl) (by decide) ?_
        exact ih _ _ _ x5 hP hD hS (lv_sub hl [0] rfl) hw
set_option maxHeartbeats 4000000 in
set_option maxRecDepth 100000 in
theorem qzz (l : Launch) (dC : Nat → ClassId) (dI : Nat → Nat → Nat) (cyB cyI cyJ cyP : ClassId) (a0 jaW sz : Nat) (jaX jaF jaD jbe jaM jaY jap jal jam jax jao ja6 jaV ja8 jae jag jaf ja0 ja4 jaP jaw jaI jaZ jaG jaS jan jaU jaE jar jaL jah jaB jaa jaz jaH jab ja2 z0_s jaq jai jaO jaA jat jau jav jaj jas jaJ jak jad jay jac : Value) (jbx : Int32) (jbC : NI) (jcP : Int32) {Q : Int32 → Prop} (hw : quF jbx jbC jcP Q) : Met l yX11_pass wsX11_pass ({ frames := 1, cells := 0, slots := 0, locals := 20 }) (va_Pc [.ref a0] (cPc (dC, dI) (kT cyB cyI cyJ cyP) (qnU a0 jaX jaF jaD jbx jcP jbe jaM jaY jap jaW jal jam jax jao ja6 jaV ja8 jae jag jaf ja0 ja4 jaP jaw jaI jaZ jaG jaS jan jaU jaE jar jaL jah jaB jaa jaz jaH jab ja2 z0_s jaq jai jaO jaA jat jau jav jaj jas jaJ jak jad jay jac jaW cyI jbC) sz)) (va_Qv (fun (u : Int32) => Q u) (cB (dC, dI) (kT cyB cyI cyJ cyP) (va_A (qnU a0 jaX jaF jaD jbx jcP jbe jaM jaY jap jaW jal jam jax jao ja6 jaV ja8 jae jag jaf ja0 ja4 jaP jaw jaI jaZ jaG jaS jan jaU jaE jar jaL jah jaB jaa jaz jaH jab ja2 z0_s jaq jai jaO jaA jat jau jav jaj jas jaJ jak jad jay jac jaW cyI jbC) sz) (fun u : Int32 => ((qnU a0 jaX jaF jaD jbx u jbe jaM jaY jap jaW jal jam jax jao ja6 jaV ja8 jae jag jaf ja0 ja4 jaP jaw jaI jaZ jaG jaS jan jaU jaE jar jaL jah jaB jaa jaz jaH jab ja2 z0_s jaq jai jaO jaA jat jau jav jaj jas jaJ jak jad jay jac jaW cyI jbC) : va_W))) (va_A (qnU a0 jaX jaF jaD jbx jcP jbe jaM jaY jap jaW jal jam jax jao ja6 jaV ja8 jae jag jaf ja0 ja4 jaP jaw jaI jaZ jaG jaS jan jaU jaE jar jaL jah jaB jaa jaz jaH jab ja2 z0_s jaq jai jaO jaA jat jau jav jaj jas jaJ jak jad jay jac jaW cyI jbC) sz)) 0 0 (va_A (qnU a0 jaX jaF jaD jbx jcP jbe jaM jaY jap jaW jal jam jax jao ja6 jaV ja8 jae jag jaf ja0 ja4 jaP jaw jaI jaZ jaG jaS jan jaU jaE jar jaL jah jaB jaa jaz jaH jab ja2 z0_s jaq jai jaO jaA jat jau jav jaj jas jaJ jak jad jay jac jaW cyI jbC) sz) := by
  refine Met.ofW (cc := cX11_pass) (maxL := 1) (ret := none) (by decide) rfl ?_
  intro p e s m args below meth c s₁ B hml hv
  obtain ⟨rfl, hsz, hP, hK, hD0, hNw⟩ := hv
  have hx := B.exec
  have hb := B.bytes
  have hr := B.returns
  have hts := atoms_spec (ws := wsX11_pass) B.pre
  have hown : s.vm.findClass RX11 = some m.cls := findClass_of_methodNamed B.named
  have hlocks := B.notSynchronized
  subst hsz
  have hD := hD0.self (sz := s.heap.size)
  generalize hAe : va_A (qnU a0 jaX jaF jaD jbx jcP jbe jaM jaY jap jaW jal jam jax jao ja6 jaV ja8 jae jag jaf ja0 ja4 jaP jaw jaI jaZ jaG jaS jan jaU jaE jar jaL jah jaB jaa jaz jaH jab ja2 z0_s jaq jai jaO jaA jat jau jav jaj jas jaJ jak jad jay jac jaW cyI jbC) s.heap.size = A at hD ⊢
  have hA : ∀ q : Nat, s.heap.size ≤ q → A q := fun q h => by rw [← hAe]; exact Or.inr h
  have hS : va_S A s.heap s.heap [] := va_S.rf
  have hP : va_P (dC, dI) vwCl (qnU a0 jaX jaF jaD jbx jcP jbe jaM jaY jap jaW jal jam jax jao ja6 jaV ja8 jae jag jaf ja0 ja4 jaP jaw jaI jaZ jaG jaS jan jaU jaE jar jaL jah jaB jaa jaz jaH jab ja2 z0_s jaq jai jaO jaA jat jau jav jaj jas jaJ jak jad jay jac jaW cyI jbC) s.heap := hP
  have hl := lv_entry ([.ref a0]) (n := 1) (nbq rfl)
  rw [lg_entry_eq]
  generalize (lg_sl ([.ref a0]) ++ List.replicate (1 - (lg_sl ([.ref a0])).length) Slot.unset).toArray = ls at hl ⊢
  have hl : lv_has ls 1 [(0, .ref a0)] := hl
  have C0 : cfx p s m _ meth c cX11_pass none wsX11_pass RX11 1 A (dC, dI) (kT cyB cyI cyJ cyP) := ⟨hx, hb, hr, hts, hown, hlocks, hml, hA, hK, hNw⟩
  clear hAe
  obtain ⟨H, hH⟩ : ∃ H, H = s.heap := ⟨_, rfl⟩
  rw [← hH] at hP ⊢
  have hS : va_S A s.heap H [] := by rw [hH]; exact va_S.rf
  have hS := hS
  obtain ⟨n9, hw⟩ := hw
  exact qaM9 dC dI cyB cyI cyJ cyP a0 jaW jaX jaF jaD jbe jaM jaY jap jal jam jax jao ja6 jaV ja8 jae jag jaf ja0 ja4 jaP jaw jaI jaZ jaG jaS jan jaU jaE jar jaL jah jaB jaa jaz jaH jab ja2 z0_s jaq jai jaO jaA jat jau jav jaj jas jaJ jak jad jay jac jbx jbC Q C0 n9 _ _ _ jcP hP hD hS (lv_sub hl [0] rfl) hw
theorem qab5 : ∀ w ∈ u_ws RX11 TX11 55, w ∈ wsX11_readHare := uiM qKt qfa (by decide +kernel)
theorem q6U : (.fieldLink RX11 160 "MarchHaresModel" "newHares" "I" : Cond) ∈ wsX11_readHare := qKt 513 (by decide +kernel)
set_option maxHeartbeats 4000000 in
set_option maxRecDepth 100000 in
theorem q2q (l : Launch) (dC : Nat → ClassId) (dI : Nat → Nat → Nat) (cyB cyI cyJ cyP : ClassId) (a0 jaW sz : Nat) (jaX jaF jaD jaY jap jal jam jax jao ja6 jaV ja8 jae jaf ja0 ja4 jaP jaw jaI jaZ jaG jaS jan jaU jaE jar jaL jah jaB jaa jaz jaH jab ja2 z0_s jaq jai jaO jaA jat jau jav jaj jas jaJ jak jad jay jac : Value) (jbx jgg : Int32) (jbC : NI) (jcP jb8 jbh : Int32) {Q : Int32 → Int32 → Int32 → Int32 → Prop} (hw : qOZ jbx jgg jbC jcP jb8 jbh Q) : Met l yX11_readHare wsX11_readHare ({ frames := 2, cells := 0, slots := 0, locals := 47 }) (va_Pc [.ref a0] (cPc (dC, dI) (kT cyB cyI cyJ cyP) (qS9 a0 jaX jaF jaD jbx jcP jb8 jbh jaY jap jaW jal jam jax jao ja6 jaV ja8 jae jgg jaf ja0 ja4 jaP jaw jaI jaZ jaG jaS jan jaU jaE jar jaL jah jaB jaa jaz jaH jab ja2 z0_s jaq jai jaO jaA jat jau jav jaj jas jaJ jak jad jay jac jaW cyI jbC) sz)) (va_Qi (fun (r : Int32) (u : Int32 × Int32 × Int32) => Q r u.1 u.2.1 u.2.2) (cB (dC, dI) (kT cyB cyI cyJ cyP) (va_A (qS9 a0 jaX jaF jaD jbx jcP jb8 jbh jaY jap jaW jal jam jax jao ja6 jaV ja8 jae jgg jaf ja0 ja4 jaP jaw jaI jaZ jaG jaS jan jaU jaE jar jaL jah jaB jaa jaz jaH jab ja2 z0_s jaq jai jaO jaA jat jau jav jaj jas jaJ jak jad jay jac jaW cyI jbC) sz) (fun u : Int32 × Int32 × Int32 => ((qS9 a0 jaX jaF jaD jbx u.1 u.2.1 u.2.2 jaY jap jaW jal jam jax jao ja6 jaV ja8 jae jgg jaf ja0 ja4 jaP jaw jaI jaZ jaG jaS jan jaU jaE jar jaL jah jaB jaa jaz jaH jab ja2 z0_s jaq jai jaO jaA jat jau jav jaj jas jaJ jak jad jay jac jaW cyI jbC) : va_W))) (va_A (qS9 a0 jaX jaF jaD jbx jcP jb8 jbh jaY jap jaW jal jam jax jao ja6 jaV ja8 jae jgg jaf ja0 ja4 jaP jaw jaI jaZ jaG jaS jan jaU jaE jar jaL jah jaB jaa jaz jaH jab ja2 z0_s jaq jai jaO jaA jat jau jav jaj jas jaJ jak jad jay jac jaW cyI jbC) sz)) 0 0 (va_A (qS9 a0 jaX jaF jaD jbx jcP jb8 jbh jaY jap jaW jal jam jax jao ja6 jaV ja8 jae jgg jaf ja0 ja4 jaP jaw jaI jaZ jaG jaS jan jaU jaE jar jaL jah jaB jaa jaz jaH jab ja2 z0_s jaq jai jaO jaA jat jau jav jaj jas jaJ jak jad jay jac jaW cyI jbC) sz) := by
  refine Met.ofW (cc := cX11_readHare) (maxL := 1) (ret := (some .int)) (by decide) rfl ?_
  intro p e s m args below meth c s₁ B hml hv
  obtain ⟨rfl, hsz, hP, hK, hD0, hNw⟩ := hv
  have hx := B.exec
  have hb := B.bytes
  have hr := B.returns
  have hts := atoms_spec (ws := wsX11_readHare) B.pre
  have hown : s.vm.findClass RX11 = some m.cls := findClass_of_methodNamed B.named
  have hlocks := B.notSynchronized
  subst hsz
  have hD := hD0.self (sz := s.heap.size)
  generalize hAe : va_A (qS9 a0 jaX jaF jaD jbx jcP jb8 jbh jaY jap jaW jal jam jax jao ja6 jaV ja8 jae jgg jaf ja0 ja4 jaP jaw jaI jaZ jaG jaS jan jaU jaE jar jaL jah jaB jaa jaz jaH jab ja2 z0_s jaq jai jaO jaA jat jau jav jaj jas jaJ jak jad jay jac jaW cyI jbC) s.heap.size = A at hD ⊢
  have hA : ∀ q : Nat, s.heap.size ≤ q → A q := fun q h => by rw [← hAe]; exact Or.inr h
  have hS : va_S A s.heap s.heap [] := va_S.rf
  have hP : va_P (dC, dI) vwCl (qS9 a0 jaX jaF jaD jbx jcP jb8 jbh jaY jap jaW jal jam jax jao ja6 jaV ja8 jae jgg jaf ja0 ja4 jaP jaw jaI jaZ jaG jaS jan jaU jaE jar jaL jah jaB jaa jaz jaH jab ja2 z0_s jaq jai jaO jaA jat jau jav jaj jas jaJ jak jad jay jac jaW cyI jbC) s.heap := hP
  have hl := lv_entry ([.ref a0]) (n := 1) (nbq rfl)
  rw [lg_entry_eq]
  generalize (lg_sl ([.ref a0]) ++ List.replicate (1 - (lg_sl ([.ref a0])).length) Slot.unset).toArray = ls at hl ⊢
  have hl : lv_has ls 1 [(0, .ref a0)] := hl
  have C0 : cfx p s m _ meth c cX11_readHare (some .int) wsX11_readHare RX11 1 A (dC, dI) (kT cyB cyI cyJ cyP) := ⟨hx, hb, hr, hts, hown, hlocks, hml, hA, hK, hNw⟩
  clear hAe
  obtain ⟨H, hH⟩ : ∃ H, H = s.heap := ⟨_, rfl⟩
  rw [← hH] at hP ⊢
  have hS : va_S A s.heap H [] := by rw [hH]; exact va_S.rf
  have hS := hS
  refine lv_aload_n hx hb (qaa qry 0 rfl) rfl (lv_at hl 0 rfl) ?_
  refine lv_iconst (v := 0) hx hb (qaa qry 1 rfl) (by decide) ?_
  refine lv_aload_n hx hb (qaa qry 2 rfl) rfl (lv_at hl 0 rfl) ?_
  refine va_get (D := (dC, dI)) (ci := 11) (v := .int jgg) (C := RX11) (T := TX11) (N := 55) hx hb hts qab5 hown hK hP 0 rfl rfl 18 (by decide) (hts _ q6U) (fun _ h9 => h9) rfl (qaa qry 3 rfl) ?_
  refine lv_iconst (v := 1) hx hb (qaa qry 4 rfl) (by decide) ?_
  refine lv_isub hx hb (qaa qry 5 rfl) ?_
  obtain ⟨hCc, hPc, hDc, hFc⟩ := qac (ws' := (qS9 a0 jaX jaF jaD jbx jcP jb8 jbh jaY jap jaW jal jam jax jao ja6 jaV ja8 jae jgg jaf ja0 ja4 jaP jaw jaI jaZ jaG jaS jan jaU jaE jar jaL jah jaB jaa jaz jaH jab ja2 z0_s jaq jai jaO jaA jat jau jav jaj jas jaJ jak jad jay jac jaW cyI jbC)) hP hD hS hA [0, 1] (by decide +kernel) rfl
  refine va_calli (va_runV (As := [.int 0, .int (jgg - 1)]) (rest := []) ⟨hx, hb, hml, hown, hts⟩ (qcA l dC dI cyB cyI cyJ cyP a0 jaW H.size (jaX) (jaF) (jaD) (jaY) (jap) (jal) (jam) (jax) (jao) (ja6) (jaV) (ja8) (jae) (.int jgg) (jaf) (ja0) (ja4) (jaP) (jaw) (jaI) (jaZ) (jaG) (jaS) (jan) (jaU) (jaE) (jar) (jaL) (jah) (jaB) (jaa) (jaz) (jaH) (jab) (ja2) (z0_s) (jaq) (jai) (jaO) (jaA) (jat) (jau) (jav) (jaj) (jas) (jaJ) (jak) (jad) (jay) (jac) jbx jbC jcP jb8 jbh 0 (jgg - 1) hw) (cwV 2 hts gX11_readHare_X11_readNumber rfl rfl rfl (by decide +kernel) ⟨nbq rfl, nbq rfl⟩) ⟨qab, va_recv (q := (RX11, TX11, 55)) hK hPc (ci := 11) (q0 := 0) rfl rfl, qae hPc hK hDc hNw⟩ rfl rfl hl.1 rfl (lv_room (nbq rfl)) (qaa qry 6 rfl) ⟨nbq rfl, nbq rfl⟩) hS (fun q _ h => hFc q h) hFc (fun r4 u t H1 locs ht hvm hw hB hz1 hk1 hS => ?_)
  obtain ⟨x1, x2, x3⟩ := u
  obtain ⟨hP1, hK1, hD1⟩ := hB
  rw [ht] at hP1
  obtain ⟨hP, hD⟩ := qah (wr := []) (w1 := (qS9 a0 jaX jaF jaD jbx x1 x2 x3 jaY jap jaW jal jam jax jao ja6 jaV ja8 jae jgg jaf ja0 ja4 jaP jaw jaI jaZ jaG jaS jan jaU jaE jar jaL jah jaB jaa jaz jaH jab ja2 z0_s jaq jai jaO jaA jat jau jav jaj jas jaJ jak jad jay jac jaW cyI jbC)) (wn := (qS9 a0 jaX jaF jaD jbx x1 x2 x3 jaY jap jaW jal jam jax jao ja6 jaV ja8 jae jgg jaf ja0 ja4 jaP jaw jaI jaZ jaG jaS jan jaU jaE jar jaL jah jaB jaa jaz jaH jab ja2 z0_s jaq jai jaO jaA jat jau jav jaj jas jaJ jak jad jay jac jaW cyI jbC)) hP hD [0, 1] [] hCc rfl (by decide +kernel) (by decide +kernel) rfl hk1 hFc hP1 hD1
  generalize H1 = H at hP hS ⊢
  exact ((W.iret (v := r4) hx hb hr (fun t ht hW => ⟨⟨r4, (x1, x2, x3), rfl, hw, by rw [ht]; exact hP, va_K.moved hW.alike hK, hD⟩, hS.F ht⟩) hS.2.2 (qaa qry 7 rfl)))
theorem qQX : ∀ w ∈ u_ws RX11 TX11 55, w ∈ wsX11_readDebt := uiM qoi qfa (by decide +kernel)
theorem q58 : (.fieldLink RX11 120 "MarchHaresModel" "at" "I" : Cond) ∈ wsX11_readDebt := qoi 1103 (by decide +kernel)
theorem qacA : (.fieldLink RX11 32 "MarchHaresModel" "newDebt" "[I" : Cond) ∈ wsX11_readDebt := qoi 404 (by decide +kernel)
set_option maxHeartbeats 4000000 in
set_option maxRecDepth 100000 in
theorem qIj {p : Program} {l : Launch} {e : Env} {s : State} {m : MethodId} {args : Array Value} {below : List Frame} {meth : Method} {c : Code} {A : Nat → Prop} (dC : Nat → ClassId) (dI : Nat → Nat → Nat) (cyB cyI cyJ cyP : ClassId) (a0 jaW jdO : Nat) (jaX jaF jaD jaY jap jal jam jax ja6 jaV ja8 jae jaf ja0 ja4 jaP jaw jaI jaZ jaG jaS jan jaU jaE jar jaL jah jaB jaa jaz jaH jab ja2 z0_s jaq jai jaO jaA jat jau jav jaj jas jaJ jak jad jay jac : Value) (jbx jgg : Int32) (jbC : NI) (Q : Int32 → Int32 → Int32 → NI → Prop) (C0 : cfx p s m args meth c cX11_readDebt none wsX11_readDebt RX11 5 A (dC, dI) (kT cyB cyI cyJ cyP)) : ∀ (H : Heap) (locs : List Loc) (ls : Array Slot) (jcP jb8 jbh : Int32) (jil : NI) (l1 l3 : Int32), va_P (dC, dI) vwCl (qzr a0 jaX jaF jaD jbx jcP jb8 jbh jaY jap jaW jal jam jax jdO ja6 jaV ja8 jae jgg jaf ja0 ja4 jaP jaw jaI jaZ jaG jaS jan jaU jaE jar jaL jah jaB jaa jaz jaH jab ja2 z0_s jaq jai jaO jaA jat jau jav jaj jas jaJ jak jad jay jac jaW cyI jbC jdO cyI jil) H → va_D A (qzr a0 jaX jaF jaD jbx jcP jb8 jbh jaY jap jaW jal jam jax jdO ja6 jaV ja8 jae jgg jaf ja0 ja4 jaP jaw jaI jaZ jaG jaS jan jaU jaE jar jaL jah jaB jaa jaz jaH jab ja2 z0_s jaq jai jaO jaA jat jau jav jaj jas jaJ jak jad jay jac jaW cyI jbC jdO cyI jil) → va_S A s.heap H locs → lv_has ls 5 [(0, .ref a0), (1, .int l1), (3, .int l3)] → qxq jbx jgg jbC Q jcP jb8 jbh jil l1 l3 → W p l e (headSpec wsX11_readDebt ({ frames := 3, cells := 0, slots := 0, locals := 67 })).room s m args below meth c H locs 0 0 (MQ below (va_Qv (fun (u : Int32 × Int32 × Int32 × NI) => Q u.1 u.2.1 u.2.2.1 u.2.2.2) (cB (dC, dI) (kT cyB cyI cyJ cyP) A (fun u : Int32 × Int32 × Int32 × NI => ((qzr a0 jaX jaF jaD jbx u.1 u.2.1 u.2.2.1 jaY jap jaW jal jam jax jdO ja6 jaV ja8 jae jgg jaf ja0 ja4 jaP jaw jaI jaZ jaG jaS jan jaU jaE jar jaL jah jaB jaa jaz jaH jab ja2 z0_s jaq jai jaO jaA jat jau jav jaj jas jaJ jak jad jay jac jaW cyI jbC jdO cyI u.2.2.2) : va_W))) A) args s 0 0 A) (F0 m 38 ls []) := by
  obtain ⟨hx, hb, hr, hts, hown, hlocks, hml, hA, hK, hNw⟩ := id C0
  intro H locs ls jcP jb8 jbh jil l1 l3 hP hD hS hl hw
  refine lv_aload_n hx hb (qaa qdd 6 rfl) rfl (lv_at hl 0 rfl) ?_
  refine lv_iconst (v := 0) hx hb (qaa qdd 7 rfl) (by decide) ?_
  refine lv_bipush (v := 99) hx hb (qaa qdd 8 rfl) (by decide) ?_
  obtain ⟨hCc, hPc, hDc, hFc⟩ := qac (ws' := (q3k a0 jaX jaF jaD jbx jcP jb8 jbh jaY jap jaW jal jam jax jdO ja6 jaV ja8 jae jgg jaf ja0 ja4 jaP jaw jaI jaZ jaG jaS jan jaU jaE jar jaL jah jaB jaa jaz jaH jab ja2 z0_s jaq jai jaO jaA jat jau jav jaj jas jaJ jak jad jay jac jaW cyI jbC)) hP hD hS hA [0, 1] (by decide +kernel) rfl
  refine va_calli (va_runV (As := [.int 0, .int 99]) (rest := []) ⟨hx, hb, hml, hown, hts⟩ (qcA l dC dI cyB cyI cyJ cyP a0 jaW H.size (jaX) (jaF) (jaD) (jaY) (jap) (jal) (jam) (jax) (.ref jdO) (ja6) (jaV) (ja8) (jae) (.int jgg) (jaf) (ja0) (ja4) (jaP) (jaw) (jaI) (jaZ) (jaG) (jaS) (jan) (jaU) (jaE) (jar) (jaL) (jah) (jaB) (jaa) (jaz) (jaH) (jab) (ja2) (z0_s) (jaq) (jai) (jaO) (jaA) (jat) (jau) (jav) (jaj) (jas) (jaJ) (jak) (jad) (jay) (jac) jbx jbC jcP jb8 jbh 0 99 hw) (cwV 2 hts gX11_readDebt_X11_readNumber rfl rfl rfl (by decide +kernel) ⟨nbq rfl, nbq rfl⟩) ⟨qab, va_recv (q := (RX11, TX11, 55)) hK hPc (ci := 11) (q0 := 0) rfl rfl, qae hPc hK hDc hNw⟩ rfl rfl hl.1 rfl (lv_room (nbq rfl)) (qaa qdd 9 rfl) ⟨nbq rfl, nbq rfl⟩) hS (fun q _ h => hFc q h) hFc (fun r19 u t H1 locs ht hvm hw hB hz1 hk1 hS => ?_)
  obtain ⟨x16, x17, x18⟩ := u
  obtain ⟨hP1, hK1, hD1⟩ := hB
  rw [ht] at hP1
  obtain ⟨hP, hD⟩ := qad (wr := (qaR0 jdO cyI jil)) (w1 := (q3k a0 jaX jaF jaD jbx x16 x17 x18 jaY jap jaW jal jam jax jdO ja6 jaV ja8 jae jgg jaf ja0 ja4 jaP jaw jaI jaZ jaG jaS jan jaU jaE jar jaL jah jaB jaa jaz jaH jab ja2 z0_s jaq jai jaO jaA jat jau jav jaj jas jaJ jak jad jay jac jaW cyI jbC)) (wn := (qzr a0 jaX jaF jaD jbx x16 x17 x18 jaY jap jaW jal jam jax jdO ja6 jaV ja8 jae jgg jaf ja0 ja4 jaP jaw jaI jaZ jaG jaS jan jaU jaE jar jaL jah jaB jaa jaz jaH jab ja2 z0_s jaq jai jaO jaA jat jau jav jaj jas jaJ jak jad jay jac jaW cyI jbC jdO cyI jil)) hP hD [0, 1] [2] [1, 2, 0] hCc rfl (by decide +kernel) (by decide +kernel) (by decide +kernel) rfl hk1 hFc hP1 hD1
  generalize H1 = H at hP hS ⊢
  refine lv_istore (lv' := [(4, .int r19), (0, .ref a0), (1, .int l1), (3, .int l3)]) hx hb (qaa qdd 10 rfl) hl (by decide) rfl (fun ls hl => ?_)
  refine lv_aload_n hx hb (qaa qdd 11 rfl) rfl (lv_at hl 1 rfl) ?_
  obtain ⟨hCc, hPc, hDc, hFc⟩ := qac (ws' := (qalZ a0 jaX jaF jaD jbx x16 x17 x18 jaY jap jaW jal jam jax jdO ja6 jaV ja8 jae jgg jaf ja0 ja4 jaP jaw jaI jaZ jaG jaS jan jaU jaE jar jaL jah jaB jaa jaz jaH jab ja2 z0_s jaq jai jaO jaA jat jau jav jaj jas jaJ jak jad jay jac)) hP hD hS hA [0] (by decide +kernel) rfl
  refine va_calli (va_runV (As := []) (rest := []) ⟨hx, hb, hml, hown, hts⟩ (qdP l dC dI cyB cyI cyJ cyP a0 H.size (jaX) (jaF) (jaD) (.int jbx) (.int x16) (.int x18) (jaY) (jap) (.ref jaW) (jal) (jam) (jax) (.ref jdO) (ja6) (jaV) (ja8) (jae) (.int jgg) (jaf) (ja0) (ja4) (jaP) (jaw) (jaI) (jaZ) (jaG) (jaS) (jan) (jaU) (jaE) (jar) (jaL) (jah) (jaB) (jaa) (jaz) (jaH) (jab) (ja2) (z0_s) (jaq) (jai) (jaO) (jaA) (jat) (jau) (jav) (jaj) (jas) (jaJ) (jak) (jad) (jay) (jac) x17 hw) (cwV 0 hts gX11_readDebt_X11_fine rfl rfl rfl (by decide +kernel) ⟨nbq rfl, nbq rfl⟩) ⟨qab, va_recv (q := (RX11, TX11, 55)) hK hPc (ci := 11) (q0 := 0) rfl rfl, qae hPc hK hDc hNw⟩ rfl rfl hl.1 rfl (lv_room (nbq rfl)) (qaa qdd 12 rfl) ⟨nbq rfl, nbq rfl⟩) hS (fun q _ h => hFc q h) hFc (fun r20 u t H1 locs ht hvm hw hB hz1 hk1 hS => ?_)
  obtain ⟨hP1, hK1, hD1⟩ := hB
  rw [ht] at hP1
  obtain ⟨hP, hD⟩ := qad (wr := (qa0e jaW cyI jbC jdO cyI jil)) (w1 := (qalZ a0 jaX jaF jaD jbx x16 x17 x18 jaY jap jaW jal jam jax jdO ja6 jaV ja8 jae jgg jaf ja0 ja4 jaP jaw jaI jaZ jaG jaS jan jaU jaE jar jaL jah jaB jaa jaz jaH jab ja2 z0_s jaq jai jaO jaA jat jau jav jaj jas jaJ jak jad jay jac)) (wn := (qzr a0 jaX jaF jaD jbx x16 x17 x18 jaY jap jaW jal jam jax jdO ja6 jaV ja8 jae jgg jaf ja0 ja4 jaP jaw jaI jaZ jaG jaS jan jaU jaE jar jaL jah jaB jaa jaz jaH jab ja2 z0_s jaq jai jaO jaA jat jau jav jaj jas jaJ jak jad jay jac jaW cyI jbC jdO cyI jil)) hP hD [0] [1, 2] [2, 0, 1] hCc rfl (by decide +kernel) (by decide +kernel) (by decide +kernel) rfl hk1 hFc hP1 hD1
  generalize H1 = H at hP hS ⊢
  refine lv_if_eq (tgt := 67) hx hb (qaa qdd 13 rfl) (by decide) (fun c21 => ?_) (fun c21 => ?_)
  · have hw := hw.1 c21
    exact ((W.vret hx hb hr (fun t ht hW => ⟨⟨(x16, x17, x18, jil), rfl, hw, by rw [ht]; exact hP, va_K.moved hW.alike hK, hD⟩, hS.F ht⟩) hS.2.2 (qaa qoN 7 rfl)))
  · have hw := hw.2 c21
    refine lv_aload_n hx hb (qaa qdd 14 rfl) rfl (lv_at hl 1 rfl) ?_
    refine va_get (D := (dC, dI)) (ci := 11) (v := .ref jdO) (C := RX11) (T := TX11) (N := 55) hx hb hts qQX hown hK hP 0 rfl rfl 13 (by decide) (hts _ qacA) (fun _ h9 => h9) rfl (qaa qdd 15 rfl) ?_
    refine lv_bipush (v := 6) hx hb (qaa qoN 0 rfl) (by decide) ?_
    refine lv_iload_n hx hb (qaa qoN 1 rfl) rfl (lv_at hl 2 rfl) ?_
    refine lv_imul hx hb (qaa qoN 2 rfl) ?_
    refine lv_topi (fun x22 ex22 => ?_)
    have hw := hw x22 ex22
    refine lv_iload_n hx hb (qaa qoN 3 rfl) rfl (lv_at hl 3 rfl) ?_
    refine lv_iadd hx hb (qaa qoN 4 rfl) ?_
    refine lv_topi (fun x23 ex23 => ?_)
    have hw := hw x23 ex23
    refine lv_iload hx hb (qaa qoN 5 rfl) (lv_at hl 0 rfl) ?_
    obtain ⟨hi9, hw⟩ := hw
    refine va_iast hx hb hK hP hD hS 2 1 rfl rfl hi9 (qaa qoN 6 rfl) (fun H locs hP hD hS => ?_)
    obtain ⟨f24, ef24⟩ : ∃ y : NI, y = upd jil x23.toNatClampNeg r19 := ⟨_, rfl⟩
    have hw := hw f24 ef24
    have hP : va_P (dC, dI) vwCl (qzr a0 jaX jaF jaD jbx x16 x17 x18 jaY jap jaW jal jam jax jdO ja6 jaV ja8 jae jgg jaf ja0 ja4 jaP jaw jaI jaZ jaG jaS jan jaU jaE jar jaL jah jaB jaa jaz jaH jab ja2 z0_s jaq jai jaO jaA jat jau jav jaj jas jaJ jak jad jay jac jaW cyI jbC jdO cyI f24) H := by rw [ef24]; exact hP
    have hD : va_D A (qzr a0 jaX jaF jaD jbx x16 x17 x18 jaY jap jaW jal jam jax jdO ja6 jaV ja8 jae jgg jaf ja0 ja4 jaP jaw jaI jaZ jaG jaS jan jaU jaE jar jaL jah jaB jaa jaz jaH jab ja2 z0_s jaq jai jaO jaA jat jau jav jaj jas jaJ jak jad jay jac jaW cyI jbC jdO cyI f24) := by rw [ef24]; exact hD
    exact ((W.vret hx hb hr (fun t ht hW => ⟨⟨(x16, x17, x18, f24), rfl, hw, by rw [ht]; exact hP, va_K.moved hW.alike hK, hD⟩, hS.F ht⟩) hS.2.2 (qaa qoN 7 rfl)))
set_option maxHeartbeats 4000000 in
set_option maxRecDepth 100000 in
theorem qawM (l : Launch) (dC : Nat → ClassId) (dI : Nat → Nat → Nat) (cyB cyI cyJ cyP : ClassId) (a0 jaW jdO sz : Nat) (jaX jaF jaD jaY jap jal jam jax ja6 jaV ja8 jae jaf ja0 ja4 jaP jaw jaI jaZ jaG jaS jan jaU jaE jar jaL jah jaB jaa jaz jaH jab ja2 z0_s jaq jai jaO jaA jat jau jav jaj jas jaJ jak jad jay jac : Value) (jbx jgg : Int32) (jbC : NI) (jcP jb8 jbh : Int32) (jil : NI) {Q : Int32 → Int32 → Int32 → NI → Prop} (hw : qQc jbx jgg jbC jcP jb8 jbh jil Q) : Met l yX11_readDebt wsX11_readDebt ({ frames := 3, cells := 0, slots := 0, locals := 67 }) (va_Pc [.ref a0] (cPc (dC, dI) (kT cyB cyI cyJ cyP) (qzr a0 jaX jaF jaD jbx jcP jb8 jbh jaY jap jaW jal jam jax jdO ja6 jaV ja8 jae jgg jaf ja0 ja4 jaP jaw jaI jaZ jaG jaS jan jaU jaE jar jaL jah jaB jaa jaz jaH jab ja2 z0_s jaq jai jaO jaA jat jau jav jaj jas jaJ jak jad jay jac jaW cyI jbC jdO cyI jil) sz)) (va_Qv (fun (u : Int32 × Int32 × Int32 × NI) => Q u.1 u.2.1 u.2.2.1 u.2.2.2) (cB (dC, dI) (kT cyB cyI cyJ cyP) (va_A (qzr a0 jaX jaF jaD jbx jcP jb8 jbh jaY jap jaW jal jam jax jdO ja6 jaV ja8 jae jgg jaf ja0 ja4 jaP jaw jaI jaZ jaG jaS jan jaU jaE jar jaL jah jaB jaa jaz jaH jab ja2 z0_s jaq jai jaO jaA jat jau jav jaj jas jaJ jak jad jay jac jaW cyI jbC jdO cyI jil) sz) (fun u : Int32 × Int32 × Int32 × NI => ((qzr a0 jaX jaF jaD jbx u.1 u.2.1 u.2.2.1 jaY jap jaW jal jam jax jdO ja6 jaV ja8 jae jgg jaf ja0 ja4 jaP jaw jaI jaZ jaG jaS jan jaU jaE jar jaL jah jaB jaa jaz jaH jab ja2 z0_s jaq jai jaO jaA jat jau jav jaj jas jaJ jak jad jay jac jaW cyI jbC jdO cyI u.2.2.2) : va_W))) (va_A (qzr a0 jaX jaF jaD jbx jcP jb8 jbh jaY jap jaW jal jam jax jdO ja6 jaV ja8 jae jgg jaf ja0 ja4 jaP jaw jaI jaZ jaG jaS jan jaU jaE jar jaL jah jaB jaa jaz jaH jab ja2 z0_s jaq jai jaO jaA jat jau jav jaj jas jaJ jak jad jay jac jaW cyI jbC jdO cyI jil) sz)) 0 0 (va_A (qzr a0 jaX jaF jaD jbx jcP jb8 jbh jaY jap jaW jal jam jax jdO ja6 jaV ja8 jae jgg jaf ja0 ja4 jaP jaw jaI jaZ jaG jaS jan jaU jaE jar jaL jah jaB jaa jaz jaH jab ja2 z0_s jaq jai jaO jaA jat jau jav jaj jas jaJ jak jad jay jac jaW cyI jbC jdO cyI jil) sz) := by
  refine Met.ofW (cc := cX11_readDebt) (maxL := 5) (ret := none) (by decide) rfl ?_
  intro p e s m args below meth c s₁ B hml hv
  obtain ⟨rfl, hsz, hP, hK, hD0, hNw⟩ := hv
  have hx := B.exec
  have hb := B.bytes
  have hr := B.returns
  have hts := atoms_spec (ws := wsX11_readDebt) B.pre
  have hown : s.vm.findClass RX11 = some m.cls := findClass_of_methodNamed B.named
  have hlocks := B.notSynchronized
  subst hsz
  have hD := hD0.self (sz := s.heap.size)
  generalize hAe : va_A (qzr a0 jaX jaF jaD jbx jcP jb8 jbh jaY jap jaW jal jam jax jdO ja6 jaV ja8 jae jgg jaf ja0 ja4 jaP jaw jaI jaZ jaG jaS jan jaU jaE jar jaL jah jaB jaa jaz jaH jab ja2 z0_s jaq jai jaO jaA jat jau jav jaj jas jaJ jak jad jay jac jaW cyI jbC jdO cyI jil) s.heap.size = A at hD ⊢
  have hA : ∀ q : Nat, s.heap.size ≤ q → A q := fun q h => by rw [← hAe]; exact Or.inr h
  have hS : va_S A s.heap s.heap [] := va_S.rf
  have hP : va_P (dC, dI) vwCl (qzr a0 jaX jaF jaD jbx jcP jb8 jbh jaY jap jaW jal jam jax jdO ja6 jaV ja8 jae jgg jaf ja0 ja4 jaP jaw jaI jaZ jaG jaS jan jaU jaE jar jaL jah jaB jaa jaz jaH jab ja2 z0_s jaq jai jaO jaA jat jau jav jaj jas jaJ jak jad jay jac jaW cyI jbC jdO cyI jil) s.heap := hP
  have hl := lv_entry ([.ref a0]) (n := 5) (nbq rfl)
  rw [lg_entry_eq]
  generalize (lg_sl ([.ref a0]) ++ List.replicate (5 - (lg_sl ([.ref a0])).length) Slot.unset).toArray = ls at hl ⊢
  have hl : lv_has ls 5 [(0, .ref a0)] := hl
  have C0 : cfx p s m _ meth c cX11_readDebt none wsX11_readDebt RX11 5 A (dC, dI) (kT cyB cyI cyJ cyP) := ⟨hx, hb, hr, hts, hown, hlocks, hml, hA, hK, hNw⟩
  clear hAe
  obtain ⟨H, hH⟩ : ∃ H, H = s.heap := ⟨_, rfl⟩
  rw [← hH] at hP ⊢
  have hS : va_S A s.heap H [] := by rw [hH]; exact va_S.rf
  have hS := hS
  refine lv_aload_n hx hb (qaa qdV 0 rfl) rfl (lv_at hl 0 rfl) ?_
  obtain ⟨hCc, hPc, hDc, hFc⟩ := qac (ws' := (q3k a0 jaX jaF jaD jbx jcP jb8 jbh jaY jap jaW jal jam jax jdO ja6 jaV ja8 jae jgg jaf ja0 ja4 jaP jaw jaI jaZ jaG jaS jan jaU jaE jar jaL jah jaB jaa jaz jaH jab ja2 z0_s jaq jai jaO jaA jat jau jav jaj jas jaJ jak jad jay jac jaW cyI jbC)) hP hD hS hA [0, 1] (by decide +kernel) rfl
  refine va_calli (va_runV (As := []) (rest := []) ⟨hx, hb, hml, hown, hts⟩ (q2q l dC dI cyB cyI cyJ cyP a0 jaW H.size (jaX) (jaF) (jaD) (jaY) (jap) (jal) (jam) (jax) (.ref jdO) (ja6) (jaV) (ja8) (jae) (jaf) (ja0) (ja4) (jaP) (jaw) (jaI) (jaZ) (jaG) (jaS) (jan) (jaU) (jaE) (jar) (jaL) (jah) (jaB) (jaa) (jaz) (jaH) (jab) (ja2) (z0_s) (jaq) (jai) (jaO) (jaA) (jat) (jau) (jav) (jaj) (jas) (jaJ) (jak) (jad) (jay) (jac) jbx jgg jbC jcP jb8 jbh hw) (cwV 0 hts gX11_readDebt_X11_readHare rfl rfl rfl (by decide +kernel) ⟨nbq rfl, nbq rfl⟩) ⟨qab, va_recv (q := (RX11, TX11, 55)) hK hPc (ci := 11) (q0 := 0) rfl rfl, qae hPc hK hDc hNw⟩ rfl rfl hl.1 rfl (lv_room (nbq rfl)) (qaa qdV 1 rfl) ⟨nbq rfl, nbq rfl⟩) hS (fun q _ h => hFc q h) hFc (fun r4 u t H1 locs ht hvm hw hB hz1 hk1 hS => ?_)
  obtain ⟨x1, x2, x3⟩ := u
  obtain ⟨hP1, hK1, hD1⟩ := hB
  rw [ht] at hP1
  obtain ⟨hP, hD⟩ := qad (wr := (qaR0 jdO cyI jil)) (w1 := (q3k a0 jaX jaF jaD jbx x1 x2 x3 jaY jap jaW jal jam jax jdO ja6 jaV ja8 jae jgg jaf ja0 ja4 jaP jaw jaI jaZ jaG jaS jan jaU jaE jar jaL jah jaB jaa jaz jaH jab ja2 z0_s jaq jai jaO jaA jat jau jav jaj jas jaJ jak jad jay jac jaW cyI jbC)) (wn := (qzr a0 jaX jaF jaD jbx x1 x2 x3 jaY jap jaW jal jam jax jdO ja6 jaV ja8 jae jgg jaf ja0 ja4 jaP jaw jaI jaZ jaG jaS jan jaU jaE jar jaL jah jaB jaa jaz jaH jab ja2 z0_s jaq jai jaO jaA jat jau jav jaj jas jaJ jak jad jay jac jaW cyI jbC jdO cyI jil)) hP hD [0, 1] [2] [1, 2, 0] hCc rfl (by decide +kernel) (by decide +kernel) (by decide +kernel) rfl hk1 hFc hP1 hD1
  generalize H1 = H at hP hS ⊢
  refine lv_istore_n (lv' := [(1, .int r4), (0, .ref a0)]) hx hb (qaa qdV 2 rfl) rfl hl (by decide) rfl (fun ls hl => ?_)
  refine lv_aload_n hx hb (qaa qdV 3 rfl) rfl (lv_at hl 1 rfl) ?_
  obtain ⟨hCc, hPc, hDc, hFc⟩ := qac (ws' := (q3k a0 jaX jaF jaD jbx x1 x2 x3 jaY jap jaW jal jam jax jdO ja6 jaV ja8 jae jgg jaf ja0 ja4 jaP jaw jaI jaZ jaG jaS jan jaU jaE jar jaL jah jaB jaa jaz jaH jab ja2 z0_s jaq jai jaO jaA jat jau jav jaj jas jaJ jak jad jay jac jaW cyI jbC)) hP hD hS hA [0, 1] (by decide +kernel) rfl
  refine va_calli (va_runV (As := []) (rest := []) ⟨hx, hb, hml, hown, hts⟩ (qeS l dC dI cyB cyI cyJ cyP a0 jaW H.size (jaX) (jaF) (jaD) (.int x2) (.int x3) (jaY) (jap) (jal) (jam) (jax) (.ref jdO) (ja6) (jaV) (ja8) (jae) (.int jgg) (jaf) (ja0) (ja4) (jaP) (jaw) (jaI) (jaZ) (jaG) (jaS) (jan) (jaU) (jaE) (jar) (jaL) (jah) (jaB) (jaa) (jaz) (jaH) (jab) (ja2) (z0_s) (jaq) (jai) (jaO) (jaA) (jat) (jau) (jav) (jaj) (jas) (jaJ) (jak) (jad) (jay) (jac) jbx jbC x1 hw) (cwV 0 hts gX11_readDebt_X11_here rfl rfl rfl (by decide +kernel) ⟨nbq rfl, nbq rfl⟩) ⟨qab, va_recv (q := (RX11, TX11, 55)) hK hPc (ci := 11) (q0 := 0) rfl rfl, qae hPc hK hDc hNw⟩ rfl rfl hl.1 rfl (lv_room (nbq rfl)) (qaa qdV 4 rfl) ⟨nbq rfl, nbq rfl⟩) hS (fun q _ h => hFc q h) hFc (fun r6 u t H1 locs ht hvm hw hB hz1 hk1 hS => ?_)
  obtain ⟨x5, rfl⟩ : ∃ z, z = u := ⟨_, rfl⟩
  obtain ⟨hP1, hK1, hD1⟩ := hB
  rw [ht] at hP1
  obtain ⟨hP, hD⟩ := qad (wr := (qaR0 jdO cyI jil)) (w1 := (q3k a0 jaX jaF jaD jbx x5 x2 x3 jaY jap jaW jal jam jax jdO ja6 jaV ja8 jae jgg jaf ja0 ja4 jaP jaw jaI jaZ jaG jaS jan jaU jaE jar jaL jah jaB jaa jaz jaH jab ja2 z0_s jaq jai jaO jaA jat jau jav jaj jas jaJ jak jad jay jac jaW cyI jbC)) (wn := (qzr a0 jaX jaF jaD jbx x5 x2 x3 jaY jap jaW jal jam jax jdO ja6 jaV ja8 jae jgg jaf ja0 ja4 jaP jaw jaI jaZ jaG jaS jan jaU jaE jar jaL jah jaB jaa jaz jaH jab ja2 z0_s jaq jai jaO jaA jat jau jav jaj jas jaJ jak jad jay jac jaW cyI jbC jdO cyI jil)) hP hD [0, 1] [2] [1, 2, 0] hCc rfl (by decide +kernel) (by decide +kernel) (by decide +kernel) rfl hk1 hFc hP1 hD1
  generalize H1 = H at hP hS ⊢
  refine lv_pop hx hb (qaa qdV 5 rfl) rfl ?_
  refine lv_aload_n hx hb (qaa qdV 6 rfl) rfl (lv_at hl 1 rfl) ?_
  refine va_get (D := (dC, dI)) (ci := 11) (v := .int x5) (C := RX11) (T := TX11) (N := 55) hx hb hts qQX hown hK hP 0 rfl rfl 4 (by decide) (hts _ q58) (fun _ h9 => h9) rfl (qaa qdV 7 rfl) ?_
  refine lv_istore_n (lv' := [(2, .int x5), (1, .int r4), (0, .ref a0)]) hx hb (qaa qdV 8 rfl) rfl hl (by decide) rfl (fun ls hl => ?_)
  refine lv_aload_n hx hb (qaa qdV 9 rfl) rfl (lv_at hl 2 rfl) ?_
  obtain ⟨hCc, hPc, hDc, hFc⟩ := qac (ws' := (q3k a0 jaX jaF jaD jbx x5 x2 x3 jaY jap jaW jal jam jax jdO ja6 jaV ja8 jae jgg jaf ja0 ja4 jaP jaw jaI jaZ jaG jaS jan jaU jaE jar jaL jah jaB jaa jaz jaH jab ja2 z0_s jaq jai jaO jaA jat jau jav jaj jas jaJ jak jad jay jac jaW cyI jbC)) hP hD hS hA [0, 1] (by decide +kernel) rfl
  refine va_calli (va_runV (As := []) (rest := []) ⟨hx, hb, hml, hown, hts⟩ (q2q l dC dI cyB cyI cyJ cyP a0 jaW H.size (jaX) (jaF) (jaD) (jaY) (jap) (jal) (jam) (jax) (.ref jdO) (ja6) (jaV) (ja8) (jae) (jaf) (ja0) (ja4) (jaP) (jaw) (jaI) (jaZ) (jaG) (jaS) (jan) (jaU) (jaE) (jar) (jaL) (jah) (jaB) (jaa) (jaz) (jaH) (jab) (ja2) (z0_s) (jaq) (jai) (jaO) (jaA) (jat) (jau) (jav) (jaj) (jas) (jaJ) (jak) (jad) (jay) (jac) jbx jgg jbC x5 x2 x3 hw) (cwV 0 hts gX11_readDebt_X11_readHare rfl rfl rfl (by decide +kernel) ⟨nbq rfl, nbq rfl⟩) ⟨qab, va_recv (q := (RX11, TX11, 55)) hK hPc (ci := 11) (q0 := 0) rfl rfl, qae hPc hK hDc hNw⟩ rfl rfl hl.1 rfl (lv_room (nbq rfl)) (qaa qdV 10 rfl) ⟨nbq rfl, nbq rfl⟩) hS (fun q _ h => hFc q h) hFc (fun r10 u t H1 locs ht hvm hw hB hz1 hk1 hS => ?_)
  obtain ⟨x7, x8, x9⟩ := u
  obtain ⟨hP1, hK1, hD1⟩ := hB
  rw [ht] at hP1
  obtain ⟨hP, hD⟩ := qad (wr := (qaR0 jdO cyI jil)) (w1 := (q3k a0 jaX jaF jaD jbx x7 x8 x9 jaY jap jaW jal jam jax jdO ja6 jaV ja8 jae jgg jaf ja0 ja4 jaP jaw jaI jaZ jaG jaS jan jaU jaE jar jaL jah jaB jaa jaz jaH jab ja2 z0_s jaq jai jaO jaA jat jau jav jaj jas jaJ jak jad jay jac jaW cyI jbC)) (wn := (qzr a0 jaX jaF jaD jbx x7 x8 x9 jaY jap jaW jal jam jax jdO ja6 jaV ja8 jae jgg jaf ja0 ja4 jaP jaw jaI jaZ jaG jaS jan jaU jaE jar jaL jah jaB jaa jaz jaH jab ja2 z0_s jaq jai jaO jaA jat jau jav jaj jas jaJ jak jad jay jac jaW cyI jbC jdO cyI jil)) hP hD [0, 1] [2] [1, 2, 0] hCc rfl (by decide +kernel) (by decide +kernel) (by decide +kernel) rfl hk1 hFc hP1 hD1
  generalize H1 = H at hP hS ⊢
  refine lv_istore_n (lv' := [(3, .int r10), (2, .int x5), (1, .int r4), (0, .ref a0)]) hx hb (qaa qdV 11 rfl) rfl hl (by decide) rfl (fun ls hl => ?_)
  refine lv_aload_n hx hb (qaa qdV 12 rfl) rfl (lv_at hl 3 rfl) ?_
  obtain ⟨hCc, hPc, hDc, hFc⟩ := qac (ws' := (qalZ a0 jaX jaF jaD jbx x7 x8 x9 jaY jap jaW jal jam jax jdO ja6 jaV ja8 jae jgg jaf ja0 ja4 jaP jaw jaI jaZ jaG jaS jan jaU jaE jar jaL jah jaB jaa jaz jaH jab ja2 z0_s jaq jai jaO jaA jat jau jav jaj jas jaJ jak jad jay jac)) hP hD hS hA [0] (by decide +kernel) rfl
  refine va_calli (va_runV (As := []) (rest := []) ⟨hx, hb, hml, hown, hts⟩ (qdP l dC dI cyB cyI cyJ cyP a0 H.size (jaX) (jaF) (jaD) (.int jbx) (.int x7) (.int x9) (jaY) (jap) (.ref jaW) (jal) (jam) (jax) (.ref jdO) (ja6) (jaV) (ja8) (jae) (.int jgg) (jaf) (ja0) (ja4) (jaP) (jaw) (jaI) (jaZ) (jaG) (jaS) (jan) (jaU) (jaE) (jar) (jaL) (jah) (jaB) (jaa) (jaz) (jaH) (jab) (ja2) (z0_s) (jaq) (jai) (jaO) (jaA) (jat) (jau) (jav) (jaj) (jas) (jaJ) (jak) (jad) (jay) (jac) x8 hw) (cwV 0 hts gX11_readDebt_X11_fine rfl rfl rfl (by decide +kernel) ⟨nbq rfl, nbq rfl⟩) ⟨qab, va_recv (q := (RX11, TX11, 55)) hK hPc (ci := 11) (q0 := 0) rfl rfl, qae hPc hK hDc hNw⟩ rfl rfl hl.1 rfl (lv_room (nbq rfl)) (qaa qdV 13 rfl) ⟨nbq rfl, nbq rfl⟩) hS (fun q _ h => hFc q h) hFc (fun r11 u t H1 locs ht hvm hw hB hz1 hk1 hS => ?_)
  obtain ⟨hP1, hK1, hD1⟩ := hB
  rw [ht] at hP1
  obtain ⟨hP, hD⟩ := qad (wr := (qa0e jaW cyI jbC jdO cyI jil)) (w1 := (qalZ a0 jaX jaF jaD jbx x7 x8 x9 jaY jap jaW jal jam jax jdO ja6 jaV ja8 jae jgg jaf ja0 ja4 jaP jaw jaI jaZ jaG jaS jan jaU jaE jar jaL jah jaB jaa jaz jaH jab ja2 z0_s jaq jai jaO jaA jat jau jav jaj jas jaJ jak jad jay jac)) (wn := (qzr a0 jaX jaF jaD jbx x7 x8 x9 jaY jap jaW jal jam jax jdO ja6 jaV ja8 jae jgg jaf ja0 ja4 jaP jaw jaI jaZ jaG jaS jan jaU jaE jar jaL jah jaB jaa jaz jaH jab ja2 z0_s jaq jai jaO jaA jat jau jav jaj jas jaJ jak jad jay jac jaW cyI jbC jdO cyI jil)) hP hD [0] [1, 2] [2, 0, 1] hCc rfl (by decide +kernel) (by decide +kernel) (by decide +kernel) rfl hk1 hFc hP1 hD1
  generalize H1 = H at hP hS ⊢
  refine lv_if_eq (tgt := 38) hx hb (qaa qdV 14 rfl) (by decide) (fun c12 => ?_) (fun c12 => ?_)
  · have hw := hw.1 c12
    exact qIj dC dI cyB cyI cyJ cyP a0 jaW jdO jaX jaF jaD jaY jap jal jam jax ja6 jaV ja8 jae jaf ja0 ja4 jaP jaw jaI jaZ jaG jaS jan jaU jaE jar jaL jah jaB jaa jaz jaH jab ja2 z0_s jaq jai jaO jaA jat jau jav jaj jas jaJ jak jad jay jac jbx jgg jbC Q C0 _ _ _ x7 x8 x9 jil r4 r10 hP hD hS (lv_sub hl [3, 2, 0] rfl) hw
  · have hw := hw.2 c12
    refine lv_iload_n hx hb (qaa qdV 15 rfl) rfl (lv_at hl 2 rfl) ?_
    refine lv_iload_n hx hb (qaa qdd 0 rfl) rfl (lv_at hl 0 rfl) ?_
    refine lv_icmp_ne (tgt := 38) hx hb (qaa qdd 1 rfl) (by decide) (fun c13 => ?_) (fun c13 => ?_)
    · have hw := hw.1 c13
      exact qIj dC dI cyB cyI cyJ cyP a0 jaW jdO jaX jaF jaD jaY jap jal jam jax ja6 jaV ja8 jae jaf ja0 ja4 jaP jaw jaI jaZ jaG jaS jan jaU jaE jar jaL jah jaB jaa jaz jaH jab ja2 z0_s jaq jai jaO jaA jat jau jav jaj jas jaJ jak jad jay jac jbx jgg jbC Q C0 _ _ _ x7 x8 x9 jil r4 r10 hP hD hS (lv_sub hl [3, 2, 0] rfl) hw
    · have hw := hw.2 c13
      refine lv_aload_n hx hb (qaa qdd 2 rfl) rfl (lv_at hl 3 rfl) ?_
      refine lv_iconst (v := 2) hx hb (qaa qdd 3 rfl) (by decide) ?_
      refine lv_iload_n hx hb (qaa qdd 4 rfl) rfl (lv_at hl 1 rfl) ?_
      obtain ⟨hCc, hPc, hDc, hFc⟩ := qac (ws' := (qalZ a0 jaX jaF jaD jbx x7 x8 x9 jaY jap jaW jal jam jax jdO ja6 jaV ja8 jae jgg jaf ja0 ja4 jaP jaw jaI jaZ jaG jaS jan jaU jaE jar jaL jah jaB jaa jaz jaH jab ja2 z0_s jaq jai jaO jaA jat jau jav jaj jas jaJ jak jad jay jac)) hP hD hS hA [0] (by decide +kernel) rfl
      refine va_callv (va_runV (As := [.int 2, .int x5]) (rest := []) ⟨hx, hb, hml, hown, hts⟩ (qrt l dC dI cyB cyI cyJ cyP a0 H.size (jaX) (jaF) (jaD) (.int jbx) (.int x7) (jaY) (jap) (.ref jaW) (jal) (jam) (jax) (.ref jdO) (ja6) (jaV) (ja8) (jae) (.int jgg) (jaf) (ja0) (ja4) (jaP) (jaw) (jaI) (jaZ) (jaG) (jaS) (jan) (jaU) (jaE) (jar) (jaL) (jah) (jaB) (jaa) (jaz) (jaH) (jab) (ja2) (z0_s) (jaq) (jai) (jaO) (jaA) (jat) (jau) (jav) (jaj) (jas) (jaJ) (jak) (jad) (jay) (jac) x8 x9 2 x5 hw) (cwV 2 hts gX11_readDebt_X11_wrong rfl rfl rfl (by decide +kernel) ⟨nbq rfl, nbq rfl⟩) ⟨qab, va_recv (q := (RX11, TX11, 55)) hK hPc (ci := 11) (q0 := 0) rfl rfl, qae hPc hK hDc hNw⟩ rfl rfl hl.1 rfl (lv_room (nbq rfl)) (qaa qdd 5 rfl) ⟨nbq rfl, nbq rfl⟩) hS (fun q _ h => hFc q h) hFc (fun u t H1 locs ht hvm hw hB hz1 hk1 hS => ?_)
      obtain ⟨x14, x15⟩ := u
      obtain ⟨hP1, hK1, hD1⟩ := hB
      rw [ht] at hP1
      obtain ⟨hP, hD⟩ := qad (wr := (qa0e jaW cyI jbC jdO cyI jil)) (w1 := (qalZ a0 jaX jaF jaD jbx x7 x14 x15 jaY jap jaW jal jam jax jdO ja6 jaV ja8 jae jgg jaf ja0 ja4 jaP jaw jaI jaZ jaG jaS jan jaU jaE jar jaL jah jaB jaa jaz jaH jab ja2 z0_s jaq jai jaO jaA jat jau jav jaj jas jaJ jak jad jay jac)) (wn := (qzr a0 jaX jaF jaD jbx x7 x14 x15 jaY jap jaW jal jam jax jdO ja6 jaV ja8 jae jgg jaf ja0 ja4 jaP jaw jaI jaZ jaG jaS jan jaU jaE jar jaL jah jaB jaa jaz jaH jab ja2 z0_s jaq jai jaO jaA jat jau jav jaj jas jaJ jak jad jay jac jaW cyI jbC jdO cyI jil)) hP hD [0] [1, 2] [2, 0, 1] hCc rfl (by decide +kernel) (by decide +kernel) (by decide +kernel) rfl hk1 hFc hP1 hD1
      generalize H1 = H at hP hS ⊢
      exact qIj dC dI cyB cyI cyJ cyP a0 jaW jdO jaX jaF jaD jaY jap jal jam jax ja6 jaV ja8 jae jaf ja0 ja4 jaP jaw jaI jaZ jaG jaS jan jaU jaE jar jaL jah jaB jaa jaz jaH jab ja2 z0_s jaq jai jaO jaA jat jau jav jaj jas jaJ jak jad jay jac jbx jgg jbC Q C0 _ _ _ x7 x14 x15 jil r4 r10 hP hD hS (lv_sub hl [3, 2, 0] rfl) hw
theorem qbT : ∀ w ∈ u_ws RX11 TX11 55, w ∈ wsX11_sets := uiM qm7 qfa (by decide +kernel)
theorem qaqi : (.fieldLink RX11 157 "MarchHaresModel" "newForms" "I" : Cond) ∈ wsX11_sets := qm7 512 (by decide +kernel)
theorem qatc : (.fieldLink RX11 160 "MarchHaresModel" "newHares" "I" : Cond) ∈ wsX11_sets := qm7 513 (by decide +kernel)
theorem qaqC : (.fieldLink RX11 163 "MarchHaresModel" "newFoxes" "I" : Cond) ∈ wsX11_sets := qm7 514 (by decide +kernel)
theorem qasK : (.fieldLink RX11 166 "MarchHaresModel" "forms" "I" : Cond) ∈ wsX11_sets := qm7 519 (by decide +kernel)
theorem qZq : (.fieldLink RX11 169 "MarchHaresModel" "hares" "I" : Cond) ∈ wsX11_sets := qm7 520 (by decide +kernel)
theorem qas1 : (.fieldLink RX11 172 "MarchHaresModel" "foxes" "I" : Cond) ∈ wsX11_sets := qm7 521 (by decide +kernel)
theorem qauG : (.fieldLink RX11 179 "MarchHaresModel" "codes" "I" : Cond) ∈ wsX11_sets := qm7 522 (by decide +kernel)
theorem qauQ : (.fieldLink RX11 182 "MarchHaresModel" "books" "I" : Cond) ∈ wsX11_sets := qm7 523 (by decide +kernel)
theorem qar1 : (.fieldLink RX11 185 "MarchHaresModel" "works" "I" : Cond) ∈ wsX11_sets := qm7 524 (by decide +kernel)
theorem qarS : (.fieldLink RX11 188 "MarchHaresModel" "images" "I" : Cond) ∈ wsX11_sets := qm7 525 (by decide +kernel)
theorem qap2 : (.fieldLink RX11 191 "MarchHaresModel" "refusedSteps" "I" : Cond) ∈ wsX11_sets := qm7 526 (by decide +kernel)
theorem qayd : (.fieldLink RX11 23 "MarchHaresModel" "newForm" "[I" : Cond) ∈ wsX11_sets := qm7 401 (by decide +kernel)
theorem qax4 : (.fieldLink RX11 26 "MarchHaresModel" "newHare" "[I" : Cond) ∈ wsX11_sets := qm7 402 (by decide +kernel)
theorem qaB6 : (.fieldLink RX11 29 "MarchHaresModel" "newFox" "[I" : Cond) ∈ wsX11_sets := qm7 403 (by decide +kernel)
theorem qaC7 : (.fieldLink RX11 32 "MarchHaresModel" "newDebt" "[I" : Cond) ∈ wsX11_sets := qm7 404 (by decide +kernel)
theorem qaCa : (.fieldLink RX11 35 "MarchHaresModel" "form" "[I" : Cond) ∈ wsX11_sets := qm7 405 (by decide +kernel)
theorem qPM : (.fieldLink RX11 38 "MarchHaresModel" "hare" "[I" : Cond) ∈ wsX11_sets := qm7 406 (by decide +kernel)
theorem qazo : (.fieldLink RX11 41 "MarchHaresModel" "fox" "[I" : Cond) ∈ wsX11_sets := qm7 407 (by decide +kernel)
theorem qBv : (.fieldLink RX11 68 "MarchHaresModel" "now" "[I" : Cond) ∈ wsX11_sets := qm7 456 (by decide +kernel)
theorem qazp : (.fieldLink RX11 80 "MarchHaresModel" "book" "[I" : Cond) ∈ wsX11_sets := qm7 460 (by decide +kernel)
set_option maxHeartbeats 4000000 in
set_option maxRecDepth 100000 in
theorem qaxd {p : Program} {l : Launch} {e : Env} {s : State} {m : MethodId} {args : Array Value} {below : List Frame} {meth : Method} {c : Code} {A : Nat → Prop} (dC : Nat → ClassId) (dI : Nat → Nat → Nat) (cyB cyI cyJ cyP : ClassId) (a0 jeS ja5 je5 jb9 jfR jbJ jdj jaT jdO : Nat) (jaX jaF jaD ja7 jby jbe jaM jaY jap jaK jaw jaI jaZ jaG jaS jan jaE jar jaL jah jaz jaH jab z0_s jaq jai jat jau jav jaj jas jaJ jak jad jay : Value) (jg7 jgg jg8 : Int32) (ji8 ji9 jjB jil : NI) (Q : Int32 → Int32 → Int32 → NI → NI → NI → Int32 → Int32 → Int32 → Int32 → Int32 → NI → NI → Prop) (C0 : cfx p s m args meth c cX11_sets none wsX11_sets RX11 2 A (dC, dI) (kT cyB cyI cyJ cyP)) : ∀ (n : Nat) (H : Heap) (locs : List Loc) (ls : Array Slot) (jaN jaC jbw : Int32) (jbv jdH jcy : NI) (jbD jh9 jhQ ji3 jcn : Int32) (jgv jb2 : NI) (l1 : Int32), va_P (dC, dI) vwCl (qhs a0 jaX jaF jaD ja7 jby jbe jaM jaY jap jaK jeS je5 jfR jdO ja5 jb9 jbJ jg7 jgg jg8 jaN jaC jbw jaw jaI jaZ jaG jaS jan jbD jaE jar jaL jah jhQ jcn jaz jaH jab jaT z0_s jaq jai jdj jh9 jat jau jav jaj jas jaJ jak jad jay ji3 jeS cyI ji8 ja5 cyI jbv je5 cyI ji9 jb9 cyI jdH jfR cyI jjB jbJ cyI jcy jdj cyI jgv jaT cyI jb2 jdO cyI jil) H → va_D A (qhs a0 jaX jaF jaD ja7 jby jbe jaM jaY jap jaK jeS je5 jfR jdO ja5 jb9 jbJ jg7 jgg jg8 jaN jaC jbw jaw jaI jaZ jaG jaS jan jbD jaE jar jaL jah jhQ jcn jaz jaH jab jaT z0_s jaq jai jdj jh9 jat jau jav jaj jas jaJ jak jad jay ji3 jeS cyI ji8 ja5 cyI jbv je5 cyI ji9 jb9 cyI jdH jfR cyI jjB jbJ cyI jcy jdj cyI jgv jaT cyI jb2 jdO cyI jil) → va_S A s.heap H locs → lv_has ls 2 [(0, .ref a0), (1, .int l1)] → qHw jg7 jgg jg8 ji8 ji9 jjB jil Q n jaN jaC jbw jbv jdH jcy jbD jh9 jhQ ji3 jcn jgv jb2 l1 → W p l e (headSpec wsX11_sets ({ frames := 1, cells := 0, slots := 0, locals := 24 })).room s m args below meth c H locs 0 0 (MQ below (va_Qv (fun (u : Int32 × Int32 × Int32 × NI × NI × NI × Int32 × Int32 × Int32 × Int32 × Int32 × NI × NI) => Q u.1 u.2.1 u.2.2.1 u.2.2.2.1 u.2.2.2.2.1 u.2.2.2.2.2.1 u.2.2.2.2.2.2.1 u.2.2.2.2.2.2.2.1 u.2.2.2.2.2.2.2.2.1 u.2.2.2.2.2.2.2.2.2.1 u.2.2.2.2.2.2.2.2.2.2.1 u.2.2.2.2.2.2.2.2.2.2.2.1 u.2.2.2.2.2.2.2.2.2.2.2.2) (cB (dC, dI) (kT cyB cyI cyJ cyP) A (fun u : Int32 × Int32 × Int32 × NI × NI × NI × Int32 × Int32 × Int32 × Int32 × Int32 × NI × NI => ((qhs a0 jaX jaF jaD ja7 jby jbe jaM jaY jap jaK jeS je5 jfR jdO ja5 jb9 jbJ jg7 jgg jg8 u.1 u.2.1 u.2.2.1 jaw jaI jaZ jaG jaS jan u.2.2.2.2.2.2.1 jaE jar jaL jah u.2.2.2.2.2.2.2.2.1 u.2.2.2.2.2.2.2.2.2.2.1 jaz jaH jab jaT z0_s jaq jai jdj u.2.2.2.2.2.2.2.1 jat jau jav jaj jas jaJ jak jad jay u.2.2.2.2.2.2.2.2.2.1 jeS cyI ji8 ja5 cyI u.2.2.2.1 je5 cyI ji9 jb9 cyI u.2.2.2.2.1 jfR cyI jjB jbJ cyI u.2.2.2.2.2.1 jdj cyI u.2.2.2.2.2.2.2.2.2.2.2.1 jaT cyI u.2.2.2.2.2.2.2.2.2.2.2.2 jdO cyI jil) : va_W))) A) args s 0 0 A) (F0 m 186 ls []) := by
  obtain ⟨hx, hb, hr, hts, hown, hlocks, hml, hA, hK, hNw⟩ := id C0
  intro n
  induction n with
  | zero => intro H locs ls jaN jaC jbw jbv jdH jcy jbD jh9 jhQ ji3 jcn jgv jb2 l1 hP hD hS hl hw; exact False.elim hw
  | succ n ih =>
    intro H locs ls jaN jaC jbw jbv jdH jcy jbD jh9 jhQ ji3 jcn jgv jb2 l1 hP hD hS hl hw
    refine lv_iload_n hx hb (qaa qhx 12 rfl) rfl (lv_at hl 1 rfl) ?_
    refine lv_bipush (v := 36) hx hb (qaa qhx 13 rfl) (by decide) ?_
    refine lv_icmp_ge (tgt := 213) hx hb (qaa qhx 14 rfl) (by decide) (fun c21 => ?_) (fun c21 => ?_)
    · have hw := hw.1 c21
      refine lv_aload_n hx hb (qaa qg9 11 rfl) rfl (lv_at hl 0 rfl) ?_
      refine va_get (D := (dC, dI)) (ci := 11) (v := .ref jaT) (C := RX11) (T := TX11) (N := 55) hx hb hts qbT hown hK hP 0 rfl rfl 39 (by decide) (hts _ qBv) (fun _ h9 => h9) rfl (qaa qg9 12 rfl) ?_
      refine lv_bipush (v := 66) hx hb (qaa qg9 13 rfl) (by decide) ?_
      refine lv_iconst (v := 1) hx hb (qaa qg9 14 rfl) (by decide) ?_
      refine va_iast hx hb hK hP hD hS 8 1 rfl rfl (vin (by decide)) (qaa qg9 15 rfl) (fun H locs hP hD hS => ?_)
      obtain ⟨f22, ef22⟩ : ∃ y : NI, y = upd jb2 (66 : Int32).toNatClampNeg 1 := ⟨_, rfl⟩
      have hw := hw f22 ef22
      have hP : va_P (dC, dI) vwCl (qhs a0 jaX jaF jaD ja7 jby jbe jaM jaY jap jaK jeS je5 jfR jdO ja5 jb9 jbJ jg7 jgg jg8 jaN jaC jbw jaw jaI jaZ jaG jaS jan jbD jaE jar jaL jah jhQ jcn jaz jaH jab jaT z0_s jaq jai jdj jh9 jat jau jav jaj jas jaJ jak jad jay ji3 jeS cyI ji8 ja5 cyI jbv je5 cyI ji9 jb9 cyI jdH jfR cyI jjB jbJ cyI jcy jdj cyI jgv jaT cyI f22 jdO cyI jil) H := by rw [ef22]; exact hP
      have hD : va_D A (qhs a0 jaX jaF jaD ja7 jby jbe jaM jaY jap jaK jeS je5 jfR jdO ja5 jb9 jbJ jg7 jgg jg8 jaN jaC jbw jaw jaI jaZ jaG jaS jan jbD jaE jar jaL jah jhQ jcn jaz jaH jab jaT z0_s jaq jai jdj jh9 jat jau jav jaj jas jaJ jak jad jay ji3 jeS cyI ji8 ja5 cyI jbv je5 cyI ji9 jb9 cyI jdH jfR cyI jjB jbJ cyI jcy jdj cyI jgv jaT cyI f22 jdO cyI jil) := by rw [ef22]; exact hD
      exact ((W.vret hx hb hr (fun t ht hW => ⟨⟨(jaN, jaC, jbw, jbv, jdH, jcy, jbD, jh9, jhQ, ji3, jcn, jgv, f22), rfl, hw, by rw [ht]; exact hP, va_K.moved hW.alike hK, hD⟩, hS.F ht⟩) hS.2.2 (qaa qaCB 0 rfl)))
    · have hw := hw.2 c21
      refine lv_aload_n hx hb (qaa qhx 15 rfl) rfl (lv_at hl 0 rfl) ?_
      refine va_get (D := (dC, dI)) (ci := 11) (v := .ref jaT) (C := RX11) (T := TX11) (N := 55) hx hb hts qbT hown hK hP 0 rfl rfl 39 (by decide) (hts _ qBv) (fun _ h9 => h9) rfl (qaa qg9 0 rfl) ?_
      refine lv_bipush (v := 30) hx hb (qaa qg9 1 rfl) (by decide) ?_
      refine lv_iload_n hx hb (qaa qg9 2 rfl) rfl (lv_at hl 1 rfl) ?_
      refine lv_iadd hx hb (qaa qg9 3 rfl) ?_
      refine lv_topi (fun x23 ex23 => ?_)
      have hw := hw x23 ex23
      refine lv_aload_n hx hb (qaa qg9 4 rfl) rfl (lv_at hl 0 rfl) ?_
      refine va_get (D := (dC, dI)) (ci := 11) (v := .ref jdO) (C := RX11) (T := TX11) (N := 55) hx hb hts qbT hown hK hP 0 rfl rfl 13 (by decide) (hts _ qaC7) (fun _ h9 => h9) rfl (qaa qg9 5 rfl) ?_
      refine lv_iload_n hx hb (qaa qg9 6 rfl) rfl (lv_at hl 1 rfl) ?_
      obtain ⟨hi9, hw⟩ := hw
      refine va_iald hx hb hK hP 9 1 rfl rfl hi9 (qaa qg9 7 rfl) ?_
      refine lv_topi (fun x24 ex24 => ?_)
      have hw := hw x24 ex24
      obtain ⟨hi9, hw⟩ := hw
      refine va_iast hx hb hK hP hD hS 8 1 rfl rfl hi9 (qaa qg9 8 rfl) (fun H locs hP hD hS => ?_)
      obtain ⟨f25, ef25⟩ : ∃ y : NI, y = upd jb2 x23.toNatClampNeg x24 := ⟨_, rfl⟩
      have hw := hw f25 ef25
      have hP : va_P (dC, dI) vwCl (qhs a0 jaX jaF jaD ja7 jby jbe jaM jaY jap jaK jeS je5 jfR jdO ja5 jb9 jbJ jg7 jgg jg8 jaN jaC jbw jaw jaI jaZ jaG jaS jan jbD jaE jar jaL jah jhQ jcn jaz jaH jab jaT z0_s jaq jai jdj jh9 jat jau jav jaj jas jaJ jak jad jay ji3 jeS cyI ji8 ja5 cyI jbv je5 cyI ji9 jb9 cyI jdH jfR cyI jjB jbJ cyI jcy jdj cyI jgv jaT cyI f25 jdO cyI jil) H := by rw [ef25]; exact hP
      have hD : va_D A (qhs a0 jaX jaF jaD ja7 jby jbe jaM jaY jap jaK jeS je5 jfR jdO ja5 jb9 jbJ jg7 jgg jg8 jaN jaC jbw jaw jaI jaZ jaG jaS jan jbD jaE jar jaL jah jhQ jcn jaz jaH jab jaT z0_s jaq jai jdj jh9 jat jau jav jaj jas jaJ jak jad jay ji3 jeS cyI ji8 ja5 cyI jbv je5 cyI ji9 jb9 cyI jdH jfR cyI jjB jbJ cyI jcy jdj cyI jgv jaT cyI f25 jdO cyI jil) := by rw [ef25]; exact hD
      obtain ⟨x26, ex26⟩ : ∃ y : Int32, y = l1 + 1 := ⟨_, rfl⟩
      have hw := hw x26 ex26
      refine lv_iinc (v := x26) (lv' := [(1, .int x26), (0, .ref a0)]) hx hb (qaa qg9 9 rfl) hl (k := 1) rfl (by rw [ex26]; rfl) (by decide) rfl (fun ls hl => ?_)
      refine lv_goto (tgt := 186) hx hb (qaa qg9 10 rfl) (by decide) ?_
      exact ih _ _ _ jaN jaC jbw jbv jdH jcy jbD jh9 jhQ ji3 jcn jgv f25 x26 hP hD hS (lv_sub hl [1, 0] rfl) hw
set_option maxHeartbeats 4000000 in
set_option maxRecDepth 100000 in
theorem qaxU {p : Program} {l : Launch} {e : Env} {s : State} {m : MethodId} {args : Array Value} {below : List Frame} {meth : Method} {c : Code} {A : Nat → Prop} (dC : Nat → ClassId) (dI : Nat → Nat → Nat) (cyB cyI cyJ cyP : ClassId) (a0 jeS ja5 je5 jb9 jfR jbJ jdj jaT jdO : Nat) (jaX jaF jaD ja7 jby jbe jaM jaY jap jaK jaw jaI jaZ jaG jaS jan jaE jar jaL jah jaz jaH jab z0_s jaq jai jat jau jav jaj jas jaJ jak jad jay : Value) (jg7 jgg jg8 : Int32) (ji8 ji9 jjB jil : NI) (Q : Int32 → Int32 → Int32 → NI → NI → NI → Int32 → Int32 → Int32 → Int32 → Int32 → NI → NI → Prop) (C0 : cfx p s m args meth c cX11_sets none wsX11_sets RX11 2 A (dC, dI) (kT cyB cyI cyJ cyP)) : ∀ (n : Nat) (H : Heap) (locs : List Loc) (ls : Array Slot) (jaN jaC jbw : Int32) (jbv jdH jcy : NI) (jbD jh9 jhQ ji3 jcn : Int32) (jgv jb2 : NI) (l1 : Int32), va_P (dC, dI) vwCl (qhs a0 jaX jaF jaD ja7 jby jbe jaM jaY jap jaK jeS je5 jfR jdO ja5 jb9 jbJ jg7 jgg jg8 jaN jaC jbw jaw jaI jaZ jaG jaS jan jbD jaE jar jaL jah jhQ jcn jaz jaH jab jaT z0_s jaq jai jdj jh9 jat jau jav jaj jas jaJ jak jad jay ji3 jeS cyI ji8 ja5 cyI jbv je5 cyI ji9 jb9 cyI jdH jfR cyI jjB jbJ cyI jcy jdj cyI jgv jaT cyI jb2 jdO cyI jil) H → va_D A (qhs a0 jaX jaF jaD ja7 jby jbe jaM jaY jap jaK jeS je5 jfR jdO ja5 jb9 jbJ jg7 jgg jg8 jaN jaC jbw jaw jaI jaZ jaG jaS jan jbD jaE jar jaL jah jhQ jcn jaz jaH jab jaT z0_s jaq jai jdj jh9 jat jau jav jaj jas jaJ jak jad jay ji3 jeS cyI ji8 ja5 cyI jbv je5 cyI ji9 jb9 cyI jdH jfR cyI jjB jbJ cyI jcy jdj cyI jgv jaT cyI jb2 jdO cyI jil) → va_S A s.heap H locs → lv_has ls 2 [(0, .ref a0), (1, .int l1)] → qHf jg7 jgg jg8 ji8 ji9 jjB jil Q n jaN jaC jbw jbv jdH jcy jbD jh9 jhQ ji3 jcn jgv jb2 l1 → W p l e (headSpec wsX11_sets ({ frames := 1, cells := 0, slots := 0, locals := 24 })).room s m args below meth c H locs 0 0 (MQ below (va_Qv (fun (u : Int32 × Int32 × Int32 × NI × NI × NI × Int32 × Int32 × Int32 × Int32 × Int32 × NI × NI) => Q u.1 u.2.1 u.2.2.1 u.2.2.2.1 u.2.2.2.2.1 u.2.2.2.2.2.1 u.2.2.2.2.2.2.1 u.2.2.2.2.2.2.2.1 u.2.2.2.2.2.2.2.2.1 u.2.2.2.2.2.2.2.2.2.1 u.2.2.2.2.2.2.2.2.2.2.1 u.2.2.2.2.2.2.2.2.2.2.2.1 u.2.2.2.2.2.2.2.2.2.2.2.2) (cB (dC, dI) (kT cyB cyI cyJ cyP) A (fun u : Int32 × Int32 × Int32 × NI × NI × NI × Int32 × Int32 × Int32 × Int32 × Int32 × NI × NI => ((qhs a0 jaX jaF jaD ja7 jby jbe jaM jaY jap jaK jeS je5 jfR jdO ja5 jb9 jbJ jg7 jgg jg8 u.1 u.2.1 u.2.2.1 jaw jaI jaZ jaG jaS jan u.2.2.2.2.2.2.1 jaE jar jaL jah u.2.2.2.2.2.2.2.2.1 u.2.2.2.2.2.2.2.2.2.2.1 jaz jaH jab jaT z0_s jaq jai jdj u.2.2.2.2.2.2.2.1 jat jau jav jaj jas jaJ jak jad jay u.2.2.2.2.2.2.2.2.2.1 jeS cyI ji8 ja5 cyI u.2.2.2.1 je5 cyI ji9 jb9 cyI u.2.2.2.2.1 jfR cyI jjB jbJ cyI u.2.2.2.2.2.1 jdj cyI u.2.2.2.2.2.2.2.2.2.2.2.1 jaT cyI u.2.2.2.2.2.2.2.2.2.2.2.2 jdO cyI jil) : va_W))) A) args s 0 0 A) (F0 m 135 ls []) := by
  obtain ⟨hx, hb, hr, hts, hown, hlocks, hml, hA, hK, hNw⟩ := id C0
  intro n
  induction n with
  | zero => intro H locs ls jaN jaC jbw jbv jdH jcy jbD jh9 jhQ ji3 jcn jgv jb2 l1 hP hD hS hl hw; exact False.elim hw
  | succ n ih =>
    intro H locs ls jaN jaC jbw jbv jdH jcy jbD jh9 jhQ ji3 jcn jgv jb2 l1 hP hD hS hl hw
    refine lv_iload_n hx hb (qaa qhM 10 rfl) rfl (lv_at hl 1 rfl) ?_
    refine lv_aload_n hx hb (qaa qhM 11 rfl) rfl (lv_at hl 0 rfl) ?_
    refine va_get (D := (dC, dI)) (ci := 11) (v := .int jaC) (C := RX11) (T := TX11) (N := 55) hx hb hts qbT hown hK hP 0 rfl rfl 21 (by decide) (hts _ qZq) (fun _ h9 => h9) rfl (qaa qhM 12 rfl) ?_
    refine lv_icmp_ge (tgt := 184) hx hb (qaa qhM 13 rfl) (by decide) (fun c10 => ?_) (fun c10 => ?_)
    · have hw := hw.1 c10
      refine lv_iconst (v := 0) hx hb (qaa qhx 10 rfl) (by decide) ?_
      refine lv_istore_n (lv' := [(1, .int 0), (0, .ref a0)]) hx hb (qaa qhx 11 rfl) rfl hl (by decide) rfl (fun ls hl => ?_)
      obtain ⟨n9, hw⟩ := hw
      exact qaxd dC dI cyB cyI cyJ cyP a0 jeS ja5 je5 jb9 jfR jbJ jdj jaT jdO jaX jaF jaD ja7 jby jbe jaM jaY jap jaK jaw jaI jaZ jaG jaS jan jaE jar jaL jah jaz jaH jab z0_s jaq jai jat jau jav jaj jas jaJ jak jad jay jg7 jgg jg8 ji8 ji9 jjB jil Q C0 n9 _ _ _ jaN jaC jbw jbv jdH jcy jbD jh9 jhQ ji3 jcn jgv jb2 0 hP hD hS (lv_sub hl [1, 0] rfl) hw
    · have hw := hw.2 c10
      refine lv_aload_n hx hb (qaa qhM 14 rfl) rfl (lv_at hl 0 rfl) ?_
      refine va_get (D := (dC, dI)) (ci := 11) (v := .ref jaT) (C := RX11) (T := TX11) (N := 55) hx hb hts qbT hown hK hP 0 rfl rfl 39 (by decide) (hts _ qBv) (fun _ h9 => h9) rfl (qaa qhM 15 rfl) ?_
      refine lv_iconst (v := 0) hx hb (qaa qhy 0 rfl) (by decide) ?_
      refine lv_iload_n hx hb (qaa qhy 1 rfl) rfl (lv_at hl 1 rfl) ?_
      refine lv_iadd hx hb (qaa qhy 2 rfl) ?_
      refine lv_topi (fun x11 ex11 => ?_)
      have hw := hw x11 ex11
      refine lv_aload_n hx hb (qaa qhy 3 rfl) rfl (lv_at hl 0 rfl) ?_
      refine va_get (D := (dC, dI)) (ci := 11) (v := .ref jb9) (C := RX11) (T := TX11) (N := 55) hx hb hts qbT hown hK hP 0 rfl rfl 15 (by decide) (hts _ qPM) (fun _ h9 => h9) rfl (qaa qhy 4 rfl) ?_
      refine lv_iconst (v := 2) hx hb (qaa qhy 5 rfl) (by decide) ?_
      refine lv_iload_n hx hb (qaa qhy 6 rfl) rfl (lv_at hl 1 rfl) ?_
      refine lv_imul hx hb (qaa qhy 7 rfl) ?_
      refine lv_topi (fun x12 ex12 => ?_)
      have hw := hw x12 ex12
      obtain ⟨hi9, hw⟩ := hw
      refine va_iald hx hb hK hP 4 1 rfl rfl hi9 (qaa qhy 8 rfl) ?_
      refine lv_topi (fun x13 ex13 => ?_)
      have hw := hw x13 ex13
      obtain ⟨hi9, hw⟩ := hw
      refine va_iast hx hb hK hP hD hS 8 1 rfl rfl hi9 (qaa qhy 9 rfl) (fun H locs hP hD hS => ?_)
      obtain ⟨f14, ef14⟩ : ∃ y : NI, y = upd jb2 x11.toNatClampNeg x13 := ⟨_, rfl⟩
      have hw := hw f14 ef14
      have hP : va_P (dC, dI) vwCl (qhs a0 jaX jaF jaD ja7 jby jbe jaM jaY jap jaK jeS je5 jfR jdO ja5 jb9 jbJ jg7 jgg jg8 jaN jaC jbw jaw jaI jaZ jaG jaS jan jbD jaE jar jaL jah jhQ jcn jaz jaH jab jaT z0_s jaq jai jdj jh9 jat jau jav jaj jas jaJ jak jad jay ji3 jeS cyI ji8 ja5 cyI jbv je5 cyI ji9 jb9 cyI jdH jfR cyI jjB jbJ cyI jcy jdj cyI jgv jaT cyI f14 jdO cyI jil) H := by rw [ef14]; exact hP
      have hD : va_D A (qhs a0 jaX jaF jaD ja7 jby jbe jaM jaY jap jaK jeS je5 jfR jdO ja5 jb9 jbJ jg7 jgg jg8 jaN jaC jbw jaw jaI jaZ jaG jaS jan jbD jaE jar jaL jah jhQ jcn jaz jaH jab jaT z0_s jaq jai jdj jh9 jat jau jav jaj jas jaJ jak jad jay ji3 jeS cyI ji8 ja5 cyI jbv je5 cyI ji9 jb9 cyI jdH jfR cyI jjB jbJ cyI jcy jdj cyI jgv jaT cyI f14 jdO cyI jil) := by rw [ef14]; exact hD
      refine lv_aload_n hx hb (qaa qhy 10 rfl) rfl (lv_at hl 0 rfl) ?_
      refine va_get (D := (dC, dI)) (ci := 11) (v := .ref jaT) (C := RX11) (T := TX11) (N := 55) hx hb hts qbT hown hK hP 0 rfl rfl 39 (by decide) (hts _ qBv) (fun _ h9 => h9) rfl (qaa qhy 11 rfl) ?_
      refine lv_bipush (v := 6) hx hb (qaa qhy 12 rfl) (by decide) ?_
      refine lv_iload_n hx hb (qaa qhy 13 rfl) rfl (lv_at hl 1 rfl) ?_
      refine lv_iadd hx hb (qaa qhy 14 rfl) ?_
      refine lv_topi (fun x15 ex15 => ?_)
      have hw := hw x15 ex15
      refine lv_aload_n hx hb (qaa qhy 15 rfl) rfl (lv_at hl 0 rfl) ?_
      refine va_get (D := (dC, dI)) (ci := 11) (v := .ref jb9) (C := RX11) (T := TX11) (N := 55) hx hb hts qbT hown hK hP 0 rfl rfl 15 (by decide) (hts _ qPM) (fun _ h9 => h9) rfl (qaa qhx 0 rfl) ?_
      refine lv_iconst (v := 2) hx hb (qaa qhx 1 rfl) (by decide) ?_
      refine lv_iload_n hx hb (qaa qhx 2 rfl) rfl (lv_at hl 1 rfl) ?_
      refine lv_imul hx hb (qaa qhx 3 rfl) ?_
      refine lv_topi (fun x16 ex16 => ?_)
      have hw := hw x16 ex16
      refine lv_iconst (v := 1) hx hb (qaa qhx 4 rfl) (by decide) ?_
      refine lv_iadd hx hb (qaa qhx 5 rfl) ?_
      refine lv_topi (fun x17 ex17 => ?_)
      have hw := hw x17 ex17
      obtain ⟨hi9, hw⟩ := hw
      refine va_iald hx hb hK hP 4 1 rfl rfl hi9 (qaa qhx 6 rfl) ?_
      refine lv_topi (fun x18 ex18 => ?_)
      have hw := hw x18 ex18
      obtain ⟨hi9, hw⟩ := hw
      refine va_iast hx hb hK hP hD hS 8 1 rfl rfl hi9 (qaa qhx 7 rfl) (fun H locs hP hD hS => ?_)
      obtain ⟨f19, ef19⟩ : ∃ y : NI, y = upd f14 x15.toNatClampNeg x18 := ⟨_, rfl⟩
      have hw := hw f19 ef19
      have hP : va_P (dC, dI) vwCl (qhs a0 jaX jaF jaD ja7 jby jbe jaM jaY jap jaK jeS je5 jfR jdO ja5 jb9 jbJ jg7 jgg jg8 jaN jaC jbw jaw jaI jaZ jaG jaS jan jbD jaE jar jaL jah jhQ jcn jaz jaH jab jaT z0_s jaq jai jdj jh9 jat jau jav jaj jas jaJ jak jad jay ji3 jeS cyI ji8 ja5 cyI jbv je5 cyI ji9 jb9 cyI jdH jfR cyI jjB jbJ cyI jcy jdj cyI jgv jaT cyI f19 jdO cyI jil) H := by rw [ef19]; exact hP
      have hD : va_D A (qhs a0 jaX jaF jaD ja7 jby jbe jaM jaY jap jaK jeS je5 jfR jdO ja5 jb9 jbJ jg7 jgg jg8 jaN jaC jbw jaw jaI jaZ jaG jaS jan jbD jaE jar jaL jah jhQ jcn jaz jaH jab jaT z0_s jaq jai jdj jh9 jat jau jav jaj jas jaJ jak jad jay ji3 jeS cyI ji8 ja5 cyI jbv je5 cyI ji9 jb9 cyI jdH jfR cyI jjB jbJ cyI jcy jdj cyI jgv jaT cyI f19 jdO cyI jil) := by rw [ef19]; exact hD
      obtain ⟨x20, ex20⟩ : ∃ y : Int32, y = l1 + 1 := ⟨_, rfl⟩
      have hw := hw x20 ex20
      refine lv_iinc (v := x20) (lv' := [(1, .int x20), (0, .ref a0)]) hx hb (qaa qhx 8 rfl) hl (k := 1) rfl (by rw [ex20]; rfl) (by decide) rfl (fun ls hl => ?_)
      refine lv_goto (tgt := 135) hx hb (qaa qhx 9 rfl) (by decide) ?_
      exact ih _ _ _ jaN jaC jbw jbv jdH jcy jbD jh9 jhQ ji3 jcn jgv f19 x20 hP hD hS (lv_sub hl [1, 0] rfl) hw
set_option maxHeartbeats 4000000 in
set_option maxRecDepth 100000 in
theorem qav5 {p : Program} {l : Launch} {e : Env} {s : State} {m : MethodId} {args : Array Value} {below : List Frame} {meth : Method} {c : Code} {A : Nat → Prop} (dC : Nat → ClassId) (dI : Nat → Nat → Nat) (cyB cyI cyJ cyP : ClassId) (a0 jeS ja5 je5 jb9 jfR jbJ jdj jaT jdO : Nat) (jaX jaF jaD ja7 jby jbe jaM jaY jap jaK jaw jaI jaZ jaG jaS jan jaE jar jaL jah jaz jaH jab z0_s jaq jai jat jau jav jaj jas jaJ jak jad jay : Value) (jg7 jgg jg8 : Int32) (ji8 ji9 jjB jil : NI) (Q : Int32 → Int32 → Int32 → NI → NI → NI → Int32 → Int32 → Int32 → Int32 → Int32 → NI → NI → Prop) (C0 : cfx p s m args meth c cX11_sets none wsX11_sets RX11 2 A (dC, dI) (kT cyB cyI cyJ cyP)) : ∀ (n : Nat) (H : Heap) (locs : List Loc) (ls : Array Slot) (jaN jaC jbw : Int32) (jbv jdH jcy : NI) (jbD jh9 jhQ ji3 jcn : Int32) (jgv jb2 : NI) (l1 : Int32), va_P (dC, dI) vwCl (qhs a0 jaX jaF jaD ja7 jby jbe jaM jaY jap jaK jeS je5 jfR jdO ja5 jb9 jbJ jg7 jgg jg8 jaN jaC jbw jaw jaI jaZ jaG jaS jan jbD jaE jar jaL jah jhQ jcn jaz jaH jab jaT z0_s jaq jai jdj jh9 jat jau jav jaj jas jaJ jak jad jay ji3 jeS cyI ji8 ja5 cyI jbv je5 cyI ji9 jb9 cyI jdH jfR cyI jjB jbJ cyI jcy jdj cyI jgv jaT cyI jb2 jdO cyI jil) H → va_D A (qhs a0 jaX jaF jaD ja7 jby jbe jaM jaY jap jaK jeS je5 jfR jdO ja5 jb9 jbJ jg7 jgg jg8 jaN jaC jbw jaw jaI jaZ jaG jaS jan jbD jaE jar jaL jah jhQ jcn jaz jaH jab jaT z0_s jaq jai jdj jh9 jat jau jav jaj jas jaJ jak jad jay ji3 jeS cyI ji8 ja5 cyI jbv je5 cyI ji9 jb9 cyI jdH jfR cyI jjB jbJ cyI jcy jdj cyI jgv jaT cyI jb2 jdO cyI jil) → va_S A s.heap H locs → lv_has ls 2 [(0, .ref a0), (1, .int l1)] → qGS jg7 jgg jg8 ji8 ji9 jjB jil Q n jaN jaC jbw jbv jdH jcy jbD jh9 jhQ ji3 jcn jgv jb2 l1 → W p l e (headSpec wsX11_sets ({ frames := 1, cells := 0, slots := 0, locals := 24 })).room s m args below meth c H locs 0 0 (MQ below (va_Qv (fun (u : Int32 × Int32 × Int32 × NI × NI × NI × Int32 × Int32 × Int32 × Int32 × Int32 × NI × NI) => Q u.1 u.2.1 u.2.2.1 u.2.2.2.1 u.2.2.2.2.1 u.2.2.2.2.2.1 u.2.2.2.2.2.2.1 u.2.2.2.2.2.2.2.1 u.2.2.2.2.2.2.2.2.1 u.2.2.2.2.2.2.2.2.2.1 u.2.2.2.2.2.2.2.2.2.2.1 u.2.2.2.2.2.2.2.2.2.2.2.1 u.2.2.2.2.2.2.2.2.2.2.2.2) (cB (dC, dI) (kT cyB cyI cyJ cyP) A (fun u : Int32 × Int32 × Int32 × NI × NI × NI × Int32 × Int32 × Int32 × Int32 × Int32 × NI × NI => ((qhs a0 jaX jaF jaD ja7 jby jbe jaM jaY jap jaK jeS je5 jfR jdO ja5 jb9 jbJ jg7 jgg jg8 u.1 u.2.1 u.2.2.1 jaw jaI jaZ jaG jaS jan u.2.2.2.2.2.2.1 jaE jar jaL jah u.2.2.2.2.2.2.2.2.1 u.2.2.2.2.2.2.2.2.2.2.1 jaz jaH jab jaT z0_s jaq jai jdj u.2.2.2.2.2.2.2.1 jat jau jav jaj jas jaJ jak jad jay u.2.2.2.2.2.2.2.2.2.1 jeS cyI ji8 ja5 cyI u.2.2.2.1 je5 cyI ji9 jb9 cyI u.2.2.2.2.1 jfR cyI jjB jbJ cyI u.2.2.2.2.2.1 jdj cyI u.2.2.2.2.2.2.2.2.2.2.2.1 jaT cyI u.2.2.2.2.2.2.2.2.2.2.2.2 jdO cyI jil) : va_W))) A) args s 0 0 A) (F0 m 114 ls []) := by
  obtain ⟨hx, hb, hr, hts, hown, hlocks, hml, hA, hK, hNw⟩ := id C0
  intro n
  induction n with
  | zero => intro H locs ls jaN jaC jbw jbv jdH jcy jbD jh9 jhQ ji3 jcn jgv jb2 l1 hP hD hS hl hw; exact False.elim hw
  | succ n ih =>
    intro H locs ls jaN jaC jbw jbv jdH jcy jbD jh9 jhQ ji3 jcn jgv jb2 l1 hP hD hS hl hw
    refine lv_iload_n hx hb (qaa qky 14 rfl) rfl (lv_at hl 1 rfl) ?_
    refine lv_bipush (v := 68) hx hb (qaa qky 15 rfl) (by decide) ?_
    refine lv_icmp_ge (tgt := 133) hx hb (qaa qhM 0 rfl) (by decide) (fun c7 => ?_) (fun c7 => ?_)
    · have hw := hw.1 c7
      refine lv_iconst (v := 0) hx hb (qaa qhM 8 rfl) (by decide) ?_
      refine lv_istore_n (lv' := [(1, .int 0), (0, .ref a0)]) hx hb (qaa qhM 9 rfl) rfl hl (by decide) rfl (fun ls hl => ?_)
      obtain ⟨n9, hw⟩ := hw
      exact qaxU dC dI cyB cyI cyJ cyP a0 jeS ja5 je5 jb9 jfR jbJ jdj jaT jdO jaX jaF jaD ja7 jby jbe jaM jaY jap jaK jaw jaI jaZ jaG jaS jan jaE jar jaL jah jaz jaH jab z0_s jaq jai jat jau jav jaj jas jaJ jak jad jay jg7 jgg jg8 ji8 ji9 jjB jil Q C0 n9 _ _ _ jaN jaC jbw jbv jdH jcy jbD jh9 jhQ ji3 jcn jgv jb2 0 hP hD hS (lv_sub hl [1, 0] rfl) hw
    · have hw := hw.2 c7
      refine lv_aload_n hx hb (qaa qhM 1 rfl) rfl (lv_at hl 0 rfl) ?_
      refine va_get (D := (dC, dI)) (ci := 11) (v := .ref jaT) (C := RX11) (T := TX11) (N := 55) hx hb hts qbT hown hK hP 0 rfl rfl 39 (by decide) (hts _ qBv) (fun _ h9 => h9) rfl (qaa qhM 2 rfl) ?_
      refine lv_iload_n hx hb (qaa qhM 3 rfl) rfl (lv_at hl 1 rfl) ?_
      refine lv_iconst (v := 0) hx hb (qaa qhM 4 rfl) (by decide) ?_
      obtain ⟨hi9, hw⟩ := hw
      refine va_iast hx hb hK hP hD hS 8 1 rfl rfl hi9 (qaa qhM 5 rfl) (fun H locs hP hD hS => ?_)
      obtain ⟨f8, ef8⟩ : ∃ y : NI, y = upd jb2 l1.toNatClampNeg 0 := ⟨_, rfl⟩
      have hw := hw f8 ef8
      have hP : va_P (dC, dI) vwCl (qhs a0 jaX jaF jaD ja7 jby jbe jaM jaY jap jaK jeS je5 jfR jdO ja5 jb9 jbJ jg7 jgg jg8 jaN jaC jbw jaw jaI jaZ jaG jaS jan jbD jaE jar jaL jah jhQ jcn jaz jaH jab jaT z0_s jaq jai jdj jh9 jat jau jav jaj jas jaJ jak jad jay ji3 jeS cyI ji8 ja5 cyI jbv je5 cyI ji9 jb9 cyI jdH jfR cyI jjB jbJ cyI jcy jdj cyI jgv jaT cyI f8 jdO cyI jil) H := by rw [ef8]; exact hP
      have hD : va_D A (qhs a0 jaX jaF jaD ja7 jby jbe jaM jaY jap jaK jeS je5 jfR jdO ja5 jb9 jbJ jg7 jgg jg8 jaN jaC jbw jaw jaI jaZ jaG jaS jan jbD jaE jar jaL jah jhQ jcn jaz jaH jab jaT z0_s jaq jai jdj jh9 jat jau jav jaj jas jaJ jak jad jay ji3 jeS cyI ji8 ja5 cyI jbv je5 cyI ji9 jb9 cyI jdH jfR cyI jjB jbJ cyI jcy jdj cyI jgv jaT cyI f8 jdO cyI jil) := by rw [ef8]; exact hD
      obtain ⟨x9, ex9⟩ : ∃ y : Int32, y = l1 + 1 := ⟨_, rfl⟩
      have hw := hw x9 ex9
      refine lv_iinc (v := x9) (lv' := [(1, .int x9), (0, .ref a0)]) hx hb (qaa qhM 6 rfl) hl (k := 1) rfl (by rw [ex9]; rfl) (by decide) rfl (fun ls hl => ?_)
      refine lv_goto (tgt := 114) hx hb (qaa qhM 7 rfl) (by decide) ?_
      exact ih _ _ _ jaN jaC jbw jbv jdH jcy jbD jh9 jhQ ji3 jcn jgv f8 x9 hP hD hS (lv_sub hl [1, 0] rfl) hw
set_option maxHeartbeats 4000000 in
set_option maxRecDepth 100000 in
theorem qaIZ {p : Program} {l : Launch} {e : Env} {s : State} {m : MethodId} {args : Array Value} {below : List Frame} {meth : Method} {c : Code} {A : Nat → Prop} (dC : Nat → ClassId) (dI : Nat → Nat → Nat) (cyB cyI cyJ cyP : ClassId) (a0 jeS ja5 je5 jb9 jfR jbJ jdj jaT jdO : Nat) (jaX jaF jaD ja7 jby jbe jaM jaY jap jaK jaw jaI jaZ jaG jaS jan jaE jar jaL jah jaz jaH jab z0_s jaq jai jat jau jav jaj jas jaJ jak jad jay : Value) (jg7 jgg jg8 : Int32) (ji8 ji9 jjB jil : NI) (Q : Int32 → Int32 → Int32 → NI → NI → NI → Int32 → Int32 → Int32 → Int32 → Int32 → NI → NI → Prop) (C0 : cfx p s m args meth c cX11_sets none wsX11_sets RX11 2 A (dC, dI) (kT cyB cyI cyJ cyP)) : ∀ (n : Nat) (H : Heap) (locs : List Loc) (ls : Array Slot) (jaN jaC jbw : Int32) (jbv jdH jcy : NI) (jbD jh9 jhQ ji3 jcn : Int32) (jgv jb2 : NI) (l1 : Int32), va_P (dC, dI) vwCl (qhs a0 jaX jaF jaD ja7 jby jbe jaM jaY jap jaK jeS je5 jfR jdO ja5 jb9 jbJ jg7 jgg jg8 jaN jaC jbw jaw jaI jaZ jaG jaS jan jbD jaE jar jaL jah jhQ jcn jaz jaH jab jaT z0_s jaq jai jdj jh9 jat jau jav jaj jas jaJ jak jad jay ji3 jeS cyI ji8 ja5 cyI jbv je5 cyI ji9 jb9 cyI jdH jfR cyI jjB jbJ cyI jcy jdj cyI jgv jaT cyI jb2 jdO cyI jil) H → va_D A (qhs a0 jaX jaF jaD ja7 jby jbe jaM jaY jap jaK jeS je5 jfR jdO ja5 jb9 jbJ jg7 jgg jg8 jaN jaC jbw jaw jaI jaZ jaG jaS jan jbD jaE jar jaL jah jhQ jcn jaz jaH jab jaT z0_s jaq jai jdj jh9 jat jau jav jaj jas jaJ jak jad jay ji3 jeS cyI ji8 ja5 cyI jbv je5 cyI ji9 jb9 cyI jdH jfR cyI jjB jbJ cyI jcy jdj cyI jgv jaT cyI jb2 jdO cyI jil) → va_S A s.heap H locs → lv_has ls 2 [(0, .ref a0), (1, .int l1)] → qKU jg7 jgg jg8 ji8 ji9 jjB jil Q n jaN jaC jbw jbv jdH jcy jbD jh9 jhQ ji3 jcn jgv jb2 l1 → W p l e (headSpec wsX11_sets ({ frames := 1, cells := 0, slots := 0, locals := 24 })).room s m args below meth c H locs 0 0 (MQ below (va_Qv (fun (u : Int32 × Int32 × Int32 × NI × NI × NI × Int32 × Int32 × Int32 × Int32 × Int32 × NI × NI) => Q u.1 u.2.1 u.2.2.1 u.2.2.2.1 u.2.2.2.2.1 u.2.2.2.2.2.1 u.2.2.2.2.2.2.1 u.2.2.2.2.2.2.2.1 u.2.2.2.2.2.2.2.2.1 u.2.2.2.2.2.2.2.2.2.1 u.2.2.2.2.2.2.2.2.2.2.1 u.2.2.2.2.2.2.2.2.2.2.2.1 u.2.2.2.2.2.2.2.2.2.2.2.2) (cB (dC, dI) (kT cyB cyI cyJ cyP) A (fun u : Int32 × Int32 × Int32 × NI × NI × NI × Int32 × Int32 × Int32 × Int32 × Int32 × NI × NI => ((qhs a0 jaX jaF jaD ja7 jby jbe jaM jaY jap jaK jeS je5 jfR jdO ja5 jb9 jbJ jg7 jgg jg8 u.1 u.2.1 u.2.2.1 jaw jaI jaZ jaG jaS jan u.2.2.2.2.2.2.1 jaE jar jaL jah u.2.2.2.2.2.2.2.2.1 u.2.2.2.2.2.2.2.2.2.2.1 jaz jaH jab jaT z0_s jaq jai jdj u.2.2.2.2.2.2.2.1 jat jau jav jaj jas jaJ jak jad jay u.2.2.2.2.2.2.2.2.2.1 jeS cyI ji8 ja5 cyI u.2.2.2.1 je5 cyI ji9 jb9 cyI u.2.2.2.2.1 jfR cyI jjB jbJ cyI u.2.2.2.2.2.1 jdj cyI u.2.2.2.2.2.2.2.2.2.2.2.1 jaT cyI u.2.2.2.2.2.2.2.2.2.2.2.2 jdO cyI jil) : va_W))) A) args s 0 0 A) (F0 m 93 ls []) := by
  obtain ⟨hx, hb, hr, hts, hown, hlocks, hml, hA, hK, hNw⟩ := id C0
  intro n
  induction n with
  | zero => intro H locs ls jaN jaC jbw jbv jdH jcy jbD jh9 jhQ ji3 jcn jgv jb2 l1 hP hD hS hl hw; exact False.elim hw
  | succ n ih =>
    intro H locs ls jaN jaC jbw jbv jdH jcy jbD jh9 jhQ ji3 jcn jgv jb2 l1 hP hD hS hl hw
    refine lv_iload_n hx hb (qaa qky 2 rfl) rfl (lv_at hl 1 rfl) ?_
    refine lv_bipush (v := 8) hx hb (qaa qky 3 rfl) (by decide) ?_
    refine lv_icmp_ge (tgt := 112) hx hb (qaa qky 4 rfl) (by decide) (fun c4 => ?_) (fun c4 => ?_)
    · have hw := hw.1 c4
      refine lv_iconst (v := 0) hx hb (qaa qky 12 rfl) (by decide) ?_
      refine lv_istore_n (lv' := [(1, .int 0), (0, .ref a0)]) hx hb (qaa qky 13 rfl) rfl hl (by decide) rfl (fun ls hl => ?_)
      obtain ⟨n9, hw⟩ := hw
      exact qav5 dC dI cyB cyI cyJ cyP a0 jeS ja5 je5 jb9 jfR jbJ jdj jaT jdO jaX jaF jaD ja7 jby jbe jaM jaY jap jaK jaw jaI jaZ jaG jaS jan jaE jar jaL jah jaz jaH jab z0_s jaq jai jat jau jav jaj jas jaJ jak jad jay jg7 jgg jg8 ji8 ji9 jjB jil Q C0 n9 _ _ _ jaN jaC jbw jbv jdH jcy jbD jh9 jhQ ji3 jcn jgv jb2 0 hP hD hS (lv_sub hl [1, 0] rfl) hw
    · have hw := hw.2 c4
      refine lv_aload_n hx hb (qaa qky 5 rfl) rfl (lv_at hl 0 rfl) ?_
      refine va_get (D := (dC, dI)) (ci := 11) (v := .ref jdj) (C := RX11) (T := TX11) (N := 55) hx hb hts qbT hown hK hP 0 rfl rfl 43 (by decide) (hts _ qazp) (fun _ h9 => h9) rfl (qaa qky 6 rfl) ?_
      refine lv_iload_n hx hb (qaa qky 7 rfl) rfl (lv_at hl 1 rfl) ?_
      refine lv_iconst (v := (-1)) hx hb (qaa qky 8 rfl) (by decide) ?_
      obtain ⟨hi9, hw⟩ := hw
      refine va_iast hx hb hK hP hD hS 7 1 rfl rfl hi9 (qaa qky 9 rfl) (fun H locs hP hD hS => ?_)
      obtain ⟨f5, ef5⟩ : ∃ y : NI, y = upd jgv l1.toNatClampNeg (-1) := ⟨_, rfl⟩
      have hw := hw f5 ef5
      have hP : va_P (dC, dI) vwCl (qhs a0 jaX jaF jaD ja7 jby jbe jaM jaY jap jaK jeS je5 jfR jdO ja5 jb9 jbJ jg7 jgg jg8 jaN jaC jbw jaw jaI jaZ jaG jaS jan jbD jaE jar jaL jah jhQ jcn jaz jaH jab jaT z0_s jaq jai jdj jh9 jat jau jav jaj jas jaJ jak jad jay ji3 jeS cyI ji8 ja5 cyI jbv je5 cyI ji9 jb9 cyI jdH jfR cyI jjB jbJ cyI jcy jdj cyI f5 jaT cyI jb2 jdO cyI jil) H := by rw [ef5]; exact hP
      have hD : va_D A (qhs a0 jaX jaF jaD ja7 jby jbe jaM jaY jap jaK jeS je5 jfR jdO ja5 jb9 jbJ jg7 jgg jg8 jaN jaC jbw jaw jaI jaZ jaG jaS jan jbD jaE jar jaL jah jhQ jcn jaz jaH jab jaT z0_s jaq jai jdj jh9 jat jau jav jaj jas jaJ jak jad jay ji3 jeS cyI ji8 ja5 cyI jbv je5 cyI ji9 jb9 cyI jdH jfR cyI jjB jbJ cyI jcy jdj cyI f5 jaT cyI jb2 jdO cyI jil) := by rw [ef5]; exact hD
      obtain ⟨x6, ex6⟩ : ∃ y : Int32, y = l1 + 1 := ⟨_, rfl⟩
      have hw := hw x6 ex6
      refine lv_iinc (v := x6) (lv' := [(1, .int x6), (0, .ref a0)]) hx hb (qaa qky 10 rfl) hl (k := 1) rfl (by rw [ex6]; rfl) (by decide) rfl (fun ls hl => ?_)
      refine lv_goto (tgt := 93) hx hb (qaa qky 11 rfl) (by decide) ?_
      exact ih _ _ _ jaN jaC jbw jbv jdH jcy jbD jh9 jhQ ji3 jcn f5 jb2 x6 hP hD hS (lv_sub hl [1, 0] rfl) hw
set_option maxHeartbeats 4000000 in
set_option maxRecDepth 100000 in
theorem qavA (l : Launch) (dC : Nat → ClassId) (dI : Nat → Nat → Nat) (cyB cyI cyJ cyP : ClassId) (a0 jeS ja5 je5 jb9 jfR jbJ jdj jaT jdO sz : Nat) (jaX jaF jaD ja7 jby jbe jaM jaY jap jaK jaw jaI jaZ jaG jaS jan jaE jar jaL jah jaz jaH jab z0_s jaq jai jat jau jav jaj jas jaJ jak jad jay : Value) (jg7 jgg jg8 : Int32) (ji8 ji9 jjB jil : NI) (jaN jaC jbw : Int32) (jbv jdH jcy : NI) (jbD jh9 jhQ ji3 jcn : Int32) (jgv jb2 : NI) {Q : Int32 → Int32 → Int32 → NI → NI → NI → Int32 → Int32 → Int32 → Int32 → Int32 → NI → NI → Prop} (hw : qXj jg7 jgg jg8 ji8 ji9 jjB jil jaN jaC jbw jbv jdH jcy jbD jh9 jhQ ji3 jcn jgv jb2 Q) : Met l yX11_sets wsX11_sets ({ frames := 1, cells := 0, slots := 0, locals := 24 }) (va_Pc [.ref a0] (cPc (dC, dI) (kT cyB cyI cyJ cyP) (qhs a0 jaX jaF jaD ja7 jby jbe jaM jaY jap jaK jeS je5 jfR jdO ja5 jb9 jbJ jg7 jgg jg8 jaN jaC jbw jaw jaI jaZ jaG jaS jan jbD jaE jar jaL jah jhQ jcn jaz jaH jab jaT z0_s jaq jai jdj jh9 jat jau jav jaj jas jaJ jak jad jay ji3 jeS cyI ji8 ja5 cyI jbv je5 cyI ji9 jb9 cyI jdH jfR cyI jjB jbJ cyI jcy jdj cyI jgv jaT cyI jb2 jdO cyI jil) sz)) (va_Qv (fun (u : Int32 × Int32 × Int32 × NI × NI × NI × Int32 × Int32 × Int32 × Int32 × Int32 × NI × NI) => Q u.1 u.2.1 u.2.2.1 u.2.2.2.1 u.2.2.2.2.1 u.2.2.2.2.2.1 u.2.2.2.2.2.2.1 u.2.2.2.2.2.2.2.1 u.2.2.2.2.2.2.2.2.1 u.2.2.2.2.2.2.2.2.2.1 u.2.2.2.2.2.2.2.2.2.2.1 u.2.2.2.2.2.2.2.2.2.2.2.1 u.2.2.2.2.2.2.2.2.2.2.2.2) (cB (dC, dI) (kT cyB cyI cyJ cyP) (va_A (qhs a0 jaX jaF jaD ja7 jby jbe jaM jaY jap jaK jeS je5 jfR jdO ja5 jb9 jbJ jg7 jgg jg8 jaN jaC jbw jaw jaI jaZ jaG jaS jan jbD jaE jar jaL jah jhQ jcn jaz jaH jab jaT z0_s jaq jai jdj jh9 jat jau jav jaj jas jaJ jak jad jay ji3 jeS cyI ji8 ja5 cyI jbv je5 cyI ji9 jb9 cyI jdH jfR cyI jjB jbJ cyI jcy jdj cyI jgv jaT cyI jb2 jdO cyI jil) sz) (fun u : Int32 × Int32 × Int32 × NI × NI × NI × Int32 × Int32 × Int32 × Int32 × Int32 × NI × NI => ((qhs a0 jaX jaF jaD ja7 jby jbe jaM jaY jap jaK jeS je5 jfR jdO ja5 jb9 jbJ jg7 jgg jg8 u.1 u.2.1 u.2.2.1 jaw jaI jaZ jaG jaS jan u.2.2.2.2.2.2.1 jaE jar jaL jah u.2.2.2.2.2.2.2.2.1 u.2.2.2.2.2.2.2.2.2.2.1 jaz jaH jab jaT z0_s jaq jai jdj u.2.2.2.2.2.2.2.1 jat jau jav jaj jas jaJ jak jad jay u.2.2.2.2.2.2.2.2.2.1 jeS cyI ji8 ja5 cyI u.2.2.2.1 je5 cyI ji9 jb9 cyI u.2.2.2.2.1 jfR cyI jjB jbJ cyI u.2.2.2.2.2.1 jdj cyI u.2.2.2.2.2.2.2.2.2.2.2.1 jaT cyI u.2.2.2.2.2.2.2.2.2.2.2.2 jdO cyI jil) : va_W))) (va_A (qhs a0 jaX jaF jaD ja7 jby jbe jaM jaY jap jaK jeS je5 jfR jdO ja5 jb9 jbJ jg7 jgg jg8 jaN jaC jbw jaw jaI jaZ jaG jaS jan jbD jaE jar jaL jah jhQ jcn jaz jaH jab jaT z0_s jaq jai jdj jh9 jat jau jav jaj jas jaJ jak jad jay ji3 jeS cyI ji8 ja5 cyI jbv je5 cyI ji9 jb9 cyI jdH jfR cyI jjB jbJ cyI jcy jdj cyI jgv jaT cyI jb2 jdO cyI jil) sz)) 0 0 (va_A (qhs a0 jaX jaF jaD ja7 jby jbe jaM jaY jap jaK jeS je5 jfR jdO ja5 jb9 jbJ jg7 jgg jg8 jaN jaC jbw jaw jaI jaZ jaG jaS jan jbD jaE jar jaL jah jhQ jcn jaz jaH jab jaT z0_s jaq jai jdj jh9 jat jau jav jaj jas jaJ jak jad jay ji3 jeS cyI ji8 ja5 cyI jbv je5 cyI ji9 jb9 cyI jdH jfR cyI jjB jbJ cyI jcy jdj cyI jgv jaT cyI jb2 jdO cyI jil) sz) := by
  refine Met.ofW (cc := cX11_sets) (maxL := 2) (ret := none) (by decide) rfl ?_
  intro p e s m args below meth c s₁ B hml hv
  obtain ⟨rfl, hsz, hP, hK, hD0, hNw⟩ := hv
  have hx := B.exec
  have hb := B.bytes
  have hr := B.returns
  have hts := atoms_spec (ws := wsX11_sets) B.pre
  have hown : s.vm.findClass RX11 = some m.cls := findClass_of_methodNamed B.named
  have hlocks := B.notSynchronized
  subst hsz
  have hD := hD0.self (sz := s.heap.size)
  generalize hAe : va_A (qhs a0 jaX jaF jaD ja7 jby jbe jaM jaY jap jaK jeS je5 jfR jdO ja5 jb9 jbJ jg7 jgg jg8 jaN jaC jbw jaw jaI jaZ jaG jaS jan jbD jaE jar jaL jah jhQ jcn jaz jaH jab jaT z0_s jaq jai jdj jh9 jat jau jav jaj jas jaJ jak jad jay ji3 jeS cyI ji8 ja5 cyI jbv je5 cyI ji9 jb9 cyI jdH jfR cyI jjB jbJ cyI jcy jdj cyI jgv jaT cyI jb2 jdO cyI jil) s.heap.size = A at hD ⊢
  have hA : ∀ q : Nat, s.heap.size ≤ q → A q := fun q h => by rw [← hAe]; exact Or.inr h
  have hS : va_S A s.heap s.heap [] := va_S.rf
  have hP : va_P (dC, dI) vwCl (qhs a0 jaX jaF jaD ja7 jby jbe jaM jaY jap jaK jeS je5 jfR jdO ja5 jb9 jbJ jg7 jgg jg8 jaN jaC jbw jaw jaI jaZ jaG jaS jan jbD jaE jar jaL jah jhQ jcn jaz jaH jab jaT z0_s jaq jai jdj jh9 jat jau jav jaj jas jaJ jak jad jay ji3 jeS cyI ji8 ja5 cyI jbv je5 cyI ji9 jb9 cyI jdH jfR cyI jjB jbJ cyI jcy jdj cyI jgv jaT cyI jb2 jdO cyI jil) s.heap := hP
  have hl := lv_entry ([.ref a0]) (n := 2) (nbq rfl)
  rw [lg_entry_eq]
  generalize (lg_sl ([.ref a0]) ++ List.replicate (2 - (lg_sl ([.ref a0])).length) Slot.unset).toArray = ls at hl ⊢
  have hl : lv_has ls 2 [(0, .ref a0)] := hl
  have C0 : cfx p s m _ meth c cX11_sets none wsX11_sets RX11 2 A (dC, dI) (kT cyB cyI cyJ cyP) := ⟨hx, hb, hr, hts, hown, hlocks, hml, hA, hK, hNw⟩
  clear hAe
  obtain ⟨H, hH⟩ : ∃ H, H = s.heap := ⟨_, rfl⟩
  rw [← hH] at hP ⊢
  have hS : va_S A s.heap H [] := by rw [hH]; exact va_S.rf
  have hS := hS
  refine lv_aload_n hx hb (qaa qmJ 0 rfl) rfl (lv_at hl 0 rfl) ?_
  refine lv_aload_n hx hb (qaa qmJ 1 rfl) rfl (lv_at hl 0 rfl) ?_
  refine va_get (D := (dC, dI)) (ci := 11) (v := .int jg7) (C := RX11) (T := TX11) (N := 55) hx hb hts qbT hown hK hP 0 rfl rfl 17 (by decide) (hts _ qaqi) (fun _ h9 => h9) rfl (qaa qmJ 2 rfl) ?_
  refine va_put (D := (dC, dI)) (ci := 11) (v := .int jg7) (ty := .int) (C := RX11) (T := TX11) (N := 55) hx hb hts qbT tyX11 tyX11_ok nmX11 hown hK hP hD hS 0 rfl rfl 20 (by decide) (hts _ qasK) (fun _ h9 => h9) rfl (by decide +kernel) rfl rfl (nbq rfl) (qaa qmJ 3 rfl) (fun H locs hP hD hS => ?_)
  have hP : va_P (dC, dI) vwCl (qhs a0 jaX jaF jaD ja7 jby jbe jaM jaY jap jaK jeS je5 jfR jdO ja5 jb9 jbJ jg7 jgg jg8 jg7 jaC jbw jaw jaI jaZ jaG jaS jan jbD jaE jar jaL jah jhQ jcn jaz jaH jab jaT z0_s jaq jai jdj jh9 jat jau jav jaj jas jaJ jak jad jay ji3 jeS cyI ji8 ja5 cyI jbv je5 cyI ji9 jb9 cyI jdH jfR cyI jjB jbJ cyI jcy jdj cyI jgv jaT cyI jb2 jdO cyI jil) H := hP
  have hD : va_D A (qhs a0 jaX jaF jaD ja7 jby jbe jaM jaY jap jaK jeS je5 jfR jdO ja5 jb9 jbJ jg7 jgg jg8 jg7 jaC jbw jaw jaI jaZ jaG jaS jan jbD jaE jar jaL jah jhQ jcn jaz jaH jab jaT z0_s jaq jai jdj jh9 jat jau jav jaj jas jaJ jak jad jay ji3 jeS cyI ji8 ja5 cyI jbv je5 cyI ji9 jb9 cyI jdH jfR cyI jjB jbJ cyI jcy jdj cyI jgv jaT cyI jb2 jdO cyI jil) := hD
  refine lv_aload_n hx hb (qaa qmJ 4 rfl) rfl (lv_at hl 0 rfl) ?_
  refine lv_aload_n hx hb (qaa qmJ 5 rfl) rfl (lv_at hl 0 rfl) ?_
  refine va_get (D := (dC, dI)) (ci := 11) (v := .int jgg) (C := RX11) (T := TX11) (N := 55) hx hb hts qbT hown hK hP 0 rfl rfl 18 (by decide) (hts _ qatc) (fun _ h9 => h9) rfl (qaa qmJ 6 rfl) ?_
  refine va_put (D := (dC, dI)) (ci := 11) (v := .int jgg) (ty := .int) (C := RX11) (T := TX11) (N := 55) hx hb hts qbT tyX11 tyX11_ok nmX11 hown hK hP hD hS 0 rfl rfl 21 (by decide) (hts _ qZq) (fun _ h9 => h9) rfl (by decide +kernel) rfl rfl (nbq rfl) (qaa qmJ 7 rfl) (fun H locs hP hD hS => ?_)
  have hP : va_P (dC, dI) vwCl (qhs a0 jaX jaF jaD ja7 jby jbe jaM jaY jap jaK jeS je5 jfR jdO ja5 jb9 jbJ jg7 jgg jg8 jg7 jgg jbw jaw jaI jaZ jaG jaS jan jbD jaE jar jaL jah jhQ jcn jaz jaH jab jaT z0_s jaq jai jdj jh9 jat jau jav jaj jas jaJ jak jad jay ji3 jeS cyI ji8 ja5 cyI jbv je5 cyI ji9 jb9 cyI jdH jfR cyI jjB jbJ cyI jcy jdj cyI jgv jaT cyI jb2 jdO cyI jil) H := hP
  have hD : va_D A (qhs a0 jaX jaF jaD ja7 jby jbe jaM jaY jap jaK jeS je5 jfR jdO ja5 jb9 jbJ jg7 jgg jg8 jg7 jgg jbw jaw jaI jaZ jaG jaS jan jbD jaE jar jaL jah jhQ jcn jaz jaH jab jaT z0_s jaq jai jdj jh9 jat jau jav jaj jas jaJ jak jad jay ji3 jeS cyI ji8 ja5 cyI jbv je5 cyI ji9 jb9 cyI jdH jfR cyI jjB jbJ cyI jcy jdj cyI jgv jaT cyI jb2 jdO cyI jil) := hD
  refine lv_aload_n hx hb (qaa qmJ 8 rfl) rfl (lv_at hl 0 rfl) ?_
  refine lv_aload_n hx hb (qaa qmJ 9 rfl) rfl (lv_at hl 0 rfl) ?_
  refine va_get (D := (dC, dI)) (ci := 11) (v := .int jg8) (C := RX11) (T := TX11) (N := 55) hx hb hts qbT hown hK hP 0 rfl rfl 19 (by decide) (hts _ qaqC) (fun _ h9 => h9) rfl (qaa qmJ 10 rfl) ?_
  refine va_put (D := (dC, dI)) (ci := 11) (v := .int jg8) (ty := .int) (C := RX11) (T := TX11) (N := 55) hx hb hts qbT tyX11 tyX11_ok nmX11 hown hK hP hD hS 0 rfl rfl 22 (by decide) (hts _ qas1) (fun _ h9 => h9) rfl (by decide +kernel) rfl rfl (nbq rfl) (qaa qmJ 11 rfl) (fun H locs hP hD hS => ?_)
  have hP : va_P (dC, dI) vwCl (qhs a0 jaX jaF jaD ja7 jby jbe jaM jaY jap jaK jeS je5 jfR jdO ja5 jb9 jbJ jg7 jgg jg8 jg7 jgg jg8 jaw jaI jaZ jaG jaS jan jbD jaE jar jaL jah jhQ jcn jaz jaH jab jaT z0_s jaq jai jdj jh9 jat jau jav jaj jas jaJ jak jad jay ji3 jeS cyI ji8 ja5 cyI jbv je5 cyI ji9 jb9 cyI jdH jfR cyI jjB jbJ cyI jcy jdj cyI jgv jaT cyI jb2 jdO cyI jil) H := hP
  have hD : va_D A (qhs a0 jaX jaF jaD ja7 jby jbe jaM jaY jap jaK jeS je5 jfR jdO ja5 jb9 jbJ jg7 jgg jg8 jg7 jgg jg8 jaw jaI jaZ jaG jaS jan jbD jaE jar jaL jah jhQ jcn jaz jaH jab jaT z0_s jaq jai jdj jh9 jat jau jav jaj jas jaJ jak jad jay ji3 jeS cyI ji8 ja5 cyI jbv je5 cyI ji9 jb9 cyI jdH jfR cyI jjB jbJ cyI jcy jdj cyI jgv jaT cyI jb2 jdO cyI jil) := hD
  refine lv_aload_n hx hb (qaa qmJ 12 rfl) rfl (lv_at hl 0 rfl) ?_
  refine lv_aload_n hx hb (qaa qmJ 13 rfl) rfl (lv_at hl 0 rfl) ?_
  refine va_get (D := (dC, dI)) (ci := 11) (v := .ref jeS) (C := RX11) (T := TX11) (N := 55) hx hb hts qbT hown hK hP 0 rfl rfl 10 (by decide) (hts _ qayd) (fun _ h9 => h9) rfl (qaa qmJ 14 rfl) ?_
  refine lv_aload_n hx hb (qaa qmJ 15 rfl) rfl (lv_at hl 0 rfl) ?_
  refine va_get (D := (dC, dI)) (ci := 11) (v := .ref ja5) (C := RX11) (T := TX11) (N := 55) hx hb hts qbT hown hK hP 0 rfl rfl 14 (by decide) (hts _ qaCa) (fun _ h9 => h9) rfl (qaa qjj 0 rfl) ?_
  refine lv_bipush (v := 16) hx hb (qaa qjj 1 rfl) (by decide) ?_
  obtain ⟨hCc, hPc, hDc, hFc⟩ := qac (ws' := (qa6e a0 jaX jaF jaD ja7 jby jbe jaM jaY jap jaK jeS je5 jfR jdO ja5 jb9 jbJ jg7 jgg jg8 jg7 jgg jg8 jaw jaI jaZ jaG jaS jan jbD jaE jar jaL jah jhQ jcn jaz jaH jab jaT z0_s jaq jai jdj jh9 jat jau jav jaj jas jaJ jak jad jay ji3 jeS cyI ji8 ja5 cyI jbv)) hP hD hS hA [0, 1, 2] (by decide +kernel) rfl
  refine va_callv (va_runV (As := [.ref jeS, .ref ja5, .int 16]) (rest := []) ⟨hx, hb, hml, hown, hts⟩ (qu7 l dC dI cyB cyI cyJ cyP a0 jeS ja5 H.size (jaX) (jaF) (jaD) (ja7) (jby) (jbe) (jaM) (jaY) (jap) (jaK) (.ref jeS) (.ref je5) (.ref jfR) (.ref jdO) (.ref ja5) (.ref jb9) (.ref jbJ) (.int jg7) (.int jgg) (.int jg8) (.int jg7) (.int jgg) (.int jg8) (jaw) (jaI) (jaZ) (jaG) (jaS) (jan) (.int jbD) (jaE) (jar) (jaL) (jah) (.int jhQ) (.int jcn) (jaz) (jaH) (jab) (.ref jaT) (z0_s) (jaq) (jai) (.ref jdj) (.int jh9) (jat) (jau) (jav) (jaj) (jas) (jaJ) (jak) (jad) (jay) (.int ji3) 16 16 ji8 jbv 16 hw) (cwV 3 hts gX11_sets_X11_copies rfl rfl rfl (by decide +kernel) ⟨nbq rfl, nbq rfl⟩) ⟨qab, va_recv (q := (RX11, TX11, 55)) hK hPc (ci := 11) (q0 := 0) rfl rfl, qae hPc hK hDc hNw⟩ rfl rfl hl.1 rfl (lv_room (nbq rfl)) (qaa qjj 2 rfl) ⟨nbq rfl, nbq rfl⟩) hS (fun q _ h => hFc q h) hFc (fun u t H1 locs ht hvm hw hB hz1 hk1 hS => ?_)
  obtain ⟨f1, rfl⟩ : ∃ z, z = u := ⟨_, rfl⟩
  obtain ⟨hP1, hK1, hD1⟩ := hB
  rw [ht] at hP1
  obtain ⟨hP, hD⟩ := qad (wr := [(je5, .inl (cyI, 12, .inl ji9)), (jb9, .inl (cyI, 12, .inl jdH)), (jfR, .inl (cyI, 8, .inl jjB)), (jbJ, .inl (cyI, 8, .inl jcy)), (jdj, .inl (cyI, 8, .inl jgv)), (jaT, .inl (cyI, 68, .inl jb2)), (jdO, .inl (cyI, 36, .inl jil))]) (w1 := (qa6e a0 jaX jaF jaD ja7 jby jbe jaM jaY jap jaK jeS je5 jfR jdO ja5 jb9 jbJ jg7 jgg jg8 jg7 jgg jg8 jaw jaI jaZ jaG jaS jan jbD jaE jar jaL jah jhQ jcn jaz jaH jab jaT z0_s jaq jai jdj jh9 jat jau jav jaj jas jaJ jak jad jay ji3 jeS cyI ji8 ja5 cyI f1)) (wn := (qhs a0 jaX jaF jaD ja7 jby jbe jaM jaY jap jaK jeS je5 jfR jdO ja5 jb9 jbJ jg7 jgg jg8 jg7 jgg jg8 jaw jaI jaZ jaG jaS jan jbD jaE jar jaL jah jhQ jcn jaz jaH jab jaT z0_s jaq jai jdj jh9 jat jau jav jaj jas jaJ jak jad jay ji3 jeS cyI ji8 ja5 cyI f1 je5 cyI ji9 jb9 cyI jdH jfR cyI jjB jbJ cyI jcy jdj cyI jgv jaT cyI jb2 jdO cyI jil)) hP hD [0, 1, 2] [3, 4, 5, 6, 7, 8, 9] [7, 8, 9, 0, 1, 2, 3, 4, 5, 6] hCc rfl (by decide +kernel) (by decide +kernel) (by decide +kernel) rfl hk1 hFc hP1 hD1
  generalize H1 = H at hP hS ⊢
  refine lv_aload_n hx hb (qaa qjj 3 rfl) rfl (lv_at hl 0 rfl) ?_
  refine lv_aload_n hx hb (qaa qjj 4 rfl) rfl (lv_at hl 0 rfl) ?_
  refine va_get (D := (dC, dI)) (ci := 11) (v := .ref je5) (C := RX11) (T := TX11) (N := 55) hx hb hts qbT hown hK hP 0 rfl rfl 11 (by decide) (hts _ qax4) (fun _ h9 => h9) rfl (qaa qjj 5 rfl) ?_
  refine lv_aload_n hx hb (qaa qjj 6 rfl) rfl (lv_at hl 0 rfl) ?_
  refine va_get (D := (dC, dI)) (ci := 11) (v := .ref jb9) (C := RX11) (T := TX11) (N := 55) hx hb hts qbT hown hK hP 0 rfl rfl 15 (by decide) (hts _ qPM) (fun _ h9 => h9) rfl (qaa qjj 7 rfl) ?_
  refine lv_bipush (v := 12) hx hb (qaa qjj 8 rfl) (by decide) ?_
  obtain ⟨hCc, hPc, hDc, hFc⟩ := qac (ws' := (qa77 a0 jaX jaF jaD ja7 jby jbe jaM jaY jap jaK jeS je5 jfR jdO ja5 jb9 jbJ jg7 jgg jg8 jg7 jgg jg8 jaw jaI jaZ jaG jaS jan jbD jaE jar jaL jah jhQ jcn jaz jaH jab jaT z0_s jaq jai jdj jh9 jat jau jav jaj jas jaJ jak jad jay ji3 je5 cyI ji9 jb9 cyI jdH)) hP hD hS hA [0, 3, 4] (by decide +kernel) rfl
  refine va_callv (va_runV (As := [.ref je5, .ref jb9, .int 12]) (rest := []) ⟨hx, hb, hml, hown, hts⟩ (qu7 l dC dI cyB cyI cyJ cyP a0 je5 jb9 H.size (jaX) (jaF) (jaD) (ja7) (jby) (jbe) (jaM) (jaY) (jap) (jaK) (.ref jeS) (.ref je5) (.ref jfR) (.ref jdO) (.ref ja5) (.ref jb9) (.ref jbJ) (.int jg7) (.int jgg) (.int jg8) (.int jg7) (.int jgg) (.int jg8) (jaw) (jaI) (jaZ) (jaG) (jaS) (jan) (.int jbD) (jaE) (jar) (jaL) (jah) (.int jhQ) (.int jcn) (jaz) (jaH) (jab) (.ref jaT) (z0_s) (jaq) (jai) (.ref jdj) (.int jh9) (jat) (jau) (jav) (jaj) (jas) (jaJ) (jak) (jad) (jay) (.int ji3) 12 12 ji9 jdH 12 hw) (cwV 3 hts gX11_sets_X11_copies rfl rfl rfl (by decide +kernel) ⟨nbq rfl, nbq rfl⟩) ⟨qab, va_recv (q := (RX11, TX11, 55)) hK hPc (ci := 11) (q0 := 0) rfl rfl, qae hPc hK hDc hNw⟩ rfl rfl hl.1 rfl (lv_room (nbq rfl)) (qaa qjj 9 rfl) ⟨nbq rfl, nbq rfl⟩) hS (fun q _ h => hFc q h) hFc (fun u t H1 locs ht hvm hw hB hz1 hk1 hS => ?_)
  obtain ⟨f2, rfl⟩ : ∃ z, z = u := ⟨_, rfl⟩
  obtain ⟨hP1, hK1, hD1⟩ := hB
  rw [ht] at hP1
  obtain ⟨hP, hD⟩ := qad (wr := [(jeS, .inl (cyI, 16, .inl ji8)), (ja5, .inl (cyI, 16, .inl f1)), (jfR, .inl (cyI, 8, .inl jjB)), (jbJ, .inl (cyI, 8, .inl jcy)), (jdj, .inl (cyI, 8, .inl jgv)), (jaT, .inl (cyI, 68, .inl jb2)), (jdO, .inl (cyI, 36, .inl jil))]) (w1 := (qa77 a0 jaX jaF jaD ja7 jby jbe jaM jaY jap jaK jeS je5 jfR jdO ja5 jb9 jbJ jg7 jgg jg8 jg7 jgg jg8 jaw jaI jaZ jaG jaS jan jbD jaE jar jaL jah jhQ jcn jaz jaH jab jaT z0_s jaq jai jdj jh9 jat jau jav jaj jas jaJ jak jad jay ji3 je5 cyI ji9 jb9 cyI f2)) (wn := (qhs a0 jaX jaF jaD ja7 jby jbe jaM jaY jap jaK jeS je5 jfR jdO ja5 jb9 jbJ jg7 jgg jg8 jg7 jgg jg8 jaw jaI jaZ jaG jaS jan jbD jaE jar jaL jah jhQ jcn jaz jaH jab jaT z0_s jaq jai jdj jh9 jat jau jav jaj jas jaJ jak jad jay ji3 jeS cyI ji8 ja5 cyI f1 je5 cyI ji9 jb9 cyI f2 jfR cyI jjB jbJ cyI jcy jdj cyI jgv jaT cyI jb2 jdO cyI jil)) hP hD [0, 3, 4] [1, 2, 5, 6, 7, 8, 9] [7, 0, 1, 8, 9, 2, 3, 4, 5, 6] hCc rfl (by decide +kernel) (by decide +kernel) (by decide +kernel) rfl hk1 hFc hP1 hD1
  generalize H1 = H at hP hS ⊢
  refine lv_aload_n hx hb (qaa qjj 10 rfl) rfl (lv_at hl 0 rfl) ?_
  refine lv_aload_n hx hb (qaa qjj 11 rfl) rfl (lv_at hl 0 rfl) ?_
  refine va_get (D := (dC, dI)) (ci := 11) (v := .ref jfR) (C := RX11) (T := TX11) (N := 55) hx hb hts qbT hown hK hP 0 rfl rfl 12 (by decide) (hts _ qaB6) (fun _ h9 => h9) rfl (qaa qjj 12 rfl) ?_
  refine lv_aload_n hx hb (qaa qjj 13 rfl) rfl (lv_at hl 0 rfl) ?_
  refine va_get (D := (dC, dI)) (ci := 11) (v := .ref jbJ) (C := RX11) (T := TX11) (N := 55) hx hb hts qbT hown hK hP 0 rfl rfl 16 (by decide) (hts _ qazo) (fun _ h9 => h9) rfl (qaa qjj 14 rfl) ?_
  refine lv_bipush (v := 8) hx hb (qaa qjj 15 rfl) (by decide) ?_
  obtain ⟨hCc, hPc, hDc, hFc⟩ := qac (ws' := (qa4w a0 jaX jaF jaD ja7 jby jbe jaM jaY jap jaK jeS je5 jfR jdO ja5 jb9 jbJ jg7 jgg jg8 jg7 jgg jg8 jaw jaI jaZ jaG jaS jan jbD jaE jar jaL jah jhQ jcn jaz jaH jab jaT z0_s jaq jai jdj jh9 jat jau jav jaj jas jaJ jak jad jay ji3 jfR cyI jjB jbJ cyI jcy)) hP hD hS hA [0, 5, 6] (by decide +kernel) rfl
  refine va_callv (va_runV (As := [.ref jfR, .ref jbJ, .int 8]) (rest := []) ⟨hx, hb, hml, hown, hts⟩ (qu7 l dC dI cyB cyI cyJ cyP a0 jfR jbJ H.size (jaX) (jaF) (jaD) (ja7) (jby) (jbe) (jaM) (jaY) (jap) (jaK) (.ref jeS) (.ref je5) (.ref jfR) (.ref jdO) (.ref ja5) (.ref jb9) (.ref jbJ) (.int jg7) (.int jgg) (.int jg8) (.int jg7) (.int jgg) (.int jg8) (jaw) (jaI) (jaZ) (jaG) (jaS) (jan) (.int jbD) (jaE) (jar) (jaL) (jah) (.int jhQ) (.int jcn) (jaz) (jaH) (jab) (.ref jaT) (z0_s) (jaq) (jai) (.ref jdj) (.int jh9) (jat) (jau) (jav) (jaj) (jas) (jaJ) (jak) (jad) (jay) (.int ji3) 8 8 jjB jcy 8 hw) (cwV 3 hts gX11_sets_X11_copies rfl rfl rfl (by decide +kernel) ⟨nbq rfl, nbq rfl⟩) ⟨qab, va_recv (q := (RX11, TX11, 55)) hK hPc (ci := 11) (q0 := 0) rfl rfl, qae hPc hK hDc hNw⟩ rfl rfl hl.1 rfl (lv_room (nbq rfl)) (qaa qjF 0 rfl) ⟨nbq rfl, nbq rfl⟩) hS (fun q _ h => hFc q h) hFc (fun u t H1 locs ht hvm hw hB hz1 hk1 hS => ?_)
  obtain ⟨f3, rfl⟩ : ∃ z, z = u := ⟨_, rfl⟩
  obtain ⟨hP1, hK1, hD1⟩ := hB
  rw [ht] at hP1
  obtain ⟨hP, hD⟩ := qad (wr := [(jeS, .inl (cyI, 16, .inl ji8)), (ja5, .inl (cyI, 16, .inl f1)), (je5, .inl (cyI, 12, .inl ji9)), (jb9, .inl (cyI, 12, .inl f2)), (jdj, .inl (cyI, 8, .inl jgv)), (jaT, .inl (cyI, 68, .inl jb2)), (jdO, .inl (cyI, 36, .inl jil))]) (w1 := (qa4w a0 jaX jaF jaD ja7 jby jbe jaM jaY jap jaK jeS je5 jfR jdO ja5 jb9 jbJ jg7 jgg jg8 jg7 jgg jg8 jaw jaI jaZ jaG jaS jan jbD jaE jar jaL jah jhQ jcn jaz jaH jab jaT z0_s jaq jai jdj jh9 jat jau jav jaj jas jaJ jak jad jay ji3 jfR cyI jjB jbJ cyI f3)) (wn := (qhs a0 jaX jaF jaD ja7 jby jbe jaM jaY jap jaK jeS je5 jfR jdO ja5 jb9 jbJ jg7 jgg jg8 jg7 jgg jg8 jaw jaI jaZ jaG jaS jan jbD jaE jar jaL jah jhQ jcn jaz jaH jab jaT z0_s jaq jai jdj jh9 jat jau jav jaj jas jaJ jak jad jay ji3 jeS cyI ji8 ja5 cyI f1 je5 cyI ji9 jb9 cyI f2 jfR cyI jjB jbJ cyI f3 jdj cyI jgv jaT cyI jb2 jdO cyI jil)) hP hD [0, 5, 6] [1, 2, 3, 4, 7, 8, 9] [7, 0, 1, 2, 3, 8, 9, 4, 5, 6] hCc rfl (by decide +kernel) (by decide +kernel) (by decide +kernel) rfl hk1 hFc hP1 hD1
  generalize H1 = H at hP hS ⊢
  refine lv_aload_n hx hb (qaa qjF 1 rfl) rfl (lv_at hl 0 rfl) ?_
  refine lv_iconst (v := 0) hx hb (qaa qjF 2 rfl) (by decide) ?_
  refine va_put (D := (dC, dI)) (ci := 11) (v := .int 0) (ty := .int) (C := RX11) (T := TX11) (N := 55) hx hb hts qbT tyX11 tyX11_ok nmX11 hown hK hP hD hS 0 rfl rfl 29 (by decide) (hts _ qauG) (fun _ h9 => h9) rfl (by decide +kernel) rfl rfl (nbq rfl) (qaa qjF 3 rfl) (fun H locs hP hD hS => ?_)
  have hP : va_P (dC, dI) vwCl (qhs a0 jaX jaF jaD ja7 jby jbe jaM jaY jap jaK jeS je5 jfR jdO ja5 jb9 jbJ jg7 jgg jg8 jg7 jgg jg8 jaw jaI jaZ jaG jaS jan 0 jaE jar jaL jah jhQ jcn jaz jaH jab jaT z0_s jaq jai jdj jh9 jat jau jav jaj jas jaJ jak jad jay ji3 jeS cyI ji8 ja5 cyI f1 je5 cyI ji9 jb9 cyI f2 jfR cyI jjB jbJ cyI f3 jdj cyI jgv jaT cyI jb2 jdO cyI jil) H := hP
  have hD : va_D A (qhs a0 jaX jaF jaD ja7 jby jbe jaM jaY jap jaK jeS je5 jfR jdO ja5 jb9 jbJ jg7 jgg jg8 jg7 jgg jg8 jaw jaI jaZ jaG jaS jan 0 jaE jar jaL jah jhQ jcn jaz jaH jab jaT z0_s jaq jai jdj jh9 jat jau jav jaj jas jaJ jak jad jay ji3 jeS cyI ji8 ja5 cyI f1 je5 cyI ji9 jb9 cyI f2 jfR cyI jjB jbJ cyI f3 jdj cyI jgv jaT cyI jb2 jdO cyI jil) := hD
  refine lv_aload_n hx hb (qaa qjF 4 rfl) rfl (lv_at hl 0 rfl) ?_
  refine lv_iconst (v := 0) hx hb (qaa qjF 5 rfl) (by decide) ?_
  refine va_put (D := (dC, dI)) (ci := 11) (v := .int 0) (ty := .int) (C := RX11) (T := TX11) (N := 55) hx hb hts qbT tyX11 tyX11_ok nmX11 hown hK hP hD hS 0 rfl rfl 44 (by decide) (hts _ qauQ) (fun _ h9 => h9) rfl (by decide +kernel) rfl rfl (nbq rfl) (qaa qjF 6 rfl) (fun H locs hP hD hS => ?_)
  have hP : va_P (dC, dI) vwCl (qhs a0 jaX jaF jaD ja7 jby jbe jaM jaY jap jaK jeS je5 jfR jdO ja5 jb9 jbJ jg7 jgg jg8 jg7 jgg jg8 jaw jaI jaZ jaG jaS jan 0 jaE jar jaL jah jhQ jcn jaz jaH jab jaT z0_s jaq jai jdj 0 jat jau jav jaj jas jaJ jak jad jay ji3 jeS cyI ji8 ja5 cyI f1 je5 cyI ji9 jb9 cyI f2 jfR cyI jjB jbJ cyI f3 jdj cyI jgv jaT cyI jb2 jdO cyI jil) H := hP
  have hD : va_D A (qhs a0 jaX jaF jaD ja7 jby jbe jaM jaY jap jaK jeS je5 jfR jdO ja5 jb9 jbJ jg7 jgg jg8 jg7 jgg jg8 jaw jaI jaZ jaG jaS jan 0 jaE jar jaL jah jhQ jcn jaz jaH jab jaT z0_s jaq jai jdj 0 jat jau jav jaj jas jaJ jak jad jay ji3 jeS cyI ji8 ja5 cyI f1 je5 cyI ji9 jb9 cyI f2 jfR cyI jjB jbJ cyI f3 jdj cyI jgv jaT cyI jb2 jdO cyI jil) := hD
  refine lv_aload_n hx hb (qaa qjF 7 rfl) rfl (lv_at hl 0 rfl) ?_
  refine lv_iconst (v := 0) hx hb (qaa qjF 8 rfl) (by decide) ?_
  refine va_put (D := (dC, dI)) (ci := 11) (v := .int 0) (ty := .int) (C := RX11) (T := TX11) (N := 55) hx hb hts qbT tyX11 tyX11_ok nmX11 hown hK hP hD hS 0 rfl rfl 34 (by decide) (hts _ qar1) (fun _ h9 => h9) rfl (by decide +kernel) rfl rfl (nbq rfl) (qaa qjF 9 rfl) (fun H locs hP hD hS => ?_)
  have hP : va_P (dC, dI) vwCl (qhs a0 jaX jaF jaD ja7 jby jbe jaM jaY jap jaK jeS je5 jfR jdO ja5 jb9 jbJ jg7 jgg jg8 jg7 jgg jg8 jaw jaI jaZ jaG jaS jan 0 jaE jar jaL jah 0 jcn jaz jaH jab jaT z0_s jaq jai jdj 0 jat jau jav jaj jas jaJ jak jad jay ji3 jeS cyI ji8 ja5 cyI f1 je5 cyI ji9 jb9 cyI f2 jfR cyI jjB jbJ cyI f3 jdj cyI jgv jaT cyI jb2 jdO cyI jil) H := hP
  have hD : va_D A (qhs a0 jaX jaF jaD ja7 jby jbe jaM jaY jap jaK jeS je5 jfR jdO ja5 jb9 jbJ jg7 jgg jg8 jg7 jgg jg8 jaw jaI jaZ jaG jaS jan 0 jaE jar jaL jah 0 jcn jaz jaH jab jaT z0_s jaq jai jdj 0 jat jau jav jaj jas jaJ jak jad jay ji3 jeS cyI ji8 ja5 cyI f1 je5 cyI ji9 jb9 cyI f2 jfR cyI jjB jbJ cyI f3 jdj cyI jgv jaT cyI jb2 jdO cyI jil) := hD
  refine lv_aload_n hx hb (qaa qjF 10 rfl) rfl (lv_at hl 0 rfl) ?_
  refine lv_iconst (v := 0) hx hb (qaa qjF 11 rfl) (by decide) ?_
  refine va_put (D := (dC, dI)) (ci := 11) (v := .int 0) (ty := .int) (C := RX11) (T := TX11) (N := 55) hx hb hts qbT tyX11 tyX11_ok nmX11 hown hK hP hD hS 0 rfl rfl 54 (by decide) (hts _ qarS) (fun _ h9 => h9) rfl (by decide +kernel) rfl rfl (nbq rfl) (qaa qjF 12 rfl) (fun H locs hP hD hS => ?_)
  have hP : va_P (dC, dI) vwCl (qhs a0 jaX jaF jaD ja7 jby jbe jaM jaY jap jaK jeS je5 jfR jdO ja5 jb9 jbJ jg7 jgg jg8 jg7 jgg jg8 jaw jaI jaZ jaG jaS jan 0 jaE jar jaL jah 0 jcn jaz jaH jab jaT z0_s jaq jai jdj 0 jat jau jav jaj jas jaJ jak jad jay 0 jeS cyI ji8 ja5 cyI f1 je5 cyI ji9 jb9 cyI f2 jfR cyI jjB jbJ cyI f3 jdj cyI jgv jaT cyI jb2 jdO cyI jil) H := hP
  have hD : va_D A (qhs a0 jaX jaF jaD ja7 jby jbe jaM jaY jap jaK jeS je5 jfR jdO ja5 jb9 jbJ jg7 jgg jg8 jg7 jgg jg8 jaw jaI jaZ jaG jaS jan 0 jaE jar jaL jah 0 jcn jaz jaH jab jaT z0_s jaq jai jdj 0 jat jau jav jaj jas jaJ jak jad jay 0 jeS cyI ji8 ja5 cyI f1 je5 cyI ji9 jb9 cyI f2 jfR cyI jjB jbJ cyI f3 jdj cyI jgv jaT cyI jb2 jdO cyI jil) := hD
  refine lv_aload_n hx hb (qaa qjF 13 rfl) rfl (lv_at hl 0 rfl) ?_
  refine lv_iconst (v := 0) hx hb (qaa qjF 14 rfl) (by decide) ?_
  refine va_put (D := (dC, dI)) (ci := 11) (v := .int 0) (ty := .int) (C := RX11) (T := TX11) (N := 55) hx hb hts qbT tyX11 tyX11_ok nmX11 hown hK hP hD hS 0 rfl rfl 35 (by decide) (hts _ qap2) (fun _ h9 => h9) rfl (by decide +kernel) rfl rfl (nbq rfl) (qaa qjF 15 rfl) (fun H locs hP hD hS => ?_)
  have hP : va_P (dC, dI) vwCl (qhs a0 jaX jaF jaD ja7 jby jbe jaM jaY jap jaK jeS je5 jfR jdO ja5 jb9 jbJ jg7 jgg jg8 jg7 jgg jg8 jaw jaI jaZ jaG jaS jan 0 jaE jar jaL jah 0 0 jaz jaH jab jaT z0_s jaq jai jdj 0 jat jau jav jaj jas jaJ jak jad jay 0 jeS cyI ji8 ja5 cyI f1 je5 cyI ji9 jb9 cyI f2 jfR cyI jjB jbJ cyI f3 jdj cyI jgv jaT cyI jb2 jdO cyI jil) H := hP
  have hD : va_D A (qhs a0 jaX jaF jaD ja7 jby jbe jaM jaY jap jaK jeS je5 jfR jdO ja5 jb9 jbJ jg7 jgg jg8 jg7 jgg jg8 jaw jaI jaZ jaG jaS jan 0 jaE jar jaL jah 0 0 jaz jaH jab jaT z0_s jaq jai jdj 0 jat jau jav jaj jas jaJ jak jad jay 0 jeS cyI ji8 ja5 cyI f1 je5 cyI ji9 jb9 cyI f2 jfR cyI jjB jbJ cyI f3 jdj cyI jgv jaT cyI jb2 jdO cyI jil) := hD
  refine lv_iconst (v := 0) hx hb (qaa qky 0 rfl) (by decide) ?_
  refine lv_istore_n (lv' := [(1, .int 0), (0, .ref a0)]) hx hb (qaa qky 1 rfl) rfl hl (by decide) rfl (fun ls hl => ?_)
  obtain ⟨n9, hw⟩ := hw
  exact qaIZ dC dI cyB cyI cyJ cyP a0 jeS ja5 je5 jb9 jfR jbJ jdj jaT jdO jaX jaF jaD ja7 jby jbe jaM jaY jap jaK jaw jaI jaZ jaG jaS jan jaE jar jaL jah jaz jaH jab z0_s jaq jai jat jau jav jaj jas jaJ jak jad jay jg7 jgg jg8 ji8 ji9 jjB jil Q C0 n9 _ _ _ jg7 jgg jg8 f1 f2 f3 0 0 0 0 0 jgv jb2 0 hP hD hS (lv_sub hl [1, 0] rfl) hw
theorem qMB : ∀ w ∈ u_ws RX11 TX11 55, w ∈ wsX11_draws := uiM qab2 qfa (by decide +kernel)
theorem qJV : (.fieldLink RX11 444 "MarchHaresModel" "seedNow" "I" : Cond) ∈ wsX11_draws := qab2 4115 (by decide +kernel)
theorem qajR : (.constant RX11 447 (1103515245) : Cond) ∈ wsX11_draws := qab2 4160 (by decide +kernel)
set_option maxHeartbeats 4000000 in
set_option maxRecDepth 100000 in
theorem q3i (l : Launch) (dC : Nat → ClassId) (dI : Nat → Nat → Nat) (cyB cyI cyJ cyP : ClassId) (a0 sz : Nat) (jaX jaF jaD ja7 jby jbe jaM jaY jap jaK jal jam jax jao ja6 jaV ja8 jae jag jaf ja0 ja4 jaP jaw jaI jaZ jaG jaS jan jaU jaE jar jaL jah jaB jaa jaz jaH jab ja2 z0_s jaq jai jaO jaA jat jau jav jaj jas jaJ jad jay jac : Value) (jjo p1 : Int32) {Q : Int32 → Int32 → Prop} (hw : qLj jjo p1 Q) : Met l yX11_draws wsX11_draws ({ frames := 0, cells := 0, slots := 0, locals := 0 }) (va_Pc [.ref a0, .int p1] (cPc (dC, dI) (kT cyB cyI cyJ cyP) (qYk a0 jaX jaF jaD ja7 jby jbe jaM jaY jap jaK jal jam jax jao ja6 jaV ja8 jae jag jaf ja0 ja4 jaP jaw jaI jaZ jaG jaS jan jaU jaE jar jaL jah jaB jaa jaz jaH jab ja2 z0_s jaq jai jaO jaA jat jau jav jaj jas jaJ jjo jad jay jac) sz)) (va_Qi (fun (r u : Int32) => Q r u) (cB (dC, dI) (kT cyB cyI cyJ cyP) (va_A (qYk a0 jaX jaF jaD ja7 jby jbe jaM jaY jap jaK jal jam jax jao ja6 jaV ja8 jae jag jaf ja0 ja4 jaP jaw jaI jaZ jaG jaS jan jaU jaE jar jaL jah jaB jaa jaz jaH jab ja2 z0_s jaq jai jaO jaA jat jau jav jaj jas jaJ jjo jad jay jac) sz) (fun u : Int32 => ((qYk a0 jaX jaF jaD ja7 jby jbe jaM jaY jap jaK jal jam jax jao ja6 jaV ja8 jae jag jaf ja0 ja4 jaP jaw jaI jaZ jaG jaS jan jaU jaE jar jaL jah jaB jaa jaz jaH jab ja2 z0_s jaq jai jaO jaA jat jau jav jaj jas jaJ u jad jay jac) : va_W))) (va_A (qYk a0 jaX jaF jaD ja7 jby jbe jaM jaY jap jaK jal jam jax jao ja6 jaV ja8 jae jag jaf ja0 ja4 jaP jaw jaI jaZ jaG jaS jan jaU jaE jar jaL jah jaB jaa jaz jaH jab ja2 z0_s jaq jai jaO jaA jat jau jav jaj jas jaJ jjo jad jay jac) sz)) 0 0 (va_A (qYk a0 jaX jaF jaD ja7 jby jbe jaM jaY jap jaK jal jam jax jao ja6 jaV ja8 jae jag jaf ja0 ja4 jaP jaw jaI jaZ jaG jaS jan jaU jaE jar jaL jah jaB jaa jaz jaH jab ja2 z0_s jaq jai jaO jaA jat jau jav jaj jas jaJ jjo jad jay jac) sz) := by
  refine Met.ofW (cc := cX11_draws) (maxL := 2) (ret := (some .int)) (by decide) rfl ?_
  intro p e s m args below meth c s₁ B hml hv
  obtain ⟨rfl, hsz, hP, hK, hD0, hNw⟩ := hv
  have hx := B.exec
  have hb := B.bytes
  have hr := B.returns
  have hts := atoms_spec (ws := wsX11_draws) B.pre
  have hown : s.vm.findClass RX11 = some m.cls := findClass_of_methodNamed B.named
  have hlocks := B.notSynchronized
  subst hsz
  have hD := hD0.self (sz := s.heap.size)
  generalize hAe : va_A (qYk a0 jaX jaF jaD ja7 jby jbe jaM jaY jap jaK jal jam jax jao ja6 jaV ja8 jae jag jaf ja0 ja4 jaP jaw jaI jaZ jaG jaS jan jaU jaE jar jaL jah jaB jaa jaz jaH jab ja2 z0_s jaq jai jaO jaA jat jau jav jaj jas jaJ jjo jad jay jac) s.heap.size = A at hD ⊢
  have hA : ∀ q : Nat, s.heap.size ≤ q → A q := fun q h => by rw [← hAe]; exact Or.inr h
  have hS : va_S A s.heap s.heap [] := va_S.rf
  have hP : va_P (dC, dI) vwCl (qYk a0 jaX jaF jaD ja7 jby jbe jaM jaY jap jaK jal jam jax jao ja6 jaV ja8 jae jag jaf ja0 ja4 jaP jaw jaI jaZ jaG jaS jan jaU jaE jar jaL jah jaB jaa jaz jaH jab ja2 z0_s jaq jai jaO jaA jat jau jav jaj jas jaJ jjo jad jay jac) s.heap := hP
  have hl := lv_entry ([.ref a0, .int p1]) (n := 2) (nbq rfl)
  rw [lg_entry_eq]
  generalize (lg_sl ([.ref a0, .int p1]) ++ List.replicate (2 - (lg_sl ([.ref a0, .int p1])).length) Slot.unset).toArray = ls at hl ⊢
  have hl : lv_has ls 2 [(0, .ref a0), (1, .int p1)] := hl
  have C0 : cfx p s m _ meth c cX11_draws (some .int) wsX11_draws RX11 2 A (dC, dI) (kT cyB cyI cyJ cyP) := ⟨hx, hb, hr, hts, hown, hlocks, hml, hA, hK, hNw⟩
  clear hAe
  obtain ⟨H, hH⟩ : ∃ H, H = s.heap := ⟨_, rfl⟩
  rw [← hH] at hP ⊢
  have hS : va_S A s.heap H [] := by rw [hH]; exact va_S.rf
  have hS := hS
  refine lv_aload_n hx hb (qaa qi2 0 rfl) rfl (lv_at hl 0 rfl) ?_
  refine lv_aload_n hx hb (qaa qi2 1 rfl) rfl (lv_at hl 0 rfl) ?_
  refine va_get (D := (dC, dI)) (ci := 11) (v := .int jjo) (C := RX11) (T := TX11) (N := 55) hx hb hts qMB hown hK hP 0 rfl rfl 51 (by decide) (hts _ qJV) (fun _ h9 => h9) rfl (qaa qi2 2 rfl) ?_
  refine lv_ldcw (v := 1103515245) hx hb hown (hts _ qajR) (qaa qi2 3 rfl) ?_
  refine lv_imul hx hb (qaa qi2 4 rfl) ?_
  refine lv_topi (fun x1 ex1 => ?_)
  have hw := hw x1 ex1
  refine lv_sipush (v := 12345) hx hb (qaa qi2 5 rfl) (by decide) ?_
  refine lv_iadd hx hb (qaa qi2 6 rfl) ?_
  refine lv_topi (fun x2 ex2 => ?_)
  have hw := hw x2 ex2
  refine va_put (D := (dC, dI)) (ci := 11) (v := .int x2) (ty := .int) (C := RX11) (T := TX11) (N := 55) hx hb hts qMB tyX11 tyX11_ok nmX11 hown hK hP hD hS 0 rfl rfl 51 (by decide) (hts _ qJV) (fun _ h9 => h9) rfl (by decide +kernel) rfl rfl (nbq rfl) (qaa qi2 7 rfl) (fun H locs hP hD hS => ?_)
  have hP : va_P (dC, dI) vwCl (qYk a0 jaX jaF jaD ja7 jby jbe jaM jaY jap jaK jal jam jax jao ja6 jaV ja8 jae jag jaf ja0 ja4 jaP jaw jaI jaZ jaG jaS jan jaU jaE jar jaL jah jaB jaa jaz jaH jab ja2 z0_s jaq jai jaO jaA jat jau jav jaj jas jaJ x2 jad jay jac) H := hP
  have hD : va_D A (qYk a0 jaX jaF jaD ja7 jby jbe jaM jaY jap jaK jal jam jax jao ja6 jaV ja8 jae jag jaf ja0 ja4 jaP jaw jaI jaZ jaG jaS jan jaU jaE jar jaL jah jaB jaa jaz jaH jab ja2 z0_s jaq jai jaO jaA jat jau jav jaj jas jaJ x2 jad jay jac) := hD
  refine lv_aload_n hx hb (qaa qi2 8 rfl) rfl (lv_at hl 0 rfl) ?_
  refine va_get (D := (dC, dI)) (ci := 11) (v := .int x2) (C := RX11) (T := TX11) (N := 55) hx hb hts qMB hown hK hP 0 rfl rfl 51 (by decide) (hts _ qJV) (fun _ h9 => h9) rfl (qaa qi2 9 rfl) ?_
  refine lv_bipush (v := 16) hx hb (qaa qi2 10 rfl) (by decide) ?_
  refine lv_ishr hx hb (qaa qi2 11 rfl) ?_
  refine lv_sipush (v := 32767) hx hb (qaa qi2 12 rfl) (by decide) ?_
  refine lv_iand hx hb (qaa qi2 13 rfl) ?_
  refine lv_topi (fun x3 ex3 => ?_)
  have hw := hw x3 ex3
  refine lv_iload_n hx hb (qaa qi2 14 rfl) rfl (lv_at hl 1 rfl) ?_
  obtain ⟨hz9, hw⟩ := hw
  refine lv_irem hx hb (qaa qi2 15 rfl) hz9 ?_
  refine lv_topi (fun x4 ex4 => ?_)
  have hw := hw x4 ex4
  exact ((W.iret (v := x4) hx hb hr (fun t ht hW => ⟨⟨x4, (x2), rfl, hw, by rw [ht]; exact hP, va_K.moved hW.alike hK, hD⟩, hS.F ht⟩) hS.2.2 (qaa qay9 0 rfl)))
theorem qyn : ∀ w ∈ u_ws RX11 TX11 55, w ∈ wsX11_emit := uiM qOD qfa (by decide +kernel)
theorem qEL : (.fieldLink RX11 246 "MarchHaresModel" "newCodes" "I" : Cond) ∈ wsX11_emit := qOD 1481 (by decide +kernel)
theorem qazQ : (.fieldLink RX11 44 "MarchHaresModel" "newCode" "[I" : Cond) ∈ wsX11_emit := qOD 448 (by decide +kernel)
theorem qawn : (.fieldLink RX11 47 "MarchHaresModel" "newOf" "[I" : Cond) ∈ wsX11_emit := qOD 449 (by decide +kernel)
set_option maxHeartbeats 4000000 in
set_option maxRecDepth 100000 in
theorem qzX (l : Launch) (dC : Nat → ClassId) (dI : Nat → Nat → Nat) (cyB cyI cyJ cyP : ClassId) (a0 jbP jco sz : Nat) (jaX jaF jaD ja7 jby jaM jaY jap jaK jal jam jax jao ja6 jaV ja8 jae jag jaf ja0 ja4 jaP jaZ jaG jaS jaU jaE jar jaL jah jaB jaa jaz jaH jab ja2 z0_s jaq jai jaO jaA jat jau jav jaj jas jaJ jak jad jay jac : Value) (jb8 : Int32) (jeD jf5 : NI) (jcR p1 p2 : Int32) {Q : NI → NI → Int32 → Prop} (hw : qwf jb8 jeD jf5 jcR p1 p2 Q) : Met l yX11_emit wsX11_emit ({ frames := 1, cells := 0, slots := 0, locals := 20 }) (va_Pc [.ref a0, .int p1, .int p2] (cPc (dC, dI) (kT cyB cyI cyJ cyP) (qGM a0 jaX jaF jaD ja7 jby jb8 jaM jaY jap jaK jal jam jax jao ja6 jaV ja8 jae jag jaf ja0 ja4 jaP jbP jco jaZ jaG jaS jcR jaU jaE jar jaL jah jaB jaa jaz jaH jab ja2 z0_s jaq jai jaO jaA jat jau jav jaj jas jaJ jak jad jay jac jbP cyI jeD jco cyI jf5) sz)) (va_Qv (fun (u : NI × NI × Int32) => Q u.1 u.2.1 u.2.2) (cB (dC, dI) (kT cyB cyI cyJ cyP) (va_A (qGM a0 jaX jaF jaD ja7 jby jb8 jaM jaY jap jaK jal jam jax jao ja6 jaV ja8 jae jag jaf ja0 ja4 jaP jbP jco jaZ jaG jaS jcR jaU jaE jar jaL jah jaB jaa jaz jaH jab ja2 z0_s jaq jai jaO jaA jat jau jav jaj jas jaJ jak jad jay jac jbP cyI jeD jco cyI jf5) sz) (fun u : NI × NI × Int32 => ((qGM a0 jaX jaF jaD ja7 jby jb8 jaM jaY jap jaK jal jam jax jao ja6 jaV ja8 jae jag jaf ja0 ja4 jaP jbP jco jaZ jaG jaS u.2.2 jaU jaE jar jaL jah jaB jaa jaz jaH jab ja2 z0_s jaq jai jaO jaA jat jau jav jaj jas jaJ jak jad jay jac jbP cyI u.1 jco cyI u.2.1) : va_W))) (va_A (qGM a0 jaX jaF jaD ja7 jby jb8 jaM jaY jap jaK jal jam jax jao ja6 jaV ja8 jae jag jaf ja0 ja4 jaP jbP jco jaZ jaG jaS jcR jaU jaE jar jaL jah jaB jaa jaz jaH jab ja2 z0_s jaq jai jaO jaA jat jau jav jaj jas jaJ jak jad jay jac jbP cyI jeD jco cyI jf5) sz)) 0 0 (va_A (qGM a0 jaX jaF jaD ja7 jby jb8 jaM jaY jap jaK jal jam jax jao ja6 jaV ja8 jae jag jaf ja0 ja4 jaP jbP jco jaZ jaG jaS jcR jaU jaE jar jaL jah jaB jaa jaz jaH jab ja2 z0_s jaq jai jaO jaA jat jau jav jaj jas jaJ jak jad jay jac jbP cyI jeD jco cyI jf5) sz) := by
  refine Met.ofW (cc := cX11_emit) (maxL := 3) (ret := none) (by decide) rfl ?_
  intro p e s m args below meth c s₁ B hml hv
  obtain ⟨rfl, hsz, hP, hK, hD0, hNw⟩ := hv
  have hx := B.exec
  have hb := B.bytes
  have hr := B.returns
  have hts := atoms_spec (ws := wsX11_emit) B.pre
  have hown : s.vm.findClass RX11 = some m.cls := findClass_of_methodNamed B.named
  have hlocks := B.notSynchronized
  subst hsz
  have hD := hD0.self (sz := s.heap.size)
  generalize hAe : va_A (qGM a0 jaX jaF jaD ja7 jby jb8 jaM jaY jap jaK jal jam jax jao ja6 jaV ja8 jae jag jaf ja0 ja4 jaP jbP jco jaZ jaG jaS jcR jaU jaE jar jaL jah jaB jaa jaz jaH jab ja2 z0_s jaq jai jaO jaA jat jau jav jaj jas jaJ jak jad jay jac jbP cyI jeD jco cyI jf5) s.heap.size = A at hD ⊢
  have hA : ∀ q : Nat, s.heap.size ≤ q → A q := fun q h => by rw [← hAe]; exact Or.inr h
  have hS : va_S A s.heap s.heap [] := va_S.rf
  have hP : va_P (dC, dI) vwCl (qGM a0 jaX jaF jaD ja7 jby jb8 jaM jaY jap jaK jal jam jax jao ja6 jaV ja8 jae jag jaf ja0 ja4 jaP jbP jco jaZ jaG jaS jcR jaU jaE jar jaL jah jaB jaa jaz jaH jab ja2 z0_s jaq jai jaO jaA jat jau jav jaj jas jaJ jak jad jay jac jbP cyI jeD jco cyI jf5) s.heap := hP
  have hl := lv_entry ([.ref a0, .int p1, .int p2]) (n := 3) (nbq rfl)
  rw [lg_entry_eq]
  generalize (lg_sl ([.ref a0, .int p1, .int p2]) ++ List.replicate (3 - (lg_sl ([.ref a0, .int p1, .int p2])).length) Slot.unset).toArray = ls at hl ⊢
  have hl : lv_has ls 3 [(0, .ref a0), (1, .int p1), (2, .int p2)] := hl
  have C0 : cfx p s m _ meth c cX11_emit none wsX11_emit RX11 3 A (dC, dI) (kT cyB cyI cyJ cyP) := ⟨hx, hb, hr, hts, hown, hlocks, hml, hA, hK, hNw⟩
  clear hAe
  obtain ⟨H, hH⟩ : ∃ H, H = s.heap := ⟨_, rfl⟩
  rw [← hH] at hP ⊢
  have hS : va_S A s.heap H [] := by rw [hH]; exact va_S.rf
  have hS := hS
  refine lv_aload_n hx hb (qaa qlA 0 rfl) rfl (lv_at hl 0 rfl) ?_
  obtain ⟨hCc, hPc, hDc, hFc⟩ := qac (ws' := (qa3w a0 jaX jaF jaD ja7 jby jb8 jaM jaY jap jaK jal jam jax jao ja6 jaV ja8 jae jag jaf ja0 ja4 jaP jbP jco jaZ jaG jaS jcR jaU jaE jar jaL jah jaB jaa jaz jaH jab ja2 z0_s jaq jai jaO jaA jat jau jav jaj jas jaJ jak jad jay jac)) hP hD hS hA [0] (by decide +kernel) rfl
  refine va_calli (va_runV (As := []) (rest := []) ⟨hx, hb, hml, hown, hts⟩ (qdP l dC dI cyB cyI cyJ cyP a0 H.size (jaX) (jaF) (jaD) (ja7) (jby) (jaM) (jaY) (jap) (jaK) (jal) (jam) (jax) (jao) (ja6) (jaV) (ja8) (jae) (jag) (jaf) (ja0) (ja4) (jaP) (.ref jbP) (.ref jco) (jaZ) (jaG) (jaS) (.int jcR) (jaU) (jaE) (jar) (jaL) (jah) (jaB) (jaa) (jaz) (jaH) (jab) (ja2) (z0_s) (jaq) (jai) (jaO) (jaA) (jat) (jau) (jav) (jaj) (jas) (jaJ) (jak) (jad) (jay) (jac) jb8 hw) (cwV 0 hts gX11_emit_X11_fine rfl rfl rfl (by decide +kernel) ⟨nbq rfl, nbq rfl⟩) ⟨qab, va_recv (q := (RX11, TX11, 55)) hK hPc (ci := 11) (q0 := 0) rfl rfl, qae hPc hK hDc hNw⟩ rfl rfl hl.1 rfl (lv_room (nbq rfl)) (qaa qlA 1 rfl) ⟨nbq rfl, nbq rfl⟩) hS (fun q _ h => hFc q h) hFc (fun r1 u t H1 locs ht hvm hw hB hz1 hk1 hS => ?_)
  obtain ⟨hP1, hK1, hD1⟩ := hB
  rw [ht] at hP1
  obtain ⟨hP, hD⟩ := qad (wr := [(jbP, .inl (cyI, 150, .inl jeD)), (jco, .inl (cyI, 150, .inl jf5))]) (w1 := (qa3w a0 jaX jaF jaD ja7 jby jb8 jaM jaY jap jaK jal jam jax jao ja6 jaV ja8 jae jag jaf ja0 ja4 jaP jbP jco jaZ jaG jaS jcR jaU jaE jar jaL jah jaB jaa jaz jaH jab ja2 z0_s jaq jai jaO jaA jat jau jav jaj jas jaJ jak jad jay jac)) (wn := (qGM a0 jaX jaF jaD ja7 jby jb8 jaM jaY jap jaK jal jam jax jao ja6 jaV ja8 jae jag jaf ja0 ja4 jaP jbP jco jaZ jaG jaS jcR jaU jaE jar jaL jah jaB jaa jaz jaH jab ja2 z0_s jaq jai jaO jaA jat jau jav jaj jas jaJ jak jad jay jac jbP cyI jeD jco cyI jf5)) hP hD [0] [1, 2] [2, 0, 1] hCc rfl (by decide +kernel) (by decide +kernel) (by decide +kernel) rfl hk1 hFc hP1 hD1
  generalize H1 = H at hP hS ⊢
  refine lv_if_ne (tgt := 8) hx hb (qaa qlA 2 rfl) (by decide) (fun c2 => ?_) (fun c2 => ?_)
  · have hw := hw.1 c2
    refine lv_aload_n hx hb (qaa qlA 4 rfl) rfl (lv_at hl 0 rfl) ?_
    refine va_get (D := (dC, dI)) (ci := 11) (v := .ref jbP) (C := RX11) (T := TX11) (N := 55) hx hb hts qyn hown hK hP 0 rfl rfl 23 (by decide) (hts _ qazQ) (fun _ h9 => h9) rfl (qaa qlA 5 rfl) ?_
    refine lv_aload_n hx hb (qaa qlA 6 rfl) rfl (lv_at hl 0 rfl) ?_
    refine va_get (D := (dC, dI)) (ci := 11) (v := .int jcR) (C := RX11) (T := TX11) (N := 55) hx hb hts qyn hown hK hP 0 rfl rfl 28 (by decide) (hts _ qEL) (fun _ h9 => h9) rfl (qaa qlA 7 rfl) ?_
    refine lv_iload_n hx hb (qaa qlA 8 rfl) rfl (lv_at hl 1 rfl) ?_
    obtain ⟨hi9, hw⟩ := hw
    refine va_iast hx hb hK hP hD hS 1 1 rfl rfl hi9 (qaa qlA 9 rfl) (fun H locs hP hD hS => ?_)
    obtain ⟨f3, ef3⟩ : ∃ y : NI, y = upd jeD jcR.toNatClampNeg p1 := ⟨_, rfl⟩
    have hw := hw f3 ef3
    have hP : va_P (dC, dI) vwCl (qGM a0 jaX jaF jaD ja7 jby jb8 jaM jaY jap jaK jal jam jax jao ja6 jaV ja8 jae jag jaf ja0 ja4 jaP jbP jco jaZ jaG jaS jcR jaU jaE jar jaL jah jaB jaa jaz jaH jab ja2 z0_s jaq jai jaO jaA jat jau jav jaj jas jaJ jak jad jay jac jbP cyI f3 jco cyI jf5) H := by rw [ef3]; exact hP
    have hD : va_D A (qGM a0 jaX jaF jaD ja7 jby jb8 jaM jaY jap jaK jal jam jax jao ja6 jaV ja8 jae jag jaf ja0 ja4 jaP jbP jco jaZ jaG jaS jcR jaU jaE jar jaL jah jaB jaa jaz jaH jab ja2 z0_s jaq jai jaO jaA jat jau jav jaj jas jaJ jak jad jay jac jbP cyI f3 jco cyI jf5) := by rw [ef3]; exact hD
    refine lv_aload_n hx hb (qaa qlA 10 rfl) rfl (lv_at hl 0 rfl) ?_
    refine va_get (D := (dC, dI)) (ci := 11) (v := .ref jco) (C := RX11) (T := TX11) (N := 55) hx hb hts qyn hown hK hP 0 rfl rfl 24 (by decide) (hts _ qawn) (fun _ h9 => h9) rfl (qaa qlA 11 rfl) ?_
    refine lv_aload_n hx hb (qaa qlA 12 rfl) rfl (lv_at hl 0 rfl) ?_
    refine va_get (D := (dC, dI)) (ci := 11) (v := .int jcR) (C := RX11) (T := TX11) (N := 55) hx hb hts qyn hown hK hP 0 rfl rfl 28 (by decide) (hts _ qEL) (fun _ h9 => h9) rfl (qaa qlA 13 rfl) ?_
    refine lv_iload_n hx hb (qaa qlA 14 rfl) rfl (lv_at hl 2 rfl) ?_
    obtain ⟨hi9, hw⟩ := hw
    refine va_iast hx hb hK hP hD hS 2 1 rfl rfl hi9 (qaa qlA 15 rfl) (fun H locs hP hD hS => ?_)
    obtain ⟨f4, ef4⟩ : ∃ y : NI, y = upd jf5 jcR.toNatClampNeg p2 := ⟨_, rfl⟩
    have hw := hw f4 ef4
    have hP : va_P (dC, dI) vwCl (qGM a0 jaX jaF jaD ja7 jby jb8 jaM jaY jap jaK jal jam jax jao ja6 jaV ja8 jae jag jaf ja0 ja4 jaP jbP jco jaZ jaG jaS jcR jaU jaE jar jaL jah jaB jaa jaz jaH jab ja2 z0_s jaq jai jaO jaA jat jau jav jaj jas jaJ jak jad jay jac jbP cyI f3 jco cyI f4) H := by rw [ef4]; exact hP
    have hD : va_D A (qGM a0 jaX jaF jaD ja7 jby jb8 jaM jaY jap jaK jal jam jax jao ja6 jaV ja8 jae jag jaf ja0 ja4 jaP jbP jco jaZ jaG jaS jcR jaU jaE jar jaL jah jaB jaa jaz jaH jab ja2 z0_s jaq jai jaO jaA jat jau jav jaj jas jaJ jak jad jay jac jbP cyI f3 jco cyI f4) := by rw [ef4]; exact hD
    refine lv_aload_n hx hb (qaa qxH 0 rfl) rfl (lv_at hl 0 rfl) ?_
    refine lv_dup hx hb (qaa qxH 1 rfl) rfl ?_
    refine va_get (D := (dC, dI)) (ci := 11) (v := .int jcR) (C := RX11) (T := TX11) (N := 55) hx hb hts qyn hown hK hP 0 rfl rfl 28 (by decide) (hts _ qEL) (fun _ h9 => h9) rfl (qaa qxH 2 rfl) ?_
    refine lv_iconst (v := 1) hx hb (qaa qxH 3 rfl) (by decide) ?_
    refine lv_iadd hx hb (qaa qxH 4 rfl) ?_
    refine lv_topi (fun x5 ex5 => ?_)
    have hw := hw x5 ex5
    refine va_put (D := (dC, dI)) (ci := 11) (v := .int x5) (ty := .int) (C := RX11) (T := TX11) (N := 55) hx hb hts qyn tyX11 tyX11_ok nmX11 hown hK hP hD hS 0 rfl rfl 28 (by decide) (hts _ qEL) (fun _ h9 => h9) rfl (by decide +kernel) rfl rfl (nbq rfl) (qaa qxH 5 rfl) (fun H locs hP hD hS => ?_)
    have hP : va_P (dC, dI) vwCl (qGM a0 jaX jaF jaD ja7 jby jb8 jaM jaY jap jaK jal jam jax jao ja6 jaV ja8 jae jag jaf ja0 ja4 jaP jbP jco jaZ jaG jaS x5 jaU jaE jar jaL jah jaB jaa jaz jaH jab ja2 z0_s jaq jai jaO jaA jat jau jav jaj jas jaJ jak jad jay jac jbP cyI f3 jco cyI f4) H := hP
    have hD : va_D A (qGM a0 jaX jaF jaD ja7 jby jb8 jaM jaY jap jaK jal jam jax jao ja6 jaV ja8 jae jag jaf ja0 ja4 jaP jbP jco jaZ jaG jaS x5 jaU jaE jar jaL jah jaB jaa jaz jaH jab ja2 z0_s jaq jai jaO jaA jat jau jav jaj jas jaJ jak jad jay jac jbP cyI f3 jco cyI f4) := hD
    exact ((W.vret hx hb hr (fun t ht hW => ⟨⟨(f3, f4, x5), rfl, hw, by rw [ht]; exact hP, va_K.moved hW.alike hK, hD⟩, hS.F ht⟩) hS.2.2 (qaa qxH 6 rfl)))
  · have hw := hw.2 c2
    exact ((W.vret hx hb hr (fun t ht hW => ⟨⟨(jeD, jf5, jcR), rfl, hw, by rw [ht]; exact hP, va_K.moved hW.alike hK, hD⟩, hS.F ht⟩) hS.2.2 (qaa qlA 3 rfl)))
theorem qaHq : ∀ w ∈ u_ws RX11 TX11 55, w ∈ wsX11_far := uiM qUR qfa (by decide +kernel)
theorem qaMN : (.fieldLink RX11 3 "MarchHaresModel" "thrown" "I" : Cond) ∈ wsX11_far := qUR 589 (by decide +kernel)
set_option maxHeartbeats 4000000 in
set_option maxRecDepth 100000 in
theorem qa2m (l : Launch) (dC : Nat → ClassId) (dI : Nat → Nat → Nat) (cyB cyI cyJ cyP : ClassId) (a0 jaQ ja5 sz : Nat) (jaD ja7 jby jbe jaM jaY jap jaK jal jam jax jao jaV ja8 jae jag jaf ja4 jaP jaw jaI jaZ jaG jaS jan jaU jaE jar jaL jah jaB jaa jaz jaH jab ja2 z0_s jaq jai jaO jaA jat jau jav jaj jas jaJ jak jad jay jac : Value) (jaN : Int32) (jbv : NI) (jbd : Int32) (ja9 : NI) (p1 p2 : Int32) {Q : Int32 → Int32 → NI → Prop} (hw : qane jaN jbv jbd ja9 p1 p2 Q) : Met l yX11_far wsX11_far ({ frames := 2, cells := 0, slots := 0, locals := 45 }) (va_Pc [.ref a0, .int p1, .int p2] (cPc (dC, dI) (kT cyB cyI cyJ cyP) (qMa a0 jbd jaQ jaD ja7 jby jbe jaM jaY jap jaK jal jam jax jao ja5 jaV ja8 jae jag jaf jaN ja4 jaP jaw jaI jaZ jaG jaS jan jaU jaE jar jaL jah jaB jaa jaz jaH jab ja2 z0_s jaq jai jaO jaA jat jau jav jaj jas jaJ jak jad jay jac jaQ cyI ja9 ja5 cyI jbv) sz)) (va_Qi (fun (r : Int32) (u : Int32 × NI) => Q r u.1 u.2) (cB (dC, dI) (kT cyB cyI cyJ cyP) (va_A (qMa a0 jbd jaQ jaD ja7 jby jbe jaM jaY jap jaK jal jam jax jao ja5 jaV ja8 jae jag jaf jaN ja4 jaP jaw jaI jaZ jaG jaS jan jaU jaE jar jaL jah jaB jaa jaz jaH jab ja2 z0_s jaq jai jaO jaA jat jau jav jaj jas jaJ jak jad jay jac jaQ cyI ja9 ja5 cyI jbv) sz) (fun u : Int32 × NI => ((qMa a0 u.1 jaQ jaD ja7 jby jbe jaM jaY jap jaK jal jam jax jao ja5 jaV ja8 jae jag jaf jaN ja4 jaP jaw jaI jaZ jaG jaS jan jaU jaE jar jaL jah jaB jaa jaz jaH jab ja2 z0_s jaq jai jaO jaA jat jau jav jaj jas jaJ jak jad jay jac jaQ cyI u.2 ja5 cyI jbv) : va_W))) (va_A (qMa a0 jbd jaQ jaD ja7 jby jbe jaM jaY jap jaK jal jam jax jao ja5 jaV ja8 jae jag jaf jaN ja4 jaP jaw jaI jaZ jaG jaS jan jaU jaE jar jaL jah jaB jaa jaz jaH jab ja2 z0_s jaq jai jaO jaA jat jau jav jaj jas jaJ jak jad jay jac jaQ cyI ja9 ja5 cyI jbv) sz)) 0 0 (va_A (qMa a0 jbd jaQ jaD ja7 jby jbe jaM jaY jap jaK jal jam jax jao ja5 jaV ja8 jae jag jaf jaN ja4 jaP jaw jaI jaZ jaG jaS jan jaU jaE jar jaL jah jaB jaa jaz jaH jab ja2 z0_s jaq jai jaO jaA jat jau jav jaj jas jaJ jak jad jay jac jaQ cyI ja9 ja5 cyI jbv) sz) := by
  refine Met.ofW (cc := cX11_far) (maxL := 3) (ret := (some .int)) (by decide) rfl ?_
  intro p e s m args below meth c s₁ B hml hv
  obtain ⟨rfl, hsz, hP, hK, hD0, hNw⟩ := hv
  have hx := B.exec
  have hb := B.bytes
  have hr := B.returns
  have hts := atoms_spec (ws := wsX11_far) B.pre
  have hown : s.vm.findClass RX11 = some m.cls := findClass_of_methodNamed B.named
  have hlocks := B.notSynchronized
  subst hsz
  have hD := hD0.self (sz := s.heap.size)
  generalize hAe : va_A (qMa a0 jbd jaQ jaD ja7 jby jbe jaM jaY jap jaK jal jam jax jao ja5 jaV ja8 jae jag jaf jaN ja4 jaP jaw jaI jaZ jaG jaS jan jaU jaE jar jaL jah jaB jaa jaz jaH jab ja2 z0_s jaq jai jaO jaA jat jau jav jaj jas jaJ jak jad jay jac jaQ cyI ja9 ja5 cyI jbv) s.heap.size = A at hD ⊢
  have hA : ∀ q : Nat, s.heap.size ≤ q → A q := fun q h => by rw [← hAe]; exact Or.inr h
  have hS : va_S A s.heap s.heap [] := va_S.rf
  have hP : va_P (dC, dI) vwCl (qMa a0 jbd jaQ jaD ja7 jby jbe jaM jaY jap jaK jal jam jax jao ja5 jaV ja8 jae jag jaf jaN ja4 jaP jaw jaI jaZ jaG jaS jan jaU jaE jar jaL jah jaB jaa jaz jaH jab ja2 z0_s jaq jai jaO jaA jat jau jav jaj jas jaJ jak jad jay jac jaQ cyI ja9 ja5 cyI jbv) s.heap := hP
  have hl := lv_entry ([.ref a0, .int p1, .int p2]) (n := 3) (nbq rfl)
  rw [lg_entry_eq]
  generalize (lg_sl ([.ref a0, .int p1, .int p2]) ++ List.replicate (3 - (lg_sl ([.ref a0, .int p1, .int p2])).length) Slot.unset).toArray = ls at hl ⊢
  have hl : lv_has ls 3 [(0, .ref a0), (1, .int p1), (2, .int p2)] := hl
  have C0 : cfx p s m _ meth c cX11_far (some .int) wsX11_far RX11 3 A (dC, dI) (kT cyB cyI cyJ cyP) := ⟨hx, hb, hr, hts, hown, hlocks, hml, hA, hK, hNw⟩
  clear hAe
  obtain ⟨H, hH⟩ : ∃ H, H = s.heap := ⟨_, rfl⟩
  rw [← hH] at hP ⊢
  have hS : va_S A s.heap H [] := by rw [hH]; exact va_S.rf
  have hS := hS
  refine lv_aload_n hx hb (qaa qop 0 rfl) rfl (lv_at hl 0 rfl) ?_
  refine lv_iconst (v := 0) hx hb (qaa qop 1 rfl) (by decide) ?_
  refine va_put (D := (dC, dI)) (ci := 11) (v := .int 0) (ty := .int) (C := RX11) (T := TX11) (N := 55) hx hb hts qaHq tyX11 tyX11_ok nmX11 hown hK hP hD hS 0 rfl rfl 0 (by decide) (hts _ qaMN) (fun _ h9 => h9) rfl (by decide +kernel) rfl rfl (nbq rfl) (qaa qop 2 rfl) (fun H locs hP hD hS => ?_)
  have hP : va_P (dC, dI) vwCl (qMa a0 0 jaQ jaD ja7 jby jbe jaM jaY jap jaK jal jam jax jao ja5 jaV ja8 jae jag jaf jaN ja4 jaP jaw jaI jaZ jaG jaS jan jaU jaE jar jaL jah jaB jaa jaz jaH jab ja2 z0_s jaq jai jaO jaA jat jau jav jaj jas jaJ jak jad jay jac jaQ cyI ja9 ja5 cyI jbv) H := hP
  have hD : va_D A (qMa a0 0 jaQ jaD ja7 jby jbe jaM jaY jap jaK jal jam jax jao ja5 jaV ja8 jae jag jaf jaN ja4 jaP jaw jaI jaZ jaG jaS jan jaU jaE jar jaL jah jaB jaa jaz jaH jab ja2 z0_s jaq jai jaO jaA jat jau jav jaj jas jaJ jak jad jay jac jaQ cyI ja9 ja5 cyI jbv) := hD
  refine lv_aload_n hx hb (qaa qop 3 rfl) rfl (lv_at hl 0 rfl) ?_
  refine lv_iload_n hx hb (qaa qop 4 rfl) rfl (lv_at hl 1 rfl) ?_
  refine lv_iconst (v := 1) hx hb (qaa qop 5 rfl) (by decide) ?_
  obtain ⟨hCc, hPc, hDc, hFc⟩ := qac (ws' := (qaRV a0 0 jaQ jaD ja7 jby jbe jaM jaY jap jaK jal jam jax jao ja5 jaV ja8 jae jag jaf jaN ja4 jaP jaw jaI jaZ jaG jaS jan jaU jaE jar jaL jah jaB jaa jaz jaH jab ja2 z0_s jaq jai jaO jaA jat jau jav jaj jas jaJ jak jad jay jac jaQ cyI ja9)) hP hD hS hA [0, 1] (by decide +kernel) rfl
  refine va_calli (va_runV (As := [.int p1, .int 1]) (rest := []) ⟨hx, hb, hml, hown, hts⟩ (qDb l dC dI cyB cyI cyJ cyP a0 jaQ H.size (jaD) (ja7) (jby) (jbe) (jaM) (jaY) (jap) (jaK) (jal) (jam) (jax) (jao) (.ref ja5) (jaV) (ja8) (jae) (jag) (jaf) (ja4) (jaP) (jaw) (jaI) (jaZ) (jaG) (jaS) (jan) (jaU) (jaE) (jar) (jaL) (jah) (jaB) (jaa) (jaz) (jaH) (jab) (ja2) (z0_s) (jaq) (jai) (jaO) (jaA) (jat) (jau) (jav) (jaj) (jas) (jaJ) (jak) (jad) (jay) (jac) jaN 0 ja9 p1 1 hw) (cwV 2 hts gX11_far_X11_isForm rfl rfl rfl (by decide +kernel) ⟨nbq rfl, nbq rfl⟩) ⟨qab, va_recv (q := (RX11, TX11, 55)) hK hPc (ci := 11) (q0 := 0) rfl rfl, qae hPc hK hDc hNw⟩ rfl rfl hl.1 rfl (lv_room (nbq rfl)) (qaa qop 6 rfl) ⟨nbq rfl, nbq rfl⟩) hS (fun q _ h => hFc q h) hFc (fun r3 u t H1 locs ht hvm hw hB hz1 hk1 hS => ?_)
  obtain ⟨x1, f2⟩ := u
  obtain ⟨hP1, hK1, hD1⟩ := hB
  rw [ht] at hP1
  obtain ⟨hP, hD⟩ := qad (wr := (qa5n ja5 cyI jbv)) (w1 := (qaRV a0 x1 jaQ jaD ja7 jby jbe jaM jaY jap jaK jal jam jax jao ja5 jaV ja8 jae jag jaf jaN ja4 jaP jaw jaI jaZ jaG jaS jan jaU jaE jar jaL jah jaB jaa jaz jaH jab ja2 z0_s jaq jai jaO jaA jat jau jav jaj jas jaJ jak jad jay jac jaQ cyI f2)) (wn := (qMa a0 x1 jaQ jaD ja7 jby jbe jaM jaY jap jaK jal jam jax jao ja5 jaV ja8 jae jag jaf jaN ja4 jaP jaw jaI jaZ jaG jaS jan jaU jaE jar jaL jah jaB jaa jaz jaH jab ja2 z0_s jaq jai jaO jaA jat jau jav jaj jas jaJ jak jad jay jac jaQ cyI f2 ja5 cyI jbv)) hP hD [0, 1] [2] [1, 2, 0] hCc rfl (by decide +kernel) (by decide +kernel) (by decide +kernel) rfl hk1 hFc hP1 hD1
  generalize H1 = H at hP hS ⊢
  refine lv_if_eq (tgt := 32) hx hb (qaa qop 7 rfl) (by decide) (fun c4 => ?_) (fun c4 => ?_)
  · have hw := hw.1 c4
    refine lv_iconst (v := 0) hx hb (qaa qzt 2 rfl) (by decide) ?_
    exact ((W.iret (v := 0) hx hb hr (fun t ht hW => ⟨⟨0, (x1, f2), rfl, hw, by rw [ht]; exact hP, va_K.moved hW.alike hK, hD⟩, hS.F ht⟩) hS.2.2 (qaa qzt 3 rfl)))
  · have hw := hw.2 c4
    refine lv_aload_n hx hb (qaa qop 8 rfl) rfl (lv_at hl 0 rfl) ?_
    refine lv_iload_n hx hb (qaa qop 9 rfl) rfl (lv_at hl 2 rfl) ?_
    refine lv_iconst (v := 1) hx hb (qaa qop 10 rfl) (by decide) ?_
    obtain ⟨hCc, hPc, hDc, hFc⟩ := qac (ws' := (qaRV a0 x1 jaQ jaD ja7 jby jbe jaM jaY jap jaK jal jam jax jao ja5 jaV ja8 jae jag jaf jaN ja4 jaP jaw jaI jaZ jaG jaS jan jaU jaE jar jaL jah jaB jaa jaz jaH jab ja2 z0_s jaq jai jaO jaA jat jau jav jaj jas jaJ jak jad jay jac jaQ cyI f2)) hP hD hS hA [0, 1] (by decide +kernel) rfl
    refine va_calli (va_runV (As := [.int p2, .int 1]) (rest := []) ⟨hx, hb, hml, hown, hts⟩ (qDb l dC dI cyB cyI cyJ cyP a0 jaQ H.size (jaD) (ja7) (jby) (jbe) (jaM) (jaY) (jap) (jaK) (jal) (jam) (jax) (jao) (.ref ja5) (jaV) (ja8) (jae) (jag) (jaf) (ja4) (jaP) (jaw) (jaI) (jaZ) (jaG) (jaS) (jan) (jaU) (jaE) (jar) (jaL) (jah) (jaB) (jaa) (jaz) (jaH) (jab) (ja2) (z0_s) (jaq) (jai) (jaO) (jaA) (jat) (jau) (jav) (jaj) (jas) (jaJ) (jak) (jad) (jay) (jac) jaN x1 f2 p2 1 hw) (cwV 2 hts gX11_far_X11_isForm rfl rfl rfl (by decide +kernel) ⟨nbq rfl, nbq rfl⟩) ⟨qab, va_recv (q := (RX11, TX11, 55)) hK hPc (ci := 11) (q0 := 0) rfl rfl, qae hPc hK hDc hNw⟩ rfl rfl hl.1 rfl (lv_room (nbq rfl)) (qaa qop 11 rfl) ⟨nbq rfl, nbq rfl⟩) hS (fun q _ h => hFc q h) hFc (fun r7 u t H1 locs ht hvm hw hB hz1 hk1 hS => ?_)
    obtain ⟨x5, f6⟩ := u
    obtain ⟨hP1, hK1, hD1⟩ := hB
    rw [ht] at hP1
    obtain ⟨hP, hD⟩ := qad (wr := (qa5n ja5 cyI jbv)) (w1 := (qaRV a0 x5 jaQ jaD ja7 jby jbe jaM jaY jap jaK jal jam jax jao ja5 jaV ja8 jae jag jaf jaN ja4 jaP jaw jaI jaZ jaG jaS jan jaU jaE jar jaL jah jaB jaa jaz jaH jab ja2 z0_s jaq jai jaO jaA jat jau jav jaj jas jaJ jak jad jay jac jaQ cyI f6)) (wn := (qMa a0 x5 jaQ jaD ja7 jby jbe jaM jaY jap jaK jal jam jax jao ja5 jaV ja8 jae jag jaf jaN ja4 jaP jaw jaI jaZ jaG jaS jan jaU jaE jar jaL jah jaB jaa jaz jaH jab ja2 z0_s jaq jai jaO jaA jat jau jav jaj jas jaJ jak jad jay jac jaQ cyI f6 ja5 cyI jbv)) hP hD [0, 1] [2] [1, 2, 0] hCc rfl (by decide +kernel) (by decide +kernel) (by decide +kernel) rfl hk1 hFc hP1 hD1
    generalize H1 = H at hP hS ⊢
    refine lv_if_eq (tgt := 32) hx hb (qaa qop 12 rfl) (by decide) (fun c8 => ?_) (fun c8 => ?_)
    · have hw := hw.1 c8
      refine lv_iconst (v := 0) hx hb (qaa qzt 2 rfl) (by decide) ?_
      exact ((W.iret (v := 0) hx hb hr (fun t ht hW => ⟨⟨0, (x5, f6), rfl, hw, by rw [ht]; exact hP, va_K.moved hW.alike hK, hD⟩, hS.F ht⟩) hS.2.2 (qaa qzt 3 rfl)))
    · have hw := hw.2 c8
      refine lv_aload_n hx hb (qaa qop 13 rfl) rfl (lv_at hl 0 rfl) ?_
      refine lv_iload_n hx hb (qaa qop 14 rfl) rfl (lv_at hl 1 rfl) ?_
      refine lv_iload_n hx hb (qaa qop 15 rfl) rfl (lv_at hl 2 rfl) ?_
      obtain ⟨hCc, hPc, hDc, hFc⟩ := qac (ws' := (qa7W a0 x5 jaQ jaD ja7 jby jbe jaM jaY jap jaK jal jam jax jao ja5 jaV ja8 jae jag jaf jaN ja4 jaP jaw jaI jaZ jaG jaS jan jaU jaE jar jaL jah jaB jaa jaz jaH jab ja2 z0_s jaq jai jaO jaA jat jau jav jaj jas jaJ jak jad jay jac ja5 cyI jbv)) hP hD hS hA [0, 2] (by decide +kernel) rfl
      refine va_calli (va_runV (As := [.int p1, .int p2]) (rest := []) ⟨hx, hb, hml, hown, hts⟩ (qvj l dC dI cyB cyI cyJ cyP a0 ja5 H.size (.int x5) (.ref jaQ) (jaD) (ja7) (jby) (jbe) (jaM) (jaY) (jap) (jaK) (jal) (jam) (jax) (jao) (jaV) (ja8) (jae) (jag) (jaf) (.int jaN) (ja4) (jaP) (jaw) (jaI) (jaZ) (jaG) (jaS) (jan) (jaU) (jaE) (jar) (jaL) (jah) (jaB) (jaa) (jaz) (jaH) (jab) (ja2) (z0_s) (jaq) (jai) (jaO) (jaA) (jat) (jau) (jav) (jaj) (jas) (jaJ) (jak) (jad) (jay) (jac) jbv p1 p2 hw) (cwV 2 hts gX11_far_X11_farOf rfl rfl rfl (by decide +kernel) ⟨nbq rfl, nbq rfl⟩) ⟨qab, va_recv (q := (RX11, TX11, 55)) hK hPc (ci := 11) (q0 := 0) rfl rfl, qae hPc hK hDc hNw⟩ rfl rfl hl.1 rfl (lv_room (nbq rfl)) (qaa qzt 0 rfl) ⟨nbq rfl, nbq rfl⟩) hS (fun q _ h => hFc q h) hFc (fun r9 u t H1 locs ht hvm hw hB hz1 hk1 hS => ?_)
      obtain ⟨hP1, hK1, hD1⟩ := hB
      rw [ht] at hP1
      obtain ⟨hP, hD⟩ := qad (wr := [(jaQ, .inl (cyI, 2, .inl f6))]) (w1 := (qa7W a0 x5 jaQ jaD ja7 jby jbe jaM jaY jap jaK jal jam jax jao ja5 jaV ja8 jae jag jaf jaN ja4 jaP jaw jaI jaZ jaG jaS jan jaU jaE jar jaL jah jaB jaa jaz jaH jab ja2 z0_s jaq jai jaO jaA jat jau jav jaj jas jaJ jak jad jay jac ja5 cyI jbv)) (wn := (qMa a0 x5 jaQ jaD ja7 jby jbe jaM jaY jap jaK jal jam jax jao ja5 jaV ja8 jae jag jaf jaN ja4 jaP jaw jaI jaZ jaG jaS jan jaU jaE jar jaL jah jaB jaa jaz jaH jab ja2 z0_s jaq jai jaO jaA jat jau jav jaj jas jaJ jak jad jay jac jaQ cyI f6 ja5 cyI jbv)) hP hD [0, 2] [1] [1, 0, 2] hCc rfl (by decide +kernel) (by decide +kernel) (by decide +kernel) rfl hk1 hFc hP1 hD1
      generalize H1 = H at hP hS ⊢
      refine lv_goto (tgt := 33) hx hb (qaa qzt 1 rfl) (by decide) ?_
      exact ((W.iret (v := r9) hx hb hr (fun t ht hW => ⟨⟨r9, (x5, f6), rfl, hw, by rw [ht]; exact hP, va_K.moved hW.alike hK, hD⟩, hS.F ht⟩) hS.2.2 (qaa qzt 3 rfl)))
theorem qZL : ∀ w ∈ u_ws RX11 TX11 55, w ∈ wsX11_fault := uiM q9M qfa (by decide +kernel)
theorem qaqq : (.fieldLink RX11 17 "MarchHaresModel" "faultAt" "I" : Cond) ∈ wsX11_fault := q9M 399 (by decide +kernel)
theorem qaDv : (.fieldLink RX11 3 "MarchHaresModel" "thrown" "I" : Cond) ∈ wsX11_fault := q9M 589 (by decide +kernel)
set_option maxHeartbeats 4000000 in
set_option maxRecDepth 100000 in
theorem qaSU (l : Launch) (dC : Nat → ClassId) (dI : Nat → Nat → Nat) (cyB cyI cyJ cyP : ClassId) (a0 sz : Nat) (jaF jaD ja7 jby jbe jaM jaY jaK jal jam jax jao ja6 jaV ja8 jae jag jaf ja0 ja4 jaP jaw jaI jaZ jaG jaS jan jaU jaE jar jaL jah jaB jaa jaz jaH jab ja2 z0_s jaq jai jaO jaA jat jau jav jaj jas jaJ jak jad jay jac : Value) (jgo jbd : Int32) {Q : Int32 → Int32 → Prop} (hw : q4Q jgo jbd Q) : Met l yX11_fault wsX11_fault ({ frames := 0, cells := 0, slots := 0, locals := 0 }) (va_Pc [.ref a0] (cPc (dC, dI) (kT cyB cyI cyJ cyP) (qXH a0 jbd jaF jaD ja7 jby jbe jaM jaY jgo jaK jal jam jax jao ja6 jaV ja8 jae jag jaf ja0 ja4 jaP jaw jaI jaZ jaG jaS jan jaU jaE jar jaL jah jaB jaa jaz jaH jab ja2 z0_s jaq jai jaO jaA jat jau jav jaj jas jaJ jak jad jay jac) sz)) (va_Qi (fun (r u : Int32) => Q r u) (cB (dC, dI) (kT cyB cyI cyJ cyP) (va_A (qXH a0 jbd jaF jaD ja7 jby jbe jaM jaY jgo jaK jal jam jax jao ja6 jaV ja8 jae jag jaf ja0 ja4 jaP jaw jaI jaZ jaG jaS jan jaU jaE jar jaL jah jaB jaa jaz jaH jab ja2 z0_s jaq jai jaO jaA jat jau jav jaj jas jaJ jak jad jay jac) sz) (fun u : Int32 => ((qXH a0 u jaF jaD ja7 jby jbe jaM jaY jgo jaK jal jam jax jao ja6 jaV ja8 jae jag jaf ja0 ja4 jaP jaw jaI jaZ jaG jaS jan jaU jaE jar jaL jah jaB jaa jaz jaH jab ja2 z0_s jaq jai jaO jaA jat jau jav jaj jas jaJ jak jad jay jac) : va_W))) (va_A (qXH a0 jbd jaF jaD ja7 jby jbe jaM jaY jgo jaK jal jam jax jao ja6 jaV ja8 jae jag jaf ja0 ja4 jaP jaw jaI jaZ jaG jaS jan jaU jaE jar jaL jah jaB jaa jaz jaH jab ja2 z0_s jaq jai jaO jaA jat jau jav jaj jas jaJ jak jad jay jac) sz)) 0 0 (va_A (qXH a0 jbd jaF jaD ja7 jby jbe jaM jaY jgo jaK jal jam jax jao ja6 jaV ja8 jae jag jaf ja0 ja4 jaP jaw jaI jaZ jaG jaS jan jaU jaE jar jaL jah jaB jaa jaz jaH jab ja2 z0_s jaq jai jaO jaA jat jau jav jaj jas jaJ jak jad jay jac) sz) := by
  refine Met.ofW (cc := cX11_fault) (maxL := 1) (ret := (some .int)) (by decide) rfl ?_
  intro p e s m args below meth c s₁ B hml hv
  obtain ⟨rfl, hsz, hP, hK, hD0, hNw⟩ := hv
  have hx := B.exec
  have hb := B.bytes
  have hr := B.returns
  have hts := atoms_spec (ws := wsX11_fault) B.pre
  have hown : s.vm.findClass RX11 = some m.cls := findClass_of_methodNamed B.named
  have hlocks := B.notSynchronized
  subst hsz
  have hD := hD0.self (sz := s.heap.size)
  generalize hAe : va_A (qXH a0 jbd jaF jaD ja7 jby jbe jaM jaY jgo jaK jal jam jax jao ja6 jaV ja8 jae jag jaf ja0 ja4 jaP jaw jaI jaZ jaG jaS jan jaU jaE jar jaL jah jaB jaa jaz jaH jab ja2 z0_s jaq jai jaO jaA jat jau jav jaj jas jaJ jak jad jay jac) s.heap.size = A at hD ⊢
  have hA : ∀ q : Nat, s.heap.size ≤ q → A q := fun q h => by rw [← hAe]; exact Or.inr h
  have hS : va_S A s.heap s.heap [] := va_S.rf
  have hP : va_P (dC, dI) vwCl (qXH a0 jbd jaF jaD ja7 jby jbe jaM jaY jgo jaK jal jam jax jao ja6 jaV ja8 jae jag jaf ja0 ja4 jaP jaw jaI jaZ jaG jaS jan jaU jaE jar jaL jah jaB jaa jaz jaH jab ja2 z0_s jaq jai jaO jaA jat jau jav jaj jas jaJ jak jad jay jac) s.heap := hP
  have hl := lv_entry ([.ref a0]) (n := 1) (nbq rfl)
  rw [lg_entry_eq]
  generalize (lg_sl ([.ref a0]) ++ List.replicate (1 - (lg_sl ([.ref a0])).length) Slot.unset).toArray = ls at hl ⊢
  have hl : lv_has ls 1 [(0, .ref a0)] := hl
  have C0 : cfx p s m _ meth c cX11_fault (some .int) wsX11_fault RX11 1 A (dC, dI) (kT cyB cyI cyJ cyP) := ⟨hx, hb, hr, hts, hown, hlocks, hml, hA, hK, hNw⟩
  clear hAe
  obtain ⟨H, hH⟩ : ∃ H, H = s.heap := ⟨_, rfl⟩
  rw [← hH] at hP ⊢
  have hS : va_S A s.heap H [] := by rw [hH]; exact va_S.rf
  have hS := hS
  refine lv_aload_n hx hb (qaa qAD 0 rfl) rfl (lv_at hl 0 rfl) ?_
  refine lv_iconst (v := 0) hx hb (qaa qAD 1 rfl) (by decide) ?_
  refine va_put (D := (dC, dI)) (ci := 11) (v := .int 0) (ty := .int) (C := RX11) (T := TX11) (N := 55) hx hb hts qZL tyX11 tyX11_ok nmX11 hown hK hP hD hS 0 rfl rfl 0 (by decide) (hts _ qaDv) (fun _ h9 => h9) rfl (by decide +kernel) rfl rfl (nbq rfl) (qaa qAD 2 rfl) (fun H locs hP hD hS => ?_)
  have hP : va_P (dC, dI) vwCl (qXH a0 0 jaF jaD ja7 jby jbe jaM jaY jgo jaK jal jam jax jao ja6 jaV ja8 jae jag jaf ja0 ja4 jaP jaw jaI jaZ jaG jaS jan jaU jaE jar jaL jah jaB jaa jaz jaH jab ja2 z0_s jaq jai jaO jaA jat jau jav jaj jas jaJ jak jad jay jac) H := hP
  have hD : va_D A (qXH a0 0 jaF jaD ja7 jby jbe jaM jaY jgo jaK jal jam jax jao ja6 jaV ja8 jae jag jaf ja0 ja4 jaP jaw jaI jaZ jaG jaS jan jaU jaE jar jaL jah jaB jaa jaz jaH jab ja2 z0_s jaq jai jaO jaA jat jau jav jaj jas jaJ jak jad jay jac) := hD
  refine lv_aload_n hx hb (qaa qAD 3 rfl) rfl (lv_at hl 0 rfl) ?_
  refine va_get (D := (dC, dI)) (ci := 11) (v := .int jgo) (C := RX11) (T := TX11) (N := 55) hx hb hts qZL hown hK hP 0 rfl rfl 8 (by decide) (hts _ qaqq) (fun _ h9 => h9) rfl (qaa qAD 4 rfl) ?_
  exact ((W.iret (v := jgo) hx hb hr (fun t ht hW => ⟨⟨jgo, (0), rfl, hw, by rw [ht]; exact hP, va_K.moved hW.alike hK, hD⟩, hS.F ht⟩) hS.2.2 (qaa qAD 5 rfl)))
theorem qv2 : ∀ w ∈ u_ws RX11 TX11 55, w ∈ wsX11_feed := uiM q4W qfa (by decide +kernel)
theorem qz3 : (.fieldLink RX11 111 "MarchHaresModel" "taped" "I" : Cond) ∈ wsX11_feed := q4W 590 (by decide +kernel)
theorem qawb : (.fieldLink RX11 20 "MarchHaresModel" "tape" "[I" : Cond) ∈ wsX11_feed := q4W 400 (by decide +kernel)
theorem qaI2 : (.fieldLink RX11 3 "MarchHaresModel" "thrown" "I" : Cond) ∈ wsX11_feed := q4W 589 (by decide +kernel)
set_option maxHeartbeats 4000000 in
set_option maxRecDepth 100000 in
theorem qEl {p : Program} {l : Launch} {e : Env} {s : State} {m : MethodId} {args : Array Value} {below : List Frame} {meth : Method} {c : Code} {A : Nat → Prop} (dC : Nat → ClassId) (dI : Nat → Nat → Nat) (cyB cyI cyJ cyP : ClassId) (a0 jaW : Nat) (jaF ja7 jby jbe jaM jaY jap jal jam jax jao ja6 jaV ja8 jae jag jaf ja0 ja4 jaP jaw jaI jaZ jaG jaS jan jaU jaE jar jaL jah jaB jaa jaz jaH jab ja2 z0_s jaq jai jaO jaA jat jau jav jaj jas jaJ jak jad jay jac : Value) (Q : Int32 → Int32 → NI → Int32 → Prop) (K23 : Int32 → NI → Int32 → Int32 → Int32 → Int32 → Int32 → Int32 → Int32 → Prop) (hK23 : ∀ (H : Heap) (locs : List Loc) (ls : Array Slot) (jbd : Int32) (jbC : NI) (jgt l1 l2 l3 l4 l5 l6 : Int32), va_P (dC, dI) vwCl (qwn a0 jbd jaF jgt ja7 jby jbe jaM jaY jap jaW jal jam jax jao ja6 jaV ja8 jae jag jaf ja0 ja4 jaP jaw jaI jaZ jaG jaS jan jaU jaE jar jaL jah jaB jaa jaz jaH jab ja2 z0_s jaq jai jaO jaA jat jau jav jaj jas jaJ jak jad jay jac jaW cyI jbC) H → va_D A (qwn a0 jbd jaF jgt ja7 jby jbe jaM jaY jap jaW jal jam jax jao ja6 jaV ja8 jae jag jaf ja0 ja4 jaP jaw jaI jaZ jaG jaS jan jaU jaE jar jaL jah jaB jaa jaz jaH jab ja2 z0_s jaq jai jaO jaA jat jau jav jaj jas jaJ jak jad jay jac jaW cyI jbC) → va_S A s.heap H locs → lv_has ls 8 [(0, .ref a0), (1, .int l1), (2, .int l2), (3, .int l3), (4, .int l4), (5, .int l5), (6, .int l6)] → K23 jbd jbC jgt l1 l2 l3 l4 l5 l6 → W p l e (headSpec wsX11_feed ({ frames := 0, cells := 0, slots := 0, locals := 0 })).room s m args below meth c H locs 0 0 (MQ below (va_Qi (fun (r : Int32) (u : Int32 × NI × Int32) => Q r u.1 u.2.1 u.2.2) (cB (dC, dI) (kT cyB cyI cyJ cyP) A (fun u : Int32 × NI × Int32 => ((qwn a0 u.1 jaF u.2.2 ja7 jby jbe jaM jaY jap jaW jal jam jax jao ja6 jaV ja8 jae jag jaf ja0 ja4 jaP jaw jaI jaZ jaG jaS jan jaU jaE jar jaL jah jaB jaa jaz jaH jab ja2 z0_s jaq jai jaO jaA jat jau jav jaj jas jaJ jak jad jay jac jaW cyI u.2.1) : va_W))) A) args s 0 0 A) (F0 m 23 ls [])) (C0 : cfx p s m args meth c cX11_feed (some .int) wsX11_feed RX11 8 A (dC, dI) (kT cyB cyI cyJ cyP)) : ∀ (H : Heap) (locs : List Loc) (ls : Array Slot) (jbd : Int32) (jbC : NI) (jgt l1 l2 l3 l4 l5 l6 s0 : Int32), va_P (dC, dI) vwCl (qwn a0 jbd jaF jgt ja7 jby jbe jaM jaY jap jaW jal jam jax jao ja6 jaV ja8 jae jag jaf ja0 ja4 jaP jaw jaI jaZ jaG jaS jan jaU jaE jar jaL jah jaB jaa jaz jaH jab ja2 z0_s jaq jai jaO jaA jat jau jav jaj jas jaJ jak jad jay jac jaW cyI jbC) H → va_D A (qwn a0 jbd jaF jgt ja7 jby jbe jaM jaY jap jaW jal jam jax jao ja6 jaV ja8 jae jag jaf ja0 ja4 jaP jaw jaI jaZ jaG jaS jan jaU jaE jar jaL jah jaB jaa jaz jaH jab ja2 z0_s jaq jai jaO jaA jat jau jav jaj jas jaJ jak jad jay jac jaW cyI jbC) → va_S A s.heap H locs → lv_has ls 8 [(0, .ref a0), (1, .int l1), (2, .int l2), (3, .int l3), (4, .int l4), (5, .int l5), (6, .int l6)] → qxI Q K23 jbd jbC jgt l1 l2 l3 l4 l5 l6 s0 → W p l e (headSpec wsX11_feed ({ frames := 0, cells := 0, slots := 0, locals := 0 })).room s m args below meth c H locs 0 0 (MQ below (va_Qi (fun (r : Int32) (u : Int32 × NI × Int32) => Q r u.1 u.2.1 u.2.2) (cB (dC, dI) (kT cyB cyI cyJ cyP) A (fun u : Int32 × NI × Int32 => ((qwn a0 u.1 jaF u.2.2 ja7 jby jbe jaM jaY jap jaW jal jam jax jao ja6 jaV ja8 jae jag jaf ja0 ja4 jaP jaw jaI jaZ jaG jaS jan jaU jaE jar jaL jah jaB jaa jaz jaH jab ja2 z0_s jaq jai jaO jaA jat jau jav jaj jas jaJ jak jad jay jac jaW cyI u.2.1) : va_W))) A) args s 0 0 A) (F0 m 76 ls [.int s0]) := by
  obtain ⟨hx, hb, hr, hts, hown, hlocks, hml, hA, hK, hNw⟩ := id C0
  intro H locs ls jbd jbC jgt l1 l2 l3 l4 l5 l6 s0 hP hD hS hl hw
  refine lv_istore (lv' := [(7, .int s0), (0, .ref a0), (1, .int l1), (2, .int l2), (3, .int l3), (4, .int l4), (5, .int l5), (6, .int l6)]) hx hb (qaa qje 5 rfl) hl (by decide) rfl (fun ls hl => ?_)
  refine lv_aload_n hx hb (qaa qje 6 rfl) rfl (lv_at hl 1 rfl) ?_
  refine va_get (D := (dC, dI)) (ci := 11) (v := .ref jaW) (C := RX11) (T := TX11) (N := 55) hx hb hts qv2 hown hK hP 0 rfl rfl 9 (by decide) (hts _ qawb) (fun _ h9 => h9) rfl (qaa qje 7 rfl) ?_
  refine lv_aload_n hx hb (qaa qje 8 rfl) rfl (lv_at hl 1 rfl) ?_
  refine va_get (D := (dC, dI)) (ci := 11) (v := .int jgt) (C := RX11) (T := TX11) (N := 55) hx hb hts qv2 hown hK hP 0 rfl rfl 2 (by decide) (hts _ qz3) (fun _ h9 => h9) rfl (qaa qje 9 rfl) ?_
  refine lv_iload hx hb (qaa qje 10 rfl) (lv_at hl 0 rfl) ?_
  refine lv_bipush (v := 24) hx hb (qaa qje 11 rfl) (by decide) ?_
  refine lv_bipush (v := 8) hx hb (qaa qje 12 rfl) (by decide) ?_
  refine lv_iload hx hb (qaa qje 13 rfl) (lv_at hl 7 rfl) ?_
  refine lv_iconst (v := 4) hx hb (qaa qje 14 rfl) (by decide) ?_
  refine lv_irem hx hb (qaa qje 15 rfl) (by decide) ?_
  refine lv_topi (fun x7 ex7 => ?_)
  have hw := hw x7 ex7
  refine lv_imul hx hb (qaa qjr 0 rfl) ?_
  refine lv_isub hx hb (qaa qjr 1 rfl) ?_
  refine lv_ishr hx hb (qaa qjr 2 rfl) ?_
  refine lv_sipush (v := 255) hx hb (qaa qjr 3 rfl) (by decide) ?_
  refine lv_iand hx hb (qaa qjr 4 rfl) ?_
  refine lv_topi (fun x8 ex8 => ?_)
  have hw := hw x8 ex8
  obtain ⟨hi9, hw⟩ := hw
  refine va_iast hx hb hK hP hD hS 1 1 rfl rfl hi9 (qaa qjr 5 rfl) (fun H locs hP hD hS => ?_)
  obtain ⟨f9, ef9⟩ : ∃ y : NI, y = upd jbC jgt.toNatClampNeg x8 := ⟨_, rfl⟩
  have hw := hw f9 ef9
  have hP : va_P (dC, dI) vwCl (qwn a0 jbd jaF jgt ja7 jby jbe jaM jaY jap jaW jal jam jax jao ja6 jaV ja8 jae jag jaf ja0 ja4 jaP jaw jaI jaZ jaG jaS jan jaU jaE jar jaL jah jaB jaa jaz jaH jab ja2 z0_s jaq jai jaO jaA jat jau jav jaj jas jaJ jak jad jay jac jaW cyI f9) H := by rw [ef9]; exact hP
  have hD : va_D A (qwn a0 jbd jaF jgt ja7 jby jbe jaM jaY jap jaW jal jam jax jao ja6 jaV ja8 jae jag jaf ja0 ja4 jaP jaw jaI jaZ jaG jaS jan jaU jaE jar jaL jah jaB jaa jaz jaH jab ja2 z0_s jaq jai jaO jaA jat jau jav jaj jas jaJ jak jad jay jac jaW cyI f9) := by rw [ef9]; exact hD
  refine lv_aload_n hx hb (qaa qjr 6 rfl) rfl (lv_at hl 1 rfl) ?_
  refine lv_dup hx hb (qaa qjr 7 rfl) rfl ?_
  refine va_get (D := (dC, dI)) (ci := 11) (v := .int jgt) (C := RX11) (T := TX11) (N := 55) hx hb hts qv2 hown hK hP 0 rfl rfl 2 (by decide) (hts _ qz3) (fun _ h9 => h9) rfl (qaa qjr 8 rfl) ?_
  refine lv_iconst (v := 1) hx hb (qaa qjr 9 rfl) (by decide) ?_
  refine lv_iadd hx hb (qaa qjr 10 rfl) ?_
  refine lv_topi (fun x10 ex10 => ?_)
  have hw := hw x10 ex10
  refine va_put (D := (dC, dI)) (ci := 11) (v := .int x10) (ty := .int) (C := RX11) (T := TX11) (N := 55) hx hb hts qv2 tyX11 tyX11_ok nmX11 hown hK hP hD hS 0 rfl rfl 2 (by decide) (hts _ qz3) (fun _ h9 => h9) rfl (by decide +kernel) rfl rfl (nbq rfl) (qaa qjr 11 rfl) (fun H locs hP hD hS => ?_)
  have hP : va_P (dC, dI) vwCl (qwn a0 jbd jaF x10 ja7 jby jbe jaM jaY jap jaW jal jam jax jao ja6 jaV ja8 jae jag jaf ja0 ja4 jaP jaw jaI jaZ jaG jaS jan jaU jaE jar jaL jah jaB jaa jaz jaH jab ja2 z0_s jaq jai jaO jaA jat jau jav jaj jas jaJ jak jad jay jac jaW cyI f9) H := hP
  have hD : va_D A (qwn a0 jbd jaF x10 ja7 jby jbe jaM jaY jap jaW jal jam jax jao ja6 jaV ja8 jae jag jaf ja0 ja4 jaP jaw jaI jaZ jaG jaS jan jaU jaE jar jaL jah jaB jaa jaz jaH jab ja2 z0_s jaq jai jaO jaA jat jau jav jaj jas jaJ jak jad jay jac jaW cyI f9) := hD
  obtain ⟨x11, ex11⟩ : ∃ y : Int32, y = l6 + 1 := ⟨_, rfl⟩
  have hw := hw x11 ex11
  refine lv_iinc (v := x11) (lv' := [(6, .int x11), (7, .int s0), (0, .ref a0), (1, .int l1), (2, .int l2), (3, .int l3), (4, .int l4), (5, .int l5)]) hx hb (qaa qjr 12 rfl) hl (k := 7) rfl (by rw [ex11]; rfl) (by decide) rfl (fun ls hl => ?_)
  refine lv_goto (tgt := 23) hx hb (qaa qjr 13 rfl) (by decide) ?_
  exact hK23 _ _ _ jbd f9 x10 l1 l2 l3 l4 l5 x11 hP hD hS (lv_sub hl [2, 3, 4, 5, 6, 7, 0] rfl) hw
set_option maxHeartbeats 4000000 in
set_option maxRecDepth 100000 in
theorem qaGa {p : Program} {l : Launch} {e : Env} {s : State} {m : MethodId} {args : Array Value} {below : List Frame} {meth : Method} {c : Code} {A : Nat → Prop} (dC : Nat → ClassId) (dI : Nat → Nat → Nat) (cyB cyI cyJ cyP : ClassId) (a0 jaW : Nat) (jaF ja7 jby jbe jaM jaY jap jal jam jax jao ja6 jaV ja8 jae jag jaf ja0 ja4 jaP jaw jaI jaZ jaG jaS jan jaU jaE jar jaL jah jaB jaa jaz jaH jab ja2 z0_s jaq jai jaO jaA jat jau jav jaj jas jaJ jak jad jay jac : Value) (Q : Int32 → Int32 → NI → Int32 → Prop) (C0 : cfx p s m args meth c cX11_feed (some .int) wsX11_feed RX11 8 A (dC, dI) (kT cyB cyI cyJ cyP)) : ∀ (n : Nat) (H : Heap) (locs : List Loc) (ls : Array Slot) (jbd : Int32) (jbC : NI) (jgt l1 l2 l3 l4 l5 l6 : Int32), va_P (dC, dI) vwCl (qwn a0 jbd jaF jgt ja7 jby jbe jaM jaY jap jaW jal jam jax jao ja6 jaV ja8 jae jag jaf ja0 ja4 jaP jaw jaI jaZ jaG jaS jan jaU jaE jar jaL jah jaB jaa jaz jaH jab ja2 z0_s jaq jai jaO jaA jat jau jav jaj jas jaJ jak jad jay jac jaW cyI jbC) H → va_D A (qwn a0 jbd jaF jgt ja7 jby jbe jaM jaY jap jaW jal jam jax jao ja6 jaV ja8 jae jag jaf ja0 ja4 jaP jaw jaI jaZ jaG jaS jan jaU jaE jar jaL jah jaB jaa jaz jaH jab ja2 z0_s jaq jai jaO jaA jat jau jav jaj jas jaJ jak jad jay jac jaW cyI jbC) → va_S A s.heap H locs → lv_has ls 8 [(0, .ref a0), (1, .int l1), (2, .int l2), (3, .int l3), (4, .int l4), (5, .int l5), (6, .int l6)] → qno Q n jbd jbC jgt l1 l2 l3 l4 l5 l6 → W p l e (headSpec wsX11_feed ({ frames := 0, cells := 0, slots := 0, locals := 0 })).room s m args below meth c H locs 0 0 (MQ below (va_Qi (fun (r : Int32) (u : Int32 × NI × Int32) => Q r u.1 u.2.1 u.2.2) (cB (dC, dI) (kT cyB cyI cyJ cyP) A (fun u : Int32 × NI × Int32 => ((qwn a0 u.1 jaF u.2.2 ja7 jby jbe jaM jaY jap jaW jal jam jax jao ja6 jaV ja8 jae jag jaf ja0 ja4 jaP jaw jaI jaZ jaG jaS jan jaU jaE jar jaL jah jaB jaa jaz jaH jab ja2 z0_s jaq jai jaO jaA jat jau jav jaj jas jaJ jak jad jay jac jaW cyI u.2.1) : va_W))) A) args s 0 0 A) (F0 m 23 ls []) := by
  obtain ⟨hx, hb, hr, hts, hown, hlocks, hml, hA, hK, hNw⟩ := id C0
  intro n
  induction n with
  | zero => intro H locs ls jbd jbC jgt l1 l2 l3 l4 l5 l6 hP hD hS hl hw; exact False.elim hw
  | succ n ih =>
    intro H locs ls jbd jbC jgt l1 l2 l3 l4 l5 l6 hP hD hS hl hw
    refine lv_iload hx hb (qaa qlD 13 rfl) (lv_at hl 6 rfl) ?_
    refine lv_bipush (v := 20) hx hb (qaa qlD 14 rfl) (by decide) ?_
    refine lv_icmp_ge (tgt := 120) hx hb (qaa qlD 15 rfl) (by decide) (fun c2 => ?_) (fun c2 => ?_)
    · have hw := hw.1 c2
      refine lv_aload_n hx hb (qaa qjr 14 rfl) rfl (lv_at hl 0 rfl) ?_
      refine va_get (D := (dC, dI)) (ci := 11) (v := .int jgt) (C := RX11) (T := TX11) (N := 55) hx hb hts qv2 hown hK hP 0 rfl rfl 2 (by decide) (hts _ qz3) (fun _ h9 => h9) rfl (qaa qjr 15 rfl) ?_
      exact ((W.iret (v := jgt) hx hb hr (fun t ht hW => ⟨⟨jgt, (jbd, jbC, jgt), rfl, hw, by rw [ht]; exact hP, va_K.moved hW.alike hK, hD⟩, hS.F ht⟩) hS.2.2 (qaa qavt 0 rfl)))
    · have hw := hw.2 c2
      refine lv_iload hx hb (qaa qjZ 0 rfl) (lv_at hl 6 rfl) ?_
      refine lv_iconst (v := 4) hx hb (qaa qjZ 1 rfl) (by decide) ?_
      refine lv_icmp_ge (tgt := 40) hx hb (qaa qjZ 2 rfl) (by decide) (fun c3 => ?_) (fun c3 => ?_)
      · have hw := hw.1 c3
        refine lv_iload hx hb (qaa qjZ 5 rfl) (lv_at hl 6 rfl) ?_
        refine lv_bipush (v := 8) hx hb (qaa qjZ 6 rfl) (by decide) ?_
        refine lv_icmp_ge (tgt := 51) hx hb (qaa qjZ 7 rfl) (by decide) (fun c4 => ?_) (fun c4 => ?_)
        · have hw := hw.1 c4
          refine lv_iload hx hb (qaa qjZ 10 rfl) (lv_at hl 6 rfl) ?_
          refine lv_bipush (v := 12) hx hb (qaa qjZ 11 rfl) (by decide) ?_
          refine lv_icmp_ge (tgt := 62) hx hb (qaa qjZ 12 rfl) (by decide) (fun c5 => ?_) (fun c5 => ?_)
          · have hw := hw.1 c5
            refine lv_iload hx hb (qaa qjZ 15 rfl) (lv_at hl 6 rfl) ?_
            refine lv_bipush (v := 16) hx hb (qaa qje 0 rfl) (by decide) ?_
            refine lv_icmp_ge (tgt := 74) hx hb (qaa qje 1 rfl) (by decide) (fun c6 => ?_) (fun c6 => ?_)
            · have hw := hw.1 c6
              refine lv_iload hx hb (qaa qje 4 rfl) (lv_at hl 5 rfl) ?_
              exact qEl dC dI cyB cyI cyJ cyP a0 jaW jaF ja7 jby jbe jaM jaY jap jal jam jax jao ja6 jaV ja8 jae jag jaf ja0 ja4 jaP jaw jaI jaZ jaG jaS jan jaU jaE jar jaL jah jaB jaa jaz jaH jab ja2 z0_s jaq jai jaO jaA jat jau jav jaj jas jaJ jak jad jay jac Q (qno Q n) ih C0 _ _ _ jbd jbC jgt l1 l2 l3 l4 l5 l6 l5 hP hD hS (lv_sub hl [0, 1, 2, 3, 4, 5, 6] rfl) hw
            · have hw := hw.2 c6
              refine lv_iload hx hb (qaa qje 2 rfl) (lv_at hl 4 rfl) ?_
              refine lv_goto (tgt := 76) hx hb (qaa qje 3 rfl) (by decide) ?_
              exact qEl dC dI cyB cyI cyJ cyP a0 jaW jaF ja7 jby jbe jaM jaY jap jal jam jax jao ja6 jaV ja8 jae jag jaf ja0 ja4 jaP jaw jaI jaZ jaG jaS jan jaU jaE jar jaL jah jaB jaa jaz jaH jab ja2 z0_s jaq jai jaO jaA jat jau jav jaj jas jaJ jak jad jay jac Q (qno Q n) ih C0 _ _ _ jbd jbC jgt l1 l2 l3 l4 l5 l6 l4 hP hD hS (lv_sub hl [0, 1, 2, 3, 4, 5, 6] rfl) hw
          · have hw := hw.2 c5
            refine lv_iload_n hx hb (qaa qjZ 13 rfl) rfl (lv_at hl 3 rfl) ?_
            refine lv_goto (tgt := 76) hx hb (qaa qjZ 14 rfl) (by decide) ?_
            exact qEl dC dI cyB cyI cyJ cyP a0 jaW jaF ja7 jby jbe jaM jaY jap jal jam jax jao ja6 jaV ja8 jae jag jaf ja0 ja4 jaP jaw jaI jaZ jaG jaS jan jaU jaE jar jaL jah jaB jaa jaz jaH jab ja2 z0_s jaq jai jaO jaA jat jau jav jaj jas jaJ jak jad jay jac Q (qno Q n) ih C0 _ _ _ jbd jbC jgt l1 l2 l3 l4 l5 l6 l3 hP hD hS (lv_sub hl [0, 1, 2, 3, 4, 5, 6] rfl) hw
        · have hw := hw.2 c4
          refine lv_iload_n hx hb (qaa qjZ 8 rfl) rfl (lv_at hl 2 rfl) ?_
          refine lv_goto (tgt := 76) hx hb (qaa qjZ 9 rfl) (by decide) ?_
          exact qEl dC dI cyB cyI cyJ cyP a0 jaW jaF ja7 jby jbe jaM jaY jap jal jam jax jao ja6 jaV ja8 jae jag jaf ja0 ja4 jaP jaw jaI jaZ jaG jaS jan jaU jaE jar jaL jah jaB jaa jaz jaH jab ja2 z0_s jaq jai jaO jaA jat jau jav jaj jas jaJ jak jad jay jac Q (qno Q n) ih C0 _ _ _ jbd jbC jgt l1 l2 l3 l4 l5 l6 l2 hP hD hS (lv_sub hl [0, 1, 2, 3, 4, 5, 6] rfl) hw
      · have hw := hw.2 c3
        refine lv_iload_n hx hb (qaa qjZ 3 rfl) rfl (lv_at hl 1 rfl) ?_
        refine lv_goto (tgt := 76) hx hb (qaa qjZ 4 rfl) (by decide) ?_
        exact qEl dC dI cyB cyI cyJ cyP a0 jaW jaF ja7 jby jbe jaM jaY jap jal jam jax jao ja6 jaV ja8 jae jag jaf ja0 ja4 jaP jaw jaI jaZ jaG jaS jan jaU jaE jar jaL jah jaB jaa jaz jaH jab ja2 z0_s jaq jai jaO jaA jat jau jav jaj jas jaJ jak jad jay jac Q (qno Q n) ih C0 _ _ _ jbd jbC jgt l1 l2 l3 l4 l5 l6 l1 hP hD hS (lv_sub hl [0, 1, 2, 3, 4, 5, 6] rfl) hw
set_option maxHeartbeats 4000000 in
set_option maxRecDepth 100000 in
theorem qaWY (l : Launch) (dC : Nat → ClassId) (dI : Nat → Nat → Nat) (cyB cyI cyJ cyP : ClassId) (a0 jaW sz : Nat) (jaF ja7 jby jbe jaM jaY jap jal jam jax jao ja6 jaV ja8 jae jag jaf ja0 ja4 jaP jaw jaI jaZ jaG jaS jan jaU jaE jar jaL jah jaB jaa jaz jaH jab ja2 z0_s jaq jai jaO jaA jat jau jav jaj jas jaJ jak jad jay jac : Value) (jbd : Int32) (jbC : NI) (jgt p1 p2 p3 p4 p5 : Int32) {Q : Int32 → Int32 → NI → Int32 → Prop} (hw : q9w jbd jbC jgt p1 p2 p3 p4 p5 Q) : Met l yX11_feed wsX11_feed ({ frames := 0, cells := 0, slots := 0, locals := 0 }) (va_Pc [.ref a0, .int p1, .int p2, .int p3, .int p4, .int p5] (cPc (dC, dI) (kT cyB cyI cyJ cyP) (qwn a0 jbd jaF jgt ja7 jby jbe jaM jaY jap jaW jal jam jax jao ja6 jaV ja8 jae jag jaf ja0 ja4 jaP jaw jaI jaZ jaG jaS jan jaU jaE jar jaL jah jaB jaa jaz jaH jab ja2 z0_s jaq jai jaO jaA jat jau jav jaj jas jaJ jak jad jay jac jaW cyI jbC) sz)) (va_Qi (fun (r : Int32) (u : Int32 × NI × Int32) => Q r u.1 u.2.1 u.2.2) (cB (dC, dI) (kT cyB cyI cyJ cyP) (va_A (qwn a0 jbd jaF jgt ja7 jby jbe jaM jaY jap jaW jal jam jax jao ja6 jaV ja8 jae jag jaf ja0 ja4 jaP jaw jaI jaZ jaG jaS jan jaU jaE jar jaL jah jaB jaa jaz jaH jab ja2 z0_s jaq jai jaO jaA jat jau jav jaj jas jaJ jak jad jay jac jaW cyI jbC) sz) (fun u : Int32 × NI × Int32 => ((qwn a0 u.1 jaF u.2.2 ja7 jby jbe jaM jaY jap jaW jal jam jax jao ja6 jaV ja8 jae jag jaf ja0 ja4 jaP jaw jaI jaZ jaG jaS jan jaU jaE jar jaL jah jaB jaa jaz jaH jab ja2 z0_s jaq jai jaO jaA jat jau jav jaj jas jaJ jak jad jay jac jaW cyI u.2.1) : va_W))) (va_A (qwn a0 jbd jaF jgt ja7 jby jbe jaM jaY jap jaW jal jam jax jao ja6 jaV ja8 jae jag jaf ja0 ja4 jaP jaw jaI jaZ jaG jaS jan jaU jaE jar jaL jah jaB jaa jaz jaH jab ja2 z0_s jaq jai jaO jaA jat jau jav jaj jas jaJ jak jad jay jac jaW cyI jbC) sz)) 0 0 (va_A (qwn a0 jbd jaF jgt ja7 jby jbe jaM jaY jap jaW jal jam jax jao ja6 jaV ja8 jae jag jaf ja0 ja4 jaP jaw jaI jaZ jaG jaS jan jaU jaE jar jaL jah jaB jaa jaz jaH jab ja2 z0_s jaq jai jaO jaA jat jau jav jaj jas jaJ jak jad jay jac jaW cyI jbC) sz) := by
  refine Met.ofW (cc := cX11_feed) (maxL := 8) (ret := (some .int)) (by decide) rfl ?_
  intro p e s m args below meth c s₁ B hml hv
  obtain ⟨rfl, hsz, hP, hK, hD0, hNw⟩ := hv
  have hx := B.exec
  have hb := B.bytes
  have hr := B.returns
  have hts := atoms_spec (ws := wsX11_feed) B.pre
  have hown : s.vm.findClass RX11 = some m.cls := findClass_of_methodNamed B.named
  have hlocks := B.notSynchronized
  subst hsz
  have hD := hD0.self (sz := s.heap.size)
  generalize hAe : va_A (qwn a0 jbd jaF jgt ja7 jby jbe jaM jaY jap jaW jal jam jax jao ja6 jaV ja8 jae jag jaf ja0 ja4 jaP jaw jaI jaZ jaG jaS jan jaU jaE jar jaL jah jaB jaa jaz jaH jab ja2 z0_s jaq jai jaO jaA jat jau jav jaj jas jaJ jak jad jay jac jaW cyI jbC) s.heap.size = A at hD ⊢
  have hA : ∀ q : Nat, s.heap.size ≤ q → A q := fun q h => by rw [← hAe]; exact Or.inr h
  have hS : va_S A s.heap s.heap [] := va_S.rf
  have hP : va_P (dC, dI) vwCl (qwn a0 jbd jaF jgt ja7 jby jbe jaM jaY jap jaW jal jam jax jao ja6 jaV ja8 jae jag jaf ja0 ja4 jaP jaw jaI jaZ jaG jaS jan jaU jaE jar jaL jah jaB jaa jaz jaH jab ja2 z0_s jaq jai jaO jaA jat jau jav jaj jas jaJ jak jad jay jac jaW cyI jbC) s.heap := hP
  have hl := lv_entry ([.ref a0, .int p1, .int p2, .int p3, .int p4, .int p5]) (n := 8) (nbq rfl)
  rw [lg_entry_eq]
  generalize (lg_sl ([.ref a0, .int p1, .int p2, .int p3, .int p4, .int p5]) ++ List.replicate (8 - (lg_sl ([.ref a0, .int p1, .int p2, .int p3, .int p4, .int p5])).length) Slot.unset).toArray = ls at hl ⊢
  have hl : lv_has ls 8 [(0, .ref a0), (1, .int p1), (2, .int p2), (3, .int p3), (4, .int p4), (5, .int p5)] := hl
  have C0 : cfx p s m _ meth c cX11_feed (some .int) wsX11_feed RX11 8 A (dC, dI) (kT cyB cyI cyJ cyP) := ⟨hx, hb, hr, hts, hown, hlocks, hml, hA, hK, hNw⟩
  clear hAe
  obtain ⟨H, hH⟩ : ∃ H, H = s.heap := ⟨_, rfl⟩
  rw [← hH] at hP ⊢
  have hS : va_S A s.heap H [] := by rw [hH]; exact va_S.rf
  have hS := hS
  refine lv_aload_n hx hb (qaa qlD 0 rfl) rfl (lv_at hl 0 rfl) ?_
  refine lv_iconst (v := 0) hx hb (qaa qlD 1 rfl) (by decide) ?_
  refine va_put (D := (dC, dI)) (ci := 11) (v := .int 0) (ty := .int) (C := RX11) (T := TX11) (N := 55) hx hb hts qv2 tyX11 tyX11_ok nmX11 hown hK hP hD hS 0 rfl rfl 0 (by decide) (hts _ qaI2) (fun _ h9 => h9) rfl (by decide +kernel) rfl rfl (nbq rfl) (qaa qlD 2 rfl) (fun H locs hP hD hS => ?_)
  have hP : va_P (dC, dI) vwCl (qwn a0 0 jaF jgt ja7 jby jbe jaM jaY jap jaW jal jam jax jao ja6 jaV ja8 jae jag jaf ja0 ja4 jaP jaw jaI jaZ jaG jaS jan jaU jaE jar jaL jah jaB jaa jaz jaH jab ja2 z0_s jaq jai jaO jaA jat jau jav jaj jas jaJ jak jad jay jac jaW cyI jbC) H := hP
  have hD : va_D A (qwn a0 0 jaF jgt ja7 jby jbe jaM jaY jap jaW jal jam jax jao ja6 jaV ja8 jae jag jaf ja0 ja4 jaP jaw jaI jaZ jaG jaS jan jaU jaE jar jaL jah jaB jaa jaz jaH jab ja2 z0_s jaq jai jaO jaA jat jau jav jaj jas jaJ jak jad jay jac jaW cyI jbC) := hD
  refine lv_aload_n hx hb (qaa qlD 3 rfl) rfl (lv_at hl 0 rfl) ?_
  refine va_get (D := (dC, dI)) (ci := 11) (v := .int jgt) (C := RX11) (T := TX11) (N := 55) hx hb hts qv2 hown hK hP 0 rfl rfl 2 (by decide) (hts _ qz3) (fun _ h9 => h9) rfl (qaa qlD 4 rfl) ?_
  refine lv_bipush (v := 20) hx hb (qaa qlD 5 rfl) (by decide) ?_
  refine lv_iadd hx hb (qaa qlD 6 rfl) ?_
  refine lv_sipush (v := 600) hx hb (qaa qlD 7 rfl) (by decide) ?_
  refine lv_icmp_le (tgt := 20) hx hb (qaa qlD 8 rfl) (by decide) (fun c1 => ?_) (fun c1 => ?_)
  · have hw := hw.1 c1
    refine lv_iconst (v := 0) hx hb (qaa qlD 11 rfl) (by decide) ?_
    refine lv_istore (lv' := [(6, .int 0), (0, .ref a0), (1, .int p1), (2, .int p2), (3, .int p3), (4, .int p4), (5, .int p5)]) hx hb (qaa qlD 12 rfl) hl (by decide) rfl (fun ls hl => ?_)
    obtain ⟨n9, hw⟩ := hw
    exact qaGa dC dI cyB cyI cyJ cyP a0 jaW jaF ja7 jby jbe jaM jaY jap jal jam jax jao ja6 jaV ja8 jae jag jaf ja0 ja4 jaP jaw jaI jaZ jaG jaS jan jaU jaE jar jaL jah jaB jaa jaz jaH jab ja2 z0_s jaq jai jaO jaA jat jau jav jaj jas jaJ jak jad jay jac Q C0 n9 _ _ _ 0 jbC jgt p1 p2 p3 p4 p5 0 hP hD hS (lv_sub hl [1, 2, 3, 4, 5, 6, 0] rfl) hw
  · have hw := hw.2 c1
    refine lv_iconst (v := (-1)) hx hb (qaa qlD 9 rfl) (by decide) ?_
    exact ((W.iret (v := (-1)) hx hb hr (fun t ht hW => ⟨⟨(-1), (0, jbC, jgt), rfl, hw, by rw [ht]; exact hP, va_K.moved hW.alike hK, hD⟩, hS.F ht⟩) hS.2.2 (qaa qlD 10 rfl)))
set_option maxHeartbeats 4000000 in
set_option maxRecDepth 100000 in
theorem qaJN {p : Program} {l : Launch} {e : Env} {s : State} {m : MethodId} {args : Array Value} {below : List Frame} {meth : Method} {c : Code} {A : Nat → Prop} (dC : Nat → ClassId) (dI : Nat → Nat → Nat) (cyB cyI cyJ cyP : ClassId) (Q : Int64 → Prop) (C0 : cfx p s m args meth c cX11_least (some .long) wsX11_least RX11 11 A (dC, dI) (kT cyB cyI cyJ cyP)) : ∀ (n : Nat) (H : Heap) (locs : List Loc) (ls : Array Slot) (l0 : Int64) (l2 : Int64) (l4 : Int32) (l5 : Int64) (l7 : Int64), va_P (dC, dI) vwCl [] H → va_D A [] → va_S A s.heap H locs → lv_has ls 11 [(0, .long l0), (2, .long l2), (4, .int l4), (5, .long l5), (7, .long l7)] → qKV Q n l0 l2 l4 l5 l7 → W p l e (headSpec wsX11_least ({ frames := 0, cells := 0, slots := 0, locals := 0 })).room s m args below meth c H locs 0 0 (MQ below (va_Ql (fun (r : Int64) (_ : Unit) => Q r ) (cB (dC, dI) (kT cyB cyI cyJ cyP) A (fun u : Unit => ([] : va_W))) A) args s 0 0 A) (F0 m 6 ls []) := by
  obtain ⟨hx, hb, hr, hts, hown, hlocks, hml, hA, hK, hNw⟩ := id C0
  intro n
  induction n with
  | zero => intro H locs ls l0 l2 l4 l5 l7 hP hD hS hl hw; exact False.elim hw
  | succ n ih =>
    intro H locs ls l0 l2 l4 l5 l7 hP hD hS hl hw
    refine lv_lload hx hb (qaa qj2 4 rfl) (lv_at hl 4 rfl) ?_
    refine lv_lconst (v := 0) hx hb (qaa qj2 5 rfl) (by decide) ?_
    refine W.lcmp hx hb (qaa qj2 6 rfl) ?_
    refine lv_if_eq (tgt := 31) hx hb (qaa qj2 7 rfl) (by decide) (fun c1 => ?_) (fun c1 => ?_)
    · have hw := hw.1 c1
      refine lv_iload hx hb (qaa qn5 1 rfl) (lv_at hl 2 rfl) ?_
      refine lv_if_ne (tgt := 40) hx hb (qaa qn5 2 rfl) (by decide) (fun c2 => ?_) (fun c2 => ?_)
      · have hw := hw.1 c2
        refine lv_lload_n hx hb (qaa qn5 5 rfl) rfl (lv_at hl 1 rfl) ?_
        refine lv_lload hx hb (qaa qn5 6 rfl) (lv_at hl 3 rfl) ?_
        obtain ⟨hz9, hw⟩ := hw
        refine lv_ldiv hx hb (qaa qn5 7 rfl) hz9 ?_
        refine lv_topl (fun x3 ex3 => ?_)
        have hw := hw x3 ex3
        exact ((W.lret (v := x3) hx hb hr (fun t ht hW => ⟨⟨x3, (), rfl, hw, by rw [ht]; exact hP, va_K.moved hW.alike hK, hD⟩, hS.F ht⟩) hS.2.2 (qaa qn5 8 rfl)))
      · have hw := hw.2 c2
        refine lv_lload_n hx hb (qaa qn5 3 rfl) rfl (lv_at hl 0 rfl) ?_
        refine lv_goto (tgt := 41) hx hb (qaa qn5 4 rfl) (by decide) ?_
        refine lv_lload hx hb (qaa qn5 6 rfl) (lv_at hl 3 rfl) ?_
        obtain ⟨hz9, hw⟩ := hw
        refine lv_ldiv hx hb (qaa qn5 7 rfl) hz9 ?_
        refine lv_topl (fun x4 ex4 => ?_)
        have hw := hw x4 ex4
        exact ((W.lret (v := x4) hx hb hr (fun t ht hW => ⟨⟨x4, (), rfl, hw, by rw [ht]; exact hP, va_K.moved hW.alike hK, hD⟩, hS.F ht⟩) hS.2.2 (qaa qn5 8 rfl)))
    · have hw := hw.2 c1
      refine lv_lload hx hb (qaa qj2 8 rfl) (lv_at hl 3 rfl) ?_
      refine lv_lload hx hb (qaa qj2 9 rfl) (lv_at hl 4 rfl) ?_
      obtain ⟨hz9, hw⟩ := hw
      refine lv_lrem hx hb (qaa qj2 10 rfl) hz9 ?_
      refine lv_topl (fun x5 ex5 => ?_)
      have hw := hw x5 ex5
      refine lv_lstore (lv' := [(9, .long x5), (0, .long l0), (2, .long l2), (4, .int l4), (5, .long l5), (7, .long l7)]) hx hb (qaa qj2 11 rfl) hl (by decide) rfl (fun ls hl => ?_)
      refine lv_lload hx hb (qaa qj2 12 rfl) (lv_at hl 5 rfl) ?_
      refine lv_lstore (lv' := [(5, .long l7), (9, .long x5), (0, .long l0), (2, .long l2), (4, .int l4), (7, .long l7)]) hx hb (qaa qj2 13 rfl) hl (by decide) rfl (fun ls hl => ?_)
      refine lv_lload hx hb (qaa qj2 14 rfl) (lv_at hl 1 rfl) ?_
      refine lv_lstore (lv' := [(7, .long x5), (5, .long l7), (9, .long x5), (0, .long l0), (2, .long l2), (4, .int l4)]) hx hb (qaa qj2 15 rfl) hl (by decide) rfl (fun ls hl => ?_)
      refine lv_goto (tgt := 6) hx hb (qaa qn5 0 rfl) (by decide) ?_
      exact ih _ _ _ l0 l2 l4 l7 x5 hP hD hS (lv_sub hl [3, 4, 5, 1, 0] rfl) hw
set_option maxHeartbeats 4000000 in
set_option maxRecDepth 100000 in
theorem qaV5 (l : Launch) (dC : Nat → ClassId) (dI : Nat → Nat → Nat) (cyB cyI cyJ cyP : ClassId) (sz : Nat) (p0 : Int64) (p2 : Int64) (p4 : Int32) {Q : Int64 → Prop} (hw : qGl p0 p2 p4 Q) : Met l yX11_least wsX11_least ({ frames := 0, cells := 0, slots := 0, locals := 0 }) (va_Pc [.long p0, .long p2, .int p4] (cPc (dC, dI) (kT cyB cyI cyJ cyP) [] sz)) (va_Ql (fun (r : Int64) (_ : Unit) => Q r ) (cB (dC, dI) (kT cyB cyI cyJ cyP) (va_A [] sz) (fun u : Unit => ([] : va_W))) (va_A [] sz)) 0 0 (va_A [] sz) := by
  refine Met.ofW (cc := cX11_least) (maxL := 11) (ret := (some .long)) (by decide) rfl ?_
  intro p e s m args below meth c s₁ B hml hv
  obtain ⟨rfl, hsz, hP, hK, hD0, hNw⟩ := hv
  have hx := B.exec
  have hb := B.bytes
  have hr := B.returns
  have hts := atoms_spec (ws := wsX11_least) B.pre
  have hown : s.vm.findClass RX11 = some m.cls := findClass_of_methodNamed B.named
  have hlocks := B.notSynchronized
  subst hsz
  have hD := hD0.self (sz := s.heap.size)
  generalize hAe : va_A [] s.heap.size = A at hD ⊢
  have hA : ∀ q : Nat, s.heap.size ≤ q → A q := fun q h => by rw [← hAe]; exact Or.inr h
  have hS : va_S A s.heap s.heap [] := va_S.rf
  have hP : va_P (dC, dI) vwCl [] s.heap := hP
  have hl := lv_entry ([.long p0, .long p2, .int p4]) (n := 11) (nbq rfl)
  rw [lg_entry_eq]
  generalize (lg_sl ([.long p0, .long p2, .int p4]) ++ List.replicate (11 - (lg_sl ([.long p0, .long p2, .int p4])).length) Slot.unset).toArray = ls at hl ⊢
  have hl : lv_has ls 11 [(0, .long p0), (2, .long p2), (4, .int p4)] := hl
  have C0 : cfx p s m _ meth c cX11_least (some .long) wsX11_least RX11 11 A (dC, dI) (kT cyB cyI cyJ cyP) := ⟨hx, hb, hr, hts, hown, hlocks, hml, hA, hK, hNw⟩
  clear hAe
  obtain ⟨H, hH⟩ : ∃ H, H = s.heap := ⟨_, rfl⟩
  rw [← hH] at hP ⊢
  have hS : va_S A s.heap H [] := by rw [hH]; exact va_S.rf
  have hS := hS
  refine lv_lload_n hx hb (qaa qj2 0 rfl) rfl (lv_at hl 0 rfl) ?_
  refine lv_lstore (lv' := [(5, .long p0), (0, .long p0), (2, .long p2), (4, .int p4)]) hx hb (qaa qj2 1 rfl) hl (by decide) rfl (fun ls hl => ?_)
  refine lv_lload_n hx hb (qaa qj2 2 rfl) rfl (lv_at hl 2 rfl) ?_
  refine lv_lstore (lv' := [(7, .long p2), (5, .long p0), (0, .long p0), (2, .long p2), (4, .int p4)]) hx hb (qaa qj2 3 rfl) hl (by decide) rfl (fun ls hl => ?_)
  obtain ⟨n9, hw⟩ := hw
  exact qaJN dC dI cyB cyI cyJ cyP Q C0 n9 _ _ _ p0 p2 p4 p0 p2 hP hD hS (lv_sub hl [2, 3, 4, 1, 0] rfl) hw
theorem qAA : ∀ w ∈ u_ws RX11 TX11 55, w ∈ wsX11_few := uiM qDS qfa (by decide +kernel)
theorem qaSQ : (.fieldLink RX11 3 "MarchHaresModel" "thrown" "I" : Cond) ∈ wsX11_few := qDS 589 (by decide +kernel)
theorem qEq : (.fieldLink RX11 98 "MarchHaresModel" "seen" "[J" : Cond) ∈ wsX11_few := qDS 466 (by decide +kernel)
theorem qaEp : (.constantLong RX11 433 (16) : Cond) ∈ wsX11_few := qDS 3776 (by decide +kernel)
set_option maxHeartbeats 4000000 in
set_option maxRecDepth 100000 in
theorem qafq {p : Program} {l : Launch} {e : Env} {s : State} {m : MethodId} {args : Array Value} {below : List Frame} {meth : Method} {c : Code} {A : Nat → Prop} (dC : Nat → ClassId) (dI : Nat → Nat → Nat) (cyB cyI cyJ cyP : ClassId) (a0 jaQ jjj : Nat) (jaD ja7 jby jbe jaM jaY jap jaK jal jam jax jao ja6 jaV ja8 jae jag jaf ja0 ja4 jaP jaw jaI jaZ jaG jaS jan jaU jaE jar jaL jah jaB jaa jaz jaH jab ja2 z0_s jaq jai jaO jaA jat jau jav jaj jas jak jad jay jac : Value) (Q : Int64 → Int32 → NI → (Nat → Int64) → Prop) (K64 : Int32 → NI → (Nat → Int64) → Int32 → Int32 → Int32 → Int32 → Int32 → Prop) (hK64 : ∀ (H : Heap) (locs : List Loc) (ls : Array Slot) (jbd : Int32) (ja9 : NI) (jkG : Nat → Int64) (l1 l2 l3 l4 l5 : Int32), va_P (dC, dI) vwCl (qdK a0 jbd jaQ jaD ja7 jby jbe jaM jaY jap jaK jal jam jax jao ja6 jaV ja8 jae jag jaf ja0 ja4 jaP jaw jaI jaZ jaG jaS jan jaU jaE jar jaL jah jaB jaa jaz jaH jab ja2 z0_s jaq jai jaO jaA jat jau jav jaj jas jjj jak jad jay jac jaQ cyI ja9 jjj cyJ jkG) H → va_D A (qdK a0 jbd jaQ jaD ja7 jby jbe jaM jaY jap jaK jal jam jax jao ja6 jaV ja8 jae jag jaf ja0 ja4 jaP jaw jaI jaZ jaG jaS jan jaU jaE jar jaL jah jaB jaa jaz jaH jab ja2 z0_s jaq jai jaO jaA jat jau jav jaj jas jjj jak jad jay jac jaQ cyI ja9 jjj cyJ jkG) → va_S A s.heap H locs → lv_has ls 10 [(0, .ref a0), (1, .int l1), (2, .int l2), (3, .int l3), (4, .int l4), (5, .int l5)] → K64 jbd ja9 jkG l1 l2 l3 l4 l5 → W p l e (headSpec wsX11_few ({ frames := 1, cells := 0, slots := 0, locals := 30 })).room s m args below meth c H locs 0 0 (MQ below (va_Ql (fun (r : Int64) (u : Int32 × NI × (Nat → Int64)) => Q r u.1 u.2.1 u.2.2) (cB (dC, dI) (kT cyB cyI cyJ cyP) A (fun u : Int32 × NI × (Nat → Int64) => ((qdK a0 u.1 jaQ jaD ja7 jby jbe jaM jaY jap jaK jal jam jax jao ja6 jaV ja8 jae jag jaf ja0 ja4 jaP jaw jaI jaZ jaG jaS jan jaU jaE jar jaL jah jaB jaa jaz jaH jab ja2 z0_s jaq jai jaO jaA jat jau jav jaj jas jjj jak jad jay jac jaQ cyI u.2.1 jjj cyJ u.2.2) : va_W))) A) args s 0 0 A) (F0 m 64 ls [])) (C0 : cfx p s m args meth c cX11_few (some .long) wsX11_few RX11 10 A (dC, dI) (kT cyB cyI cyJ cyP)) : ∀ (H : Heap) (locs : List Loc) (ls : Array Slot) (jbd : Int32) (ja9 : NI) (jkG : Nat → Int64) (l1 l2 l3 l4 l5 s1 : Int32) (s2 : Int64), va_P (dC, dI) vwCl (qdK a0 jbd jaQ jaD ja7 jby jbe jaM jaY jap jaK jal jam jax jao ja6 jaV ja8 jae jag jaf ja0 ja4 jaP jaw jaI jaZ jaG jaS jan jaU jaE jar jaL jah jaB jaa jaz jaH jab ja2 z0_s jaq jai jaO jaA jat jau jav jaj jas jjj jak jad jay jac jaQ cyI ja9 jjj cyJ jkG) H → va_D A (qdK a0 jbd jaQ jaD ja7 jby jbe jaM jaY jap jaK jal jam jax jao ja6 jaV ja8 jae jag jaf ja0 ja4 jaP jaw jaI jaZ jaG jaS jan jaU jaE jar jaL jah jaB jaa jaz jaH jab ja2 z0_s jaq jai jaO jaA jat jau jav jaj jas jjj jak jad jay jac jaQ cyI ja9 jjj cyJ jkG) → va_S A s.heap H locs → lv_has ls 10 [(0, .ref a0), (1, .int l1), (2, .int l2), (3, .int l3), (4, .int l4), (5, .int l5)] → qWT Q K64 jbd ja9 jkG l1 l2 l3 l4 l5 s1 s2 → W p l e (headSpec wsX11_few ({ frames := 1, cells := 0, slots := 0, locals := 30 })).room s m args below meth c H locs 0 0 (MQ below (va_Ql (fun (r : Int64) (u : Int32 × NI × (Nat → Int64)) => Q r u.1 u.2.1 u.2.2) (cB (dC, dI) (kT cyB cyI cyJ cyP) A (fun u : Int32 × NI × (Nat → Int64) => ((qdK a0 u.1 jaQ jaD ja7 jby jbe jaM jaY jap jaK jal jam jax jao ja6 jaV ja8 jae jag jaf ja0 ja4 jaP jaw jaI jaZ jaG jaS jan jaU jaE jar jaL jah jaB jaa jaz jaH jab ja2 z0_s jaq jai jaO jaA jat jau jav jaj jas jjj jak jad jay jac jaQ cyI u.2.1 jjj cyJ u.2.2) : va_W))) A) args s 0 0 A) (F0 m 87 ls [.long s2, .int s1, .ref jjj]) := by
  obtain ⟨hx, hb, hr, hts, hown, hlocks, hml, hA, hK, hNw⟩ := id C0
  intro H locs ls jbd ja9 jkG l1 l2 l3 l4 l5 s1 s2 hP hD hS hl hw
  obtain ⟨hi9, hw⟩ := hw
  refine va_last hx hb hK hP hD hS 2 2 rfl rfl hi9 (qaa qmy 14 rfl) (fun H locs hP hD hS => ?_)
  obtain ⟨f16, ef16⟩ : ∃ y : Nat → Int64, y = vp_updL jkG s1.toNatClampNeg s2 := ⟨_, rfl⟩
  have hw := hw f16 ef16
  have hP : va_P (dC, dI) vwCl (qdK a0 jbd jaQ jaD ja7 jby jbe jaM jaY jap jaK jal jam jax jao ja6 jaV ja8 jae jag jaf ja0 ja4 jaP jaw jaI jaZ jaG jaS jan jaU jaE jar jaL jah jaB jaa jaz jaH jab ja2 z0_s jaq jai jaO jaA jat jau jav jaj jas jjj jak jad jay jac jaQ cyI ja9 jjj cyJ f16) H := by rw [ef16]; exact hP
  have hD : va_D A (qdK a0 jbd jaQ jaD ja7 jby jbe jaM jaY jap jaK jal jam jax jao ja6 jaV ja8 jae jag jaf ja0 ja4 jaP jaw jaI jaZ jaG jaS jan jaU jaE jar jaL jah jaB jaa jaz jaH jab ja2 z0_s jaq jai jaO jaA jat jau jav jaj jas jjj jak jad jay jac jaQ cyI ja9 jjj cyJ f16) := by rw [ef16]; exact hD
  obtain ⟨x17, ex17⟩ : ∃ y : Int32, y = l5 + 1 := ⟨_, rfl⟩
  have hw := hw x17 ex17
  refine lv_iinc (v := x17) (lv' := [(5, .int x17), (0, .ref a0), (1, .int l1), (2, .int l2), (3, .int l3), (4, .int l4)]) hx hb (qaa qmy 15 rfl) hl (k := 5) rfl (by rw [ex17]; rfl) (by decide) rfl (fun ls hl => ?_)
  refine lv_goto (tgt := 64) hx hb (qaa qlM 0 rfl) (by decide) ?_
  exact hK64 _ _ _ jbd ja9 f16 l1 l2 l3 l4 x17 hP hD hS (lv_sub hl [1, 2, 3, 4, 5, 0] rfl) hw
set_option maxHeartbeats 4000000 in
set_option maxRecDepth 100000 in
theorem q8s {p : Program} {l : Launch} {e : Env} {s : State} {m : MethodId} {args : Array Value} {below : List Frame} {meth : Method} {c : Code} {A : Nat → Prop} (dC : Nat → ClassId) (dI : Nat → Nat → Nat) (cyB cyI cyJ cyP : ClassId) (a0 jaQ jjj : Nat) (jaD ja7 jby jbe jaM jaY jap jaK jal jam jax jao ja6 jaV ja8 jae jag jaf ja0 ja4 jaP jaw jaI jaZ jaG jaS jan jaU jaE jar jaL jah jaB jaa jaz jaH jab ja2 z0_s jaq jai jaO jaA jat jau jav jaj jas jak jad jay jac : Value) (Q : Int64 → Int32 → NI → (Nat → Int64) → Prop) (K100 : Int32 → NI → (Nat → Int64) → Int32 → Int32 → Int32 → Int32 → Int64 → Int32 → Prop) (K110 : Int32 → NI → (Nat → Int64) → Int32 → Int32 → Int32 → Int32 → Int64 → Int32 → Int32 → Prop) (hK100 : ∀ (H : Heap) (locs : List Loc) (ls : Array Slot) (jbd : Int32) (ja9 : NI) (jkG : Nat → Int64) (l1 l2 l3 l4 : Int32) (l5 : Int64) (l7 : Int32), va_P (dC, dI) vwCl (qdK a0 jbd jaQ jaD ja7 jby jbe jaM jaY jap jaK jal jam jax jao ja6 jaV ja8 jae jag jaf ja0 ja4 jaP jaw jaI jaZ jaG jaS jan jaU jaE jar jaL jah jaB jaa jaz jaH jab ja2 z0_s jaq jai jaO jaA jat jau jav jaj jas jjj jak jad jay jac jaQ cyI ja9 jjj cyJ jkG) H → va_D A (qdK a0 jbd jaQ jaD ja7 jby jbe jaM jaY jap jaK jal jam jax jao ja6 jaV ja8 jae jag jaf ja0 ja4 jaP jaw jaI jaZ jaG jaS jan jaU jaE jar jaL jah jaB jaa jaz jaH jab ja2 z0_s jaq jai jaO jaA jat jau jav jaj jas jjj jak jad jay jac jaQ cyI ja9 jjj cyJ jkG) → va_S A s.heap H locs → lv_has ls 10 [(0, .ref a0), (1, .int l1), (2, .int l2), (3, .int l3), (4, .int l4), (5, .long l5), (7, .int l7)] → K100 jbd ja9 jkG l1 l2 l3 l4 l5 l7 → W p l e (headSpec wsX11_few ({ frames := 1, cells := 0, slots := 0, locals := 30 })).room s m args below meth c H locs 0 0 (MQ below (va_Ql (fun (r : Int64) (u : Int32 × NI × (Nat → Int64)) => Q r u.1 u.2.1 u.2.2) (cB (dC, dI) (kT cyB cyI cyJ cyP) A (fun u : Int32 × NI × (Nat → Int64) => ((qdK a0 u.1 jaQ jaD ja7 jby jbe jaM jaY jap jaK jal jam jax jao ja6 jaV ja8 jae jag jaf ja0 ja4 jaP jaw jaI jaZ jaG jaS jan jaU jaE jar jaL jah jaB jaa jaz jaH jab ja2 z0_s jaq jai jaO jaA jat jau jav jaj jas jjj jak jad jay jac jaQ cyI u.2.1 jjj cyJ u.2.2) : va_W))) A) args s 0 0 A) (F0 m 100 ls [])) (hK110 : ∀ (H : Heap) (locs : List Loc) (ls : Array Slot) (jbd : Int32) (ja9 : NI) (jkG : Nat → Int64) (l1 l2 l3 l4 : Int32) (l5 : Int64) (l7 l8 : Int32), va_P (dC, dI) vwCl (qdK a0 jbd jaQ jaD ja7 jby jbe jaM jaY jap jaK jal jam jax jao ja6 jaV ja8 jae jag jaf ja0 ja4 jaP jaw jaI jaZ jaG jaS jan jaU jaE jar jaL jah jaB jaa jaz jaH jab ja2 z0_s jaq jai jaO jaA jat jau jav jaj jas jjj jak jad jay jac jaQ cyI ja9 jjj cyJ jkG) H → va_D A (qdK a0 jbd jaQ jaD ja7 jby jbe jaM jaY jap jaK jal jam jax jao ja6 jaV ja8 jae jag jaf ja0 ja4 jaP jaw jaI jaZ jaG jaS jan jaU jaE jar jaL jah jaB jaa jaz jaH jab ja2 z0_s jaq jai jaO jaA jat jau jav jaj jas jjj jak jad jay jac jaQ cyI ja9 jjj cyJ jkG) → va_S A s.heap H locs → lv_has ls 10 [(0, .ref a0), (1, .int l1), (2, .int l2), (3, .int l3), (4, .int l4), (5, .long l5), (7, .int l7), (8, .int l8)] → K110 jbd ja9 jkG l1 l2 l3 l4 l5 l7 l8 → W p l e (headSpec wsX11_few ({ frames := 1, cells := 0, slots := 0, locals := 30 })).room s m args below meth c H locs 0 0 (MQ below (va_Ql (fun (r : Int64) (u : Int32 × NI × (Nat → Int64)) => Q r u.1 u.2.1 u.2.2) (cB (dC, dI) (kT cyB cyI cyJ cyP) A (fun u : Int32 × NI × (Nat → Int64) => ((qdK a0 u.1 jaQ jaD ja7 jby jbe jaM jaY jap jaK jal jam jax jao ja6 jaV ja8 jae jag jaf ja0 ja4 jaP jaw jaI jaZ jaG jaS jan jaU jaE jar jaL jah jaB jaa jaz jaH jab ja2 z0_s jaq jai jaO jaA jat jau jav jaj jas jjj jak jad jay jac jaQ cyI u.2.1 jjj cyJ u.2.2) : va_W))) A) args s 0 0 A) (F0 m 110 ls [])) (C0 : cfx p s m args meth c cX11_few (some .long) wsX11_few RX11 10 A (dC, dI) (kT cyB cyI cyJ cyP)) : ∀ (H : Heap) (locs : List Loc) (ls : Array Slot) (jbd : Int32) (ja9 : NI) (jkG : Nat → Int64) (l1 l2 l3 l4 : Int32) (l5 : Int64) (l7 l8 s1 : Int32) (s2 : Int64) (s3 : Int64), va_P (dC, dI) vwCl (qdK a0 jbd jaQ jaD ja7 jby jbe jaM jaY jap jaK jal jam jax jao ja6 jaV ja8 jae jag jaf ja0 ja4 jaP jaw jaI jaZ jaG jaS jan jaU jaE jar jaL jah jaB jaa jaz jaH jab ja2 z0_s jaq jai jaO jaA jat jau jav jaj jas jjj jak jad jay jac jaQ cyI ja9 jjj cyJ jkG) H → va_D A (qdK a0 jbd jaQ jaD ja7 jby jbe jaM jaY jap jaK jal jam jax jao ja6 jaV ja8 jae jag jaf ja0 ja4 jaP jaw jaI jaZ jaG jaS jan jaU jaE jar jaL jah jaB jaa jaz jaH jab ja2 z0_s jaq jai jaO jaA jat jau jav jaj jas jjj jak jad jay jac jaQ cyI ja9 jjj cyJ jkG) → va_S A s.heap H locs → lv_has ls 10 [(0, .ref a0), (1, .int l1), (2, .int l2), (3, .int l3), (4, .int l4), (5, .long l5), (7, .int l7), (8, .int l8)] → qTp Q K100 K110 jbd ja9 jkG l1 l2 l3 l4 l5 l7 l8 s1 s2 s3 → W p l e (headSpec wsX11_few ({ frames := 1, cells := 0, slots := 0, locals := 30 })).room s m args below meth c H locs 0 0 (MQ below (va_Ql (fun (r : Int64) (u : Int32 × NI × (Nat → Int64)) => Q r u.1 u.2.1 u.2.2) (cB (dC, dI) (kT cyB cyI cyJ cyP) A (fun u : Int32 × NI × (Nat → Int64) => ((qdK a0 u.1 jaQ jaD ja7 jby jbe jaM jaY jap jaK jal jam jax jao ja6 jaV ja8 jae jag jaf ja0 ja4 jaP jaw jaI jaZ jaG jaS jan jaU jaE jar jaL jah jaB jaa jaz jaH jab ja2 z0_s jaq jai jaO jaA jat jau jav jaj jas jjj jak jad jay jac jaQ cyI u.2.1 jjj cyJ u.2.2) : va_W))) A) args s 0 0 A) (F0 m 155 ls [.long s3, .long s2, .int s1, .ref jjj]) := by
  obtain ⟨hx, hb, hr, hts, hown, hlocks, hml, hA, hK, hNw⟩ := id C0
  intro H locs ls jbd ja9 jkG l1 l2 l3 l4 l5 l7 l8 s1 s2 s3 hP hD hS hl hw
  refine lv_ladd hx hb (qaa qjp 5 rfl) ?_
  refine lv_topl (fun x30 ex30 => ?_)
  have hw := hw x30 ex30
  obtain ⟨hi9, hw⟩ := hw
  refine va_last hx hb hK hP hD hS 2 2 rfl rfl hi9 (qaa qjp 6 rfl) (fun H locs hP hD hS => ?_)
  obtain ⟨f31, ef31⟩ : ∃ y : Nat → Int64, y = vp_updL jkG s1.toNatClampNeg x30 := ⟨_, rfl⟩
  have hw := hw f31 ef31
  have hP : va_P (dC, dI) vwCl (qdK a0 jbd jaQ jaD ja7 jby jbe jaM jaY jap jaK jal jam jax jao ja6 jaV ja8 jae jag jaf ja0 ja4 jaP jaw jaI jaZ jaG jaS jan jaU jaE jar jaL jah jaB jaa jaz jaH jab ja2 z0_s jaq jai jaO jaA jat jau jav jaj jas jjj jak jad jay jac jaQ cyI ja9 jjj cyJ f31) H := by rw [ef31]; exact hP
  have hD : va_D A (qdK a0 jbd jaQ jaD ja7 jby jbe jaM jaY jap jaK jal jam jax jao ja6 jaV ja8 jae jag jaf ja0 ja4 jaP jaw jaI jaZ jaG jaS jan jaU jaE jar jaL jah jaB jaa jaz jaH jab ja2 z0_s jaq jai jaO jaA jat jau jav jaj jas jjj jak jad jay jac jaQ cyI ja9 jjj cyJ f31) := by rw [ef31]; exact hD
  obtain ⟨x32, ex32⟩ : ∃ y : Int32, y = l8 + (-1) := ⟨_, rfl⟩
  have hw := hw x32 ex32
  refine lv_iinc (v := x32) (lv' := [(8, .int x32), (0, .ref a0), (1, .int l1), (2, .int l2), (3, .int l3), (4, .int l4), (5, .long l5), (7, .int l7)]) hx hb (qaa qjp 7 rfl) hl (k := 7) rfl (by rw [ex32]; rfl) (by decide) rfl (fun ls hl => ?_)
  refine lv_goto (tgt := 110) hx hb (qaa qjp 8 rfl) (by decide) ?_
  exact hK110 _ _ _ jbd ja9 f31 l1 l2 l3 l4 l5 l7 x32 hP hD hS (lv_sub hl [1, 2, 3, 4, 5, 6, 7, 0] rfl) hw
set_option maxHeartbeats 4000000 in
set_option maxRecDepth 100000 in
theorem qaH5 {p : Program} {l : Launch} {e : Env} {s : State} {m : MethodId} {args : Array Value} {below : List Frame} {meth : Method} {c : Code} {A : Nat → Prop} (dC : Nat → ClassId) (dI : Nat → Nat → Nat) (cyB cyI cyJ cyP : ClassId) (a0 jaQ jjj : Nat) (jaD ja7 jby jbe jaM jaY jap jaK jal jam jax jao ja6 jaV ja8 jae jag jaf ja0 ja4 jaP jaw jaI jaZ jaG jaS jan jaU jaE jar jaL jah jaB jaa jaz jaH jab ja2 z0_s jaq jai jaO jaA jat jau jav jaj jas jak jad jay jac : Value) (Q : Int64 → Int32 → NI → (Nat → Int64) → Prop) (K100 : Int32 → NI → (Nat → Int64) → Int32 → Int32 → Int32 → Int32 → Int64 → Int32 → Prop) (hK100 : ∀ (H : Heap) (locs : List Loc) (ls : Array Slot) (jbd : Int32) (ja9 : NI) (jkG : Nat → Int64) (l1 l2 l3 l4 : Int32) (l5 : Int64) (l7 : Int32), va_P (dC, dI) vwCl (qdK a0 jbd jaQ jaD ja7 jby jbe jaM jaY jap jaK jal jam jax jao ja6 jaV ja8 jae jag jaf ja0 ja4 jaP jaw jaI jaZ jaG jaS jan jaU jaE jar jaL jah jaB jaa jaz jaH jab ja2 z0_s jaq jai jaO jaA jat jau jav jaj jas jjj jak jad jay jac jaQ cyI ja9 jjj cyJ jkG) H → va_D A (qdK a0 jbd jaQ jaD ja7 jby jbe jaM jaY jap jaK jal jam jax jao ja6 jaV ja8 jae jag jaf ja0 ja4 jaP jaw jaI jaZ jaG jaS jan jaU jaE jar jaL jah jaB jaa jaz jaH jab ja2 z0_s jaq jai jaO jaA jat jau jav jaj jas jjj jak jad jay jac jaQ cyI ja9 jjj cyJ jkG) → va_S A s.heap H locs → lv_has ls 10 [(0, .ref a0), (1, .int l1), (2, .int l2), (3, .int l3), (4, .int l4), (5, .long l5), (7, .int l7)] → K100 jbd ja9 jkG l1 l2 l3 l4 l5 l7 → W p l e (headSpec wsX11_few ({ frames := 1, cells := 0, slots := 0, locals := 30 })).room s m args below meth c H locs 0 0 (MQ below (va_Ql (fun (r : Int64) (u : Int32 × NI × (Nat → Int64)) => Q r u.1 u.2.1 u.2.2) (cB (dC, dI) (kT cyB cyI cyJ cyP) A (fun u : Int32 × NI × (Nat → Int64) => ((qdK a0 u.1 jaQ jaD ja7 jby jbe jaM jaY jap jaK jal jam jax jao ja6 jaV ja8 jae jag jaf ja0 ja4 jaP jaw jaI jaZ jaG jaS jan jaU jaE jar jaL jah jaB jaa jaz jaH jab ja2 z0_s jaq jai jaO jaA jat jau jav jaj jas jjj jak jad jay jac jaQ cyI u.2.1 jjj cyJ u.2.2) : va_W))) A) args s 0 0 A) (F0 m 100 ls [])) (C0 : cfx p s m args meth c cX11_few (some .long) wsX11_few RX11 10 A (dC, dI) (kT cyB cyI cyJ cyP)) : ∀ (n : Nat) (H : Heap) (locs : List Loc) (ls : Array Slot) (jbd : Int32) (ja9 : NI) (jkG : Nat → Int64) (l1 l2 l3 l4 : Int32) (l5 : Int64) (l7 l8 : Int32), va_P (dC, dI) vwCl (qdK a0 jbd jaQ jaD ja7 jby jbe jaM jaY jap jaK jal jam jax jao ja6 jaV ja8 jae jag jaf ja0 ja4 jaP jaw jaI jaZ jaG jaS jan jaU jaE jar jaL jah jaB jaa jaz jaH jab ja2 z0_s jaq jai jaO jaA jat jau jav jaj jas jjj jak jad jay jac jaQ cyI ja9 jjj cyJ jkG) H → va_D A (qdK a0 jbd jaQ jaD ja7 jby jbe jaM jaY jap jaK jal jam jax jao ja6 jaV ja8 jae jag jaf ja0 ja4 jaP jaw jaI jaZ jaG jaS jan jaU jaE jar jaL jah jaB jaa jaz jaH jab ja2 z0_s jaq jai jaO jaA jat jau jav jaj jas jjj jak jad jay jac jaQ cyI ja9 jjj cyJ jkG) → va_S A s.heap H locs → lv_has ls 10 [(0, .ref a0), (1, .int l1), (2, .int l2), (3, .int l3), (4, .int l4), (5, .long l5), (7, .int l7), (8, .int l8)] → qvd Q K100 n jbd ja9 jkG l1 l2 l3 l4 l5 l7 l8 → W p l e (headSpec wsX11_few ({ frames := 1, cells := 0, slots := 0, locals := 30 })).room s m args below meth c H locs 0 0 (MQ below (va_Ql (fun (r : Int64) (u : Int32 × NI × (Nat → Int64)) => Q r u.1 u.2.1 u.2.2) (cB (dC, dI) (kT cyB cyI cyJ cyP) A (fun u : Int32 × NI × (Nat → Int64) => ((qdK a0 u.1 jaQ jaD ja7 jby jbe jaM jaY jap jaK jal jam jax jao ja6 jaV ja8 jae jag jaf ja0 ja4 jaP jaw jaI jaZ jaG jaS jan jaU jaE jar jaL jah jaB jaa jaz jaH jab ja2 z0_s jaq jai jaO jaA jat jau jav jaj jas jjj jak jad jay jac jaQ cyI u.2.1 jjj cyJ u.2.2) : va_W))) A) args s 0 0 A) (F0 m 110 ls []) := by
  obtain ⟨hx, hb, hr, hts, hown, hlocks, hml, hA, hK, hNw⟩ := id C0
  intro n
  induction n with
  | zero => intro H locs ls jbd ja9 jkG l1 l2 l3 l4 l5 l7 l8 hP hD hS hl hw; exact False.elim hw
  | succ n ih =>
    intro H locs ls jbd ja9 jkG l1 l2 l3 l4 l5 l7 l8 hP hD hS hl hw
    refine lv_iload hx hb (qaa qlM 10 rfl) (lv_at hl 7 rfl) ?_
    refine lv_if_lt (tgt := 163) hx hb (qaa qlM 11 rfl) (by decide) (fun c23 => ?_) (fun c23 => ?_)
    · have hw := hw.1 c23
      refine lv_lload hx hb (qaa qjp 9 rfl) (lv_at hl 5 rfl) ?_
      refine lv_ldc2 (v := 16) hx hb hown (hts _ qaEp) (qaa qjp 10 rfl) ?_
      refine lv_lmul hx hb (qaa qjp 11 rfl) ?_
      refine lv_topl (fun x24 ex24 => ?_)
      have hw := hw x24 ex24
      refine lv_lstore (lv' := [(5, .long x24), (0, .ref a0), (1, .int l1), (2, .int l2), (3, .int l3), (4, .int l4), (7, .int l7), (8, .int l8)]) hx hb (qaa qjp 12 rfl) hl (by decide) rfl (fun ls hl => ?_)
      obtain ⟨x25, ex25⟩ : ∃ y : Int32, y = l7 + 1 := ⟨_, rfl⟩
      have hw := hw x25 ex25
      refine lv_iinc (v := x25) (lv' := [(7, .int x25), (5, .long x24), (0, .ref a0), (1, .int l1), (2, .int l2), (3, .int l3), (4, .int l4), (8, .int l8)]) hx hb (qaa qjp 13 rfl) hl (k := 6) rfl (by rw [ex25]; rfl) (by decide) rfl (fun ls hl => ?_)
      refine lv_goto (tgt := 100) hx hb (qaa qjp 14 rfl) (by decide) ?_
      exact hK100 _ _ _ jbd ja9 jkG l1 l2 l3 l4 x24 x25 hP hD hS (lv_sub hl [2, 3, 4, 5, 6, 1, 0] rfl) hw
    · have hw := hw.2 c23
      refine lv_aload_n hx hb (qaa qlM 12 rfl) rfl (lv_at hl 0 rfl) ?_
      refine va_get (D := (dC, dI)) (ci := 11) (v := .ref jjj) (C := RX11) (T := TX11) (N := 55) hx hb hts qAA hown hK hP 0 rfl rfl 50 (by decide) (hts _ qEq) (fun _ h9 => h9) rfl (qaa qlM 13 rfl) ?_
      refine lv_iload hx hb (qaa qlM 14 rfl) (lv_at hl 7 rfl) ?_
      refine lv_aload_n hx hb (qaa qlM 15 rfl) rfl (lv_at hl 0 rfl) ?_
      refine va_get (D := (dC, dI)) (ci := 11) (v := .ref jjj) (C := RX11) (T := TX11) (N := 55) hx hb hts qAA hown hK hP 0 rfl rfl 50 (by decide) (hts _ qEq) (fun _ h9 => h9) rfl (qaa qjs 0 rfl) ?_
      refine lv_iload hx hb (qaa qjs 1 rfl) (lv_at hl 7 rfl) ?_
      obtain ⟨hi9, hw⟩ := hw
      refine va_lald hx hb hK hP 2 2 rfl rfl hi9 (qaa qjs 2 rfl) ?_
      refine lv_topl (fun x26 ex26 => ?_)
      have hw := hw x26 ex26
      refine lv_bipush (v := 16) hx hb (qaa qjs 3 rfl) (by decide) ?_
      refine lv_iload_n hx hb (qaa qjs 4 rfl) rfl (lv_at hl 3 rfl) ?_
      refine lv_isub hx hb (qaa qjs 5 rfl) ?_
      refine lv_i2l (v := (16 - l3).toInt64) hx hb (qaa qjs 6 rfl) rfl ?_
      refine lv_lmul hx hb (qaa qjs 7 rfl) ?_
      refine lv_iload hx hb (qaa qjs 8 rfl) (lv_at hl 7 rfl) ?_
      refine lv_if_le (tgt := 154) hx hb (qaa qjs 9 rfl) (by decide) (fun c27 => ?_) (fun c27 => ?_)
      · have hw := hw.1 c27
        refine lv_lconst (v := 0) hx hb (qaa qjp 4 rfl) (by decide) ?_
        exact q8s dC dI cyB cyI cyJ cyP a0 jaQ jjj jaD ja7 jby jbe jaM jaY jap jaK jal jam jax jao ja6 jaV ja8 jae jag jaf ja0 ja4 jaP jaw jaI jaZ jaG jaS jan jaU jaE jar jaL jah jaB jaa jaz jaH jab ja2 z0_s jaq jai jaO jaA jat jau jav jaj jas jak jad jay jac Q K100 (qvd Q K100 n) hK100 ih C0 _ _ _ jbd ja9 jkG l1 l2 l3 l4 l5 l7 l8 l8 (x26 * ((16 - l3).toInt64)) 0 hP hD hS (lv_sub hl [0, 1, 2, 3, 4, 5, 6, 7] rfl) hw
      · have hw := hw.2 c27
        refine lv_aload_n hx hb (qaa qjs 10 rfl) rfl (lv_at hl 0 rfl) ?_
        refine va_get (D := (dC, dI)) (ci := 11) (v := .ref jjj) (C := RX11) (T := TX11) (N := 55) hx hb hts qAA hown hK hP 0 rfl rfl 50 (by decide) (hts _ qEq) (fun _ h9 => h9) rfl (qaa qjs 11 rfl) ?_
        refine lv_iload hx hb (qaa qjs 12 rfl) (lv_at hl 7 rfl) ?_
        refine lv_iconst (v := 1) hx hb (qaa qjs 13 rfl) (by decide) ?_
        refine lv_isub hx hb (qaa qjs 14 rfl) ?_
        refine lv_topi (fun x28 ex28 => ?_)
        have hw := hw x28 ex28
        obtain ⟨hi9, hw⟩ := hw
        refine va_lald hx hb hK hP 2 2 rfl rfl hi9 (qaa qjs 15 rfl) ?_
        refine lv_topl (fun x29 ex29 => ?_)
        have hw := hw x29 ex29
        refine lv_iload_n hx hb (qaa qjp 0 rfl) rfl (lv_at hl 3 rfl) ?_
        refine lv_i2l (v := l3.toInt64) hx hb (qaa qjp 1 rfl) rfl ?_
        refine lv_lmul hx hb (qaa qjp 2 rfl) ?_
        refine lv_goto (tgt := 155) hx hb (qaa qjp 3 rfl) (by decide) ?_
        exact q8s dC dI cyB cyI cyJ cyP a0 jaQ jjj jaD ja7 jby jbe jaM jaY jap jaK jal jam jax jao ja6 jaV ja8 jae jag jaf ja0 ja4 jaP jaw jaI jaZ jaG jaS jan jaU jaE jar jaL jah jaB jaa jaz jaH jab ja2 z0_s jaq jai jaO jaA jat jau jav jaj jas jak jad jay jac Q K100 (qvd Q K100 n) hK100 ih C0 _ _ _ jbd ja9 jkG l1 l2 l3 l4 l5 l7 l8 l8 (x26 * ((16 - l3).toInt64)) (x29 * l3.toInt64) hP hD hS (lv_sub hl [0, 1, 2, 3, 4, 5, 6, 7] rfl) hw
set_option maxHeartbeats 4000000 in
set_option maxRecDepth 100000 in
theorem qaEH {p : Program} {l : Launch} {e : Env} {s : State} {m : MethodId} {args : Array Value} {below : List Frame} {meth : Method} {c : Code} {A : Nat → Prop} (dC : Nat → ClassId) (dI : Nat → Nat → Nat) (cyB cyI cyJ cyP : ClassId) (a0 jaQ jjj : Nat) (jaD ja7 jby jbe jaM jaY jap jaK jal jam jax jao ja6 jaV ja8 jae jag jaf ja0 ja4 jaP jaw jaI jaZ jaG jaS jan jaU jaE jar jaL jah jaB jaa jaz jaH jab ja2 z0_s jaq jai jaO jaA jat jau jav jaj jas jak jad jay jac : Value) (Q : Int64 → Int32 → NI → (Nat → Int64) → Prop) (C0 : cfx p s m args meth c cX11_few (some .long) wsX11_few RX11 10 A (dC, dI) (kT cyB cyI cyJ cyP)) : ∀ (n : Nat) (H : Heap) (locs : List Loc) (ls : Array Slot) (jbd : Int32) (ja9 : NI) (jkG : Nat → Int64) (l2 l4 : Int32) (l5 : Int64) (l7 : Int64) (l9 : Int32), va_P (dC, dI) vwCl (qdK a0 jbd jaQ jaD ja7 jby jbe jaM jaY jap jaK jal jam jax jao ja6 jaV ja8 jae jag jaf ja0 ja4 jaP jaw jaI jaZ jaG jaS jan jaU jaE jar jaL jah jaB jaa jaz jaH jab ja2 z0_s jaq jai jaO jaA jat jau jav jaj jas jjj jak jad jay jac jaQ cyI ja9 jjj cyJ jkG) H → va_D A (qdK a0 jbd jaQ jaD ja7 jby jbe jaM jaY jap jaK jal jam jax jao ja6 jaV ja8 jae jag jaf ja0 ja4 jaP jaw jaI jaZ jaG jaS jan jaU jaE jar jaL jah jaB jaa jaz jaH jab ja2 z0_s jaq jai jaO jaA jat jau jav jaj jas jjj jak jad jay jac jaQ cyI ja9 jjj cyJ jkG) → va_S A s.heap H locs → lv_has ls 10 [(0, .ref a0), (2, .int l2), (4, .int l4), (5, .long l5), (7, .long l7), (9, .int l9)] → qKY Q n jbd ja9 jkG l2 l4 l5 l7 l9 → W p l e (headSpec wsX11_few ({ frames := 1, cells := 0, slots := 0, locals := 30 })).room s m args below meth c H locs 0 0 (MQ below (va_Ql (fun (r : Int64) (u : Int32 × NI × (Nat → Int64)) => Q r u.1 u.2.1 u.2.2) (cB (dC, dI) (kT cyB cyI cyJ cyP) A (fun u : Int32 × NI × (Nat → Int64) => ((qdK a0 u.1 jaQ jaD ja7 jby jbe jaM jaY jap jaK jal jam jax jao ja6 jaV ja8 jae jag jaf ja0 ja4 jaP jaw jaI jaZ jaG jaS jan jaU jaE jar jaL jah jaB jaa jaz jaH jab ja2 z0_s jaq jai jaO jaA jat jau jav jaj jas jjj jak jad jay jac jaQ cyI u.2.1 jjj cyJ u.2.2) : va_W))) A) args s 0 0 A) (F0 m 183 ls []) := by
  obtain ⟨hx, hb, hr, hts, hown, hlocks, hml, hA, hK, hNw⟩ := id C0
  intro n
  induction n with
  | zero => intro H locs ls jbd ja9 jkG l2 l4 l5 l7 l9 hP hD hS hl hw; exact False.elim hw
  | succ n ih =>
    intro H locs ls jbd ja9 jkG l2 l4 l5 l7 l9 hP hD hS hl hw
    refine lv_iload hx hb (qaa qiC 3 rfl) (lv_at hl 5 rfl) ?_
    refine lv_iload_n hx hb (qaa qiC 4 rfl) rfl (lv_at hl 1 rfl) ?_
    refine lv_icmp_gt (tgt := 207) hx hb (qaa qiC 5 rfl) (by decide) (fun c18 => ?_) (fun c18 => ?_)
    · have hw := hw.1 c18
      refine lv_lload hx hb (qaa qiC 15 rfl) (lv_at hl 4 rfl) ?_
      refine lv_lload hx hb (qaa qKF 0 rfl) (lv_at hl 3 rfl) ?_
      refine lv_iload hx hb (qaa qKF 1 rfl) (lv_at hl 2 rfl) ?_
      obtain ⟨hCc, hPc, hDc, hFc⟩ := qac (ws' := []) hP hD hS hA [] (by decide +kernel) rfl
      refine va_calll (va_runS (As := [.long l7, .long l5, .int l4]) (rest := []) ⟨hx, hb, hml, hown, hts⟩ (qaV5 l dC dI cyB cyI cyJ cyP H.size l7 l5 l4 hw) (va_cwS 3 hts gX11_few_X11_least rfl rfl rfl (by decide +kernel) ⟨nbq rfl, nbq rfl⟩) ⟨qab, qae hPc hK hDc hNw⟩ rfl rfl hl.1 rfl (lv_room (nbq rfl)) (qaa qKF 2 rfl) ⟨nbq rfl, nbq rfl⟩) hS (fun q _ h => hFc q h) hFc (fun r19 u t H1 locs ht hvm hw hB hz1 hk1 hS => ?_)
      obtain ⟨hP1, hK1, hD1⟩ := hB
      rw [ht] at hP1
      obtain ⟨hP, hD⟩ := qah (wr := (qdK a0 jbd jaQ jaD ja7 jby jbe jaM jaY jap jaK jal jam jax jao ja6 jaV ja8 jae jag jaf ja0 ja4 jaP jaw jaI jaZ jaG jaS jan jaU jaE jar jaL jah jaB jaa jaz jaH jab ja2 z0_s jaq jai jaO jaA jat jau jav jaj jas jjj jak jad jay jac jaQ cyI ja9 jjj cyJ jkG)) (w1 := []) (wn := (qdK a0 jbd jaQ jaD ja7 jby jbe jaM jaY jap jaK jal jam jax jao ja6 jaV ja8 jae jag jaf ja0 ja4 jaP jaw jaI jaZ jaG jaS jan jaU jaE jar jaL jah jaB jaa jaz jaH jab ja2 z0_s jaq jai jaO jaA jat jau jav jaj jas jjj jak jad jay jac jaQ cyI ja9 jjj cyJ jkG)) hP hD [] [0, 1, 2] hCc rfl (by decide +kernel) (by decide +kernel) rfl hk1 hFc hP1 hD1
      generalize H1 = H at hP hS ⊢
      exact ((W.lret (v := r19) hx hb hr (fun t ht hW => ⟨⟨r19, (jbd, ja9, jkG), rfl, hw, by rw [ht]; exact hP, va_K.moved hW.alike hK, hD⟩, hS.F ht⟩) hS.2.2 (qaa qKF 3 rfl)))
    · have hw := hw.2 c18
      refine lv_lload hx hb (qaa qiC 6 rfl) (lv_at hl 4 rfl) ?_
      refine lv_aload_n hx hb (qaa qiC 7 rfl) rfl (lv_at hl 0 rfl) ?_
      refine va_get (D := (dC, dI)) (ci := 11) (v := .ref jjj) (C := RX11) (T := TX11) (N := 55) hx hb hts qAA hown hK hP 0 rfl rfl 50 (by decide) (hts _ qEq) (fun _ h9 => h9) rfl (qaa qiC 8 rfl) ?_
      refine lv_iload hx hb (qaa qiC 9 rfl) (lv_at hl 5 rfl) ?_
      obtain ⟨hi9, hw⟩ := hw
      refine va_lald hx hb hK hP 2 2 rfl rfl hi9 (qaa qiC 10 rfl) ?_
      refine lv_topl (fun x20 ex20 => ?_)
      have hw := hw x20 ex20
      refine lv_ladd hx hb (qaa qiC 11 rfl) ?_
      refine lv_topl (fun x21 ex21 => ?_)
      have hw := hw x21 ex21
      refine lv_lstore (lv' := [(7, .long x21), (0, .ref a0), (2, .int l2), (4, .int l4), (5, .long l5), (9, .int l9)]) hx hb (qaa qiC 12 rfl) hl (by decide) rfl (fun ls hl => ?_)
      obtain ⟨x22, ex22⟩ : ∃ y : Int32, y = l9 + 1 := ⟨_, rfl⟩
      have hw := hw x22 ex22
      refine lv_iinc (v := x22) (lv' := [(9, .int x22), (7, .long x21), (0, .ref a0), (2, .int l2), (4, .int l4), (5, .long l5)]) hx hb (qaa qiC 13 rfl) hl (k := 5) rfl (by rw [ex22]; rfl) (by decide) rfl (fun ls hl => ?_)
      refine lv_goto (tgt := 183) hx hb (qaa qiC 14 rfl) (by decide) ?_
      exact ih _ _ _ jbd ja9 jkG l2 l4 l5 x21 x22 hP hD hS (lv_sub hl [2, 3, 4, 5, 1, 0] rfl) hw
set_option maxHeartbeats 4000000 in
set_option maxRecDepth 100000 in
theorem qaG7 {p : Program} {l : Launch} {e : Env} {s : State} {m : MethodId} {args : Array Value} {below : List Frame} {meth : Method} {c : Code} {A : Nat → Prop} (dC : Nat → ClassId) (dI : Nat → Nat → Nat) (cyB cyI cyJ cyP : ClassId) (a0 jaQ jjj : Nat) (jaD ja7 jby jbe jaM jaY jap jaK jal jam jax jao ja6 jaV ja8 jae jag jaf ja0 ja4 jaP jaw jaI jaZ jaG jaS jan jaU jaE jar jaL jah jaB jaa jaz jaH jab ja2 z0_s jaq jai jaO jaA jat jau jav jaj jas jak jad jay jac : Value) (Q : Int64 → Int32 → NI → (Nat → Int64) → Prop) (C0 : cfx p s m args meth c cX11_few (some .long) wsX11_few RX11 10 A (dC, dI) (kT cyB cyI cyJ cyP)) : ∀ (n : Nat) (H : Heap) (locs : List Loc) (ls : Array Slot) (jbd : Int32) (ja9 : NI) (jkG : Nat → Int64) (l1 l2 l3 l4 : Int32) (l5 : Int64) (l7 : Int32), va_P (dC, dI) vwCl (qdK a0 jbd jaQ jaD ja7 jby jbe jaM jaY jap jaK jal jam jax jao ja6 jaV ja8 jae jag jaf ja0 ja4 jaP jaw jaI jaZ jaG jaS jan jaU jaE jar jaL jah jaB jaa jaz jaH jab ja2 z0_s jaq jai jaO jaA jat jau jav jaj jas jjj jak jad jay jac jaQ cyI ja9 jjj cyJ jkG) H → va_D A (qdK a0 jbd jaQ jaD ja7 jby jbe jaM jaY jap jaK jal jam jax jao ja6 jaV ja8 jae jag jaf ja0 ja4 jaP jaw jaI jaZ jaG jaS jan jaU jaE jar jaL jah jaB jaa jaz jaH jab ja2 z0_s jaq jai jaO jaA jat jau jav jaj jas jjj jak jad jay jac jaQ cyI ja9 jjj cyJ jkG) → va_S A s.heap H locs → lv_has ls 10 [(0, .ref a0), (1, .int l1), (2, .int l2), (3, .int l3), (4, .int l4), (5, .long l5), (7, .int l7)] → qD6 Q n jbd ja9 jkG l1 l2 l3 l4 l5 l7 → W p l e (headSpec wsX11_few ({ frames := 1, cells := 0, slots := 0, locals := 30 })).room s m args below meth c H locs 0 0 (MQ below (va_Ql (fun (r : Int64) (u : Int32 × NI × (Nat → Int64)) => Q r u.1 u.2.1 u.2.2) (cB (dC, dI) (kT cyB cyI cyJ cyP) A (fun u : Int32 × NI × (Nat → Int64) => ((qdK a0 u.1 jaQ jaD ja7 jby jbe jaM jaY jap jaK jal jam jax jao ja6 jaV ja8 jae jag jaf ja0 ja4 jaP jaw jaI jaZ jaG jaS jan jaU jaE jar jaL jah jaB jaa jaz jaH jab ja2 z0_s jaq jai jaO jaA jat jau jav jaj jas jjj jak jad jay jac jaQ cyI u.2.1 jjj cyJ u.2.2) : va_W))) A) args s 0 0 A) (F0 m 100 ls []) := by
  obtain ⟨hx, hb, hr, hts, hown, hlocks, hml, hA, hK, hNw⟩ := id C0
  intro n
  induction n with
  | zero => intro H locs ls jbd ja9 jkG l1 l2 l3 l4 l5 l7 hP hD hS hl hw; exact False.elim hw
  | succ n ih =>
    intro H locs ls jbd ja9 jkG l1 l2 l3 l4 l5 l7 hP hD hS hl hw
    refine lv_iload hx hb (qaa qlM 5 rfl) (lv_at hl 6 rfl) ?_
    refine lv_iload_n hx hb (qaa qlM 6 rfl) rfl (lv_at hl 1 rfl) ?_
    refine lv_icmp_ge (tgt := 177) hx hb (qaa qlM 7 rfl) (by decide) (fun c15 => ?_) (fun c15 => ?_)
    · have hw := hw.1 c15
      refine lv_lconst (v := 0) hx hb (qaa qjp 15 rfl) (by decide) ?_
      refine lv_lstore (lv' := [(7, .long 0), (0, .ref a0), (1, .int l1), (2, .int l2), (3, .int l3), (4, .int l4), (5, .long l5)]) hx hb (qaa qiC 0 rfl) hl (by decide) rfl (fun ls hl => ?_)
      refine lv_iconst (v := 0) hx hb (qaa qiC 1 rfl) (by decide) ?_
      refine lv_istore (lv' := [(9, .int 0), (7, .long 0), (0, .ref a0), (1, .int l1), (2, .int l2), (3, .int l3), (4, .int l4), (5, .long l5)]) hx hb (qaa qiC 2 rfl) hl (by decide) rfl (fun ls hl => ?_)
      obtain ⟨n9, hw⟩ := hw
      exact qaEH dC dI cyB cyI cyJ cyP a0 jaQ jjj jaD ja7 jby jbe jaM jaY jap jaK jal jam jax jao ja6 jaV ja8 jae jag jaf ja0 ja4 jaP jaw jaI jaZ jaG jaS jan jaU jaE jar jaL jah jaB jaa jaz jaH jab ja2 z0_s jaq jai jaO jaA jat jau jav jaj jas jak jad jay jac Q C0 n9 _ _ _ jbd ja9 jkG l2 l4 l5 0 0 hP hD hS (lv_sub hl [2, 4, 6, 7, 1, 0] rfl) hw
    · have hw := hw.2 c15
      refine lv_bipush (v := 13) hx hb (qaa qlM 8 rfl) (by decide) ?_
      refine lv_istore (lv' := [(8, .int 13), (0, .ref a0), (1, .int l1), (2, .int l2), (3, .int l3), (4, .int l4), (5, .long l5), (7, .int l7)]) hx hb (qaa qlM 9 rfl) hl (by decide) rfl (fun ls hl => ?_)
      obtain ⟨n9, hw⟩ := hw
      exact qaH5 dC dI cyB cyI cyJ cyP a0 jaQ jjj jaD ja7 jby jbe jaM jaY jap jaK jal jam jax jao ja6 jaV ja8 jae jag jaf ja0 ja4 jaP jaw jaI jaZ jaG jaS jan jaU jaE jar jaL jah jaB jaa jaz jaH jab ja2 z0_s jaq jai jaO jaA jat jau jav jaj jas jak jad jay jac Q (qD6 Q n) ih C0 n9 _ _ _ jbd ja9 jkG l1 l2 l3 l4 l5 l7 13 hP hD hS (lv_sub hl [1, 2, 3, 4, 5, 6, 7, 0] rfl) hw
set_option maxHeartbeats 4000000 in
set_option maxRecDepth 100000 in
theorem qaMR {p : Program} {l : Launch} {e : Env} {s : State} {m : MethodId} {args : Array Value} {below : List Frame} {meth : Method} {c : Code} {A : Nat → Prop} (dC : Nat → ClassId) (dI : Nat → Nat → Nat) (cyB cyI cyJ cyP : ClassId) (a0 jaQ jjj : Nat) (jaD ja7 jby jbe jaM jaY jap jaK jal jam jax jao ja6 jaV ja8 jae jag jaf ja0 ja4 jaP jaw jaI jaZ jaG jaS jan jaU jaE jar jaL jah jaB jaa jaz jaH jab ja2 z0_s jaq jai jaO jaA jat jau jav jaj jas jak jad jay jac : Value) (Q : Int64 → Int32 → NI → (Nat → Int64) → Prop) (C0 : cfx p s m args meth c cX11_few (some .long) wsX11_few RX11 10 A (dC, dI) (kT cyB cyI cyJ cyP)) : ∀ (n : Nat) (H : Heap) (locs : List Loc) (ls : Array Slot) (jbd : Int32) (ja9 : NI) (jkG : Nat → Int64) (l1 l2 l3 l4 l5 : Int32), va_P (dC, dI) vwCl (qdK a0 jbd jaQ jaD ja7 jby jbe jaM jaY jap jaK jal jam jax jao ja6 jaV ja8 jae jag jaf ja0 ja4 jaP jaw jaI jaZ jaG jaS jan jaU jaE jar jaL jah jaB jaa jaz jaH jab ja2 z0_s jaq jai jaO jaA jat jau jav jaj jas jjj jak jad jay jac jaQ cyI ja9 jjj cyJ jkG) H → va_D A (qdK a0 jbd jaQ jaD ja7 jby jbe jaM jaY jap jaK jal jam jax jao ja6 jaV ja8 jae jag jaf ja0 ja4 jaP jaw jaI jaZ jaG jaS jan jaU jaE jar jaL jah jaB jaa jaz jaH jab ja2 z0_s jaq jai jaO jaA jat jau jav jaj jas jjj jak jad jay jac jaQ cyI ja9 jjj cyJ jkG) → va_S A s.heap H locs → lv_has ls 10 [(0, .ref a0), (1, .int l1), (2, .int l2), (3, .int l3), (4, .int l4), (5, .int l5)] → qw5 Q n jbd ja9 jkG l1 l2 l3 l4 l5 → W p l e (headSpec wsX11_few ({ frames := 1, cells := 0, slots := 0, locals := 30 })).room s m args below meth c H locs 0 0 (MQ below (va_Ql (fun (r : Int64) (u : Int32 × NI × (Nat → Int64)) => Q r u.1 u.2.1 u.2.2) (cB (dC, dI) (kT cyB cyI cyJ cyP) A (fun u : Int32 × NI × (Nat → Int64) => ((qdK a0 u.1 jaQ jaD ja7 jby jbe jaM jaY jap jaK jal jam jax jao ja6 jaV ja8 jae jag jaf ja0 ja4 jaP jaw jaI jaZ jaG jaS jan jaU jaE jar jaL jah jaB jaa jaz jaH jab ja2 z0_s jaq jai jaO jaA jat jau jav jaj jas jjj jak jad jay jac jaQ cyI u.2.1 jjj cyJ u.2.2) : va_W))) A) args s 0 0 A) (F0 m 64 ls []) := by
  obtain ⟨hx, hb, hr, hts, hown, hlocks, hml, hA, hK, hNw⟩ := id C0
  intro n
  induction n with
  | zero => intro H locs ls jbd ja9 jkG l1 l2 l3 l4 l5 hP hD hS hl hw; exact False.elim hw
  | succ n ih =>
    intro H locs ls jbd ja9 jkG l1 l2 l3 l4 l5 hP hD hS hl hw
    refine lv_iload hx hb (qaa qmy 3 rfl) (lv_at hl 5 rfl) ?_
    refine lv_bipush (v := 14) hx hb (qaa qmy 4 rfl) (by decide) ?_
    refine lv_icmp_ge (tgt := 94) hx hb (qaa qmy 5 rfl) (by decide) (fun c13 => ?_) (fun c13 => ?_)
    · have hw := hw.1 c13
      refine lv_lconst (v := 1) hx hb (qaa qlM 1 rfl) (by decide) ?_
      refine lv_lstore (lv' := [(5, .long 1), (0, .ref a0), (1, .int l1), (2, .int l2), (3, .int l3), (4, .int l4)]) hx hb (qaa qlM 2 rfl) hl (by decide) rfl (fun ls hl => ?_)
      refine lv_iconst (v := 0) hx hb (qaa qlM 3 rfl) (by decide) ?_
      refine lv_istore (lv' := [(7, .int 0), (5, .long 1), (0, .ref a0), (1, .int l1), (2, .int l2), (3, .int l3), (4, .int l4)]) hx hb (qaa qlM 4 rfl) hl (by decide) rfl (fun ls hl => ?_)
      obtain ⟨n9, hw⟩ := hw
      exact qaG7 dC dI cyB cyI cyJ cyP a0 jaQ jjj jaD ja7 jby jbe jaM jaY jap jaK jal jam jax jao ja6 jaV ja8 jae jag jaf ja0 ja4 jaP jaw jaI jaZ jaG jaS jan jaU jaE jar jaL jah jaB jaa jaz jaH jab ja2 z0_s jaq jai jaO jaA jat jau jav jaj jas jak jad jay jac Q C0 n9 _ _ _ jbd ja9 jkG l1 l2 l3 l4 1 0 hP hD hS (lv_sub hl [2, 3, 4, 5, 6, 1, 0] rfl) hw
    · have hw := hw.2 c13
      refine lv_aload_n hx hb (qaa qmy 6 rfl) rfl (lv_at hl 0 rfl) ?_
      refine va_get (D := (dC, dI)) (ci := 11) (v := .ref jjj) (C := RX11) (T := TX11) (N := 55) hx hb hts qAA hown hK hP 0 rfl rfl 50 (by decide) (hts _ qEq) (fun _ h9 => h9) rfl (qaa qmy 7 rfl) ?_
      refine lv_iload hx hb (qaa qmy 8 rfl) (lv_at hl 5 rfl) ?_
      refine lv_iload hx hb (qaa qmy 9 rfl) (lv_at hl 5 rfl) ?_
      refine lv_if_ne (tgt := 86) hx hb (qaa qmy 10 rfl) (by decide) (fun c14 => ?_) (fun c14 => ?_)
      · have hw := hw.1 c14
        refine lv_lconst (v := 0) hx hb (qaa qmy 13 rfl) (by decide) ?_
        exact qafq dC dI cyB cyI cyJ cyP a0 jaQ jjj jaD ja7 jby jbe jaM jaY jap jaK jal jam jax jao ja6 jaV ja8 jae jag jaf ja0 ja4 jaP jaw jaI jaZ jaG jaS jan jaU jaE jar jaL jah jaB jaa jaz jaH jab ja2 z0_s jaq jai jaO jaA jat jau jav jaj jas jak jad jay jac Q (qw5 Q n) ih C0 _ _ _ jbd ja9 jkG l1 l2 l3 l4 l5 l5 0 hP hD hS (lv_sub hl [0, 1, 2, 3, 4, 5] rfl) hw
      · have hw := hw.2 c14
        refine lv_lconst (v := 1) hx hb (qaa qmy 11 rfl) (by decide) ?_
        refine lv_goto (tgt := 87) hx hb (qaa qmy 12 rfl) (by decide) ?_
        exact qafq dC dI cyB cyI cyJ cyP a0 jaQ jjj jaD ja7 jby jbe jaM jaY jap jaK jal jam jax jao ja6 jaV ja8 jae jag jaf ja0 ja4 jaP jaw jaI jaZ jaG jaS jan jaU jaE jar jaL jah jaB jaa jaz jaH jab ja2 z0_s jaq jai jaO jaA jat jau jav jaj jas jak jad jay jac Q (qw5 Q n) ih C0 _ _ _ jbd ja9 jkG l1 l2 l3 l4 l5 l5 1 hP hD hS (lv_sub hl [0, 1, 2, 3, 4, 5] rfl) hw
set_option maxHeartbeats 4000000 in
set_option maxRecDepth 100000 in
theorem qagh {p : Program} {l : Launch} {e : Env} {s : State} {m : MethodId} {args : Array Value} {below : List Frame} {meth : Method} {c : Code} {A : Nat → Prop} (dC : Nat → ClassId) (dI : Nat → Nat → Nat) (cyB cyI cyJ cyP : ClassId) (a0 jaQ jjj : Nat) (jaD ja7 jby jbe jaM jaY jap jaK jal jam jax jao ja6 jaV ja8 jae jag jaf ja0 ja4 jaP jaw jaI jaZ jaG jaS jan jaU jaE jar jaL jah jaB jaa jaz jaH jab ja2 z0_s jaq jai jaO jaA jat jau jav jaj jas jak jad jay jac : Value) (Q : Int64 → Int32 → NI → (Nat → Int64) → Prop) (C0 : cfx p s m args meth c cX11_few (some .long) wsX11_few RX11 10 A (dC, dI) (kT cyB cyI cyJ cyP)) : ∀ (H : Heap) (locs : List Loc) (ls : Array Slot) (jbd : Int32) (ja9 : NI) (jkG : Nat → Int64) (l1 l2 l3 l4 s1 : Int32), va_P (dC, dI) vwCl (qdK a0 jbd jaQ jaD ja7 jby jbe jaM jaY jap jaK jal jam jax jao ja6 jaV ja8 jae jag jaf ja0 ja4 jaP jaw jaI jaZ jaG jaS jan jaU jaE jar jaL jah jaB jaa jaz jaH jab ja2 z0_s jaq jai jaO jaA jat jau jav jaj jas jjj jak jad jay jac jaQ cyI ja9 jjj cyJ jkG) H → va_D A (qdK a0 jbd jaQ jaD ja7 jby jbe jaM jaY jap jaK jal jam jax jao ja6 jaV ja8 jae jag jaf ja0 ja4 jaP jaw jaI jaZ jaG jaS jan jaU jaE jar jaL jah jaB jaa jaz jaH jab ja2 z0_s jaq jai jaO jaA jat jau jav jaj jas jjj jak jad jay jac jaQ cyI ja9 jjj cyJ jkG) → va_S A s.heap H locs → lv_has ls 10 [(0, .ref a0), (1, .int l1), (2, .int l2), (3, .int l3), (4, .int l4)] → qWU Q jbd ja9 jkG l1 l2 l3 l4 s1 → W p l e (headSpec wsX11_few ({ frames := 1, cells := 0, slots := 0, locals := 30 })).room s m args below meth c H locs 0 0 (MQ below (va_Ql (fun (r : Int64) (u : Int32 × NI × (Nat → Int64)) => Q r u.1 u.2.1 u.2.2) (cB (dC, dI) (kT cyB cyI cyJ cyP) A (fun u : Int32 × NI × (Nat → Int64) => ((qdK a0 u.1 jaQ jaD ja7 jby jbe jaM jaY jap jaK jal jam jax jao ja6 jaV ja8 jae jag jaf ja0 ja4 jaP jaw jaI jaZ jaG jaS jan jaU jaE jar jaL jah jaB jaa jaz jaH jab ja2 z0_s jaq jai jaO jaA jat jau jav jaj jas jjj jak jad jay jac jaQ cyI u.2.1 jjj cyJ u.2.2) : va_W))) A) args s 0 0 A) (F0 m 51 ls [.int s1, .ref a0]) := by
  obtain ⟨hx, hb, hr, hts, hown, hlocks, hml, hA, hK, hNw⟩ := id C0
  intro H locs ls jbd ja9 jkG l1 l2 l3 l4 s1 hP hD hS hl hw
  refine lv_iconst (v := 1) hx hb (qaa qlG 11 rfl) (by decide) ?_
  refine lv_iconst (v := 1) hx hb (qaa qlG 12 rfl) (by decide) ?_
  obtain ⟨hCc, hPc, hDc, hFc⟩ := qac (ws' := (qa86 a0 jbd jaQ jaD ja7 jby jbe jaM jaY jap jaK jal jam jax jao ja6 jaV ja8 jae jag jaf ja0 ja4 jaP jaw jaI jaZ jaG jaS jan jaU jaE jar jaL jah jaB jaa jaz jaH jab ja2 z0_s jaq jai jaO jaA jat jau jav jaj jas jjj jak jad jay jac jaQ cyI ja9)) hP hD hS hA [0, 1] (by decide +kernel) rfl
  refine va_calli (va_runV (As := [.int s1, .int 1, .int 1]) (rest := []) ⟨hx, hb, hml, hown, hts⟩ (qkE l dC dI cyB cyI cyJ cyP a0 jaQ H.size (jaD) (ja7) (jby) (jbe) (jaM) (jaY) (jap) (jaK) (jal) (jam) (jax) (jao) (ja6) (jaV) (ja8) (jae) (jag) (jaf) (ja0) (ja4) (jaP) (jaw) (jaI) (jaZ) (jaG) (jaS) (jan) (jaU) (jaE) (jar) (jaL) (jah) (jaB) (jaa) (jaz) (jaH) (jab) (ja2) (z0_s) (jaq) (jai) (jaO) (jaA) (jat) (jau) (jav) (jaj) (jas) (.ref jjj) (jak) (jad) (jay) (jac) jbd ja9 s1 1 1 hw) (cwV 3 hts gX11_few_X11_may rfl rfl rfl (by decide +kernel) ⟨nbq rfl, nbq rfl⟩) ⟨qab, va_recv (q := (RX11, TX11, 55)) hK hPc (ci := 11) (q0 := 0) rfl rfl, qae hPc hK hDc hNw⟩ rfl rfl hl.1 rfl (lv_room (nbq rfl)) (qaa qlG 13 rfl) ⟨nbq rfl, nbq rfl⟩) hS (fun q _ h => hFc q h) hFc (fun r11 u t H1 locs ht hvm hw hB hz1 hk1 hS => ?_)
  obtain ⟨x9, f10⟩ := u
  obtain ⟨hP1, hK1, hD1⟩ := hB
  rw [ht] at hP1
  obtain ⟨hP, hD⟩ := qad (wr := [(jjj, .inl (cyJ, 14, .inr (.inl jkG)))]) (w1 := (qa86 a0 x9 jaQ jaD ja7 jby jbe jaM jaY jap jaK jal jam jax jao ja6 jaV ja8 jae jag jaf ja0 ja4 jaP jaw jaI jaZ jaG jaS jan jaU jaE jar jaL jah jaB jaa jaz jaH jab ja2 z0_s jaq jai jaO jaA jat jau jav jaj jas jjj jak jad jay jac jaQ cyI f10)) (wn := (qdK a0 x9 jaQ jaD ja7 jby jbe jaM jaY jap jaK jal jam jax jao ja6 jaV ja8 jae jag jaf ja0 ja4 jaP jaw jaI jaZ jaG jaS jan jaU jaE jar jaL jah jaB jaa jaz jaH jab ja2 z0_s jaq jai jaO jaA jat jau jav jaj jas jjj jak jad jay jac jaQ cyI f10 jjj cyJ jkG)) hP hD [0, 1] [2] [1, 2, 0] hCc rfl (by decide +kernel) (by decide +kernel) (by decide +kernel) rfl hk1 hFc hP1 hD1
  generalize H1 = H at hP hS ⊢
  refine lv_if_ne (tgt := 61) hx hb (qaa qlG 14 rfl) (by decide) (fun c12 => ?_) (fun c12 => ?_)
  · have hw := hw.1 c12
    refine lv_iconst (v := 0) hx hb (qaa qmy 1 rfl) (by decide) ?_
    refine lv_istore (lv' := [(5, .int 0), (0, .ref a0), (1, .int l1), (2, .int l2), (3, .int l3), (4, .int l4)]) hx hb (qaa qmy 2 rfl) hl (by decide) rfl (fun ls hl => ?_)
    obtain ⟨n9, hw⟩ := hw
    exact qaMR dC dI cyB cyI cyJ cyP a0 jaQ jjj jaD ja7 jby jbe jaM jaY jap jaK jal jam jax jao ja6 jaV ja8 jae jag jaf ja0 ja4 jaP jaw jaI jaZ jaG jaS jan jaU jaE jar jaL jah jaB jaa jaz jaH jab ja2 z0_s jaq jai jaO jaA jat jau jav jaj jas jak jad jay jac Q C0 n9 _ _ _ x9 f10 jkG l1 l2 l3 l4 0 hP hD hS (lv_sub hl [1, 2, 3, 4, 5, 0] rfl) hw
  · have hw := hw.2 c12
    refine lv_lconst (v := 0) hx hb (qaa qlG 15 rfl) (by decide) ?_
    exact ((W.lret (v := 0) hx hb hr (fun t ht hW => ⟨⟨0, (x9, f10, jkG), rfl, hw, by rw [ht]; exact hP, va_K.moved hW.alike hK, hD⟩, hS.F ht⟩) hS.2.2 (qaa qmy 0 rfl)))
set_option maxHeartbeats 4000000 in
set_option maxRecDepth 100000 in
theorem qNV {p : Program} {l : Launch} {e : Env} {s : State} {m : MethodId} {args : Array Value} {below : List Frame} {meth : Method} {c : Code} {A : Nat → Prop} (dC : Nat → ClassId) (dI : Nat → Nat → Nat) (cyB cyI cyJ cyP : ClassId) (a0 jaQ jjj : Nat) (jaD ja7 jby jbe jaM jaY jap jaK jal jam jax jao ja6 jaV ja8 jae jag jaf ja0 ja4 jaP jaw jaI jaZ jaG jaS jan jaU jaE jar jaL jah jaB jaa jaz jaH jab ja2 z0_s jaq jai jaO jaA jat jau jav jaj jas jak jad jay jac : Value) (Q : Int64 → Int32 → NI → (Nat → Int64) → Prop) (C0 : cfx p s m args meth c cX11_few (some .long) wsX11_few RX11 10 A (dC, dI) (kT cyB cyI cyJ cyP)) : ∀ (H : Heap) (locs : List Loc) (ls : Array Slot) (jbd : Int32) (ja9 : NI) (jkG : Nat → Int64) (l1 l2 l3 l4 : Int32), va_P (dC, dI) vwCl (qdK a0 jbd jaQ jaD ja7 jby jbe jaM jaY jap jaK jal jam jax jao ja6 jaV ja8 jae jag jaf ja0 ja4 jaP jaw jaI jaZ jaG jaS jan jaU jaE jar jaL jah jaB jaa jaz jaH jab ja2 z0_s jaq jai jaO jaA jat jau jav jaj jas jjj jak jad jay jac jaQ cyI ja9 jjj cyJ jkG) H → va_D A (qdK a0 jbd jaQ jaD ja7 jby jbe jaM jaY jap jaK jal jam jax jao ja6 jaV ja8 jae jag jaf ja0 ja4 jaP jaw jaI jaZ jaG jaS jan jaU jaE jar jaL jah jaB jaa jaz jaH jab ja2 z0_s jaq jai jaO jaA jat jau jav jaj jas jjj jak jad jay jac jaQ cyI ja9 jjj cyJ jkG) → va_S A s.heap H locs → lv_has ls 10 [(0, .ref a0), (1, .int l1), (2, .int l2), (3, .int l3), (4, .int l4)] → qDf Q jbd ja9 jkG l1 l2 l3 l4 → W p l e (headSpec wsX11_few ({ frames := 1, cells := 0, slots := 0, locals := 30 })).room s m args below meth c H locs 0 0 (MQ below (va_Ql (fun (r : Int64) (u : Int32 × NI × (Nat → Int64)) => Q r u.1 u.2.1 u.2.2) (cB (dC, dI) (kT cyB cyI cyJ cyP) A (fun u : Int32 × NI × (Nat → Int64) => ((qdK a0 u.1 jaQ jaD ja7 jby jbe jaM jaY jap jaK jal jam jax jao ja6 jaV ja8 jae jag jaf ja0 ja4 jaP jaw jaI jaZ jaG jaS jan jaU jaE jar jaL jah jaB jaa jaz jaH jab ja2 z0_s jaq jai jaO jaA jat jau jav jaj jas jjj jak jad jay jac jaQ cyI u.2.1 jjj cyJ u.2.2) : va_W))) A) args s 0 0 A) (F0 m 50 ls [.ref a0]) := by
  obtain ⟨hx, hb, hr, hts, hown, hlocks, hml, hA, hK, hNw⟩ := id C0
  intro H locs ls jbd ja9 jkG l1 l2 l3 l4 hP hD hS hl hw
  refine lv_iconst (v := 0) hx hb (qaa qlG 10 rfl) (by decide) ?_
  exact qagh dC dI cyB cyI cyJ cyP a0 jaQ jjj jaD ja7 jby jbe jaM jaY jap jaK jal jam jax jao ja6 jaV ja8 jae jag jaf ja0 ja4 jaP jaw jaI jaZ jaG jaS jan jaU jaE jar jaL jah jaB jaa jaz jaH jab ja2 z0_s jaq jai jaO jaA jat jau jav jaj jas jak jad jay jac Q C0 _ _ _ jbd ja9 jkG l1 l2 l3 l4 0 hP hD hS (lv_sub hl [0, 1, 2, 3, 4] rfl) hw
set_option maxHeartbeats 4000000 in
set_option maxRecDepth 100000 in
theorem qa2l (l : Launch) (dC : Nat → ClassId) (dI : Nat → Nat → Nat) (cyB cyI cyJ cyP : ClassId) (a0 jaQ jjj sz : Nat) (jaD ja7 jby jbe jaM jaY jap jaK jal jam jax jao ja6 jaV ja8 jae jag jaf ja0 ja4 jaP jaw jaI jaZ jaG jaS jan jaU jaE jar jaL jah jaB jaa jaz jaH jab ja2 z0_s jaq jai jaO jaA jat jau jav jaj jas jak jad jay jac : Value) (jbd : Int32) (ja9 : NI) (jkG : Nat → Int64) (p1 p2 p3 p4 : Int32) {Q : Int64 → Int32 → NI → (Nat → Int64) → Prop} (hw : qajD jbd ja9 jkG p1 p2 p3 p4 Q) : Met l yX11_few wsX11_few ({ frames := 1, cells := 0, slots := 0, locals := 30 }) (va_Pc [.ref a0, .int p1, .int p2, .int p3, .int p4] (cPc (dC, dI) (kT cyB cyI cyJ cyP) (qdK a0 jbd jaQ jaD ja7 jby jbe jaM jaY jap jaK jal jam jax jao ja6 jaV ja8 jae jag jaf ja0 ja4 jaP jaw jaI jaZ jaG jaS jan jaU jaE jar jaL jah jaB jaa jaz jaH jab ja2 z0_s jaq jai jaO jaA jat jau jav jaj jas jjj jak jad jay jac jaQ cyI ja9 jjj cyJ jkG) sz)) (va_Ql (fun (r : Int64) (u : Int32 × NI × (Nat → Int64)) => Q r u.1 u.2.1 u.2.2) (cB (dC, dI) (kT cyB cyI cyJ cyP) (va_A (qdK a0 jbd jaQ jaD ja7 jby jbe jaM jaY jap jaK jal jam jax jao ja6 jaV ja8 jae jag jaf ja0 ja4 jaP jaw jaI jaZ jaG jaS jan jaU jaE jar jaL jah jaB jaa jaz jaH jab ja2 z0_s jaq jai jaO jaA jat jau jav jaj jas jjj jak jad jay jac jaQ cyI ja9 jjj cyJ jkG) sz) (fun u : Int32 × NI × (Nat → Int64) => ((qdK a0 u.1 jaQ jaD ja7 jby jbe jaM jaY jap jaK jal jam jax jao ja6 jaV ja8 jae jag jaf ja0 ja4 jaP jaw jaI jaZ jaG jaS jan jaU jaE jar jaL jah jaB jaa jaz jaH jab ja2 z0_s jaq jai jaO jaA jat jau jav jaj jas jjj jak jad jay jac jaQ cyI u.2.1 jjj cyJ u.2.2) : va_W))) (va_A (qdK a0 jbd jaQ jaD ja7 jby jbe jaM jaY jap jaK jal jam jax jao ja6 jaV ja8 jae jag jaf ja0 ja4 jaP jaw jaI jaZ jaG jaS jan jaU jaE jar jaL jah jaB jaa jaz jaH jab ja2 z0_s jaq jai jaO jaA jat jau jav jaj jas jjj jak jad jay jac jaQ cyI ja9 jjj cyJ jkG) sz)) 0 0 (va_A (qdK a0 jbd jaQ jaD ja7 jby jbe jaM jaY jap jaK jal jam jax jao ja6 jaV ja8 jae jag jaf ja0 ja4 jaP jaw jaI jaZ jaG jaS jan jaU jaE jar jaL jah jaB jaa jaz jaH jab ja2 z0_s jaq jai jaO jaA jat jau jav jaj jas jjj jak jad jay jac jaQ cyI ja9 jjj cyJ jkG) sz) := by
  refine Met.ofW (cc := cX11_few) (maxL := 10) (ret := (some .long)) (by decide) rfl ?_
  intro p e s m args below meth c s₁ B hml hv
  obtain ⟨rfl, hsz, hP, hK, hD0, hNw⟩ := hv
  have hx := B.exec
  have hb := B.bytes
  have hr := B.returns
  have hts := atoms_spec (ws := wsX11_few) B.pre
  have hown : s.vm.findClass RX11 = some m.cls := findClass_of_methodNamed B.named
  have hlocks := B.notSynchronized
  subst hsz
  have hD := hD0.self (sz := s.heap.size)
  generalize hAe : va_A (qdK a0 jbd jaQ jaD ja7 jby jbe jaM jaY jap jaK jal jam jax jao ja6 jaV ja8 jae jag jaf ja0 ja4 jaP jaw jaI jaZ jaG jaS jan jaU jaE jar jaL jah jaB jaa jaz jaH jab ja2 z0_s jaq jai jaO jaA jat jau jav jaj jas jjj jak jad jay jac jaQ cyI ja9 jjj cyJ jkG) s.heap.size = A at hD ⊢
  have hA : ∀ q : Nat, s.heap.size ≤ q → A q := fun q h => by rw [← hAe]; exact Or.inr h
  have hS : va_S A s.heap s.heap [] := va_S.rf
  have hP : va_P (dC, dI) vwCl (qdK a0 jbd jaQ jaD ja7 jby jbe jaM jaY jap jaK jal jam jax jao ja6 jaV ja8 jae jag jaf ja0 ja4 jaP jaw jaI jaZ jaG jaS jan jaU jaE jar jaL jah jaB jaa jaz jaH jab ja2 z0_s jaq jai jaO jaA jat jau jav jaj jas jjj jak jad jay jac jaQ cyI ja9 jjj cyJ jkG) s.heap := hP
  have hl := lv_entry ([.ref a0, .int p1, .int p2, .int p3, .int p4]) (n := 10) (nbq rfl)
  rw [lg_entry_eq]
  generalize (lg_sl ([.ref a0, .int p1, .int p2, .int p3, .int p4]) ++ List.replicate (10 - (lg_sl ([.ref a0, .int p1, .int p2, .int p3, .int p4])).length) Slot.unset).toArray = ls at hl ⊢
  have hl : lv_has ls 10 [(0, .ref a0), (1, .int p1), (2, .int p2), (3, .int p3), (4, .int p4)] := hl
  have C0 : cfx p s m _ meth c cX11_few (some .long) wsX11_few RX11 10 A (dC, dI) (kT cyB cyI cyJ cyP) := ⟨hx, hb, hr, hts, hown, hlocks, hml, hA, hK, hNw⟩
  clear hAe
  obtain ⟨H, hH⟩ : ∃ H, H = s.heap := ⟨_, rfl⟩
  rw [← hH] at hP ⊢
  have hS : va_S A s.heap H [] := by rw [hH]; exact va_S.rf
  have hS := hS
  refine lv_aload_n hx hb (qaa qoG 0 rfl) rfl (lv_at hl 0 rfl) ?_
  refine lv_iconst (v := 0) hx hb (qaa qoG 1 rfl) (by decide) ?_
  refine va_put (D := (dC, dI)) (ci := 11) (v := .int 0) (ty := .int) (C := RX11) (T := TX11) (N := 55) hx hb hts qAA tyX11 tyX11_ok nmX11 hown hK hP hD hS 0 rfl rfl 0 (by decide) (hts _ qaSQ) (fun _ h9 => h9) rfl (by decide +kernel) rfl rfl (nbq rfl) (qaa qoG 2 rfl) (fun H locs hP hD hS => ?_)
  have hP : va_P (dC, dI) vwCl (qdK a0 0 jaQ jaD ja7 jby jbe jaM jaY jap jaK jal jam jax jao ja6 jaV ja8 jae jag jaf ja0 ja4 jaP jaw jaI jaZ jaG jaS jan jaU jaE jar jaL jah jaB jaa jaz jaH jab ja2 z0_s jaq jai jaO jaA jat jau jav jaj jas jjj jak jad jay jac jaQ cyI ja9 jjj cyJ jkG) H := hP
  have hD : va_D A (qdK a0 0 jaQ jaD ja7 jby jbe jaM jaY jap jaK jal jam jax jao ja6 jaV ja8 jae jag jaf ja0 ja4 jaP jaw jaI jaZ jaG jaS jan jaU jaE jar jaL jah jaB jaa jaz jaH jab ja2 z0_s jaq jai jaO jaA jat jau jav jaj jas jjj jak jad jay jac jaQ cyI ja9 jjj cyJ jkG) := hD
  refine lv_aload_n hx hb (qaa qoG 3 rfl) rfl (lv_at hl 0 rfl) ?_
  refine lv_iload_n hx hb (qaa qoG 4 rfl) rfl (lv_at hl 1 rfl) ?_
  refine lv_iconst (v := 0) hx hb (qaa qoG 5 rfl) (by decide) ?_
  refine lv_bipush (v := 12) hx hb (qaa qoG 6 rfl) (by decide) ?_
  obtain ⟨hCc, hPc, hDc, hFc⟩ := qac (ws' := []) hP hD hS hA [] (by decide +kernel) rfl
  refine va_calli (va_runS (As := [.int p1, .int 0, .int 12]) (rest := [.ref a0]) ⟨hx, hb, hml, hown, hts⟩ (qbG l dC dI cyB cyI cyJ cyP H.size p1 0 12 hw) (va_cwS 3 hts gX11_few_X11_within rfl rfl rfl (by decide +kernel) ⟨nbq rfl, nbq rfl⟩) ⟨qab, qae hPc hK hDc hNw⟩ rfl rfl hl.1 rfl (lv_room (nbq rfl)) (qaa qoG 7 rfl) ⟨nbq rfl, nbq rfl⟩) hS (fun q _ h => hFc q h) hFc (fun r1 u t H1 locs ht hvm hw hB hz1 hk1 hS => ?_)
  obtain ⟨hP1, hK1, hD1⟩ := hB
  rw [ht] at hP1
  obtain ⟨hP, hD⟩ := qah (wr := (qdK a0 0 jaQ jaD ja7 jby jbe jaM jaY jap jaK jal jam jax jao ja6 jaV ja8 jae jag jaf ja0 ja4 jaP jaw jaI jaZ jaG jaS jan jaU jaE jar jaL jah jaB jaa jaz jaH jab ja2 z0_s jaq jai jaO jaA jat jau jav jaj jas jjj jak jad jay jac jaQ cyI ja9 jjj cyJ jkG)) (w1 := []) (wn := (qdK a0 0 jaQ jaD ja7 jby jbe jaM jaY jap jaK jal jam jax jao ja6 jaV ja8 jae jag jaf ja0 ja4 jaP jaw jaI jaZ jaG jaS jan jaU jaE jar jaL jah jaB jaa jaz jaH jab ja2 z0_s jaq jai jaO jaA jat jau jav jaj jas jjj jak jad jay jac jaQ cyI ja9 jjj cyJ jkG)) hP hD [] [0, 1, 2] hCc rfl (by decide +kernel) (by decide +kernel) rfl hk1 hFc hP1 hD1
  generalize H1 = H at hP hS ⊢
  refine lv_if_eq (tgt := 50) hx hb (qaa qoG 8 rfl) (by decide) (fun c2 => ?_) (fun c2 => ?_)
  · have hw := hw.1 c2
    exact qNV dC dI cyB cyI cyJ cyP a0 jaQ jjj jaD ja7 jby jbe jaM jaY jap jaK jal jam jax jao ja6 jaV ja8 jae jag jaf ja0 ja4 jaP jaw jaI jaZ jaG jaS jan jaU jaE jar jaL jah jaB jaa jaz jaH jab ja2 z0_s jaq jai jaO jaA jat jau jav jaj jas jak jad jay jac Q C0 _ _ _ 0 ja9 jkG p1 p2 p3 p4 hP hD hS (lv_sub hl [0, 1, 2, 3, 4] rfl) hw
  · have hw := hw.2 c2
    refine lv_iload_n hx hb (qaa qoG 9 rfl) rfl (lv_at hl 2 rfl) ?_
    refine lv_iconst (v := 0) hx hb (qaa qoG 10 rfl) (by decide) ?_
    refine lv_bipush (v := 12) hx hb (qaa qoG 11 rfl) (by decide) ?_
    obtain ⟨hCc, hPc, hDc, hFc⟩ := qac (ws' := []) hP hD hS hA [] (by decide +kernel) rfl
    refine va_calli (va_runS (As := [.int p2, .int 0, .int 12]) (rest := [.ref a0]) ⟨hx, hb, hml, hown, hts⟩ (qbG l dC dI cyB cyI cyJ cyP H.size p2 0 12 hw) (va_cwS 3 hts gX11_few_X11_within rfl rfl rfl (by decide +kernel) ⟨nbq rfl, nbq rfl⟩) ⟨qab, qae hPc hK hDc hNw⟩ rfl rfl hl.1 rfl (lv_room (nbq rfl)) (qaa qoG 12 rfl) ⟨nbq rfl, nbq rfl⟩) hS (fun q _ h => hFc q h) hFc (fun r3 u t H1 locs ht hvm hw hB hz1 hk1 hS => ?_)
    obtain ⟨hP1, hK1, hD1⟩ := hB
    rw [ht] at hP1
    obtain ⟨hP, hD⟩ := qah (wr := (qdK a0 0 jaQ jaD ja7 jby jbe jaM jaY jap jaK jal jam jax jao ja6 jaV ja8 jae jag jaf ja0 ja4 jaP jaw jaI jaZ jaG jaS jan jaU jaE jar jaL jah jaB jaa jaz jaH jab ja2 z0_s jaq jai jaO jaA jat jau jav jaj jas jjj jak jad jay jac jaQ cyI ja9 jjj cyJ jkG)) (w1 := []) (wn := (qdK a0 0 jaQ jaD ja7 jby jbe jaM jaY jap jaK jal jam jax jao ja6 jaV ja8 jae jag jaf ja0 ja4 jaP jaw jaI jaZ jaG jaS jan jaU jaE jar jaL jah jaB jaa jaz jaH jab ja2 z0_s jaq jai jaO jaA jat jau jav jaj jas jjj jak jad jay jac jaQ cyI ja9 jjj cyJ jkG)) hP hD [] [0, 1, 2] hCc rfl (by decide +kernel) (by decide +kernel) rfl hk1 hFc hP1 hD1
    generalize H1 = H at hP hS ⊢
    refine lv_if_eq (tgt := 50) hx hb (qaa qoG 13 rfl) (by decide) (fun c4 => ?_) (fun c4 => ?_)
    · have hw := hw.1 c4
      exact qNV dC dI cyB cyI cyJ cyP a0 jaQ jjj jaD ja7 jby jbe jaM jaY jap jaK jal jam jax jao ja6 jaV ja8 jae jag jaf ja0 ja4 jaP jaw jaI jaZ jaG jaS jan jaU jaE jar jaL jah jaB jaa jaz jaH jab ja2 z0_s jaq jai jaO jaA jat jau jav jaj jas jak jad jay jac Q C0 _ _ _ 0 ja9 jkG p1 p2 p3 p4 hP hD hS (lv_sub hl [0, 1, 2, 3, 4] rfl) hw
    · have hw := hw.2 c4
      refine lv_iload_n hx hb (qaa qoG 14 rfl) rfl (lv_at hl 3 rfl) ?_
      refine lv_iconst (v := 0) hx hb (qaa qoG 15 rfl) (by decide) ?_
      refine lv_bipush (v := 16) hx hb (qaa qlG 0 rfl) (by decide) ?_
      obtain ⟨hCc, hPc, hDc, hFc⟩ := qac (ws' := []) hP hD hS hA [] (by decide +kernel) rfl
      refine va_calli (va_runS (As := [.int p3, .int 0, .int 16]) (rest := [.ref a0]) ⟨hx, hb, hml, hown, hts⟩ (qbG l dC dI cyB cyI cyJ cyP H.size p3 0 16 hw) (va_cwS 3 hts gX11_few_X11_within rfl rfl rfl (by decide +kernel) ⟨nbq rfl, nbq rfl⟩) ⟨qab, qae hPc hK hDc hNw⟩ rfl rfl hl.1 rfl (lv_room (nbq rfl)) (qaa qlG 1 rfl) ⟨nbq rfl, nbq rfl⟩) hS (fun q _ h => hFc q h) hFc (fun r5 u t H1 locs ht hvm hw hB hz1 hk1 hS => ?_)
      obtain ⟨hP1, hK1, hD1⟩ := hB
      rw [ht] at hP1
      obtain ⟨hP, hD⟩ := qah (wr := (qdK a0 0 jaQ jaD ja7 jby jbe jaM jaY jap jaK jal jam jax jao ja6 jaV ja8 jae jag jaf ja0 ja4 jaP jaw jaI jaZ jaG jaS jan jaU jaE jar jaL jah jaB jaa jaz jaH jab ja2 z0_s jaq jai jaO jaA jat jau jav jaj jas jjj jak jad jay jac jaQ cyI ja9 jjj cyJ jkG)) (w1 := []) (wn := (qdK a0 0 jaQ jaD ja7 jby jbe jaM jaY jap jaK jal jam jax jao ja6 jaV ja8 jae jag jaf ja0 ja4 jaP jaw jaI jaZ jaG jaS jan jaU jaE jar jaL jah jaB jaa jaz jaH jab ja2 z0_s jaq jai jaO jaA jat jau jav jaj jas jjj jak jad jay jac jaQ cyI ja9 jjj cyJ jkG)) hP hD [] [0, 1, 2] hCc rfl (by decide +kernel) (by decide +kernel) rfl hk1 hFc hP1 hD1
      generalize H1 = H at hP hS ⊢
      refine lv_if_eq (tgt := 50) hx hb (qaa qlG 2 rfl) (by decide) (fun c6 => ?_) (fun c6 => ?_)
      · have hw := hw.1 c6
        exact qNV dC dI cyB cyI cyJ cyP a0 jaQ jjj jaD ja7 jby jbe jaM jaY jap jaK jal jam jax jao ja6 jaV ja8 jae jag jaf ja0 ja4 jaP jaw jaI jaZ jaG jaS jan jaU jaE jar jaL jah jaB jaa jaz jaH jab ja2 z0_s jaq jai jaO jaA jat jau jav jaj jas jak jad jay jac Q C0 _ _ _ 0 ja9 jkG p1 p2 p3 p4 hP hD hS (lv_sub hl [0, 1, 2, 3, 4] rfl) hw
      · have hw := hw.2 c6
        refine lv_iload hx hb (qaa qlG 3 rfl) (lv_at hl 4 rfl) ?_
        refine lv_iconst (v := 0) hx hb (qaa qlG 4 rfl) (by decide) ?_
        refine lv_iconst (v := 1) hx hb (qaa qlG 5 rfl) (by decide) ?_
        obtain ⟨hCc, hPc, hDc, hFc⟩ := qac (ws' := []) hP hD hS hA [] (by decide +kernel) rfl
        refine va_calli (va_runS (As := [.int p4, .int 0, .int 1]) (rest := [.ref a0]) ⟨hx, hb, hml, hown, hts⟩ (qbG l dC dI cyB cyI cyJ cyP H.size p4 0 1 hw) (va_cwS 3 hts gX11_few_X11_within rfl rfl rfl (by decide +kernel) ⟨nbq rfl, nbq rfl⟩) ⟨qab, qae hPc hK hDc hNw⟩ rfl rfl hl.1 rfl (lv_room (nbq rfl)) (qaa qlG 6 rfl) ⟨nbq rfl, nbq rfl⟩) hS (fun q _ h => hFc q h) hFc (fun r7 u t H1 locs ht hvm hw hB hz1 hk1 hS => ?_)
        obtain ⟨hP1, hK1, hD1⟩ := hB
        rw [ht] at hP1
        obtain ⟨hP, hD⟩ := qah (wr := (qdK a0 0 jaQ jaD ja7 jby jbe jaM jaY jap jaK jal jam jax jao ja6 jaV ja8 jae jag jaf ja0 ja4 jaP jaw jaI jaZ jaG jaS jan jaU jaE jar jaL jah jaB jaa jaz jaH jab ja2 z0_s jaq jai jaO jaA jat jau jav jaj jas jjj jak jad jay jac jaQ cyI ja9 jjj cyJ jkG)) (w1 := []) (wn := (qdK a0 0 jaQ jaD ja7 jby jbe jaM jaY jap jaK jal jam jax jao ja6 jaV ja8 jae jag jaf ja0 ja4 jaP jaw jaI jaZ jaG jaS jan jaU jaE jar jaL jah jaB jaa jaz jaH jab ja2 z0_s jaq jai jaO jaA jat jau jav jaj jas jjj jak jad jay jac jaQ cyI ja9 jjj cyJ jkG)) hP hD [] [0, 1, 2] hCc rfl (by decide +kernel) (by decide +kernel) rfl hk1 hFc hP1 hD1
        generalize H1 = H at hP hS ⊢
        refine lv_if_eq (tgt := 50) hx hb (qaa qlG 7 rfl) (by decide) (fun c8 => ?_) (fun c8 => ?_)
        · have hw := hw.1 c8
          exact qNV dC dI cyB cyI cyJ cyP a0 jaQ jjj jaD ja7 jby jbe jaM jaY jap jaK jal jam jax jao ja6 jaV ja8 jae jag jaf ja0 ja4 jaP jaw jaI jaZ jaG jaS jan jaU jaE jar jaL jah jaB jaa jaz jaH jab ja2 z0_s jaq jai jaO jaA jat jau jav jaj jas jak jad jay jac Q C0 _ _ _ 0 ja9 jkG p1 p2 p3 p4 hP hD hS (lv_sub hl [0, 1, 2, 3, 4] rfl) hw
        · have hw := hw.2 c8
          refine lv_iconst (v := 1) hx hb (qaa qlG 8 rfl) (by decide) ?_
          refine lv_goto (tgt := 51) hx hb (qaa qlG 9 rfl) (by decide) ?_
          exact qagh dC dI cyB cyI cyJ cyP a0 jaQ jjj jaD ja7 jby jbe jaM jaY jap jaK jal jam jax jao ja6 jaV ja8 jae jag jaf ja0 ja4 jaP jaw jaI jaZ jaG jaS jan jaU jaE jar jaL jah jaB jaa jaz jaH jab ja2 z0_s jaq jai jaO jaA jat jau jav jaj jas jak jad jay jac Q C0 _ _ _ 0 ja9 jkG p1 p2 p3 p4 1 hP hD hS (lv_sub hl [0, 1, 2, 3, 4] rfl) hw
theorem qado : ∀ w ∈ u_ws RX11 TX11 55, w ∈ wsX11_rangeOf := uiM qOm qfa (by decide +kernel)
theorem q9z : (.fieldLink RX11 166 "MarchHaresModel" "forms" "I" : Cond) ∈ wsX11_rangeOf := qOm 519 (by decide +kernel)
set_option maxHeartbeats 4000000 in
set_option maxRecDepth 100000 in
theorem qU2 {p : Program} {l : Launch} {e : Env} {s : State} {m : MethodId} {args : Array Value} {below : List Frame} {meth : Method} {c : Code} {A : Nat → Prop} (dC : Nat → ClassId) (dI : Nat → Nat → Nat) (cyB cyI cyJ cyP : ClassId) (a0 a0_s ja5 jbu jbB jbG jbg : Nat) (jaX jaF jaD ja7 jby jbe jaM jaY jap jaK jal jam jax jao jaV ja8 jae jag jaf jaP jaw jaI jan jar jaL jah jaB jaa jaz jaH jab ja2 jaq jai jaO jaA jat jau jav jaj jas jaJ jak jad jay jac : Value) (jaN jaC jbD : Int32) (f0_s jbv jcu jbT : NI) (Q : Int32 → NI → NI → Prop) (K4 : NI → NI → Int32 → Int32 → Int32 → Prop) (hK4 : ∀ (H : Heap) (locs : List Loc) (ls : Array Slot) (jb1 jcb : NI) (l1 l2 l3 : Int32), va_P (dC, dI) vwCl (qzY a0 jaX jaF jaD ja7 jby jbe jaM jaY jap jaK jal jam jax jao ja5 jaV ja8 jae jag jaf jaN jaC jaP jaw jaI jbG jbg jbB jan jbD jbu jar jaL jah jaB jaa jaz jaH jab ja2 a0_s jaq jai jaO jaA jat jau jav jaj jas jaJ jak jad jay jac a0_s cyI f0_s ja5 cyI jbv jbu cyI jb1 jbB cyI jcb jbG cyI jcu jbg cyI jbT) H → va_D A (qzY a0 jaX jaF jaD ja7 jby jbe jaM jaY jap jaK jal jam jax jao ja5 jaV ja8 jae jag jaf jaN jaC jaP jaw jaI jbG jbg jbB jan jbD jbu jar jaL jah jaB jaa jaz jaH jab ja2 a0_s jaq jai jaO jaA jat jau jav jaj jas jaJ jak jad jay jac a0_s cyI f0_s ja5 cyI jbv jbu cyI jb1 jbB cyI jcb jbG cyI jcu jbg cyI jbT) → va_S A s.heap H locs → lv_has ls 4 [(0, .ref a0), (1, .int l1), (2, .int l2), (3, .int l3)] → K4 jb1 jcb l1 l2 l3 → W p l e (headSpec wsX11_rangeOf ({ frames := 6, cells := 0, slots := 0, locals := 137 })).room s m args below meth c H locs 0 0 (MQ below (va_Qi (fun (r : Int32) (u : NI × NI) => Q r u.1 u.2) (cB (dC, dI) (kT cyB cyI cyJ cyP) A (fun u : NI × NI => ((qzY a0 jaX jaF jaD ja7 jby jbe jaM jaY jap jaK jal jam jax jao ja5 jaV ja8 jae jag jaf jaN jaC jaP jaw jaI jbG jbg jbB jan jbD jbu jar jaL jah jaB jaa jaz jaH jab ja2 a0_s jaq jai jaO jaA jat jau jav jaj jas jaJ jak jad jay jac a0_s cyI f0_s ja5 cyI jbv jbu cyI u.1 jbB cyI u.2 jbG cyI jcu jbg cyI jbT) : va_W))) A) args s 0 0 A) (F0 m 4 ls [])) (C0 : cfx p s m args meth c cX11_rangeOf (some .int) wsX11_rangeOf RX11 4 A (dC, dI) (kT cyB cyI cyJ cyP)) : ∀ (H : Heap) (locs : List Loc) (ls : Array Slot) (jb1 jcb : NI) (l1 l3 s0 s1 : Int32), va_P (dC, dI) vwCl (qzY a0 jaX jaF jaD ja7 jby jbe jaM jaY jap jaK jal jam jax jao ja5 jaV ja8 jae jag jaf jaN jaC jaP jaw jaI jbG jbg jbB jan jbD jbu jar jaL jah jaB jaa jaz jaH jab ja2 a0_s jaq jai jaO jaA jat jau jav jaj jas jaJ jak jad jay jac a0_s cyI f0_s ja5 cyI jbv jbu cyI jb1 jbB cyI jcb jbG cyI jcu jbg cyI jbT) H → va_D A (qzY a0 jaX jaF jaD ja7 jby jbe jaM jaY jap jaK jal jam jax jao ja5 jaV ja8 jae jag jaf jaN jaC jaP jaw jaI jbG jbg jbB jan jbD jbu jar jaL jah jaB jaa jaz jaH jab ja2 a0_s jaq jai jaO jaA jat jau jav jaj jas jaJ jak jad jay jac a0_s cyI f0_s ja5 cyI jbv jbu cyI jb1 jbB cyI jcb jbG cyI jcu jbg cyI jbT) → va_S A s.heap H locs → lv_has ls 4 [(0, .ref a0), (1, .int l1), (3, .int l3)] → qKj jaN jaC jbD f0_s jbv jcu jbT Q K4 jb1 jcb l1 l3 s0 s1 → W p l e (headSpec wsX11_rangeOf ({ frames := 6, cells := 0, slots := 0, locals := 137 })).room s m args below meth c H locs 0 0 (MQ below (va_Qi (fun (r : Int32) (u : NI × NI) => Q r u.1 u.2) (cB (dC, dI) (kT cyB cyI cyJ cyP) A (fun u : NI × NI => ((qzY a0 jaX jaF jaD ja7 jby jbe jaM jaY jap jaK jal jam jax jao ja5 jaV ja8 jae jag jaf jaN jaC jaP jaw jaI jbG jbg jbB jan jbD jbu jar jaL jah jaB jaa jaz jaH jab ja2 a0_s jaq jai jaO jaA jat jau jav jaj jas jaJ jak jad jay jac a0_s cyI f0_s ja5 cyI jbv jbu cyI u.1 jbB cyI u.2 jbG cyI jcu jbg cyI jbT) : va_W))) A) args s 0 0 A) (F0 m 29 ls [.int s1, .int s0]) := by
  obtain ⟨hx, hb, hr, hts, hown, hlocks, hml, hA, hK, hNw⟩ := id C0
  intro H locs ls jb1 jcb l1 l3 s0 s1 hP hD hS hl hw
  refine lv_ior hx hb (qaa qpD 3 rfl) ?_
  refine lv_topi (fun x6 ex6 => ?_)
  have hw := hw x6 ex6
  refine lv_istore_n (lv' := [(2, .int x6), (0, .ref a0), (1, .int l1), (3, .int l3)]) hx hb (qaa qpD 4 rfl) rfl hl (by decide) rfl (fun ls hl => ?_)
  obtain ⟨x7, ex7⟩ : ∃ y : Int32, y = l3 + 1 := ⟨_, rfl⟩
  have hw := hw x7 ex7
  refine lv_iinc (v := x7) (lv' := [(3, .int x7), (2, .int x6), (0, .ref a0), (1, .int l1)]) hx hb (qaa qpD 5 rfl) hl (k := 3) rfl (by rw [ex7]; rfl) (by decide) rfl (fun ls hl => ?_)
  refine lv_goto (tgt := 4) hx hb (qaa qpD 6 rfl) (by decide) ?_
  exact hK4 _ _ _ jb1 jcb l1 x6 x7 hP hD hS (lv_sub hl [2, 3, 1, 0] rfl) hw
set_option maxHeartbeats 4000000 in
set_option maxRecDepth 100000 in
theorem qauM {p : Program} {l : Launch} {e : Env} {s : State} {m : MethodId} {args : Array Value} {below : List Frame} {meth : Method} {c : Code} {A : Nat → Prop} (dC : Nat → ClassId) (dI : Nat → Nat → Nat) (cyB cyI cyJ cyP : ClassId) (a0 a0_s ja5 jbu jbB jbG jbg : Nat) (jaX jaF jaD ja7 jby jbe jaM jaY jap jaK jal jam jax jao jaV ja8 jae jag jaf jaP jaw jaI jan jar jaL jah jaB jaa jaz jaH jab ja2 jaq jai jaO jaA jat jau jav jaj jas jaJ jak jad jay jac : Value) (jaN jaC jbD : Int32) (f0_s jbv jcu jbT : NI) (Q : Int32 → NI → NI → Prop) (C0 : cfx p s m args meth c cX11_rangeOf (some .int) wsX11_rangeOf RX11 4 A (dC, dI) (kT cyB cyI cyJ cyP)) : ∀ (n : Nat) (H : Heap) (locs : List Loc) (ls : Array Slot) (jb1 jcb : NI) (l1 l2 l3 : Int32), va_P (dC, dI) vwCl (qzY a0 jaX jaF jaD ja7 jby jbe jaM jaY jap jaK jal jam jax jao ja5 jaV ja8 jae jag jaf jaN jaC jaP jaw jaI jbG jbg jbB jan jbD jbu jar jaL jah jaB jaa jaz jaH jab ja2 a0_s jaq jai jaO jaA jat jau jav jaj jas jaJ jak jad jay jac a0_s cyI f0_s ja5 cyI jbv jbu cyI jb1 jbB cyI jcb jbG cyI jcu jbg cyI jbT) H → va_D A (qzY a0 jaX jaF jaD ja7 jby jbe jaM jaY jap jaK jal jam jax jao ja5 jaV ja8 jae jag jaf jaN jaC jaP jaw jaI jbG jbg jbB jan jbD jbu jar jaL jah jaB jaa jaz jaH jab ja2 a0_s jaq jai jaO jaA jat jau jav jaj jas jaJ jak jad jay jac a0_s cyI f0_s ja5 cyI jbv jbu cyI jb1 jbB cyI jcb jbG cyI jcu jbg cyI jbT) → va_S A s.heap H locs → lv_has ls 4 [(0, .ref a0), (1, .int l1), (2, .int l2), (3, .int l3)] → qsC jaN jaC jbD f0_s jbv jcu jbT Q n jb1 jcb l1 l2 l3 → W p l e (headSpec wsX11_rangeOf ({ frames := 6, cells := 0, slots := 0, locals := 137 })).room s m args below meth c H locs 0 0 (MQ below (va_Qi (fun (r : Int32) (u : NI × NI) => Q r u.1 u.2) (cB (dC, dI) (kT cyB cyI cyJ cyP) A (fun u : NI × NI => ((qzY a0 jaX jaF jaD ja7 jby jbe jaM jaY jap jaK jal jam jax jao ja5 jaV ja8 jae jag jaf jaN jaC jaP jaw jaI jbG jbg jbB jan jbD jbu jar jaL jah jaB jaa jaz jaH jab ja2 a0_s jaq jai jaO jaA jat jau jav jaj jas jaJ jak jad jay jac a0_s cyI f0_s ja5 cyI jbv jbu cyI u.1 jbB cyI u.2 jbG cyI jcu jbg cyI jbT) : va_W))) A) args s 0 0 A) (F0 m 4 ls []) := by
  obtain ⟨hx, hb, hr, hts, hown, hlocks, hml, hA, hK, hNw⟩ := id C0
  intro n
  induction n with
  | zero => intro H locs ls jb1 jcb l1 l2 l3 hP hD hS hl hw; exact False.elim hw
  | succ n ih =>
    intro H locs ls jb1 jcb l1 l2 l3 hP hD hS hl hw
    refine lv_iload_n hx hb (qaa qfY 4 rfl) rfl (lv_at hl 3 rfl) ?_
    refine lv_aload_n hx hb (qaa qfY 5 rfl) rfl (lv_at hl 0 rfl) ?_
    refine va_get (D := (dC, dI)) (ci := 11) (v := .int jaN) (C := RX11) (T := TX11) (N := 55) hx hb hts qado hown hK hP 0 rfl rfl 20 (by decide) (hts _ q9z) (fun _ h9 => h9) rfl (qaa qfY 6 rfl) ?_
    refine lv_icmp_ge (tgt := 37) hx hb (qaa qfY 7 rfl) (by decide) (fun c1 => ?_) (fun c1 => ?_)
    · have hw := hw.1 c1
      refine lv_iload_n hx hb (qaa qpD 7 rfl) rfl (lv_at hl 2 rfl) ?_
      exact ((W.iret (v := l2) hx hb hr (fun t ht hW => ⟨⟨l2, (jb1, jcb), rfl, hw, by rw [ht]; exact hP, va_K.moved hW.alike hK, hD⟩, hS.F ht⟩) hS.2.2 (qaa qpD 8 rfl)))
    · have hw := hw.2 c1
      refine lv_iload_n hx hb (qaa qfY 8 rfl) rfl (lv_at hl 2 rfl) ?_
      refine lv_aload_n hx hb (qaa qfY 9 rfl) rfl (lv_at hl 0 rfl) ?_
      refine lv_iload_n hx hb (qaa qfY 10 rfl) rfl (lv_at hl 1 rfl) ?_
      refine lv_iload_n hx hb (qaa qfY 11 rfl) rfl (lv_at hl 3 rfl) ?_
      obtain ⟨hCc, hPc, hDc, hFc⟩ := qac (ws' := (qzY a0 jaX jaF jaD ja7 jby jbe jaM jaY jap jaK jal jam jax jao ja5 jaV ja8 jae jag jaf jaN jaC jaP jaw jaI jbG jbg jbB jan jbD jbu jar jaL jah jaB jaa jaz jaH jab ja2 a0_s jaq jai jaO jaA jat jau jav jaj jas jaJ jak jad jay jac a0_s cyI f0_s ja5 cyI jbv jbu cyI jb1 jbB cyI jcb jbG cyI jcu jbg cyI jbT)) hP hD hS hA [0, 1, 2, 3, 4, 5, 6] (by decide +kernel) rfl
      refine va_calli (va_runV (As := [.int l1, .int l3]) (rest := [.int l2]) ⟨hx, hb, hml, hown, hts⟩ (qTU l dC dI cyB cyI cyJ cyP a0 a0_s ja5 jbu jbB jbG jbg H.size (jaX) (jaF) (jaD) (ja7) (jby) (jbe) (jaM) (jaY) (jap) (jaK) (jal) (jam) (jax) (jao) (jaV) (ja8) (jae) (jag) (jaf) (.int jaN) (jaP) (jaw) (jaI) (jan) (jar) (jaL) (jah) (jaB) (jaa) (jaz) (jaH) (jab) (ja2) (jaq) (jai) (jaO) (jaA) (jat) (jau) (jav) (jaj) (jas) (jaJ) (jak) (jad) (jay) (jac) jaC jbD f0_s jbv jcu jbT jb1 jcb l1 l3 hw) (cwV 2 hts gX11_rangeOf_X11_canLeap rfl rfl rfl (by decide +kernel) ⟨nbq rfl, nbq rfl⟩) ⟨qab, va_recv (q := (RX11, TX11, 55)) hK hPc (ci := 11) (q0 := 0) rfl rfl, qae hPc hK hDc hNw⟩ rfl rfl hl.1 rfl (lv_room (nbq rfl)) (qaa qfY 12 rfl) ⟨nbq rfl, nbq rfl⟩) hS (fun q _ h => hFc q h) hFc (fun r4 u t H1 locs ht hvm hw hB hz1 hk1 hS => ?_)
      obtain ⟨f2, f3⟩ := u
      obtain ⟨hP1, hK1, hD1⟩ := hB
      rw [ht] at hP1
      obtain ⟨hP, hD⟩ := qah (wr := []) (w1 := (qzY a0 jaX jaF jaD ja7 jby jbe jaM jaY jap jaK jal jam jax jao ja5 jaV ja8 jae jag jaf jaN jaC jaP jaw jaI jbG jbg jbB jan jbD jbu jar jaL jah jaB jaa jaz jaH jab ja2 a0_s jaq jai jaO jaA jat jau jav jaj jas jaJ jak jad jay jac a0_s cyI f0_s ja5 cyI jbv jbu cyI f2 jbB cyI f3 jbG cyI jcu jbg cyI jbT)) (wn := (qzY a0 jaX jaF jaD ja7 jby jbe jaM jaY jap jaK jal jam jax jao ja5 jaV ja8 jae jag jaf jaN jaC jaP jaw jaI jbG jbg jbB jan jbD jbu jar jaL jah jaB jaa jaz jaH jab ja2 a0_s jaq jai jaO jaA jat jau jav jaj jas jaJ jak jad jay jac a0_s cyI f0_s ja5 cyI jbv jbu cyI f2 jbB cyI f3 jbG cyI jcu jbg cyI jbT)) hP hD [0, 1, 2, 3, 4, 5, 6] [] hCc rfl (by decide +kernel) (by decide +kernel) rfl hk1 hFc hP1 hD1
      generalize H1 = H at hP hS ⊢
      refine lv_if_eq (tgt := 28) hx hb (qaa qfY 13 rfl) (by decide) (fun c5 => ?_) (fun c5 => ?_)
      · have hw := hw.1 c5
        refine lv_iconst (v := 0) hx hb (qaa qpD 2 rfl) (by decide) ?_
        exact qU2 dC dI cyB cyI cyJ cyP a0 a0_s ja5 jbu jbB jbG jbg jaX jaF jaD ja7 jby jbe jaM jaY jap jaK jal jam jax jao jaV ja8 jae jag jaf jaP jaw jaI jan jar jaL jah jaB jaa jaz jaH jab ja2 jaq jai jaO jaA jat jau jav jaj jas jaJ jak jad jay jac jaN jaC jbD f0_s jbv jcu jbT Q (qsC jaN jaC jbD f0_s jbv jcu jbT Q n) ih C0 _ _ _ f2 f3 l1 l3 l2 0 hP hD hS (lv_sub hl [0, 1, 3] rfl) hw
      · have hw := hw.2 c5
        refine lv_iconst (v := 1) hx hb (qaa qfY 14 rfl) (by decide) ?_
        refine lv_iload_n hx hb (qaa qfY 15 rfl) rfl (lv_at hl 3 rfl) ?_
        refine lv_ishl hx hb (qaa qpD 0 rfl) ?_
        refine lv_goto (tgt := 29) hx hb (qaa qpD 1 rfl) (by decide) ?_
        exact qU2 dC dI cyB cyI cyJ cyP a0 a0_s ja5 jbu jbB jbG jbg jaX jaF jaD ja7 jby jbe jaM jaY jap jaK jal jam jax jao jaV ja8 jae jag jaf jaP jaw jaI jan jar jaL jah jaB jaa jaz jaH jab ja2 jaq jai jaO jaA jat jau jav jaj jas jaJ jak jad jay jac jaN jaC jbD f0_s jbv jcu jbT Q (qsC jaN jaC jbD f0_s jbv jcu jbT Q n) ih C0 _ _ _ f2 f3 l1 l3 l2 (1 <<< (l3 &&& 31)) hP hD hS (lv_sub hl [0, 1, 3] rfl) hw
set_option maxHeartbeats 4000000 in
set_option maxRecDepth 100000 in
theorem q7j (l : Launch) (dC : Nat → ClassId) (dI : Nat → Nat → Nat) (cyB cyI cyJ cyP : ClassId) (a0 a0_s ja5 jbu jbB jbG jbg sz : Nat) (jaX jaF jaD ja7 jby jbe jaM jaY jap jaK jal jam jax jao jaV ja8 jae jag jaf jaP jaw jaI jan jar jaL jah jaB jaa jaz jaH jab ja2 jaq jai jaO jaA jat jau jav jaj jas jaJ jak jad jay jac : Value) (jaN jaC jbD : Int32) (f0_s jbv jcu jbT jb1 jcb : NI) (p1 : Int32) {Q : Int32 → NI → NI → Prop} (hw : qD3 jaN jaC jbD f0_s jbv jcu jbT jb1 jcb p1 Q) : Met l yX11_rangeOf wsX11_rangeOf ({ frames := 6, cells := 0, slots := 0, locals := 137 }) (va_Pc [.ref a0, .int p1] (cPc (dC, dI) (kT cyB cyI cyJ cyP) (qzY a0 jaX jaF jaD ja7 jby jbe jaM jaY jap jaK jal jam jax jao ja5 jaV ja8 jae jag jaf jaN jaC jaP jaw jaI jbG jbg jbB jan jbD jbu jar jaL jah jaB jaa jaz jaH jab ja2 a0_s jaq jai jaO jaA jat jau jav jaj jas jaJ jak jad jay jac a0_s cyI f0_s ja5 cyI jbv jbu cyI jb1 jbB cyI jcb jbG cyI jcu jbg cyI jbT) sz)) (va_Qi (fun (r : Int32) (u : NI × NI) => Q r u.1 u.2) (cB (dC, dI) (kT cyB cyI cyJ cyP) (va_A (qzY a0 jaX jaF jaD ja7 jby jbe jaM jaY jap jaK jal jam jax jao ja5 jaV ja8 jae jag jaf jaN jaC jaP jaw jaI jbG jbg jbB jan jbD jbu jar jaL jah jaB jaa jaz jaH jab ja2 a0_s jaq jai jaO jaA jat jau jav jaj jas jaJ jak jad jay jac a0_s cyI f0_s ja5 cyI jbv jbu cyI jb1 jbB cyI jcb jbG cyI jcu jbg cyI jbT) sz) (fun u : NI × NI => ((qzY a0 jaX jaF jaD ja7 jby jbe jaM jaY jap jaK jal jam jax jao ja5 jaV ja8 jae jag jaf jaN jaC jaP jaw jaI jbG jbg jbB jan jbD jbu jar jaL jah jaB jaa jaz jaH jab ja2 a0_s jaq jai jaO jaA jat jau jav jaj jas jaJ jak jad jay jac a0_s cyI f0_s ja5 cyI jbv jbu cyI u.1 jbB cyI u.2 jbG cyI jcu jbg cyI jbT) : va_W))) (va_A (qzY a0 jaX jaF jaD ja7 jby jbe jaM jaY jap jaK jal jam jax jao ja5 jaV ja8 jae jag jaf jaN jaC jaP jaw jaI jbG jbg jbB jan jbD jbu jar jaL jah jaB jaa jaz jaH jab ja2 a0_s jaq jai jaO jaA jat jau jav jaj jas jaJ jak jad jay jac a0_s cyI f0_s ja5 cyI jbv jbu cyI jb1 jbB cyI jcb jbG cyI jcu jbg cyI jbT) sz)) 0 0 (va_A (qzY a0 jaX jaF jaD ja7 jby jbe jaM jaY jap jaK jal jam jax jao ja5 jaV ja8 jae jag jaf jaN jaC jaP jaw jaI jbG jbg jbB jan jbD jbu jar jaL jah jaB jaa jaz jaH jab ja2 a0_s jaq jai jaO jaA jat jau jav jaj jas jaJ jak jad jay jac a0_s cyI f0_s ja5 cyI jbv jbu cyI jb1 jbB cyI jcb jbG cyI jcu jbg cyI jbT) sz) := by
  refine Met.ofW (cc := cX11_rangeOf) (maxL := 4) (ret := (some .int)) (by decide) rfl ?_
  intro p e s m args below meth c s₁ B hml hv
  obtain ⟨rfl, hsz, hP, hK, hD0, hNw⟩ := hv
  have hx := B.exec
  have hb := B.bytes
  have hr := B.returns
  have hts := atoms_spec (ws := wsX11_rangeOf) B.pre
  have hown : s.vm.findClass RX11 = some m.cls := findClass_of_methodNamed B.named
  have hlocks := B.notSynchronized
  subst hsz
  have hD := hD0.self (sz := s.heap.size)
  generalize hAe : va_A (qzY a0 jaX jaF jaD ja7 jby jbe jaM jaY jap jaK jal jam jax jao ja5 jaV ja8 jae jag jaf jaN jaC jaP jaw jaI jbG jbg jbB jan jbD jbu jar jaL jah jaB jaa jaz jaH jab ja2 a0_s jaq jai jaO jaA jat jau jav jaj jas jaJ jak jad jay jac a0_s cyI f0_s ja5 cyI jbv jbu cyI jb1 jbB cyI jcb jbG cyI jcu jbg cyI jbT) s.heap.size = A at hD ⊢
  have hA : ∀ q : Nat, s.heap.size ≤ q → A q := fun q h => by rw [← hAe]; exact Or.inr h
  have hS : va_S A s.heap s.heap [] := va_S.rf
  have hP : va_P (dC, dI) vwCl (qzY a0 jaX jaF jaD ja7 jby jbe jaM jaY jap jaK jal jam jax jao ja5 jaV ja8 jae jag jaf jaN jaC jaP jaw jaI jbG jbg jbB jan jbD jbu jar jaL jah jaB jaa jaz jaH jab ja2 a0_s jaq jai jaO jaA jat jau jav jaj jas jaJ jak jad jay jac a0_s cyI f0_s ja5 cyI jbv jbu cyI jb1 jbB cyI jcb jbG cyI jcu jbg cyI jbT) s.heap := hP
  have hl := lv_entry ([.ref a0, .int p1]) (n := 4) (nbq rfl)
  rw [lg_entry_eq]
  generalize (lg_sl ([.ref a0, .int p1]) ++ List.replicate (4 - (lg_sl ([.ref a0, .int p1])).length) Slot.unset).toArray = ls at hl ⊢
  have hl : lv_has ls 4 [(0, .ref a0), (1, .int p1)] := hl
  have C0 : cfx p s m _ meth c cX11_rangeOf (some .int) wsX11_rangeOf RX11 4 A (dC, dI) (kT cyB cyI cyJ cyP) := ⟨hx, hb, hr, hts, hown, hlocks, hml, hA, hK, hNw⟩
  clear hAe
  obtain ⟨H, hH⟩ : ∃ H, H = s.heap := ⟨_, rfl⟩
  rw [← hH] at hP ⊢
  have hS : va_S A s.heap H [] := by rw [hH]; exact va_S.rf
  have hS := hS
  refine lv_iconst (v := 0) hx hb (qaa qfY 0 rfl) (by decide) ?_
  refine lv_istore_n (lv' := [(2, .int 0), (0, .ref a0), (1, .int p1)]) hx hb (qaa qfY 1 rfl) rfl hl (by decide) rfl (fun ls hl => ?_)
  refine lv_iconst (v := 0) hx hb (qaa qfY 2 rfl) (by decide) ?_
  refine lv_istore_n (lv' := [(3, .int 0), (2, .int 0), (0, .ref a0), (1, .int p1)]) hx hb (qaa qfY 3 rfl) rfl hl (by decide) rfl (fun ls hl => ?_)
  obtain ⟨n9, hw⟩ := hw
  exact qauM dC dI cyB cyI cyJ cyP a0 a0_s ja5 jbu jbB jbG jbg jaX jaF jaD ja7 jby jbe jaM jaY jap jaK jal jam jax jao jaV ja8 jae jag jaf jaP jaw jaI jan jar jaL jah jaB jaa jaz jaH jab ja2 jaq jai jaO jaA jat jau jav jaj jas jaJ jak jad jay jac jaN jaC jbD f0_s jbv jcu jbT Q C0 n9 _ _ _ jb1 jcb p1 0 0 hP hD hS (lv_sub hl [2, 3, 1, 0] rfl) hw
theorem q65 : ∀ w ∈ u_ws RX11 TX11 55, w ∈ wsX11_safeForms := uiM qHb qfa (by decide +kernel)
theorem q1p : (.fieldLink RX11 166 "MarchHaresModel" "forms" "I" : Cond) ∈ wsX11_safeForms := qHb 519 (by decide +kernel)
set_option maxHeartbeats 4000000 in
set_option maxRecDepth 100000 in
theorem qQt {p : Program} {l : Launch} {e : Env} {s : State} {m : MethodId} {args : Array Value} {below : List Frame} {meth : Method} {c : Code} {A : Nat → Prop} (dC : Nat → ClassId) (dI : Nat → Nat → Nat) (cyB cyI cyJ cyP : ClassId) (a0 ja5 jbJ : Nat) (jaX jaF jaD ja7 jby jbe jaM jaY jap jaK jal jam jax jao jaV jae jag jaf ja4 jaw jaI jaZ jaG jaS jan jaU jaE jar jaL jah jaB jaa jaz jaH jab ja2 z0_s jaq jai jaO jaA jat jau jav jaj jas jaJ jak jad jay jac : Value) (jaN jbw : Int32) (jbv jcy : NI) (Q : Int32 → Prop) (K4 : Int32 → Int32 → Prop) (hK4 : ∀ (H : Heap) (locs : List Loc) (ls : Array Slot) (l1 l2 : Int32), va_P (dC, dI) vwCl (qzv a0 jaX jaF jaD ja7 jby jbe jaM jaY jap jaK jal jam jax jao ja5 jaV jbJ jae jag jaf jaN ja4 jbw jaw jaI jaZ jaG jaS jan jaU jaE jar jaL jah jaB jaa jaz jaH jab ja2 z0_s jaq jai jaO jaA jat jau jav jaj jas jaJ jak jad jay jac ja5 cyI jbv jbJ cyI jcy) H → va_D A (qzv a0 jaX jaF jaD ja7 jby jbe jaM jaY jap jaK jal jam jax jao ja5 jaV jbJ jae jag jaf jaN ja4 jbw jaw jaI jaZ jaG jaS jan jaU jaE jar jaL jah jaB jaa jaz jaH jab ja2 z0_s jaq jai jaO jaA jat jau jav jaj jas jaJ jak jad jay jac ja5 cyI jbv jbJ cyI jcy) → va_S A s.heap H locs → lv_has ls 3 [(0, .ref a0), (1, .int l1), (2, .int l2)] → K4 l1 l2 → W p l e (headSpec wsX11_safeForms ({ frames := 2, cells := 0, slots := 0, locals := 42 })).room s m args below meth c H locs 0 0 (MQ below (va_Qi (fun (r : Int32) (_ : Unit) => Q r ) (cB (dC, dI) (kT cyB cyI cyJ cyP) A (fun u : Unit => ((qzv a0 jaX jaF jaD ja7 jby jbe jaM jaY jap jaK jal jam jax jao ja5 jaV jbJ jae jag jaf jaN ja4 jbw jaw jaI jaZ jaG jaS jan jaU jaE jar jaL jah jaB jaa jaz jaH jab ja2 z0_s jaq jai jaO jaA jat jau jav jaj jas jaJ jak jad jay jac ja5 cyI jbv jbJ cyI jcy) : va_W))) A) args s 0 0 A) (F0 m 4 ls [])) (C0 : cfx p s m args meth c cX11_safeForms (some .int) wsX11_safeForms RX11 3 A (dC, dI) (kT cyB cyI cyJ cyP)) : ∀ (H : Heap) (locs : List Loc) (ls : Array Slot) (l2 s0 s1 : Int32), va_P (dC, dI) vwCl (qzv a0 jaX jaF jaD ja7 jby jbe jaM jaY jap jaK jal jam jax jao ja5 jaV jbJ jae jag jaf jaN ja4 jbw jaw jaI jaZ jaG jaS jan jaU jaE jar jaL jah jaB jaa jaz jaH jab ja2 z0_s jaq jai jaO jaA jat jau jav jaj jas jaJ jak jad jay jac ja5 cyI jbv jbJ cyI jcy) H → va_D A (qzv a0 jaX jaF jaD ja7 jby jbe jaM jaY jap jaK jal jam jax jao ja5 jaV jbJ jae jag jaf jaN ja4 jbw jaw jaI jaZ jaG jaS jan jaU jaE jar jaL jah jaB jaa jaz jaH jab ja2 z0_s jaq jai jaO jaA jat jau jav jaj jas jaJ jak jad jay jac ja5 cyI jbv jbJ cyI jcy) → va_S A s.heap H locs → lv_has ls 3 [(0, .ref a0), (2, .int l2)] → qF1 jaN jbw jbv jcy Q K4 l2 s0 s1 → W p l e (headSpec wsX11_safeForms ({ frames := 2, cells := 0, slots := 0, locals := 42 })).room s m args below meth c H locs 0 0 (MQ below (va_Qi (fun (r : Int32) (_ : Unit) => Q r ) (cB (dC, dI) (kT cyB cyI cyJ cyP) A (fun u : Unit => ((qzv a0 jaX jaF jaD ja7 jby jbe jaM jaY jap jaK jal jam jax jao ja5 jaV jbJ jae jag jaf jaN ja4 jbw jaw jaI jaZ jaG jaS jan jaU jaE jar jaL jah jaB jaa jaz jaH jab ja2 z0_s jaq jai jaO jaA jat jau jav jaj jas jaJ jak jad jay jac ja5 cyI jbv jbJ cyI jcy) : va_W))) A) args s 0 0 A) (F0 m 28 ls [.int s1, .int s0]) := by
  obtain ⟨hx, hb, hr, hts, hown, hlocks, hml, hA, hK, hNw⟩ := id C0
  intro H locs ls l2 s0 s1 hP hD hS hl hw
  refine lv_ior hx hb (qaa qpl 2 rfl) ?_
  refine lv_topi (fun x4 ex4 => ?_)
  have hw := hw x4 ex4
  refine lv_istore_n (lv' := [(1, .int x4), (0, .ref a0), (2, .int l2)]) hx hb (qaa qpl 3 rfl) rfl hl (by decide) rfl (fun ls hl => ?_)
  obtain ⟨x5, ex5⟩ : ∃ y : Int32, y = l2 + 1 := ⟨_, rfl⟩
  have hw := hw x5 ex5
  refine lv_iinc (v := x5) (lv' := [(2, .int x5), (1, .int x4), (0, .ref a0)]) hx hb (qaa qpl 4 rfl) hl (k := 2) rfl (by rw [ex5]; rfl) (by decide) rfl (fun ls hl => ?_)
  refine lv_goto (tgt := 4) hx hb (qaa qpl 5 rfl) (by decide) ?_
  exact hK4 _ _ _ x4 x5 hP hD hS (lv_sub hl [2, 1, 0] rfl) hw
set_option maxHeartbeats 4000000 in
set_option maxRecDepth 100000 in
theorem qacS {p : Program} {l : Launch} {e : Env} {s : State} {m : MethodId} {args : Array Value} {below : List Frame} {meth : Method} {c : Code} {A : Nat → Prop} (dC : Nat → ClassId) (dI : Nat → Nat → Nat) (cyB cyI cyJ cyP : ClassId) (a0 ja5 jbJ : Nat) (jaX jaF jaD ja7 jby jbe jaM jaY jap jaK jal jam jax jao jaV jae jag jaf ja4 jaw jaI jaZ jaG jaS jan jaU jaE jar jaL jah jaB jaa jaz jaH jab ja2 z0_s jaq jai jaO jaA jat jau jav jaj jas jaJ jak jad jay jac : Value) (jaN jbw : Int32) (jbv jcy : NI) (Q : Int32 → Prop) (C0 : cfx p s m args meth c cX11_safeForms (some .int) wsX11_safeForms RX11 3 A (dC, dI) (kT cyB cyI cyJ cyP)) : ∀ (n : Nat) (H : Heap) (locs : List Loc) (ls : Array Slot) (l1 l2 : Int32), va_P (dC, dI) vwCl (qzv a0 jaX jaF jaD ja7 jby jbe jaM jaY jap jaK jal jam jax jao ja5 jaV jbJ jae jag jaf jaN ja4 jbw jaw jaI jaZ jaG jaS jan jaU jaE jar jaL jah jaB jaa jaz jaH jab ja2 z0_s jaq jai jaO jaA jat jau jav jaj jas jaJ jak jad jay jac ja5 cyI jbv jbJ cyI jcy) H → va_D A (qzv a0 jaX jaF jaD ja7 jby jbe jaM jaY jap jaK jal jam jax jao ja5 jaV jbJ jae jag jaf jaN ja4 jbw jaw jaI jaZ jaG jaS jan jaU jaE jar jaL jah jaB jaa jaz jaH jab ja2 z0_s jaq jai jaO jaA jat jau jav jaj jas jaJ jak jad jay jac ja5 cyI jbv jbJ cyI jcy) → va_S A s.heap H locs → lv_has ls 3 [(0, .ref a0), (1, .int l1), (2, .int l2)] → qse jaN jbw jbv jcy Q n l1 l2 → W p l e (headSpec wsX11_safeForms ({ frames := 2, cells := 0, slots := 0, locals := 42 })).room s m args below meth c H locs 0 0 (MQ below (va_Qi (fun (r : Int32) (_ : Unit) => Q r ) (cB (dC, dI) (kT cyB cyI cyJ cyP) A (fun u : Unit => ((qzv a0 jaX jaF jaD ja7 jby jbe jaM jaY jap jaK jal jam jax jao ja5 jaV jbJ jae jag jaf jaN ja4 jbw jaw jaI jaZ jaG jaS jan jaU jaE jar jaL jah jaB jaa jaz jaH jab ja2 z0_s jaq jai jaO jaA jat jau jav jaj jas jaJ jak jad jay jac ja5 cyI jbv jbJ cyI jcy) : va_W))) A) args s 0 0 A) (F0 m 4 ls []) := by
  obtain ⟨hx, hb, hr, hts, hown, hlocks, hml, hA, hK, hNw⟩ := id C0
  intro n
  induction n with
  | zero => intro H locs ls l1 l2 hP hD hS hl hw; exact False.elim hw
  | succ n ih =>
    intro H locs ls l1 l2 hP hD hS hl hw
    refine lv_iload_n hx hb (qaa qdp 4 rfl) rfl (lv_at hl 2 rfl) ?_
    refine lv_aload_n hx hb (qaa qdp 5 rfl) rfl (lv_at hl 0 rfl) ?_
    refine va_get (D := (dC, dI)) (ci := 11) (v := .int jaN) (C := RX11) (T := TX11) (N := 55) hx hb hts q65 hown hK hP 0 rfl rfl 20 (by decide) (hts _ q1p) (fun _ h9 => h9) rfl (qaa qdp 6 rfl) ?_
    refine lv_icmp_ge (tgt := 36) hx hb (qaa qdp 7 rfl) (by decide) (fun c1 => ?_) (fun c1 => ?_)
    · have hw := hw.1 c1
      refine lv_iload_n hx hb (qaa qpl 6 rfl) rfl (lv_at hl 1 rfl) ?_
      exact ((W.iret (v := l1) hx hb hr (fun t ht hW => ⟨⟨l1, (), rfl, hw, by rw [ht]; exact hP, va_K.moved hW.alike hK, hD⟩, hS.F ht⟩) hS.2.2 (qaa qpl 7 rfl)))
    · have hw := hw.2 c1
      refine lv_iload_n hx hb (qaa qdp 8 rfl) rfl (lv_at hl 1 rfl) ?_
      refine lv_aload_n hx hb (qaa qdp 9 rfl) rfl (lv_at hl 0 rfl) ?_
      refine lv_iload_n hx hb (qaa qdp 10 rfl) rfl (lv_at hl 2 rfl) ?_
      obtain ⟨hCc, hPc, hDc, hFc⟩ := qac (ws' := (qzv a0 jaX jaF jaD ja7 jby jbe jaM jaY jap jaK jal jam jax jao ja5 jaV jbJ jae jag jaf jaN ja4 jbw jaw jaI jaZ jaG jaS jan jaU jaE jar jaL jah jaB jaa jaz jaH jab ja2 z0_s jaq jai jaO jaA jat jau jav jaj jas jaJ jak jad jay jac ja5 cyI jbv jbJ cyI jcy)) hP hD hS hA [0, 1, 2] (by decide +kernel) rfl
      refine va_calli (va_runV (As := [.int l2]) (rest := [.int l1]) ⟨hx, hb, hml, hown, hts⟩ (qNX l dC dI cyB cyI cyJ cyP a0 ja5 jbJ H.size (jaX) (jaF) (jaD) (ja7) (jby) (jbe) (jaM) (jaY) (jap) (jaK) (jal) (jam) (jax) (jao) (jaV) (jae) (jag) (jaf) (.int jaN) (ja4) (jaw) (jaI) (jaZ) (jaG) (jaS) (jan) (jaU) (jaE) (jar) (jaL) (jah) (jaB) (jaa) (jaz) (jaH) (jab) (ja2) (z0_s) (jaq) (jai) (jaO) (jaA) (jat) (jau) (jav) (jaj) (jas) (jaJ) (jak) (jad) (jay) (jac) jbw jbv jcy l2 hw) (cwV 1 hts gX11_safeForms_X11_isSafe rfl rfl rfl (by decide +kernel) ⟨nbq rfl, nbq rfl⟩) ⟨qab, va_recv (q := (RX11, TX11, 55)) hK hPc (ci := 11) (q0 := 0) rfl rfl, qae hPc hK hDc hNw⟩ rfl rfl hl.1 rfl (lv_room (nbq rfl)) (qaa qdp 11 rfl) ⟨nbq rfl, nbq rfl⟩) hS (fun q _ h => hFc q h) hFc (fun r2 u t H1 locs ht hvm hw hB hz1 hk1 hS => ?_)
      obtain ⟨hP1, hK1, hD1⟩ := hB
      rw [ht] at hP1
      obtain ⟨hP, hD⟩ := qah (wr := []) (w1 := (qzv a0 jaX jaF jaD ja7 jby jbe jaM jaY jap jaK jal jam jax jao ja5 jaV jbJ jae jag jaf jaN ja4 jbw jaw jaI jaZ jaG jaS jan jaU jaE jar jaL jah jaB jaa jaz jaH jab ja2 z0_s jaq jai jaO jaA jat jau jav jaj jas jaJ jak jad jay jac ja5 cyI jbv jbJ cyI jcy)) (wn := (qzv a0 jaX jaF jaD ja7 jby jbe jaM jaY jap jaK jal jam jax jao ja5 jaV jbJ jae jag jaf jaN ja4 jbw jaw jaI jaZ jaG jaS jan jaU jaE jar jaL jah jaB jaa jaz jaH jab ja2 z0_s jaq jai jaO jaA jat jau jav jaj jas jaJ jak jad jay jac ja5 cyI jbv jbJ cyI jcy)) hP hD [0, 1, 2] [] hCc rfl (by decide +kernel) (by decide +kernel) rfl hk1 hFc hP1 hD1
      generalize H1 = H at hP hS ⊢
      refine lv_if_eq (tgt := 27) hx hb (qaa qdp 12 rfl) (by decide) (fun c3 => ?_) (fun c3 => ?_)
      · have hw := hw.1 c3
        refine lv_iconst (v := 0) hx hb (qaa qpl 1 rfl) (by decide) ?_
        exact qQt dC dI cyB cyI cyJ cyP a0 ja5 jbJ jaX jaF jaD ja7 jby jbe jaM jaY jap jaK jal jam jax jao jaV jae jag jaf ja4 jaw jaI jaZ jaG jaS jan jaU jaE jar jaL jah jaB jaa jaz jaH jab ja2 z0_s jaq jai jaO jaA jat jau jav jaj jas jaJ jak jad jay jac jaN jbw jbv jcy Q (qse jaN jbw jbv jcy Q n) ih C0 _ _ _ l2 l1 0 hP hD hS (lv_sub hl [0, 2] rfl) hw
      · have hw := hw.2 c3
        refine lv_iconst (v := 1) hx hb (qaa qdp 13 rfl) (by decide) ?_
        refine lv_iload_n hx hb (qaa qdp 14 rfl) rfl (lv_at hl 2 rfl) ?_
        refine lv_ishl hx hb (qaa qdp 15 rfl) ?_
        refine lv_goto (tgt := 28) hx hb (qaa qpl 0 rfl) (by decide) ?_
        exact qQt dC dI cyB cyI cyJ cyP a0 ja5 jbJ jaX jaF jaD ja7 jby jbe jaM jaY jap jaK jal jam jax jao jaV jae jag jaf ja4 jaw jaI jaZ jaG jaS jan jaU jaE jar jaL jah jaB jaa jaz jaH jab ja2 z0_s jaq jai jaO jaA jat jau jav jaj jas jaJ jak jad jay jac jaN jbw jbv jcy Q (qse jaN jbw jbv jcy Q n) ih C0 _ _ _ l2 l1 (1 <<< (l2 &&& 31)) hP hD hS (lv_sub hl [0, 2] rfl) hw
set_option maxHeartbeats 4000000 in
set_option maxRecDepth 100000 in
theorem qZW (l : Launch) (dC : Nat → ClassId) (dI : Nat → Nat → Nat) (cyB cyI cyJ cyP : ClassId) (a0 ja5 jbJ sz : Nat) (jaX jaF jaD ja7 jby jbe jaM jaY jap jaK jal jam jax jao jaV jae jag jaf ja4 jaw jaI jaZ jaG jaS jan jaU jaE jar jaL jah jaB jaa jaz jaH jab ja2 z0_s jaq jai jaO jaA jat jau jav jaj jas jaJ jak jad jay jac : Value) (jaN jbw : Int32) (jbv jcy : NI) {Q : Int32 → Prop} (hw : qEw jaN jbw jbv jcy Q) : Met l yX11_safeForms wsX11_safeForms ({ frames := 2, cells := 0, slots := 0, locals := 42 }) (va_Pc [.ref a0] (cPc (dC, dI) (kT cyB cyI cyJ cyP) (qzv a0 jaX jaF jaD ja7 jby jbe jaM jaY jap jaK jal jam jax jao ja5 jaV jbJ jae jag jaf jaN ja4 jbw jaw jaI jaZ jaG jaS jan jaU jaE jar jaL jah jaB jaa jaz jaH jab ja2 z0_s jaq jai jaO jaA jat jau jav jaj jas jaJ jak jad jay jac ja5 cyI jbv jbJ cyI jcy) sz)) (va_Qi (fun (r : Int32) (_ : Unit) => Q r ) (cB (dC, dI) (kT cyB cyI cyJ cyP) (va_A (qzv a0 jaX jaF jaD ja7 jby jbe jaM jaY jap jaK jal jam jax jao ja5 jaV jbJ jae jag jaf jaN ja4 jbw jaw jaI jaZ jaG jaS jan jaU jaE jar jaL jah jaB jaa jaz jaH jab ja2 z0_s jaq jai jaO jaA jat jau jav jaj jas jaJ jak jad jay jac ja5 cyI jbv jbJ cyI jcy) sz) (fun u : Unit => ((qzv a0 jaX jaF jaD ja7 jby jbe jaM jaY jap jaK jal jam jax jao ja5 jaV jbJ jae jag jaf jaN ja4 jbw jaw jaI jaZ jaG jaS jan jaU jaE jar jaL jah jaB jaa jaz jaH jab ja2 z0_s jaq jai jaO jaA jat jau jav jaj jas jaJ jak jad jay jac ja5 cyI jbv jbJ cyI jcy) : va_W))) (va_A (qzv a0 jaX jaF jaD ja7 jby jbe jaM jaY jap jaK jal jam jax jao ja5 jaV jbJ jae jag jaf jaN ja4 jbw jaw jaI jaZ jaG jaS jan jaU jaE jar jaL jah jaB jaa jaz jaH jab ja2 z0_s jaq jai jaO jaA jat jau jav jaj jas jaJ jak jad jay jac ja5 cyI jbv jbJ cyI jcy) sz)) 0 0 (va_A (qzv a0 jaX jaF jaD ja7 jby jbe jaM jaY jap jaK jal jam jax jao ja5 jaV jbJ jae jag jaf jaN ja4 jbw jaw jaI jaZ jaG jaS jan jaU jaE jar jaL jah jaB jaa jaz jaH jab ja2 z0_s jaq jai jaO jaA jat jau jav jaj jas jaJ jak jad jay jac ja5 cyI jbv jbJ cyI jcy) sz) := by
  refine Met.ofW (cc := cX11_safeForms) (maxL := 3) (ret := (some .int)) (by decide) rfl ?_
  intro p e s m args below meth c s₁ B hml hv
  obtain ⟨rfl, hsz, hP, hK, hD0, hNw⟩ := hv
  have hx := B.exec
  have hb := B.bytes
  have hr := B.returns
  have hts := atoms_spec (ws := wsX11_safeForms) B.pre
  have hown : s.vm.findClass RX11 = some m.cls := findClass_of_methodNamed B.named
  have hlocks := B.notSynchronized
  subst hsz
  have hD := hD0.self (sz := s.heap.size)
  generalize hAe : va_A (qzv a0 jaX jaF jaD ja7 jby jbe jaM jaY jap jaK jal jam jax jao ja5 jaV jbJ jae jag jaf jaN ja4 jbw jaw jaI jaZ jaG jaS jan jaU jaE jar jaL jah jaB jaa jaz jaH jab ja2 z0_s jaq jai jaO jaA jat jau jav jaj jas jaJ jak jad jay jac ja5 cyI jbv jbJ cyI jcy) s.heap.size = A at hD ⊢
  have hA : ∀ q : Nat, s.heap.size ≤ q → A q := fun q h => by rw [← hAe]; exact Or.inr h
  have hS : va_S A s.heap s.heap [] := va_S.rf
  have hP : va_P (dC, dI) vwCl (qzv a0 jaX jaF jaD ja7 jby jbe jaM jaY jap jaK jal jam jax jao ja5 jaV jbJ jae jag jaf jaN ja4 jbw jaw jaI jaZ jaG jaS jan jaU jaE jar jaL jah jaB jaa jaz jaH jab ja2 z0_s jaq jai jaO jaA jat jau jav jaj jas jaJ jak jad jay jac ja5 cyI jbv jbJ cyI jcy) s.heap := hP
  have hl := lv_entry ([.ref a0]) (n := 3) (nbq rfl)
  rw [lg_entry_eq]
  generalize (lg_sl ([.ref a0]) ++ List.replicate (3 - (lg_sl ([.ref a0])).length) Slot.unset).toArray = ls at hl ⊢
  have hl : lv_has ls 3 [(0, .ref a0)] := hl
  have C0 : cfx p s m _ meth c cX11_safeForms (some .int) wsX11_safeForms RX11 3 A (dC, dI) (kT cyB cyI cyJ cyP) := ⟨hx, hb, hr, hts, hown, hlocks, hml, hA, hK, hNw⟩
  clear hAe
  obtain ⟨H, hH⟩ : ∃ H, H = s.heap := ⟨_, rfl⟩
  rw [← hH] at hP ⊢
  have hS : va_S A s.heap H [] := by rw [hH]; exact va_S.rf
  have hS := hS
  refine lv_iconst (v := 0) hx hb (qaa qdp 0 rfl) (by decide) ?_
  refine lv_istore_n (lv' := [(1, .int 0), (0, .ref a0)]) hx hb (qaa qdp 1 rfl) rfl hl (by decide) rfl (fun ls hl => ?_)
  refine lv_iconst (v := 0) hx hb (qaa qdp 2 rfl) (by decide) ?_
  refine lv_istore_n (lv' := [(2, .int 0), (1, .int 0), (0, .ref a0)]) hx hb (qaa qdp 3 rfl) rfl hl (by decide) rfl (fun ls hl => ?_)
  obtain ⟨n9, hw⟩ := hw
  exact qacS dC dI cyB cyI cyJ cyP a0 ja5 jbJ jaX jaF jaD ja7 jby jbe jaM jaY jap jaK jal jam jax jao jaV jae jag jaf ja4 jaw jaI jaZ jaG jaS jan jaU jaE jar jaL jah jaB jaa jaz jaH jab ja2 z0_s jaq jai jaO jaA jat jau jav jaj jas jaJ jak jad jay jac jaN jbw jbv jcy Q C0 n9 _ _ _ 0 0 hP hD hS (lv_sub hl [2, 1, 0] rfl) hw
theorem qbt : ∀ w ∈ u_ws RX11 TX11 55, w ∈ wsX11_findSeats := uiM qio qfa (by decide +kernel)
theorem qw6 : (.fieldLink RX11 166 "MarchHaresModel" "forms" "I" : Cond) ∈ wsX11_findSeats := qio 519 (by decide +kernel)
theorem qxw : (.fieldLink RX11 169 "MarchHaresModel" "hares" "I" : Cond) ∈ wsX11_findSeats := qio 520 (by decide +kernel)
theorem q6I : (.fieldLink RX11 71 "MarchHaresModel" "s" "[I" : Cond) ∈ wsX11_findSeats := qio 457 (by decide +kernel)
theorem qp4 : (.fieldLink RX11 83 "MarchHaresModel" "mostOn" "[I" : Cond) ∈ wsX11_findSeats := qio 461 (by decide +kernel)
theorem qxZ : (.fieldLink RX11 86 "MarchHaresModel" "seatOf" "[I" : Cond) ∈ wsX11_findSeats := qio 462 (by decide +kernel)
theorem qDn : (.fieldLink RX11 89 "MarchHaresModel" "maySit" "[I" : Cond) ∈ wsX11_findSeats := qio 463 (by decide +kernel)
set_option maxHeartbeats 4000000 in
set_option maxRecDepth 100000 in
theorem qPI {p : Program} {l : Launch} {e : Env} {s : State} {m : MethodId} {args : Array Value} {below : List Frame} {meth : Method} {c : Code} {A : Nat → Prop} (dC : Nat → ClassId) (dI : Nat → Nat → Nat) (cyB cyI cyJ cyP : ClassId) (a0 jaT a0_s jiY ja5 jbu jbB jbG jbg jbJ jiO jiT : Nat) (jaX jaF jaD ja7 jby jbe jaM jaY jap jaK jal jam jax jao jaV jae jag jaf jaw jaI jan jar jaL jah jaB jaa jaz jaH jab jaq jai jaO jaA jaj jas jaJ jak jad jay jac : Value) (jaN jaC jbw jbD : Int32) (jb2 jbv jcu jbT jcy : NI) (Q : NI → NI → NI → NI → NI → NI → Prop) (K6 : NI → NI → NI → NI → NI → NI → Int32 → Prop) (hK6 : ∀ (H : Heap) (locs : List Loc) (ls : Array Slot) (f0_s jb1 jcb jjl jjp jjq : NI) (l1 : Int32), va_P (dC, dI) vwCl (qbN a0 jaX jaF jaD ja7 jby jbe jaM jaY jap jaK jal jam jax jao ja5 jaV jbJ jae jag jaf jaN jaC jbw jaw jaI jbG jbg jbB jan jbD jbu jar jaL jah jaB jaa jaz jaH jab jaT a0_s jaq jai jaO jaA jiO jiT jiY jaj jas jaJ jak jad jay jac jaT cyI jb2 a0_s cyI f0_s ja5 cyI jbv jbu cyI jb1 jbB cyI jcb jbG cyI jcu jbg cyI jbT jbJ cyI jcy jiO cyI jjl jiY cyI jjp jiT cyI jjq) H → va_D A (qbN a0 jaX jaF jaD ja7 jby jbe jaM jaY jap jaK jal jam jax jao ja5 jaV jbJ jae jag jaf jaN jaC jbw jaw jaI jbG jbg jbB jan jbD jbu jar jaL jah jaB jaa jaz jaH jab jaT a0_s jaq jai jaO jaA jiO jiT jiY jaj jas jaJ jak jad jay jac jaT cyI jb2 a0_s cyI f0_s ja5 cyI jbv jbu cyI jb1 jbB cyI jcb jbG cyI jcu jbg cyI jbT jbJ cyI jcy jiO cyI jjl jiY cyI jjp jiT cyI jjq) → va_S A s.heap H locs → lv_has ls 6 [(0, .ref a0), (1, .int l1)] → K6 f0_s jb1 jcb jjl jjp jjq l1 → W p l e (headSpec wsX11_findSeats ({ frames := 7, cells := 0, slots := 0, locals := 160 })).room s m args below meth c H locs 0 0 (MQ below (va_Qv (fun (u : NI × NI × NI × NI × NI × NI) => Q u.1 u.2.1 u.2.2.1 u.2.2.2.1 u.2.2.2.2.1 u.2.2.2.2.2) (cB (dC, dI) (kT cyB cyI cyJ cyP) A (fun u : NI × NI × NI × NI × NI × NI => ((qbN a0 jaX jaF jaD ja7 jby jbe jaM jaY jap jaK jal jam jax jao ja5 jaV jbJ jae jag jaf jaN jaC jbw jaw jaI jbG jbg jbB jan jbD jbu jar jaL jah jaB jaa jaz jaH jab jaT a0_s jaq jai jaO jaA jiO jiT jiY jaj jas jaJ jak jad jay jac jaT cyI jb2 a0_s cyI u.1 ja5 cyI jbv jbu cyI u.2.1 jbB cyI u.2.2.1 jbG cyI jcu jbg cyI jbT jbJ cyI jcy jiO cyI u.2.2.2.1 jiY cyI u.2.2.2.2.1 jiT cyI u.2.2.2.2.2) : va_W))) A) args s 0 0 A) (F0 m 6 ls [])) (C0 : cfx p s m args meth c cX11_findSeats none wsX11_findSeats RX11 6 A (dC, dI) (kT cyB cyI cyJ cyP)) : ∀ (H : Heap) (locs : List Loc) (ls : Array Slot) (f0_s jb1 jcb jjl jjp jjq : NI) (l1 s1 s2 : Int32), va_P (dC, dI) vwCl (qbN a0 jaX jaF jaD ja7 jby jbe jaM jaY jap jaK jal jam jax jao ja5 jaV jbJ jae jag jaf jaN jaC jbw jaw jaI jbG jbg jbB jan jbD jbu jar jaL jah jaB jaa jaz jaH jab jaT a0_s jaq jai jaO jaA jiO jiT jiY jaj jas jaJ jak jad jay jac jaT cyI jb2 a0_s cyI f0_s ja5 cyI jbv jbu cyI jb1 jbB cyI jcb jbG cyI jcu jbg cyI jbT jbJ cyI jcy jiO cyI jjl jiY cyI jjp jiT cyI jjq) H → va_D A (qbN a0 jaX jaF jaD ja7 jby jbe jaM jaY jap jaK jal jam jax jao ja5 jaV jbJ jae jag jaf jaN jaC jbw jaw jaI jbG jbg jbB jan jbD jbu jar jaL jah jaB jaa jaz jaH jab jaT a0_s jaq jai jaO jaA jiO jiT jiY jaj jas jaJ jak jad jay jac jaT cyI jb2 a0_s cyI f0_s ja5 cyI jbv jbu cyI jb1 jbB cyI jcb jbG cyI jcu jbg cyI jbT jbJ cyI jcy jiO cyI jjl jiY cyI jjp jiT cyI jjq) → va_S A s.heap H locs → lv_has ls 6 [(0, .ref a0), (1, .int l1)] → qFj jaN jaC jbw jbD jb2 jbv jcu jbT jcy Q K6 f0_s jb1 jcb jjl jjp jjq l1 s1 s2 → W p l e (headSpec wsX11_findSeats ({ frames := 7, cells := 0, slots := 0, locals := 160 })).room s m args below meth c H locs 0 0 (MQ below (va_Qv (fun (u : NI × NI × NI × NI × NI × NI) => Q u.1 u.2.1 u.2.2.1 u.2.2.2.1 u.2.2.2.2.1 u.2.2.2.2.2) (cB (dC, dI) (kT cyB cyI cyJ cyP) A (fun u : NI × NI × NI × NI × NI × NI => ((qbN a0 jaX jaF jaD ja7 jby jbe jaM jaY jap jaK jal jam jax jao ja5 jaV jbJ jae jag jaf jaN jaC jbw jaw jaI jbG jbg jbB jan jbD jbu jar jaL jah jaB jaa jaz jaH jab jaT a0_s jaq jai jaO jaA jiO jiT jiY jaj jas jaJ jak jad jay jac jaT cyI jb2 a0_s cyI u.1 ja5 cyI jbv jbu cyI u.2.1 jbB cyI u.2.2.1 jbG cyI jcu jbg cyI jbT jbJ cyI jcy jiO cyI u.2.2.2.1 jiY cyI u.2.2.2.2.1 jiT cyI u.2.2.2.2.2) : va_W))) A) args s 0 0 A) (F0 m 52 ls [.int s2, .int s1, .ref jiY]) := by
  obtain ⟨hx, hb, hr, hts, hown, hlocks, hml, hA, hK, hNw⟩ := id C0
  intro H locs ls f0_s jb1 jcb jjl jjp jjq l1 s1 s2 hP hD hS hl hw
  obtain ⟨hi9, hw⟩ := hw
  refine va_iast hx hb hK hP hD hS 10 1 rfl rfl hi9 (qaa qcQ 0 rfl) (fun H locs hP hD hS => ?_)
  obtain ⟨f17, ef17⟩ : ∃ y : NI, y = upd jjp s1.toNatClampNeg s2 := ⟨_, rfl⟩
  have hw := hw f17 ef17
  have hP : va_P (dC, dI) vwCl (qbN a0 jaX jaF jaD ja7 jby jbe jaM jaY jap jaK jal jam jax jao ja5 jaV jbJ jae jag jaf jaN jaC jbw jaw jaI jbG jbg jbB jan jbD jbu jar jaL jah jaB jaa jaz jaH jab jaT a0_s jaq jai jaO jaA jiO jiT jiY jaj jas jaJ jak jad jay jac jaT cyI jb2 a0_s cyI f0_s ja5 cyI jbv jbu cyI jb1 jbB cyI jcb jbG cyI jcu jbg cyI jbT jbJ cyI jcy jiO cyI jjl jiY cyI f17 jiT cyI jjq) H := by rw [ef17]; exact hP
  have hD : va_D A (qbN a0 jaX jaF jaD ja7 jby jbe jaM jaY jap jaK jal jam jax jao ja5 jaV jbJ jae jag jaf jaN jaC jbw jaw jaI jbG jbg jbB jan jbD jbu jar jaL jah jaB jaa jaz jaH jab jaT a0_s jaq jai jaO jaA jiO jiT jiY jaj jas jaJ jak jad jay jac jaT cyI jb2 a0_s cyI f0_s ja5 cyI jbv jbu cyI jb1 jbB cyI jcb jbG cyI jcu jbg cyI jbT jbJ cyI jcy jiO cyI jjl jiY cyI f17 jiT cyI jjq) := by rw [ef17]; exact hD
  obtain ⟨x18, ex18⟩ : ∃ y : Int32, y = l1 + 1 := ⟨_, rfl⟩
  have hw := hw x18 ex18
  refine lv_iinc (v := x18) (lv' := [(1, .int x18), (0, .ref a0)]) hx hb (qaa qcQ 1 rfl) hl (k := 1) rfl (by rw [ex18]; rfl) (by decide) rfl (fun ls hl => ?_)
  refine lv_goto (tgt := 6) hx hb (qaa qcQ 2 rfl) (by decide) ?_
  exact hK6 _ _ _ f0_s jb1 jcb jjl f17 jjq x18 hP hD hS (lv_sub hl [1, 0] rfl) hw
set_option maxHeartbeats 4000000 in
set_option maxRecDepth 100000 in
theorem qDC {p : Program} {l : Launch} {e : Env} {s : State} {m : MethodId} {args : Array Value} {below : List Frame} {meth : Method} {c : Code} {A : Nat → Prop} (dC : Nat → ClassId) (dI : Nat → Nat → Nat) (cyB cyI cyJ cyP : ClassId) (a0 jaT a0_s jiY ja5 jbu jbB jbG jbg jbJ jiO jiT : Nat) (jaX jaF jaD ja7 jby jbe jaM jaY jap jaK jal jam jax jao jaV jae jag jaf jaw jaI jan jar jaL jah jaB jaa jaz jaH jab jaq jai jaO jaA jaj jas jaJ jak jad jay jac : Value) (jaN jaC jbw jbD : Int32) (jb2 jbv jcu jbT jcy : NI) (Q : NI → NI → NI → NI → NI → NI → Prop) (K99 : NI → NI → NI → NI → NI → NI → Int32 → Prop) (K105 : NI → NI → NI → NI → NI → NI → Int32 → Int32 → Prop) (K132 : NI → NI → NI → NI → NI → NI → Int32 → Int32 → Int32 → Int32 → Prop) (hK99 : ∀ (H : Heap) (locs : List Loc) (ls : Array Slot) (f0_s jb1 jcb jjl jjp jjq : NI) (l1 : Int32), va_P (dC, dI) vwCl (qbN a0 jaX jaF jaD ja7 jby jbe jaM jaY jap jaK jal jam jax jao ja5 jaV jbJ jae jag jaf jaN jaC jbw jaw jaI jbG jbg jbB jan jbD jbu jar jaL jah jaB jaa jaz jaH jab jaT a0_s jaq jai jaO jaA jiO jiT jiY jaj jas jaJ jak jad jay jac jaT cyI jb2 a0_s cyI f0_s ja5 cyI jbv jbu cyI jb1 jbB cyI jcb jbG cyI jcu jbg cyI jbT jbJ cyI jcy jiO cyI jjl jiY cyI jjp jiT cyI jjq) H → va_D A (qbN a0 jaX jaF jaD ja7 jby jbe jaM jaY jap jaK jal jam jax jao ja5 jaV jbJ jae jag jaf jaN jaC jbw jaw jaI jbG jbg jbB jan jbD jbu jar jaL jah jaB jaa jaz jaH jab jaT a0_s jaq jai jaO jaA jiO jiT jiY jaj jas jaJ jak jad jay jac jaT cyI jb2 a0_s cyI f0_s ja5 cyI jbv jbu cyI jb1 jbB cyI jcb jbG cyI jcu jbg cyI jbT jbJ cyI jcy jiO cyI jjl jiY cyI jjp jiT cyI jjq) → va_S A s.heap H locs → lv_has ls 6 [(0, .ref a0), (1, .int l1)] → K99 f0_s jb1 jcb jjl jjp jjq l1 → W p l e (headSpec wsX11_findSeats ({ frames := 7, cells := 0, slots := 0, locals := 160 })).room s m args below meth c H locs 0 0 (MQ below (va_Qv (fun (u : NI × NI × NI × NI × NI × NI) => Q u.1 u.2.1 u.2.2.1 u.2.2.2.1 u.2.2.2.2.1 u.2.2.2.2.2) (cB (dC, dI) (kT cyB cyI cyJ cyP) A (fun u : NI × NI × NI × NI × NI × NI => ((qbN a0 jaX jaF jaD ja7 jby jbe jaM jaY jap jaK jal jam jax jao ja5 jaV jbJ jae jag jaf jaN jaC jbw jaw jaI jbG jbg jbB jan jbD jbu jar jaL jah jaB jaa jaz jaH jab jaT a0_s jaq jai jaO jaA jiO jiT jiY jaj jas jaJ jak jad jay jac jaT cyI jb2 a0_s cyI u.1 ja5 cyI jbv jbu cyI u.2.1 jbB cyI u.2.2.1 jbG cyI jcu jbg cyI jbT jbJ cyI jcy jiO cyI u.2.2.2.1 jiY cyI u.2.2.2.2.1 jiT cyI u.2.2.2.2.2) : va_W))) A) args s 0 0 A) (F0 m 99 ls [])) (hK105 : ∀ (H : Heap) (locs : List Loc) (ls : Array Slot) (f0_s jb1 jcb jjl jjp jjq : NI) (l1 l2 : Int32), va_P (dC, dI) vwCl (qbN a0 jaX jaF jaD ja7 jby jbe jaM jaY jap jaK jal jam jax jao ja5 jaV jbJ jae jag jaf jaN jaC jbw jaw jaI jbG jbg jbB jan jbD jbu jar jaL jah jaB jaa jaz jaH jab jaT a0_s jaq jai jaO jaA jiO jiT jiY jaj jas jaJ jak jad jay jac jaT cyI jb2 a0_s cyI f0_s ja5 cyI jbv jbu cyI jb1 jbB cyI jcb jbG cyI jcu jbg cyI jbT jbJ cyI jcy jiO cyI jjl jiY cyI jjp jiT cyI jjq) H → va_D A (qbN a0 jaX jaF jaD ja7 jby jbe jaM jaY jap jaK jal jam jax jao ja5 jaV jbJ jae jag jaf jaN jaC jbw jaw jaI jbG jbg jbB jan jbD jbu jar jaL jah jaB jaa jaz jaH jab jaT a0_s jaq jai jaO jaA jiO jiT jiY jaj jas jaJ jak jad jay jac jaT cyI jb2 a0_s cyI f0_s ja5 cyI jbv jbu cyI jb1 jbB cyI jcb jbG cyI jcu jbg cyI jbT jbJ cyI jcy jiO cyI jjl jiY cyI jjp jiT cyI jjq) → va_S A s.heap H locs → lv_has ls 6 [(0, .ref a0), (1, .int l1), (2, .int l2)] → K105 f0_s jb1 jcb jjl jjp jjq l1 l2 → W p l e (headSpec wsX11_findSeats ({ frames := 7, cells := 0, slots := 0, locals := 160 })).room s m args below meth c H locs 0 0 (MQ below (va_Qv (fun (u : NI × NI × NI × NI × NI × NI) => Q u.1 u.2.1 u.2.2.1 u.2.2.2.1 u.2.2.2.2.1 u.2.2.2.2.2) (cB (dC, dI) (kT cyB cyI cyJ cyP) A (fun u : NI × NI × NI × NI × NI × NI => ((qbN a0 jaX jaF jaD ja7 jby jbe jaM jaY jap jaK jal jam jax jao ja5 jaV jbJ jae jag jaf jaN jaC jbw jaw jaI jbG jbg jbB jan jbD jbu jar jaL jah jaB jaa jaz jaH jab jaT a0_s jaq jai jaO jaA jiO jiT jiY jaj jas jaJ jak jad jay jac jaT cyI jb2 a0_s cyI u.1 ja5 cyI jbv jbu cyI u.2.1 jbB cyI u.2.2.1 jbG cyI jcu jbg cyI jbT jbJ cyI jcy jiO cyI u.2.2.2.1 jiY cyI u.2.2.2.2.1 jiT cyI u.2.2.2.2.2) : va_W))) A) args s 0 0 A) (F0 m 105 ls [])) (hK132 : ∀ (H : Heap) (locs : List Loc) (ls : Array Slot) (f0_s jb1 jcb jjl jjp jjq : NI) (l1 l2 l3 l4 : Int32), va_P (dC, dI) vwCl (qbN a0 jaX jaF jaD ja7 jby jbe jaM jaY jap jaK jal jam jax jao ja5 jaV jbJ jae jag jaf jaN jaC jbw jaw jaI jbG jbg jbB jan jbD jbu jar jaL jah jaB jaa jaz jaH jab jaT a0_s jaq jai jaO jaA jiO jiT jiY jaj jas jaJ jak jad jay jac jaT cyI jb2 a0_s cyI f0_s ja5 cyI jbv jbu cyI jb1 jbB cyI jcb jbG cyI jcu jbg cyI jbT jbJ cyI jcy jiO cyI jjl jiY cyI jjp jiT cyI jjq) H → va_D A (qbN a0 jaX jaF jaD ja7 jby jbe jaM jaY jap jaK jal jam jax jao ja5 jaV jbJ jae jag jaf jaN jaC jbw jaw jaI jbG jbg jbB jan jbD jbu jar jaL jah jaB jaa jaz jaH jab jaT a0_s jaq jai jaO jaA jiO jiT jiY jaj jas jaJ jak jad jay jac jaT cyI jb2 a0_s cyI f0_s ja5 cyI jbv jbu cyI jb1 jbB cyI jcb jbG cyI jcu jbg cyI jbT jbJ cyI jcy jiO cyI jjl jiY cyI jjp jiT cyI jjq) → va_S A s.heap H locs → lv_has ls 6 [(0, .ref a0), (1, .int l1), (2, .int l2), (3, .int l3), (4, .int l4)] → K132 f0_s jb1 jcb jjl jjp jjq l1 l2 l3 l4 → W p l e (headSpec wsX11_findSeats ({ frames := 7, cells := 0, slots := 0, locals := 160 })).room s m args below meth c H locs 0 0 (MQ below (va_Qv (fun (u : NI × NI × NI × NI × NI × NI) => Q u.1 u.2.1 u.2.2.1 u.2.2.2.1 u.2.2.2.2.1 u.2.2.2.2.2) (cB (dC, dI) (kT cyB cyI cyJ cyP) A (fun u : NI × NI × NI × NI × NI × NI => ((qbN a0 jaX jaF jaD ja7 jby jbe jaM jaY jap jaK jal jam jax jao ja5 jaV jbJ jae jag jaf jaN jaC jbw jaw jaI jbG jbg jbB jan jbD jbu jar jaL jah jaB jaa jaz jaH jab jaT a0_s jaq jai jaO jaA jiO jiT jiY jaj jas jaJ jak jad jay jac jaT cyI jb2 a0_s cyI u.1 ja5 cyI jbv jbu cyI u.2.1 jbB cyI u.2.2.1 jbG cyI jcu jbg cyI jbT jbJ cyI jcy jiO cyI u.2.2.2.1 jiY cyI u.2.2.2.2.1 jiT cyI u.2.2.2.2.2) : va_W))) A) args s 0 0 A) (F0 m 132 ls [])) (C0 : cfx p s m args meth c cX11_findSeats none wsX11_findSeats RX11 6 A (dC, dI) (kT cyB cyI cyJ cyP)) : ∀ (H : Heap) (locs : List Loc) (ls : Array Slot) (f0_s jb1 jcb jjl jjp jjq : NI) (l1 l2 l3 l4 : Int32), va_P (dC, dI) vwCl (qbN a0 jaX jaF jaD ja7 jby jbe jaM jaY jap jaK jal jam jax jao ja5 jaV jbJ jae jag jaf jaN jaC jbw jaw jaI jbG jbg jbB jan jbD jbu jar jaL jah jaB jaa jaz jaH jab jaT a0_s jaq jai jaO jaA jiO jiT jiY jaj jas jaJ jak jad jay jac jaT cyI jb2 a0_s cyI f0_s ja5 cyI jbv jbu cyI jb1 jbB cyI jcb jbG cyI jcu jbg cyI jbT jbJ cyI jcy jiO cyI jjl jiY cyI jjp jiT cyI jjq) H → va_D A (qbN a0 jaX jaF jaD ja7 jby jbe jaM jaY jap jaK jal jam jax jao ja5 jaV jbJ jae jag jaf jaN jaC jbw jaw jaI jbG jbg jbB jan jbD jbu jar jaL jah jaB jaa jaz jaH jab jaT a0_s jaq jai jaO jaA jiO jiT jiY jaj jas jaJ jak jad jay jac jaT cyI jb2 a0_s cyI f0_s ja5 cyI jbv jbu cyI jb1 jbB cyI jcb jbG cyI jcu jbg cyI jbT jbJ cyI jcy jiO cyI jjl jiY cyI jjp jiT cyI jjq) → va_S A s.heap H locs → lv_has ls 6 [(0, .ref a0), (1, .int l1), (2, .int l2), (3, .int l3), (4, .int l4)] → qxW jaN jaC jbw jbD jb2 jbv jcu jbT jcy Q K99 K105 K132 f0_s jb1 jcb jjl jjp jjq l1 l2 l3 l4 → W p l e (headSpec wsX11_findSeats ({ frames := 7, cells := 0, slots := 0, locals := 160 })).room s m args below meth c H locs 0 0 (MQ below (va_Qv (fun (u : NI × NI × NI × NI × NI × NI) => Q u.1 u.2.1 u.2.2.1 u.2.2.2.1 u.2.2.2.2.1 u.2.2.2.2.2) (cB (dC, dI) (kT cyB cyI cyJ cyP) A (fun u : NI × NI × NI × NI × NI × NI => ((qbN a0 jaX jaF jaD ja7 jby jbe jaM jaY jap jaK jal jam jax jao ja5 jaV jbJ jae jag jaf jaN jaC jbw jaw jaI jbG jbg jbB jan jbD jbu jar jaL jah jaB jaa jaz jaH jab jaT a0_s jaq jai jaO jaA jiO jiT jiY jaj jas jaJ jak jad jay jac jaT cyI jb2 a0_s cyI u.1 ja5 cyI jbv jbu cyI u.2.1 jbB cyI u.2.2.1 jbG cyI jcu jbg cyI jbT jbJ cyI jcy jiO cyI u.2.2.2.1 jiY cyI u.2.2.2.2.1 jiT cyI u.2.2.2.2.2) : va_W))) A) args s 0 0 A) (F0 m 209 ls []) := by
  obtain ⟨hx, hb, hr, hts, hown, hlocks, hml, hA, hK, hNw⟩ := id C0
  intro H locs ls f0_s jb1 jcb jjl jjp jjq l1 l2 l3 l4 hP hD hS hl hw
  obtain ⟨x69, ex69⟩ : ∃ y : Int32, y = l4 + 1 := ⟨_, rfl⟩
  have hw := hw x69 ex69
  refine lv_iinc (v := x69) (lv' := [(4, .int x69), (0, .ref a0), (1, .int l1), (2, .int l2), (3, .int l3)]) hx hb (qaa qcv 10 rfl) hl (k := 4) rfl (by rw [ex69]; rfl) (by decide) rfl (fun ls hl => ?_)
  refine lv_goto (tgt := 132) hx hb (qaa qcv 11 rfl) (by decide) ?_
  exact hK132 _ _ _ f0_s jb1 jcb jjl jjp jjq l1 l2 l3 x69 hP hD hS (lv_sub hl [1, 2, 3, 4, 0] rfl) hw
set_option maxHeartbeats 4000000 in
set_option maxRecDepth 100000 in
theorem q6p {p : Program} {l : Launch} {e : Env} {s : State} {m : MethodId} {args : Array Value} {below : List Frame} {meth : Method} {c : Code} {A : Nat → Prop} (dC : Nat → ClassId) (dI : Nat → Nat → Nat) (cyB cyI cyJ cyP : ClassId) (a0 jaT a0_s jiY ja5 jbu jbB jbG jbg jbJ jiO jiT : Nat) (jaX jaF jaD ja7 jby jbe jaM jaY jap jaK jal jam jax jao jaV jae jag jaf jaw jaI jan jar jaL jah jaB jaa jaz jaH jab jaq jai jaO jaA jaj jas jaJ jak jad jay jac : Value) (jaN jaC jbw jbD : Int32) (jb2 jbv jcu jbT jcy : NI) (Q : NI → NI → NI → NI → NI → NI → Prop) (K99 : NI → NI → NI → NI → NI → NI → Int32 → Prop) (K105 : NI → NI → NI → NI → NI → NI → Int32 → Int32 → Prop) (hK99 : ∀ (H : Heap) (locs : List Loc) (ls : Array Slot) (f0_s jb1 jcb jjl jjp jjq : NI) (l1 : Int32), va_P (dC, dI) vwCl (qbN a0 jaX jaF jaD ja7 jby jbe jaM jaY jap jaK jal jam jax jao ja5 jaV jbJ jae jag jaf jaN jaC jbw jaw jaI jbG jbg jbB jan jbD jbu jar jaL jah jaB jaa jaz jaH jab jaT a0_s jaq jai jaO jaA jiO jiT jiY jaj jas jaJ jak jad jay jac jaT cyI jb2 a0_s cyI f0_s ja5 cyI jbv jbu cyI jb1 jbB cyI jcb jbG cyI jcu jbg cyI jbT jbJ cyI jcy jiO cyI jjl jiY cyI jjp jiT cyI jjq) H → va_D A (qbN a0 jaX jaF jaD ja7 jby jbe jaM jaY jap jaK jal jam jax jao ja5 jaV jbJ jae jag jaf jaN jaC jbw jaw jaI jbG jbg jbB jan jbD jbu jar jaL jah jaB jaa jaz jaH jab jaT a0_s jaq jai jaO jaA jiO jiT jiY jaj jas jaJ jak jad jay jac jaT cyI jb2 a0_s cyI f0_s ja5 cyI jbv jbu cyI jb1 jbB cyI jcb jbG cyI jcu jbg cyI jbT jbJ cyI jcy jiO cyI jjl jiY cyI jjp jiT cyI jjq) → va_S A s.heap H locs → lv_has ls 6 [(0, .ref a0), (1, .int l1)] → K99 f0_s jb1 jcb jjl jjp jjq l1 → W p l e (headSpec wsX11_findSeats ({ frames := 7, cells := 0, slots := 0, locals := 160 })).room s m args below meth c H locs 0 0 (MQ below (va_Qv (fun (u : NI × NI × NI × NI × NI × NI) => Q u.1 u.2.1 u.2.2.1 u.2.2.2.1 u.2.2.2.2.1 u.2.2.2.2.2) (cB (dC, dI) (kT cyB cyI cyJ cyP) A (fun u : NI × NI × NI × NI × NI × NI => ((qbN a0 jaX jaF jaD ja7 jby jbe jaM jaY jap jaK jal jam jax jao ja5 jaV jbJ jae jag jaf jaN jaC jbw jaw jaI jbG jbg jbB jan jbD jbu jar jaL jah jaB jaa jaz jaH jab jaT a0_s jaq jai jaO jaA jiO jiT jiY jaj jas jaJ jak jad jay jac jaT cyI jb2 a0_s cyI u.1 ja5 cyI jbv jbu cyI u.2.1 jbB cyI u.2.2.1 jbG cyI jcu jbg cyI jbT jbJ cyI jcy jiO cyI u.2.2.2.1 jiY cyI u.2.2.2.2.1 jiT cyI u.2.2.2.2.2) : va_W))) A) args s 0 0 A) (F0 m 99 ls [])) (hK105 : ∀ (H : Heap) (locs : List Loc) (ls : Array Slot) (f0_s jb1 jcb jjl jjp jjq : NI) (l1 l2 : Int32), va_P (dC, dI) vwCl (qbN a0 jaX jaF jaD ja7 jby jbe jaM jaY jap jaK jal jam jax jao ja5 jaV jbJ jae jag jaf jaN jaC jbw jaw jaI jbG jbg jbB jan jbD jbu jar jaL jah jaB jaa jaz jaH jab jaT a0_s jaq jai jaO jaA jiO jiT jiY jaj jas jaJ jak jad jay jac jaT cyI jb2 a0_s cyI f0_s ja5 cyI jbv jbu cyI jb1 jbB cyI jcb jbG cyI jcu jbg cyI jbT jbJ cyI jcy jiO cyI jjl jiY cyI jjp jiT cyI jjq) H → va_D A (qbN a0 jaX jaF jaD ja7 jby jbe jaM jaY jap jaK jal jam jax jao ja5 jaV jbJ jae jag jaf jaN jaC jbw jaw jaI jbG jbg jbB jan jbD jbu jar jaL jah jaB jaa jaz jaH jab jaT a0_s jaq jai jaO jaA jiO jiT jiY jaj jas jaJ jak jad jay jac jaT cyI jb2 a0_s cyI f0_s ja5 cyI jbv jbu cyI jb1 jbB cyI jcb jbG cyI jcu jbg cyI jbT jbJ cyI jcy jiO cyI jjl jiY cyI jjp jiT cyI jjq) → va_S A s.heap H locs → lv_has ls 6 [(0, .ref a0), (1, .int l1), (2, .int l2)] → K105 f0_s jb1 jcb jjl jjp jjq l1 l2 → W p l e (headSpec wsX11_findSeats ({ frames := 7, cells := 0, slots := 0, locals := 160 })).room s m args below meth c H locs 0 0 (MQ below (va_Qv (fun (u : NI × NI × NI × NI × NI × NI) => Q u.1 u.2.1 u.2.2.1 u.2.2.2.1 u.2.2.2.2.1 u.2.2.2.2.2) (cB (dC, dI) (kT cyB cyI cyJ cyP) A (fun u : NI × NI × NI × NI × NI × NI => ((qbN a0 jaX jaF jaD ja7 jby jbe jaM jaY jap jaK jal jam jax jao ja5 jaV jbJ jae jag jaf jaN jaC jbw jaw jaI jbG jbg jbB jan jbD jbu jar jaL jah jaB jaa jaz jaH jab jaT a0_s jaq jai jaO jaA jiO jiT jiY jaj jas jaJ jak jad jay jac jaT cyI jb2 a0_s cyI u.1 ja5 cyI jbv jbu cyI u.2.1 jbB cyI u.2.2.1 jbG cyI jcu jbg cyI jbT jbJ cyI jcy jiO cyI u.2.2.2.1 jiY cyI u.2.2.2.2.1 jiT cyI u.2.2.2.2.2) : va_W))) A) args s 0 0 A) (F0 m 105 ls [])) (C0 : cfx p s m args meth c cX11_findSeats none wsX11_findSeats RX11 6 A (dC, dI) (kT cyB cyI cyJ cyP)) : ∀ (n : Nat) (H : Heap) (locs : List Loc) (ls : Array Slot) (f0_s jb1 jcb jjl jjp jjq : NI) (l1 l2 l3 l4 : Int32), va_P (dC, dI) vwCl (qbN a0 jaX jaF jaD ja7 jby jbe jaM jaY jap jaK jal jam jax jao ja5 jaV jbJ jae jag jaf jaN jaC jbw jaw jaI jbG jbg jbB jan jbD jbu jar jaL jah jaB jaa jaz jaH jab jaT a0_s jaq jai jaO jaA jiO jiT jiY jaj jas jaJ jak jad jay jac jaT cyI jb2 a0_s cyI f0_s ja5 cyI jbv jbu cyI jb1 jbB cyI jcb jbG cyI jcu jbg cyI jbT jbJ cyI jcy jiO cyI jjl jiY cyI jjp jiT cyI jjq) H → va_D A (qbN a0 jaX jaF jaD ja7 jby jbe jaM jaY jap jaK jal jam jax jao ja5 jaV jbJ jae jag jaf jaN jaC jbw jaw jaI jbG jbg jbB jan jbD jbu jar jaL jah jaB jaa jaz jaH jab jaT a0_s jaq jai jaO jaA jiO jiT jiY jaj jas jaJ jak jad jay jac jaT cyI jb2 a0_s cyI f0_s ja5 cyI jbv jbu cyI jb1 jbB cyI jcb jbG cyI jcu jbg cyI jbT jbJ cyI jcy jiO cyI jjl jiY cyI jjp jiT cyI jjq) → va_S A s.heap H locs → lv_has ls 6 [(0, .ref a0), (1, .int l1), (2, .int l2), (3, .int l3), (4, .int l4)] → qlR jaN jaC jbw jbD jb2 jbv jcu jbT jcy Q K99 K105 n f0_s jb1 jcb jjl jjp jjq l1 l2 l3 l4 → W p l e (headSpec wsX11_findSeats ({ frames := 7, cells := 0, slots := 0, locals := 160 })).room s m args below meth c H locs 0 0 (MQ below (va_Qv (fun (u : NI × NI × NI × NI × NI × NI) => Q u.1 u.2.1 u.2.2.1 u.2.2.2.1 u.2.2.2.2.1 u.2.2.2.2.2) (cB (dC, dI) (kT cyB cyI cyJ cyP) A (fun u : NI × NI × NI × NI × NI × NI => ((qbN a0 jaX jaF jaD ja7 jby jbe jaM jaY jap jaK jal jam jax jao ja5 jaV jbJ jae jag jaf jaN jaC jbw jaw jaI jbG jbg jbB jan jbD jbu jar jaL jah jaB jaa jaz jaH jab jaT a0_s jaq jai jaO jaA jiO jiT jiY jaj jas jaJ jak jad jay jac jaT cyI jb2 a0_s cyI u.1 ja5 cyI jbv jbu cyI u.2.1 jbB cyI u.2.2.1 jbG cyI jcu jbg cyI jbT jbJ cyI jcy jiO cyI u.2.2.2.1 jiY cyI u.2.2.2.2.1 jiT cyI u.2.2.2.2.2) : va_W))) A) args s 0 0 A) (F0 m 132 ls []) := by
  obtain ⟨hx, hb, hr, hts, hown, hlocks, hml, hA, hK, hNw⟩ := id C0
  intro n
  induction n with
  | zero => intro H locs ls f0_s jb1 jcb jjl jjp jjq l1 l2 l3 l4 hP hD hS hl hw; exact False.elim hw
  | succ n ih =>
    intro H locs ls f0_s jb1 jcb jjl jjp jjq l1 l2 l3 l4 hP hD hS hl hw
    refine lv_iload hx hb (qaa qcm 3 rfl) (lv_at hl 4 rfl) ?_
    refine lv_aload_n hx hb (qaa qcm 4 rfl) rfl (lv_at hl 0 rfl) ?_
    refine va_get (D := (dC, dI)) (ci := 11) (v := .int jaN) (C := RX11) (T := TX11) (N := 55) hx hb hts qbt hown hK hP 0 rfl rfl 20 (by decide) (hts _ qw6) (fun _ h9 => h9) rfl (qaa qcm 5 rfl) ?_
    refine lv_icmp_ge (tgt := 215) hx hb (qaa qcm 6 rfl) (by decide) (fun c47 => ?_) (fun c47 => ?_)
    · have hw := hw.1 c47
      refine lv_aload_n hx hb (qaa qcv 12 rfl) rfl (lv_at hl 0 rfl) ?_
      refine va_get (D := (dC, dI)) (ci := 11) (v := .ref jiO) (C := RX11) (T := TX11) (N := 55) hx hb hts qbt hown hK hP 0 rfl rfl 45 (by decide) (hts _ qp4) (fun _ h9 => h9) rfl (qaa qcv 13 rfl) ?_
      refine lv_iload_n hx hb (qaa qcv 14 rfl) rfl (lv_at hl 1 rfl) ?_
      refine lv_bipush (v := 8) hx hb (qaa qcv 15 rfl) (by decide) ?_
      refine lv_ishl hx hb (qaa qck 0 rfl) ?_
      refine lv_topi (fun x48 ex48 => ?_)
      have hw := hw x48 ex48
      refine lv_iload_n hx hb (qaa qck 1 rfl) rfl (lv_at hl 2 rfl) ?_
      refine lv_ior hx hb (qaa qck 2 rfl) ?_
      refine lv_topi (fun x49 ex49 => ?_)
      have hw := hw x49 ex49
      refine lv_iload_n hx hb (qaa qck 3 rfl) rfl (lv_at hl 3 rfl) ?_
      obtain ⟨hi9, hw⟩ := hw
      refine va_iast hx hb hK hP hD hS 9 1 rfl rfl hi9 (qaa qck 4 rfl) (fun H locs hP hD hS => ?_)
      obtain ⟨f50, ef50⟩ : ∃ y : NI, y = upd jjl x49.toNatClampNeg l3 := ⟨_, rfl⟩
      have hw := hw f50 ef50
      have hP : va_P (dC, dI) vwCl (qbN a0 jaX jaF jaD ja7 jby jbe jaM jaY jap jaK jal jam jax jao ja5 jaV jbJ jae jag jaf jaN jaC jbw jaw jaI jbG jbg jbB jan jbD jbu jar jaL jah jaB jaa jaz jaH jab jaT a0_s jaq jai jaO jaA jiO jiT jiY jaj jas jaJ jak jad jay jac jaT cyI jb2 a0_s cyI f0_s ja5 cyI jbv jbu cyI jb1 jbB cyI jcb jbG cyI jcu jbg cyI jbT jbJ cyI jcy jiO cyI f50 jiY cyI jjp jiT cyI jjq) H := by rw [ef50]; exact hP
      have hD : va_D A (qbN a0 jaX jaF jaD ja7 jby jbe jaM jaY jap jaK jal jam jax jao ja5 jaV jbJ jae jag jaf jaN jaC jbw jaw jaI jbG jbg jbB jan jbD jbu jar jaL jah jaB jaa jaz jaH jab jaT a0_s jaq jai jaO jaA jiO jiT jiY jaj jas jaJ jak jad jay jac jaT cyI jb2 a0_s cyI f0_s ja5 cyI jbv jbu cyI jb1 jbB cyI jcb jbG cyI jcu jbg cyI jbT jbJ cyI jcy jiO cyI f50 jiY cyI jjp jiT cyI jjq) := by rw [ef50]; exact hD
      obtain ⟨x51, ex51⟩ : ∃ y : Int32, y = l2 + 1 := ⟨_, rfl⟩
      have hw := hw x51 ex51
      refine lv_iinc (v := x51) (lv' := [(2, .int x51), (0, .ref a0), (1, .int l1), (3, .int l3), (4, .int l4)]) hx hb (qaa qck 5 rfl) hl (k := 2) rfl (by rw [ex51]; rfl) (by decide) rfl (fun ls hl => ?_)
      refine lv_goto (tgt := 105) hx hb (qaa qck 6 rfl) (by decide) ?_
      exact hK105 _ _ _ f0_s jb1 jcb f50 jjp jjq l1 x51 hP hD hS (lv_sub hl [1, 2, 0] rfl) hw
    · have hw := hw.2 c47
      refine lv_aload_n hx hb (qaa qcm 7 rfl) rfl (lv_at hl 0 rfl) ?_
      refine va_get (D := (dC, dI)) (ci := 11) (v := .ref jiY) (C := RX11) (T := TX11) (N := 55) hx hb hts qbt hown hK hP 0 rfl rfl 47 (by decide) (hts _ qDn) (fun _ h9 => h9) rfl (qaa qcm 8 rfl) ?_
      refine lv_iload_n hx hb (qaa qcm 9 rfl) rfl (lv_at hl 1 rfl) ?_
      obtain ⟨hi9, hw⟩ := hw
      refine va_iald hx hb hK hP 10 1 rfl rfl hi9 (qaa qcm 10 rfl) ?_
      refine lv_topi (fun x52 ex52 => ?_)
      have hw := hw x52 ex52
      refine lv_iload_n hx hb (qaa qcm 11 rfl) rfl (lv_at hl 2 rfl) ?_
      refine lv_iconst (v := (-1)) hx hb (qaa qcm 12 rfl) (by decide) ?_
      refine lv_ixor hx hb (qaa qcm 13 rfl) ?_
      refine lv_iand hx hb (qaa qcm 14 rfl) ?_
      refine lv_iload hx hb (qaa qcm 15 rfl) (lv_at hl 4 rfl) ?_
      refine lv_ishr hx hb (qaa qco 0 rfl) ?_
      refine lv_iconst (v := 1) hx hb (qaa qco 1 rfl) (by decide) ?_
      refine lv_iand hx hb (qaa qco 2 rfl) ?_
      refine lv_topi (fun x53 ex53 => ?_)
      have hw := hw x53 ex53
      refine lv_istore (lv' := [(5, .int x53), (0, .ref a0), (1, .int l1), (2, .int l2), (3, .int l3), (4, .int l4)]) hx hb (qaa qco 3 rfl) hl (by decide) rfl (fun ls hl => ?_)
      refine lv_iload hx hb (qaa qco 4 rfl) (lv_at hl 0 rfl) ?_
      refine lv_iconst (v := 1) hx hb (qaa qco 5 rfl) (by decide) ?_
      refine lv_icmp_ne (tgt := 209) hx hb (qaa qco 6 rfl) (by decide) (fun c54 => ?_) (fun c54 => ?_)
      · have hw := hw.1 c54
        exact qDC dC dI cyB cyI cyJ cyP a0 jaT a0_s jiY ja5 jbu jbB jbG jbg jbJ jiO jiT jaX jaF jaD ja7 jby jbe jaM jaY jap jaK jal jam jax jao jaV jae jag jaf jaw jaI jan jar jaL jah jaB jaa jaz jaH jab jaq jai jaO jaA jaj jas jaJ jak jad jay jac jaN jaC jbw jbD jb2 jbv jcu jbT jcy Q K99 K105 (qlR jaN jaC jbw jbD jb2 jbv jcu jbT jcy Q K99 K105 n) hK99 hK105 ih C0 _ _ _ f0_s jb1 jcb jjl jjp jjq l1 l2 l3 l4 hP hD hS (lv_sub hl [1, 2, 3, 4, 5] rfl) hw
      · have hw := hw.2 c54
        refine lv_iconst (v := 1) hx hb (qaa qco 7 rfl) (by decide) ?_
        refine lv_aload_n hx hb (qaa qco 8 rfl) rfl (lv_at hl 1 rfl) ?_
        refine va_get (D := (dC, dI)) (ci := 11) (v := .ref jiO) (C := RX11) (T := TX11) (N := 55) hx hb hts qbt hown hK hP 0 rfl rfl 45 (by decide) (hts _ qp4) (fun _ h9 => h9) rfl (qaa qco 9 rfl) ?_
        refine lv_iload_n hx hb (qaa qco 10 rfl) rfl (lv_at hl 2 rfl) ?_
        refine lv_iconst (v := 1) hx hb (qaa qco 11 rfl) (by decide) ?_
        refine lv_iadd hx hb (qaa qco 12 rfl) ?_
        refine lv_topi (fun x55 ex55 => ?_)
        have hw := hw x55 ex55
        refine lv_bipush (v := 8) hx hb (qaa qco 13 rfl) (by decide) ?_
        refine lv_ishl hx hb (qaa qco 14 rfl) ?_
        refine lv_topi (fun x56 ex56 => ?_)
        have hw := hw x56 ex56
        refine lv_iload_n hx hb (qaa qco 15 rfl) rfl (lv_at hl 3 rfl) ?_
        refine lv_ior hx hb (qaa qcq 0 rfl) ?_
        refine lv_topi (fun x57 ex57 => ?_)
        have hw := hw x57 ex57
        refine lv_iconst (v := 1) hx hb (qaa qcq 1 rfl) (by decide) ?_
        refine lv_iload hx hb (qaa qcq 2 rfl) (lv_at hl 5 rfl) ?_
        refine lv_ishl hx hb (qaa qcq 3 rfl) ?_
        refine lv_ior hx hb (qaa qcq 4 rfl) ?_
        refine lv_topi (fun x58 ex58 => ?_)
        have hw := hw x58 ex58
        obtain ⟨hi9, hw⟩ := hw
        refine va_iald hx hb hK hP 9 1 rfl rfl hi9 (qaa qcq 5 rfl) ?_
        refine lv_topi (fun x59 ex59 => ?_)
        have hw := hw x59 ex59
        refine lv_iadd hx hb (qaa qcq 6 rfl) ?_
        refine lv_iload_n hx hb (qaa qcq 7 rfl) rfl (lv_at hl 4 rfl) ?_
        refine lv_icmp_le (tgt := 209) hx hb (qaa qcq 8 rfl) (by decide) (fun c60 => ?_) (fun c60 => ?_)
        · have hw := hw.1 c60
          exact qDC dC dI cyB cyI cyJ cyP a0 jaT a0_s jiY ja5 jbu jbB jbG jbg jbJ jiO jiT jaX jaF jaD ja7 jby jbe jaM jaY jap jaK jal jam jax jao jaV jae jag jaf jaw jaI jan jar jaL jah jaB jaa jaz jaH jab jaq jai jaO jaA jaj jas jaJ jak jad jay jac jaN jaC jbw jbD jb2 jbv jcu jbT jcy Q K99 K105 (qlR jaN jaC jbw jbD jb2 jbv jcu jbT jcy Q K99 K105 n) hK99 hK105 ih C0 _ _ _ f0_s jb1 jcb jjl jjp jjq l1 l2 l3 l4 hP hD hS (lv_sub hl [1, 2, 3, 4, 5] rfl) hw
        · have hw := hw.2 c60
          refine lv_iconst (v := 1) hx hb (qaa qcq 9 rfl) (by decide) ?_
          refine lv_aload_n hx hb (qaa qcq 10 rfl) rfl (lv_at hl 1 rfl) ?_
          refine va_get (D := (dC, dI)) (ci := 11) (v := .ref jiO) (C := RX11) (T := TX11) (N := 55) hx hb hts qbt hown hK hP 0 rfl rfl 45 (by decide) (hts _ qp4) (fun _ h9 => h9) rfl (qaa qcq 11 rfl) ?_
          refine lv_iload_n hx hb (qaa qcq 12 rfl) rfl (lv_at hl 2 rfl) ?_
          refine lv_iconst (v := 1) hx hb (qaa qcq 13 rfl) (by decide) ?_
          refine lv_iadd hx hb (qaa qcq 14 rfl) ?_
          refine lv_topi (fun x61 ex61 => ?_)
          have hw := hw x61 ex61
          refine lv_bipush (v := 8) hx hb (qaa qcq 15 rfl) (by decide) ?_
          refine lv_ishl hx hb (qaa qcv 0 rfl) ?_
          refine lv_topi (fun x62 ex62 => ?_)
          have hw := hw x62 ex62
          refine lv_iload_n hx hb (qaa qcv 1 rfl) rfl (lv_at hl 3 rfl) ?_
          refine lv_ior hx hb (qaa qcv 2 rfl) ?_
          refine lv_topi (fun x63 ex63 => ?_)
          have hw := hw x63 ex63
          refine lv_iconst (v := 1) hx hb (qaa qcv 3 rfl) (by decide) ?_
          refine lv_iload hx hb (qaa qcv 4 rfl) (lv_at hl 5 rfl) ?_
          refine lv_ishl hx hb (qaa qcv 5 rfl) ?_
          refine lv_ior hx hb (qaa qcv 6 rfl) ?_
          refine lv_topi (fun x64 ex64 => ?_)
          have hw := hw x64 ex64
          obtain ⟨hi9, hw⟩ := hw
          refine va_iald hx hb hK hP 9 1 rfl rfl hi9 (qaa qcv 7 rfl) ?_
          refine lv_topi (fun x65 ex65 => ?_)
          have hw := hw x65 ex65
          refine lv_iadd hx hb (qaa qcv 8 rfl) ?_
          refine lv_topi (fun x66 ex66 => ?_)
          have hw := hw x66 ex66
          refine lv_istore_n (lv' := [(3, .int x66), (5, .int x53), (0, .ref a0), (1, .int l1), (2, .int l2), (4, .int l4)]) hx hb (qaa qcv 9 rfl) rfl hl (by decide) rfl (fun ls hl => ?_)
          exact qDC dC dI cyB cyI cyJ cyP a0 jaT a0_s jiY ja5 jbu jbB jbG jbg jbJ jiO jiT jaX jaF jaD ja7 jby jbe jaM jaY jap jaK jal jam jax jao jaV jae jag jaf jaw jaI jan jar jaL jah jaB jaa jaz jaH jab jaq jai jaO jaA jaj jas jaJ jak jad jay jac jaN jaC jbw jbD jb2 jbv jcu jbT jcy Q K99 K105 (qlR jaN jaC jbw jbD jb2 jbv jcu jbT jcy Q K99 K105 n) hK99 hK105 ih C0 _ _ _ f0_s jb1 jcb jjl jjp jjq l1 l2 x66 l4 hP hD hS (lv_sub hl [2, 3, 4, 0, 5] rfl) hw
set_option maxHeartbeats 4000000 in
set_option maxRecDepth 100000 in
theorem q5S {p : Program} {l : Launch} {e : Env} {s : State} {m : MethodId} {args : Array Value} {below : List Frame} {meth : Method} {c : Code} {A : Nat → Prop} (dC : Nat → ClassId) (dI : Nat → Nat → Nat) (cyB cyI cyJ cyP : ClassId) (a0 jaT a0_s jiY ja5 jbu jbB jbG jbg jbJ jiO jiT : Nat) (jaX jaF jaD ja7 jby jbe jaM jaY jap jaK jal jam jax jao jaV jae jag jaf jaw jaI jan jar jaL jah jaB jaa jaz jaH jab jaq jai jaO jaA jaj jas jaJ jak jad jay jac : Value) (jaN jaC jbw jbD : Int32) (jb2 jbv jcu jbT jcy : NI) (Q : NI → NI → NI → NI → NI → NI → Prop) (K99 : NI → NI → NI → NI → NI → NI → Int32 → Prop) (hK99 : ∀ (H : Heap) (locs : List Loc) (ls : Array Slot) (f0_s jb1 jcb jjl jjp jjq : NI) (l1 : Int32), va_P (dC, dI) vwCl (qbN a0 jaX jaF jaD ja7 jby jbe jaM jaY jap jaK jal jam jax jao ja5 jaV jbJ jae jag jaf jaN jaC jbw jaw jaI jbG jbg jbB jan jbD jbu jar jaL jah jaB jaa jaz jaH jab jaT a0_s jaq jai jaO jaA jiO jiT jiY jaj jas jaJ jak jad jay jac jaT cyI jb2 a0_s cyI f0_s ja5 cyI jbv jbu cyI jb1 jbB cyI jcb jbG cyI jcu jbg cyI jbT jbJ cyI jcy jiO cyI jjl jiY cyI jjp jiT cyI jjq) H → va_D A (qbN a0 jaX jaF jaD ja7 jby jbe jaM jaY jap jaK jal jam jax jao ja5 jaV jbJ jae jag jaf jaN jaC jbw jaw jaI jbG jbg jbB jan jbD jbu jar jaL jah jaB jaa jaz jaH jab jaT a0_s jaq jai jaO jaA jiO jiT jiY jaj jas jaJ jak jad jay jac jaT cyI jb2 a0_s cyI f0_s ja5 cyI jbv jbu cyI jb1 jbB cyI jcb jbG cyI jcu jbg cyI jbT jbJ cyI jcy jiO cyI jjl jiY cyI jjp jiT cyI jjq) → va_S A s.heap H locs → lv_has ls 6 [(0, .ref a0), (1, .int l1)] → K99 f0_s jb1 jcb jjl jjp jjq l1 → W p l e (headSpec wsX11_findSeats ({ frames := 7, cells := 0, slots := 0, locals := 160 })).room s m args below meth c H locs 0 0 (MQ below (va_Qv (fun (u : NI × NI × NI × NI × NI × NI) => Q u.1 u.2.1 u.2.2.1 u.2.2.2.1 u.2.2.2.2.1 u.2.2.2.2.2) (cB (dC, dI) (kT cyB cyI cyJ cyP) A (fun u : NI × NI × NI × NI × NI × NI => ((qbN a0 jaX jaF jaD ja7 jby jbe jaM jaY jap jaK jal jam jax jao ja5 jaV jbJ jae jag jaf jaN jaC jbw jaw jaI jbG jbg jbB jan jbD jbu jar jaL jah jaB jaa jaz jaH jab jaT a0_s jaq jai jaO jaA jiO jiT jiY jaj jas jaJ jak jad jay jac jaT cyI jb2 a0_s cyI u.1 ja5 cyI jbv jbu cyI u.2.1 jbB cyI u.2.2.1 jbG cyI jcu jbg cyI jbT jbJ cyI jcy jiO cyI u.2.2.2.1 jiY cyI u.2.2.2.2.1 jiT cyI u.2.2.2.2.2) : va_W))) A) args s 0 0 A) (F0 m 99 ls [])) (C0 : cfx p s m args meth c cX11_findSeats none wsX11_findSeats RX11 6 A (dC, dI) (kT cyB cyI cyJ cyP)) : ∀ (n : Nat) (H : Heap) (locs : List Loc) (ls : Array Slot) (f0_s jb1 jcb jjl jjp jjq : NI) (l1 l2 : Int32), va_P (dC, dI) vwCl (qbN a0 jaX jaF jaD ja7 jby jbe jaM jaY jap jaK jal jam jax jao ja5 jaV jbJ jae jag jaf jaN jaC jbw jaw jaI jbG jbg jbB jan jbD jbu jar jaL jah jaB jaa jaz jaH jab jaT a0_s jaq jai jaO jaA jiO jiT jiY jaj jas jaJ jak jad jay jac jaT cyI jb2 a0_s cyI f0_s ja5 cyI jbv jbu cyI jb1 jbB cyI jcb jbG cyI jcu jbg cyI jbT jbJ cyI jcy jiO cyI jjl jiY cyI jjp jiT cyI jjq) H → va_D A (qbN a0 jaX jaF jaD ja7 jby jbe jaM jaY jap jaK jal jam jax jao ja5 jaV jbJ jae jag jaf jaN jaC jbw jaw jaI jbG jbg jbB jan jbD jbu jar jaL jah jaB jaa jaz jaH jab jaT a0_s jaq jai jaO jaA jiO jiT jiY jaj jas jaJ jak jad jay jac jaT cyI jb2 a0_s cyI f0_s ja5 cyI jbv jbu cyI jb1 jbB cyI jcb jbG cyI jcu jbg cyI jbT jbJ cyI jcy jiO cyI jjl jiY cyI jjp jiT cyI jjq) → va_S A s.heap H locs → lv_has ls 6 [(0, .ref a0), (1, .int l1), (2, .int l2)] → quS jaN jaC jbw jbD jb2 jbv jcu jbT jcy Q K99 n f0_s jb1 jcb jjl jjp jjq l1 l2 → W p l e (headSpec wsX11_findSeats ({ frames := 7, cells := 0, slots := 0, locals := 160 })).room s m args below meth c H locs 0 0 (MQ below (va_Qv (fun (u : NI × NI × NI × NI × NI × NI) => Q u.1 u.2.1 u.2.2.1 u.2.2.2.1 u.2.2.2.2.1 u.2.2.2.2.2) (cB (dC, dI) (kT cyB cyI cyJ cyP) A (fun u : NI × NI × NI × NI × NI × NI => ((qbN a0 jaX jaF jaD ja7 jby jbe jaM jaY jap jaK jal jam jax jao ja5 jaV jbJ jae jag jaf jaN jaC jbw jaw jaI jbG jbg jbB jan jbD jbu jar jaL jah jaB jaa jaz jaH jab jaT a0_s jaq jai jaO jaA jiO jiT jiY jaj jas jaJ jak jad jay jac jaT cyI jb2 a0_s cyI u.1 ja5 cyI jbv jbu cyI u.2.1 jbB cyI u.2.2.1 jbG cyI jcu jbg cyI jbT jbJ cyI jcy jiO cyI u.2.2.2.1 jiY cyI u.2.2.2.2.1 jiT cyI u.2.2.2.2.2) : va_W))) A) args s 0 0 A) (F0 m 105 ls []) := by
  obtain ⟨hx, hb, hr, hts, hown, hlocks, hml, hA, hK, hNw⟩ := id C0
  intro n
  induction n with
  | zero => intro H locs ls f0_s jb1 jcb jjl jjp jjq l1 l2 hP hD hS hl hw; exact False.elim hw
  | succ n ih =>
    intro H locs ls f0_s jb1 jcb jjl jjp jjq l1 l2 hP hD hS hl hw
    refine lv_iload_n hx hb (qaa qcu 0 rfl) rfl (lv_at hl 2 rfl) ?_
    refine lv_iconst (v := 1) hx hb (qaa qcu 1 rfl) (by decide) ?_
    refine lv_aload_n hx hb (qaa qcu 2 rfl) rfl (lv_at hl 0 rfl) ?_
    refine va_get (D := (dC, dI)) (ci := 11) (v := .int jaN) (C := RX11) (T := TX11) (N := 55) hx hb hts qbt hown hK hP 0 rfl rfl 20 (by decide) (hts _ qw6) (fun _ h9 => h9) rfl (qaa qcu 3 rfl) ?_
    refine lv_ishl hx hb (qaa qcu 4 rfl) ?_
    refine lv_icmp_ge (tgt := 233) hx hb (qaa qcu 5 rfl) (by decide) (fun c23 => ?_) (fun c23 => ?_)
    · have hw := hw.1 c23
      obtain ⟨x24, ex24⟩ : ∃ y : Int32, y = l1 + (-1) := ⟨_, rfl⟩
      have hw := hw x24 ex24
      refine lv_iinc (v := x24) (lv' := [(1, .int x24), (0, .ref a0), (2, .int l2)]) hx hb (qaa qck 7 rfl) hl (k := 1) rfl (by rw [ex24]; rfl) (by decide) rfl (fun ls hl => ?_)
      refine lv_goto (tgt := 99) hx hb (qaa qck 8 rfl) (by decide) ?_
      exact hK99 _ _ _ f0_s jb1 jcb jjl jjp jjq x24 hP hD hS (lv_sub hl [1, 0] rfl) hw
    · have hw := hw.2 c23
      refine lv_aload_n hx hb (qaa qcu 6 rfl) rfl (lv_at hl 0 rfl) ?_
      refine va_get (D := (dC, dI)) (ci := 11) (v := .ref jiO) (C := RX11) (T := TX11) (N := 55) hx hb hts qbt hown hK hP 0 rfl rfl 45 (by decide) (hts _ qp4) (fun _ h9 => h9) rfl (qaa qcu 7 rfl) ?_
      refine lv_iload_n hx hb (qaa qcu 8 rfl) rfl (lv_at hl 1 rfl) ?_
      refine lv_iconst (v := 1) hx hb (qaa qcu 9 rfl) (by decide) ?_
      refine lv_iadd hx hb (qaa qcu 10 rfl) ?_
      refine lv_topi (fun x25 ex25 => ?_)
      have hw := hw x25 ex25
      refine lv_bipush (v := 8) hx hb (qaa qcu 11 rfl) (by decide) ?_
      refine lv_ishl hx hb (qaa qcu 12 rfl) ?_
      refine lv_topi (fun x26 ex26 => ?_)
      have hw := hw x26 ex26
      refine lv_iload_n hx hb (qaa qcu 13 rfl) rfl (lv_at hl 2 rfl) ?_
      refine lv_ior hx hb (qaa qcu 14 rfl) ?_
      refine lv_topi (fun x27 ex27 => ?_)
      have hw := hw x27 ex27
      obtain ⟨hi9, hw⟩ := hw
      refine va_iald hx hb hK hP 9 1 rfl rfl hi9 (qaa qcu 15 rfl) ?_
      refine lv_topi (fun x28 ex28 => ?_)
      have hw := hw x28 ex28
      refine lv_istore_n (lv' := [(3, .int x28), (0, .ref a0), (1, .int l1), (2, .int l2)]) hx hb (qaa qcm 0 rfl) rfl hl (by decide) rfl (fun ls hl => ?_)
      refine lv_iconst (v := 0) hx hb (qaa qcm 1 rfl) (by decide) ?_
      refine lv_istore (lv' := [(4, .int 0), (3, .int x28), (0, .ref a0), (1, .int l1), (2, .int l2)]) hx hb (qaa qcm 2 rfl) hl (by decide) rfl (fun ls hl => ?_)
      obtain ⟨n9, hw⟩ := hw
      exact q6p dC dI cyB cyI cyJ cyP a0 jaT a0_s jiY ja5 jbu jbB jbG jbg jbJ jiO jiT jaX jaF jaD ja7 jby jbe jaM jaY jap jaK jal jam jax jao jaV jae jag jaf jaw jaI jan jar jaL jah jaB jaa jaz jaH jab jaq jai jaO jaA jaj jas jaJ jak jad jay jac jaN jaC jbw jbD jb2 jbv jcu jbT jcy Q K99 (quS jaN jaC jbw jbD jb2 jbv jcu jbT jcy Q K99 n) hK99 ih C0 n9 _ _ _ f0_s jb1 jcb jjl jjp jjq l1 l2 x28 0 hP hD hS (lv_sub hl [2, 3, 4, 1, 0] rfl) hw
set_option maxHeartbeats 4000000 in
set_option maxRecDepth 100000 in
theorem qDl {p : Program} {l : Launch} {e : Env} {s : State} {m : MethodId} {args : Array Value} {below : List Frame} {meth : Method} {c : Code} {A : Nat → Prop} (dC : Nat → ClassId) (dI : Nat → Nat → Nat) (cyB cyI cyJ cyP : ClassId) (a0 jaT a0_s jiY ja5 jbu jbB jbG jbg jbJ jiO jiT : Nat) (jaX jaF jaD ja7 jby jbe jaM jaY jap jaK jal jam jax jao jaV jae jag jaf jaw jaI jan jar jaL jah jaB jaa jaz jaH jab jaq jai jaO jaA jaj jas jaJ jak jad jay jac : Value) (jaN jaC jbw jbD : Int32) (jb2 jbv jcu jbT jcy : NI) (Q : NI → NI → NI → NI → NI → NI → Prop) (K243 : NI → NI → NI → NI → NI → NI → Int32 → Int32 → Prop) (K265 : NI → NI → NI → NI → NI → NI → Int32 → Int32 → Int32 → Prop) (hK243 : ∀ (H : Heap) (locs : List Loc) (ls : Array Slot) (f0_s jb1 jcb jjl jjp jjq : NI) (l1 l2 : Int32), va_P (dC, dI) vwCl (qbN a0 jaX jaF jaD ja7 jby jbe jaM jaY jap jaK jal jam jax jao ja5 jaV jbJ jae jag jaf jaN jaC jbw jaw jaI jbG jbg jbB jan jbD jbu jar jaL jah jaB jaa jaz jaH jab jaT a0_s jaq jai jaO jaA jiO jiT jiY jaj jas jaJ jak jad jay jac jaT cyI jb2 a0_s cyI f0_s ja5 cyI jbv jbu cyI jb1 jbB cyI jcb jbG cyI jcu jbg cyI jbT jbJ cyI jcy jiO cyI jjl jiY cyI jjp jiT cyI jjq) H → va_D A (qbN a0 jaX jaF jaD ja7 jby jbe jaM jaY jap jaK jal jam jax jao ja5 jaV jbJ jae jag jaf jaN jaC jbw jaw jaI jbG jbg jbB jan jbD jbu jar jaL jah jaB jaa jaz jaH jab jaT a0_s jaq jai jaO jaA jiO jiT jiY jaj jas jaJ jak jad jay jac jaT cyI jb2 a0_s cyI f0_s ja5 cyI jbv jbu cyI jb1 jbB cyI jcb jbG cyI jcu jbg cyI jbT jbJ cyI jcy jiO cyI jjl jiY cyI jjp jiT cyI jjq) → va_S A s.heap H locs → lv_has ls 6 [(0, .ref a0), (1, .int l1), (2, .int l2)] → K243 f0_s jb1 jcb jjl jjp jjq l1 l2 → W p l e (headSpec wsX11_findSeats ({ frames := 7, cells := 0, slots := 0, locals := 160 })).room s m args below meth c H locs 0 0 (MQ below (va_Qv (fun (u : NI × NI × NI × NI × NI × NI) => Q u.1 u.2.1 u.2.2.1 u.2.2.2.1 u.2.2.2.2.1 u.2.2.2.2.2) (cB (dC, dI) (kT cyB cyI cyJ cyP) A (fun u : NI × NI × NI × NI × NI × NI => ((qbN a0 jaX jaF jaD ja7 jby jbe jaM jaY jap jaK jal jam jax jao ja5 jaV jbJ jae jag jaf jaN jaC jbw jaw jaI jbG jbg jbB jan jbD jbu jar jaL jah jaB jaa jaz jaH jab jaT a0_s jaq jai jaO jaA jiO jiT jiY jaj jas jaJ jak jad jay jac jaT cyI jb2 a0_s cyI u.1 ja5 cyI jbv jbu cyI u.2.1 jbB cyI u.2.2.1 jbG cyI jcu jbg cyI jbT jbJ cyI jcy jiO cyI u.2.2.2.1 jiY cyI u.2.2.2.2.1 jiT cyI u.2.2.2.2.2) : va_W))) A) args s 0 0 A) (F0 m 243 ls [])) (hK265 : ∀ (H : Heap) (locs : List Loc) (ls : Array Slot) (f0_s jb1 jcb jjl jjp jjq : NI) (l1 l2 l3 : Int32), va_P (dC, dI) vwCl (qbN a0 jaX jaF jaD ja7 jby jbe jaM jaY jap jaK jal jam jax jao ja5 jaV jbJ jae jag jaf jaN jaC jbw jaw jaI jbG jbg jbB jan jbD jbu jar jaL jah jaB jaa jaz jaH jab jaT a0_s jaq jai jaO jaA jiO jiT jiY jaj jas jaJ jak jad jay jac jaT cyI jb2 a0_s cyI f0_s ja5 cyI jbv jbu cyI jb1 jbB cyI jcb jbG cyI jcu jbg cyI jbT jbJ cyI jcy jiO cyI jjl jiY cyI jjp jiT cyI jjq) H → va_D A (qbN a0 jaX jaF jaD ja7 jby jbe jaM jaY jap jaK jal jam jax jao ja5 jaV jbJ jae jag jaf jaN jaC jbw jaw jaI jbG jbg jbB jan jbD jbu jar jaL jah jaB jaa jaz jaH jab jaT a0_s jaq jai jaO jaA jiO jiT jiY jaj jas jaJ jak jad jay jac jaT cyI jb2 a0_s cyI f0_s ja5 cyI jbv jbu cyI jb1 jbB cyI jcb jbG cyI jcu jbg cyI jbT jbJ cyI jcy jiO cyI jjl jiY cyI jjp jiT cyI jjq) → va_S A s.heap H locs → lv_has ls 6 [(0, .ref a0), (1, .int l1), (2, .int l2), (3, .int l3)] → K265 f0_s jb1 jcb jjl jjp jjq l1 l2 l3 → W p l e (headSpec wsX11_findSeats ({ frames := 7, cells := 0, slots := 0, locals := 160 })).room s m args below meth c H locs 0 0 (MQ below (va_Qv (fun (u : NI × NI × NI × NI × NI × NI) => Q u.1 u.2.1 u.2.2.1 u.2.2.2.1 u.2.2.2.2.1 u.2.2.2.2.2) (cB (dC, dI) (kT cyB cyI cyJ cyP) A (fun u : NI × NI × NI × NI × NI × NI => ((qbN a0 jaX jaF jaD ja7 jby jbe jaM jaY jap jaK jal jam jax jao ja5 jaV jbJ jae jag jaf jaN jaC jbw jaw jaI jbG jbg jbB jan jbD jbu jar jaL jah jaB jaa jaz jaH jab jaT a0_s jaq jai jaO jaA jiO jiT jiY jaj jas jaJ jak jad jay jac jaT cyI jb2 a0_s cyI u.1 ja5 cyI jbv jbu cyI u.2.1 jbB cyI u.2.2.1 jbG cyI jcu jbg cyI jbT jbJ cyI jcy jiO cyI u.2.2.2.1 jiY cyI u.2.2.2.2.1 jiT cyI u.2.2.2.2.2) : va_W))) A) args s 0 0 A) (F0 m 265 ls [])) (C0 : cfx p s m args meth c cX11_findSeats none wsX11_findSeats RX11 6 A (dC, dI) (kT cyB cyI cyJ cyP)) : ∀ (H : Heap) (locs : List Loc) (ls : Array Slot) (f0_s jb1 jcb jjl jjp jjq : NI) (l1 l2 l3 : Int32), va_P (dC, dI) vwCl (qbN a0 jaX jaF jaD ja7 jby jbe jaM jaY jap jaK jal jam jax jao ja5 jaV jbJ jae jag jaf jaN jaC jbw jaw jaI jbG jbg jbB jan jbD jbu jar jaL jah jaB jaa jaz jaH jab jaT a0_s jaq jai jaO jaA jiO jiT jiY jaj jas jaJ jak jad jay jac jaT cyI jb2 a0_s cyI f0_s ja5 cyI jbv jbu cyI jb1 jbB cyI jcb jbG cyI jcu jbg cyI jbT jbJ cyI jcy jiO cyI jjl jiY cyI jjp jiT cyI jjq) H → va_D A (qbN a0 jaX jaF jaD ja7 jby jbe jaM jaY jap jaK jal jam jax jao ja5 jaV jbJ jae jag jaf jaN jaC jbw jaw jaI jbG jbg jbB jan jbD jbu jar jaL jah jaB jaa jaz jaH jab jaT a0_s jaq jai jaO jaA jiO jiT jiY jaj jas jaJ jak jad jay jac jaT cyI jb2 a0_s cyI f0_s ja5 cyI jbv jbu cyI jb1 jbB cyI jcb jbG cyI jcu jbg cyI jbT jbJ cyI jcy jiO cyI jjl jiY cyI jjp jiT cyI jjq) → va_S A s.heap H locs → lv_has ls 6 [(0, .ref a0), (1, .int l1), (2, .int l2), (3, .int l3)] → qxU jaN jaC jbw jbD jb2 jbv jcu jbT jcy Q K243 K265 f0_s jb1 jcb jjl jjp jjq l1 l2 l3 → W p l e (headSpec wsX11_findSeats ({ frames := 7, cells := 0, slots := 0, locals := 160 })).room s m args below meth c H locs 0 0 (MQ below (va_Qv (fun (u : NI × NI × NI × NI × NI × NI) => Q u.1 u.2.1 u.2.2.1 u.2.2.2.1 u.2.2.2.2.1 u.2.2.2.2.2) (cB (dC, dI) (kT cyB cyI cyJ cyP) A (fun u : NI × NI × NI × NI × NI × NI => ((qbN a0 jaX jaF jaD ja7 jby jbe jaM jaY jap jaK jal jam jax jao ja5 jaV jbJ jae jag jaf jaN jaC jbw jaw jaI jbG jbg jbB jan jbD jbu jar jaL jah jaB jaa jaz jaH jab jaT a0_s jaq jai jaO jaA jiO jiT jiY jaj jas jaJ jak jad jay jac jaT cyI jb2 a0_s cyI u.1 ja5 cyI jbv jbu cyI u.2.1 jbB cyI u.2.2.1 jbG cyI jcu jbg cyI jbT jbJ cyI jcy jiO cyI u.2.2.2.1 jiY cyI u.2.2.2.2.1 jiT cyI u.2.2.2.2.2) : va_W))) A) args s 0 0 A) (F0 m 327 ls []) := by
  obtain ⟨hx, hb, hr, hts, hown, hlocks, hml, hA, hK, hNw⟩ := id C0
  intro H locs ls f0_s jb1 jcb jjl jjp jjq l1 l2 l3 hP hD hS hl hw
  obtain ⟨x68, ex68⟩ : ∃ y : Int32, y = l3 + (-1) := ⟨_, rfl⟩
  have hw := hw x68 ex68
  refine lv_iinc (v := x68) (lv' := [(3, .int x68), (0, .ref a0), (1, .int l1), (2, .int l2)]) hx hb (qaa qcs 9 rfl) hl (k := 3) rfl (by rw [ex68]; rfl) (by decide) rfl (fun ls hl => ?_)
  refine lv_goto (tgt := 265) hx hb (qaa qcs 10 rfl) (by decide) ?_
  exact hK265 _ _ _ f0_s jb1 jcb jjl jjp jjq l1 l2 x68 hP hD hS (lv_sub hl [1, 2, 3, 0] rfl) hw
set_option maxHeartbeats 4000000 in
set_option maxRecDepth 100000 in
theorem qNE {p : Program} {l : Launch} {e : Env} {s : State} {m : MethodId} {args : Array Value} {below : List Frame} {meth : Method} {c : Code} {A : Nat → Prop} (dC : Nat → ClassId) (dI : Nat → Nat → Nat) (cyB cyI cyJ cyP : ClassId) (a0 jaT a0_s jiY ja5 jbu jbB jbG jbg jbJ jiO jiT : Nat) (jaX jaF jaD ja7 jby jbe jaM jaY jap jaK jal jam jax jao jaV jae jag jaf jaw jaI jan jar jaL jah jaB jaa jaz jaH jab jaq jai jaO jaA jaj jas jaJ jak jad jay jac : Value) (jaN jaC jbw jbD : Int32) (jb2 jbv jcu jbT jcy : NI) (Q : NI → NI → NI → NI → NI → NI → Prop) (K243 : NI → NI → NI → NI → NI → NI → Int32 → Int32 → Prop) (hK243 : ∀ (H : Heap) (locs : List Loc) (ls : Array Slot) (f0_s jb1 jcb jjl jjp jjq : NI) (l1 l2 : Int32), va_P (dC, dI) vwCl (qbN a0 jaX jaF jaD ja7 jby jbe jaM jaY jap jaK jal jam jax jao ja5 jaV jbJ jae jag jaf jaN jaC jbw jaw jaI jbG jbg jbB jan jbD jbu jar jaL jah jaB jaa jaz jaH jab jaT a0_s jaq jai jaO jaA jiO jiT jiY jaj jas jaJ jak jad jay jac jaT cyI jb2 a0_s cyI f0_s ja5 cyI jbv jbu cyI jb1 jbB cyI jcb jbG cyI jcu jbg cyI jbT jbJ cyI jcy jiO cyI jjl jiY cyI jjp jiT cyI jjq) H → va_D A (qbN a0 jaX jaF jaD ja7 jby jbe jaM jaY jap jaK jal jam jax jao ja5 jaV jbJ jae jag jaf jaN jaC jbw jaw jaI jbG jbg jbB jan jbD jbu jar jaL jah jaB jaa jaz jaH jab jaT a0_s jaq jai jaO jaA jiO jiT jiY jaj jas jaJ jak jad jay jac jaT cyI jb2 a0_s cyI f0_s ja5 cyI jbv jbu cyI jb1 jbB cyI jcb jbG cyI jcu jbg cyI jbT jbJ cyI jcy jiO cyI jjl jiY cyI jjp jiT cyI jjq) → va_S A s.heap H locs → lv_has ls 6 [(0, .ref a0), (1, .int l1), (2, .int l2)] → K243 f0_s jb1 jcb jjl jjp jjq l1 l2 → W p l e (headSpec wsX11_findSeats ({ frames := 7, cells := 0, slots := 0, locals := 160 })).room s m args below meth c H locs 0 0 (MQ below (va_Qv (fun (u : NI × NI × NI × NI × NI × NI) => Q u.1 u.2.1 u.2.2.1 u.2.2.2.1 u.2.2.2.2.1 u.2.2.2.2.2) (cB (dC, dI) (kT cyB cyI cyJ cyP) A (fun u : NI × NI × NI × NI × NI × NI => ((qbN a0 jaX jaF jaD ja7 jby jbe jaM jaY jap jaK jal jam jax jao ja5 jaV jbJ jae jag jaf jaN jaC jbw jaw jaI jbG jbg jbB jan jbD jbu jar jaL jah jaB jaa jaz jaH jab jaT a0_s jaq jai jaO jaA jiO jiT jiY jaj jas jaJ jak jad jay jac jaT cyI jb2 a0_s cyI u.1 ja5 cyI jbv jbu cyI u.2.1 jbB cyI u.2.2.1 jbG cyI jcu jbg cyI jbT jbJ cyI jcy jiO cyI u.2.2.2.1 jiY cyI u.2.2.2.2.1 jiT cyI u.2.2.2.2.2) : va_W))) A) args s 0 0 A) (F0 m 243 ls [])) (C0 : cfx p s m args meth c cX11_findSeats none wsX11_findSeats RX11 6 A (dC, dI) (kT cyB cyI cyJ cyP)) : ∀ (H : Heap) (locs : List Loc) (ls : Array Slot) (f0_s jb1 jcb jjl jjp jjq : NI) (l1 l2 : Int32), va_P (dC, dI) vwCl (qbN a0 jaX jaF jaD ja7 jby jbe jaM jaY jap jaK jal jam jax jao ja5 jaV jbJ jae jag jaf jaN jaC jbw jaw jaI jbG jbg jbB jan jbD jbu jar jaL jah jaB jaa jaz jaH jab jaT a0_s jaq jai jaO jaA jiO jiT jiY jaj jas jaJ jak jad jay jac jaT cyI jb2 a0_s cyI f0_s ja5 cyI jbv jbu cyI jb1 jbB cyI jcb jbG cyI jcu jbg cyI jbT jbJ cyI jcy jiO cyI jjl jiY cyI jjp jiT cyI jjq) H → va_D A (qbN a0 jaX jaF jaD ja7 jby jbe jaM jaY jap jaK jal jam jax jao ja5 jaV jbJ jae jag jaf jaN jaC jbw jaw jaI jbG jbg jbB jan jbD jbu jar jaL jah jaB jaa jaz jaH jab jaT a0_s jaq jai jaO jaA jiO jiT jiY jaj jas jaJ jak jad jay jac jaT cyI jb2 a0_s cyI f0_s ja5 cyI jbv jbu cyI jb1 jbB cyI jcb jbG cyI jcu jbg cyI jbT jbJ cyI jcy jiO cyI jjl jiY cyI jjp jiT cyI jjq) → va_S A s.heap H locs → lv_has ls 6 [(0, .ref a0), (1, .int l1), (2, .int l2)] → qDy jaN jaC jbw jbD jb2 jbv jcu jbT jcy Q K243 f0_s jb1 jcb jjl jjp jjq l1 l2 → W p l e (headSpec wsX11_findSeats ({ frames := 7, cells := 0, slots := 0, locals := 160 })).room s m args below meth c H locs 0 0 (MQ below (va_Qv (fun (u : NI × NI × NI × NI × NI × NI) => Q u.1 u.2.1 u.2.2.1 u.2.2.2.1 u.2.2.2.2.1 u.2.2.2.2.2) (cB (dC, dI) (kT cyB cyI cyJ cyP) A (fun u : NI × NI × NI × NI × NI × NI => ((qbN a0 jaX jaF jaD ja7 jby jbe jaM jaY jap jaK jal jam jax jao ja5 jaV jbJ jae jag jaf jaN jaC jbw jaw jaI jbG jbg jbB jan jbD jbu jar jaL jah jaB jaa jaz jaH jab jaT a0_s jaq jai jaO jaA jiO jiT jiY jaj jas jaJ jak jad jay jac jaT cyI jb2 a0_s cyI u.1 ja5 cyI jbv jbu cyI u.2.1 jbB cyI u.2.2.1 jbG cyI jcu jbg cyI jbT jbJ cyI jcy jiO cyI u.2.2.2.1 jiY cyI u.2.2.2.2.1 jiT cyI u.2.2.2.2.2) : va_W))) A) args s 0 0 A) (F0 m 354 ls []) := by
  obtain ⟨hx, hb, hr, hts, hown, hlocks, hml, hA, hK, hNw⟩ := id C0
  intro H locs ls f0_s jb1 jcb jjl jjp jjq l1 l2 hP hD hS hl hw
  obtain ⟨x67, ex67⟩ : ∃ y : Int32, y = l2 + 1 := ⟨_, rfl⟩
  have hw := hw x67 ex67
  refine lv_iinc (v := x67) (lv' := [(2, .int x67), (0, .ref a0), (1, .int l1)]) hx hb (qaa qiY 7 rfl) hl (k := 2) rfl (by rw [ex67]; rfl) (by decide) rfl (fun ls hl => ?_)
  refine lv_goto (tgt := 243) hx hb (qaa qiY 8 rfl) (by decide) ?_
  exact hK243 _ _ _ f0_s jb1 jcb jjl jjp jjq l1 x67 hP hD hS (lv_sub hl [1, 2, 0] rfl) hw
set_option maxHeartbeats 4000000 in
set_option maxRecDepth 100000 in
theorem q6t {p : Program} {l : Launch} {e : Env} {s : State} {m : MethodId} {args : Array Value} {below : List Frame} {meth : Method} {c : Code} {A : Nat → Prop} (dC : Nat → ClassId) (dI : Nat → Nat → Nat) (cyB cyI cyJ cyP : ClassId) (a0 jaT a0_s jiY ja5 jbu jbB jbG jbg jbJ jiO jiT : Nat) (jaX jaF jaD ja7 jby jbe jaM jaY jap jaK jal jam jax jao jaV jae jag jaf jaw jaI jan jar jaL jah jaB jaa jaz jaH jab jaq jai jaO jaA jaj jas jaJ jak jad jay jac : Value) (jaN jaC jbw jbD : Int32) (jb2 jbv jcu jbT jcy : NI) (Q : NI → NI → NI → NI → NI → NI → Prop) (K243 : NI → NI → NI → NI → NI → NI → Int32 → Int32 → Prop) (hK243 : ∀ (H : Heap) (locs : List Loc) (ls : Array Slot) (f0_s jb1 jcb jjl jjp jjq : NI) (l1 l2 : Int32), va_P (dC, dI) vwCl (qbN a0 jaX jaF jaD ja7 jby jbe jaM jaY jap jaK jal jam jax jao ja5 jaV jbJ jae jag jaf jaN jaC jbw jaw jaI jbG jbg jbB jan jbD jbu jar jaL jah jaB jaa jaz jaH jab jaT a0_s jaq jai jaO jaA jiO jiT jiY jaj jas jaJ jak jad jay jac jaT cyI jb2 a0_s cyI f0_s ja5 cyI jbv jbu cyI jb1 jbB cyI jcb jbG cyI jcu jbg cyI jbT jbJ cyI jcy jiO cyI jjl jiY cyI jjp jiT cyI jjq) H → va_D A (qbN a0 jaX jaF jaD ja7 jby jbe jaM jaY jap jaK jal jam jax jao ja5 jaV jbJ jae jag jaf jaN jaC jbw jaw jaI jbG jbg jbB jan jbD jbu jar jaL jah jaB jaa jaz jaH jab jaT a0_s jaq jai jaO jaA jiO jiT jiY jaj jas jaJ jak jad jay jac jaT cyI jb2 a0_s cyI f0_s ja5 cyI jbv jbu cyI jb1 jbB cyI jcb jbG cyI jcu jbg cyI jbT jbJ cyI jcy jiO cyI jjl jiY cyI jjp jiT cyI jjq) → va_S A s.heap H locs → lv_has ls 6 [(0, .ref a0), (1, .int l1), (2, .int l2)] → K243 f0_s jb1 jcb jjl jjp jjq l1 l2 → W p l e (headSpec wsX11_findSeats ({ frames := 7, cells := 0, slots := 0, locals := 160 })).room s m args below meth c H locs 0 0 (MQ below (va_Qv (fun (u : NI × NI × NI × NI × NI × NI) => Q u.1 u.2.1 u.2.2.1 u.2.2.2.1 u.2.2.2.2.1 u.2.2.2.2.2) (cB (dC, dI) (kT cyB cyI cyJ cyP) A (fun u : NI × NI × NI × NI × NI × NI => ((qbN a0 jaX jaF jaD ja7 jby jbe jaM jaY jap jaK jal jam jax jao ja5 jaV jbJ jae jag jaf jaN jaC jbw jaw jaI jbG jbg jbB jan jbD jbu jar jaL jah jaB jaa jaz jaH jab jaT a0_s jaq jai jaO jaA jiO jiT jiY jaj jas jaJ jak jad jay jac jaT cyI jb2 a0_s cyI u.1 ja5 cyI jbv jbu cyI u.2.1 jbB cyI u.2.2.1 jbG cyI jcu jbg cyI jbT jbJ cyI jcy jiO cyI u.2.2.2.1 jiY cyI u.2.2.2.2.1 jiT cyI u.2.2.2.2.2) : va_W))) A) args s 0 0 A) (F0 m 243 ls [])) (C0 : cfx p s m args meth c cX11_findSeats none wsX11_findSeats RX11 6 A (dC, dI) (kT cyB cyI cyJ cyP)) : ∀ (n : Nat) (H : Heap) (locs : List Loc) (ls : Array Slot) (f0_s jb1 jcb jjl jjp jjq : NI) (l1 l2 l3 : Int32), va_P (dC, dI) vwCl (qbN a0 jaX jaF jaD ja7 jby jbe jaM jaY jap jaK jal jam jax jao ja5 jaV jbJ jae jag jaf jaN jaC jbw jaw jaI jbG jbg jbB jan jbD jbu jar jaL jah jaB jaa jaz jaH jab jaT a0_s jaq jai jaO jaA jiO jiT jiY jaj jas jaJ jak jad jay jac jaT cyI jb2 a0_s cyI f0_s ja5 cyI jbv jbu cyI jb1 jbB cyI jcb jbG cyI jcu jbg cyI jbT jbJ cyI jcy jiO cyI jjl jiY cyI jjp jiT cyI jjq) H → va_D A (qbN a0 jaX jaF jaD ja7 jby jbe jaM jaY jap jaK jal jam jax jao ja5 jaV jbJ jae jag jaf jaN jaC jbw jaw jaI jbG jbg jbB jan jbD jbu jar jaL jah jaB jaa jaz jaH jab jaT a0_s jaq jai jaO jaA jiO jiT jiY jaj jas jaJ jak jad jay jac jaT cyI jb2 a0_s cyI f0_s ja5 cyI jbv jbu cyI jb1 jbB cyI jcb jbG cyI jcu jbg cyI jbT jbJ cyI jcy jiO cyI jjl jiY cyI jjp jiT cyI jjq) → va_S A s.heap H locs → lv_has ls 6 [(0, .ref a0), (1, .int l1), (2, .int l2), (3, .int l3)] → qi9 jaN jaC jbw jbD jb2 jbv jcu jbT jcy Q K243 n f0_s jb1 jcb jjl jjp jjq l1 l2 l3 → W p l e (headSpec wsX11_findSeats ({ frames := 7, cells := 0, slots := 0, locals := 160 })).room s m args below meth c H locs 0 0 (MQ below (va_Qv (fun (u : NI × NI × NI × NI × NI × NI) => Q u.1 u.2.1 u.2.2.1 u.2.2.2.1 u.2.2.2.2.1 u.2.2.2.2.2) (cB (dC, dI) (kT cyB cyI cyJ cyP) A (fun u : NI × NI × NI × NI × NI × NI => ((qbN a0 jaX jaF jaD ja7 jby jbe jaM jaY jap jaK jal jam jax jao ja5 jaV jbJ jae jag jaf jaN jaC jbw jaw jaI jbG jbg jbB jan jbD jbu jar jaL jah jaB jaa jaz jaH jab jaT a0_s jaq jai jaO jaA jiO jiT jiY jaj jas jaJ jak jad jay jac jaT cyI jb2 a0_s cyI u.1 ja5 cyI jbv jbu cyI u.2.1 jbB cyI u.2.2.1 jbG cyI jcu jbg cyI jbT jbJ cyI jcy jiO cyI u.2.2.2.1 jiY cyI u.2.2.2.2.1 jiT cyI u.2.2.2.2.2) : va_W))) A) args s 0 0 A) (F0 m 265 ls []) := by
  obtain ⟨hx, hb, hr, hts, hown, hlocks, hml, hA, hK, hNw⟩ := id C0
  intro n
  induction n with
  | zero => intro H locs ls f0_s jb1 jcb jjl jjp jjq l1 l2 l3 hP hD hS hl hw; exact False.elim hw
  | succ n ih =>
    intro H locs ls f0_s jb1 jcb jjl jjp jjq l1 l2 l3 hP hD hS hl hw
    refine lv_iload_n hx hb (qaa qcn 11 rfl) rfl (lv_at hl 3 rfl) ?_
    refine lv_if_lt (tgt := 333) hx hb (qaa qcn 12 rfl) (by decide) (fun c29 => ?_) (fun c29 => ?_)
    · have hw := hw.1 c29
      refine lv_aload_n hx hb (qaa qcs 11 rfl) rfl (lv_at hl 0 rfl) ?_
      refine va_get (D := (dC, dI)) (ci := 11) (v := .ref jiT) (C := RX11) (T := TX11) (N := 55) hx hb hts qbt hown hK hP 0 rfl rfl 46 (by decide) (hts _ qxZ) (fun _ h9 => h9) rfl (qaa qcs 12 rfl) ?_
      refine lv_iload_n hx hb (qaa qcs 13 rfl) rfl (lv_at hl 2 rfl) ?_
      obtain ⟨hi9, hw⟩ := hw
      refine va_iald hx hb hK hP 11 1 rfl rfl hi9 (qaa qcs 14 rfl) ?_
      refine lv_topi (fun x30 ex30 => ?_)
      have hw := hw x30 ex30
      refine lv_iconst (v := (-1)) hx hb (qaa qcs 15 rfl) (by decide) ?_
      refine lv_icmp_eq (tgt := 354) hx hb (qaa qDE 0 rfl) (by decide) (fun c31 => ?_) (fun c31 => ?_)
      · have hw := hw.1 c31
        exact qNE dC dI cyB cyI cyJ cyP a0 jaT a0_s jiY ja5 jbu jbB jbG jbg jbJ jiO jiT jaX jaF jaD ja7 jby jbe jaM jaY jap jaK jal jam jax jao jaV jae jag jaf jaw jaI jan jar jaL jah jaB jaa jaz jaH jab jaq jai jaO jaA jaj jas jaJ jak jad jay jac jaN jaC jbw jbD jb2 jbv jcu jbT jcy Q K243 hK243 C0 _ _ _ f0_s jb1 jcb jjl jjp jjq l1 l2 hP hD hS (lv_sub hl [0, 1, 2] rfl) hw
      · have hw := hw.2 c31
        refine lv_iload_n hx hb (qaa qDE 1 rfl) rfl (lv_at hl 1 rfl) ?_
        refine lv_iconst (v := 1) hx hb (qaa qDE 2 rfl) (by decide) ?_
        refine lv_aload_n hx hb (qaa qiY 0 rfl) rfl (lv_at hl 0 rfl) ?_
        refine va_get (D := (dC, dI)) (ci := 11) (v := .ref jiT) (C := RX11) (T := TX11) (N := 55) hx hb hts qbt hown hK hP 0 rfl rfl 46 (by decide) (hts _ qxZ) (fun _ h9 => h9) rfl (qaa qiY 1 rfl) ?_
        refine lv_iload_n hx hb (qaa qiY 2 rfl) rfl (lv_at hl 2 rfl) ?_
        obtain ⟨hi9, hw⟩ := hw
        refine va_iald hx hb hK hP 11 1 rfl rfl hi9 (qaa qiY 3 rfl) ?_
        refine lv_topi (fun x32 ex32 => ?_)
        have hw := hw x32 ex32
        refine lv_ishl hx hb (qaa qiY 4 rfl) ?_
        refine lv_ior hx hb (qaa qiY 5 rfl) ?_
        refine lv_topi (fun x33 ex33 => ?_)
        have hw := hw x33 ex33
        refine lv_istore_n (lv' := [(1, .int x33), (0, .ref a0), (2, .int l2), (3, .int l3)]) hx hb (qaa qiY 6 rfl) rfl hl (by decide) rfl (fun ls hl => ?_)
        exact qNE dC dI cyB cyI cyJ cyP a0 jaT a0_s jiY ja5 jbu jbB jbG jbg jbJ jiO jiT jaX jaF jaD ja7 jby jbe jaM jaY jap jaK jal jam jax jao jaV jae jag jaf jaw jaI jan jar jaL jah jaB jaa jaz jaH jab jaq jai jaO jaA jaj jas jaJ jak jad jay jac jaN jaC jbw jbD jb2 jbv jcu jbT jcy Q K243 hK243 C0 _ _ _ f0_s jb1 jcb jjl jjp jjq x33 l2 hP hD hS (lv_sub hl [1, 0, 2] rfl) hw
    · have hw := hw.2 c29
      refine lv_aload_n hx hb (qaa qcn 13 rfl) rfl (lv_at hl 0 rfl) ?_
      refine va_get (D := (dC, dI)) (ci := 11) (v := .ref jiY) (C := RX11) (T := TX11) (N := 55) hx hb hts qbt hown hK hP 0 rfl rfl 47 (by decide) (hts _ qDn) (fun _ h9 => h9) rfl (qaa qcn 14 rfl) ?_
      refine lv_iload_n hx hb (qaa qcn 15 rfl) rfl (lv_at hl 2 rfl) ?_
      obtain ⟨hi9, hw⟩ := hw
      refine va_iald hx hb hK hP 10 1 rfl rfl hi9 (qaa qct 0 rfl) ?_
      refine lv_topi (fun x34 ex34 => ?_)
      have hw := hw x34 ex34
      refine lv_iload_n hx hb (qaa qct 1 rfl) rfl (lv_at hl 1 rfl) ?_
      refine lv_iconst (v := (-1)) hx hb (qaa qct 2 rfl) (by decide) ?_
      refine lv_ixor hx hb (qaa qct 3 rfl) ?_
      refine lv_iand hx hb (qaa qct 4 rfl) ?_
      refine lv_iload_n hx hb (qaa qct 5 rfl) rfl (lv_at hl 3 rfl) ?_
      refine lv_ishr hx hb (qaa qct 6 rfl) ?_
      refine lv_iconst (v := 1) hx hb (qaa qct 7 rfl) (by decide) ?_
      refine lv_iand hx hb (qaa qct 8 rfl) ?_
      refine lv_topi (fun x35 ex35 => ?_)
      have hw := hw x35 ex35
      refine lv_iconst (v := 1) hx hb (qaa qct 9 rfl) (by decide) ?_
      refine lv_icmp_ne (tgt := 327) hx hb (qaa qct 10 rfl) (by decide) (fun c36 => ?_) (fun c36 => ?_)
      · have hw := hw.1 c36
        exact qDl dC dI cyB cyI cyJ cyP a0 jaT a0_s jiY ja5 jbu jbB jbG jbg jbJ jiO jiT jaX jaF jaD ja7 jby jbe jaM jaY jap jaK jal jam jax jao jaV jae jag jaf jaw jaI jan jar jaL jah jaB jaa jaz jaH jab jaq jai jaO jaA jaj jas jaJ jak jad jay jac jaN jaC jbw jbD jb2 jbv jcu jbT jcy Q K243 (qi9 jaN jaC jbw jbD jb2 jbv jcu jbT jcy Q K243 n) hK243 ih C0 _ _ _ f0_s jb1 jcb jjl jjp jjq l1 l2 l3 hP hD hS (lv_sub hl [0, 1, 2, 3] rfl) hw
      · have hw := hw.2 c36
        refine lv_iconst (v := 1) hx hb (qaa qct 11 rfl) (by decide) ?_
        refine lv_aload_n hx hb (qaa qct 12 rfl) rfl (lv_at hl 0 rfl) ?_
        refine va_get (D := (dC, dI)) (ci := 11) (v := .ref jiO) (C := RX11) (T := TX11) (N := 55) hx hb hts qbt hown hK hP 0 rfl rfl 45 (by decide) (hts _ qp4) (fun _ h9 => h9) rfl (qaa qct 13 rfl) ?_
        refine lv_iload_n hx hb (qaa qct 14 rfl) rfl (lv_at hl 2 rfl) ?_
        refine lv_iconst (v := 1) hx hb (qaa qct 15 rfl) (by decide) ?_
        refine lv_iadd hx hb (qaa qcj 0 rfl) ?_
        refine lv_topi (fun x37 ex37 => ?_)
        have hw := hw x37 ex37
        refine lv_bipush (v := 8) hx hb (qaa qcj 1 rfl) (by decide) ?_
        refine lv_ishl hx hb (qaa qcj 2 rfl) ?_
        refine lv_topi (fun x38 ex38 => ?_)
        have hw := hw x38 ex38
        refine lv_iload_n hx hb (qaa qcj 3 rfl) rfl (lv_at hl 1 rfl) ?_
        refine lv_ior hx hb (qaa qcj 4 rfl) ?_
        refine lv_topi (fun x39 ex39 => ?_)
        have hw := hw x39 ex39
        refine lv_iconst (v := 1) hx hb (qaa qcj 5 rfl) (by decide) ?_
        refine lv_iload_n hx hb (qaa qcj 6 rfl) rfl (lv_at hl 3 rfl) ?_
        refine lv_ishl hx hb (qaa qcj 7 rfl) ?_
        refine lv_ior hx hb (qaa qcj 8 rfl) ?_
        refine lv_topi (fun x40 ex40 => ?_)
        have hw := hw x40 ex40
        obtain ⟨hi9, hw⟩ := hw
        refine va_iald hx hb hK hP 9 1 rfl rfl hi9 (qaa qcj 9 rfl) ?_
        refine lv_topi (fun x41 ex41 => ?_)
        have hw := hw x41 ex41
        refine lv_iadd hx hb (qaa qcj 10 rfl) ?_
        refine lv_aload_n hx hb (qaa qcj 11 rfl) rfl (lv_at hl 0 rfl) ?_
        refine va_get (D := (dC, dI)) (ci := 11) (v := .ref jiO) (C := RX11) (T := TX11) (N := 55) hx hb hts qbt hown hK hP 0 rfl rfl 45 (by decide) (hts _ qp4) (fun _ h9 => h9) rfl (qaa qcj 12 rfl) ?_
        refine lv_iload_n hx hb (qaa qcj 13 rfl) rfl (lv_at hl 2 rfl) ?_
        refine lv_bipush (v := 8) hx hb (qaa qcj 14 rfl) (by decide) ?_
        refine lv_ishl hx hb (qaa qcj 15 rfl) ?_
        refine lv_topi (fun x42 ex42 => ?_)
        have hw := hw x42 ex42
        refine lv_iload_n hx hb (qaa qcs 0 rfl) rfl (lv_at hl 1 rfl) ?_
        refine lv_ior hx hb (qaa qcs 1 rfl) ?_
        refine lv_topi (fun x43 ex43 => ?_)
        have hw := hw x43 ex43
        obtain ⟨hi9, hw⟩ := hw
        refine va_iald hx hb hK hP 9 1 rfl rfl hi9 (qaa qcs 2 rfl) ?_
        refine lv_topi (fun x44 ex44 => ?_)
        have hw := hw x44 ex44
        refine lv_icmp_ne (tgt := 327) hx hb (qaa qcs 3 rfl) (by decide) (fun c45 => ?_) (fun c45 => ?_)
        · have hw := hw.1 c45
          exact qDl dC dI cyB cyI cyJ cyP a0 jaT a0_s jiY ja5 jbu jbB jbG jbg jbJ jiO jiT jaX jaF jaD ja7 jby jbe jaM jaY jap jaK jal jam jax jao jaV jae jag jaf jaw jaI jan jar jaL jah jaB jaa jaz jaH jab jaq jai jaO jaA jaj jas jaJ jak jad jay jac jaN jaC jbw jbD jb2 jbv jcu jbT jcy Q K243 (qi9 jaN jaC jbw jbD jb2 jbv jcu jbT jcy Q K243 n) hK243 ih C0 _ _ _ f0_s jb1 jcb jjl jjp jjq l1 l2 l3 hP hD hS (lv_sub hl [0, 1, 2, 3] rfl) hw
        · have hw := hw.2 c45
          refine lv_aload_n hx hb (qaa qcs 4 rfl) rfl (lv_at hl 0 rfl) ?_
          refine va_get (D := (dC, dI)) (ci := 11) (v := .ref jiT) (C := RX11) (T := TX11) (N := 55) hx hb hts qbt hown hK hP 0 rfl rfl 46 (by decide) (hts _ qxZ) (fun _ h9 => h9) rfl (qaa qcs 5 rfl) ?_
          refine lv_iload_n hx hb (qaa qcs 6 rfl) rfl (lv_at hl 2 rfl) ?_
          refine lv_iload_n hx hb (qaa qcs 7 rfl) rfl (lv_at hl 3 rfl) ?_
          obtain ⟨hi9, hw⟩ := hw
          refine va_iast hx hb hK hP hD hS 11 1 rfl rfl hi9 (qaa qcs 8 rfl) (fun H locs hP hD hS => ?_)
          obtain ⟨f46, ef46⟩ : ∃ y : NI, y = upd jjq l2.toNatClampNeg l3 := ⟨_, rfl⟩
          have hw := hw f46 ef46
          have hP : va_P (dC, dI) vwCl (qbN a0 jaX jaF jaD ja7 jby jbe jaM jaY jap jaK jal jam jax jao ja5 jaV jbJ jae jag jaf jaN jaC jbw jaw jaI jbG jbg jbB jan jbD jbu jar jaL jah jaB jaa jaz jaH jab jaT a0_s jaq jai jaO jaA jiO jiT jiY jaj jas jaJ jak jad jay jac jaT cyI jb2 a0_s cyI f0_s ja5 cyI jbv jbu cyI jb1 jbB cyI jcb jbG cyI jcu jbg cyI jbT jbJ cyI jcy jiO cyI jjl jiY cyI jjp jiT cyI f46) H := by rw [ef46]; exact hP
          have hD : va_D A (qbN a0 jaX jaF jaD ja7 jby jbe jaM jaY jap jaK jal jam jax jao ja5 jaV jbJ jae jag jaf jaN jaC jbw jaw jaI jbG jbg jbB jan jbD jbu jar jaL jah jaB jaa jaz jaH jab jaT a0_s jaq jai jaO jaA jiO jiT jiY jaj jas jaJ jak jad jay jac jaT cyI jb2 a0_s cyI f0_s ja5 cyI jbv jbu cyI jb1 jbB cyI jcb jbG cyI jcu jbg cyI jbT jbJ cyI jcy jiO cyI jjl jiY cyI jjp jiT cyI f46) := by rw [ef46]; exact hD
          exact qDl dC dI cyB cyI cyJ cyP a0 jaT a0_s jiY ja5 jbu jbB jbG jbg jbJ jiO jiT jaX jaF jaD ja7 jby jbe jaM jaY jap jaK jal jam jax jao jaV jae jag jaf jaw jaI jan jar jaL jah jaB jaa jaz jaH jab jaq jai jaO jaA jaj jas jaJ jak jad jay jac jaN jaC jbw jbD jb2 jbv jcu jbT jcy Q K243 (qi9 jaN jaC jbw jbD jb2 jbv jcu jbT jcy Q K243 n) hK243 ih C0 _ _ _ f0_s jb1 jcb jjl jjp f46 l1 l2 l3 hP hD hS (lv_sub hl [0, 1, 2, 3] rfl) hw
set_option maxHeartbeats 4000000 in
set_option maxRecDepth 100000 in
theorem q57 {p : Program} {l : Launch} {e : Env} {s : State} {m : MethodId} {args : Array Value} {below : List Frame} {meth : Method} {c : Code} {A : Nat → Prop} (dC : Nat → ClassId) (dI : Nat → Nat → Nat) (cyB cyI cyJ cyP : ClassId) (a0 jaT a0_s jiY ja5 jbu jbB jbG jbg jbJ jiO jiT : Nat) (jaX jaF jaD ja7 jby jbe jaM jaY jap jaK jal jam jax jao jaV jae jag jaf jaw jaI jan jar jaL jah jaB jaa jaz jaH jab jaq jai jaO jaA jaj jas jaJ jak jad jay jac : Value) (jaN jaC jbw jbD : Int32) (jb2 jbv jcu jbT jcy : NI) (Q : NI → NI → NI → NI → NI → NI → Prop) (C0 : cfx p s m args meth c cX11_findSeats none wsX11_findSeats RX11 6 A (dC, dI) (kT cyB cyI cyJ cyP)) : ∀ (n : Nat) (H : Heap) (locs : List Loc) (ls : Array Slot) (f0_s jb1 jcb jjl jjp jjq : NI) (l1 l2 : Int32), va_P (dC, dI) vwCl (qbN a0 jaX jaF jaD ja7 jby jbe jaM jaY jap jaK jal jam jax jao ja5 jaV jbJ jae jag jaf jaN jaC jbw jaw jaI jbG jbg jbB jan jbD jbu jar jaL jah jaB jaa jaz jaH jab jaT a0_s jaq jai jaO jaA jiO jiT jiY jaj jas jaJ jak jad jay jac jaT cyI jb2 a0_s cyI f0_s ja5 cyI jbv jbu cyI jb1 jbB cyI jcb jbG cyI jcu jbg cyI jbT jbJ cyI jcy jiO cyI jjl jiY cyI jjp jiT cyI jjq) H → va_D A (qbN a0 jaX jaF jaD ja7 jby jbe jaM jaY jap jaK jal jam jax jao ja5 jaV jbJ jae jag jaf jaN jaC jbw jaw jaI jbG jbg jbB jan jbD jbu jar jaL jah jaB jaa jaz jaH jab jaT a0_s jaq jai jaO jaA jiO jiT jiY jaj jas jaJ jak jad jay jac jaT cyI jb2 a0_s cyI f0_s ja5 cyI jbv jbu cyI jb1 jbB cyI jcb jbG cyI jcu jbg cyI jbT jbJ cyI jcy jiO cyI jjl jiY cyI jjp jiT cyI jjq) → va_S A s.heap H locs → lv_has ls 6 [(0, .ref a0), (1, .int l1), (2, .int l2)] → quR jaN jaC jbw jbD jb2 jbv jcu jbT jcy Q n f0_s jb1 jcb jjl jjp jjq l1 l2 → W p l e (headSpec wsX11_findSeats ({ frames := 7, cells := 0, slots := 0, locals := 160 })).room s m args below meth c H locs 0 0 (MQ below (va_Qv (fun (u : NI × NI × NI × NI × NI × NI) => Q u.1 u.2.1 u.2.2.1 u.2.2.2.1 u.2.2.2.2.1 u.2.2.2.2.2) (cB (dC, dI) (kT cyB cyI cyJ cyP) A (fun u : NI × NI × NI × NI × NI × NI => ((qbN a0 jaX jaF jaD ja7 jby jbe jaM jaY jap jaK jal jam jax jao ja5 jaV jbJ jae jag jaf jaN jaC jbw jaw jaI jbG jbg jbB jan jbD jbu jar jaL jah jaB jaa jaz jaH jab jaT a0_s jaq jai jaO jaA jiO jiT jiY jaj jas jaJ jak jad jay jac jaT cyI jb2 a0_s cyI u.1 ja5 cyI jbv jbu cyI u.2.1 jbB cyI u.2.2.1 jbG cyI jcu jbg cyI jbT jbJ cyI jcy jiO cyI u.2.2.2.1 jiY cyI u.2.2.2.2.1 jiT cyI u.2.2.2.2.2) : va_W))) A) args s 0 0 A) (F0 m 243 ls []) := by
  obtain ⟨hx, hb, hr, hts, hown, hlocks, hml, hA, hK, hNw⟩ := id C0
  intro n
  induction n with
  | zero => intro H locs ls f0_s jb1 jcb jjl jjp jjq l1 l2 hP hD hS hl hw; exact False.elim hw
  | succ n ih =>
    intro H locs ls f0_s jb1 jcb jjl jjp jjq l1 l2 hP hD hS hl hw
    refine lv_iload_n hx hb (qaa qck 13 rfl) rfl (lv_at hl 2 rfl) ?_
    refine lv_aload_n hx hb (qaa qck 14 rfl) rfl (lv_at hl 0 rfl) ?_
    refine va_get (D := (dC, dI)) (ci := 11) (v := .int jaC) (C := RX11) (T := TX11) (N := 55) hx hb hts qbt hown hK hP 0 rfl rfl 21 (by decide) (hts _ qxw) (fun _ h9 => h9) rfl (qaa qck 15 rfl) ?_
    refine lv_icmp_ge (tgt := 360) hx hb (qaa qcn 0 rfl) (by decide) (fun c20 => ?_) (fun c20 => ?_)
    · have hw := hw.1 c20
      exact ((W.vret hx hb hr (fun t ht hW => ⟨⟨(f0_s, jb1, jcb, jjl, jjp, jjq), rfl, hw, by rw [ht]; exact hP, va_K.moved hW.alike hK, hD⟩, hS.F ht⟩) hS.2.2 (qaa qiY 9 rfl)))
    · have hw := hw.2 c20
      refine lv_aload_n hx hb (qaa qcn 1 rfl) rfl (lv_at hl 0 rfl) ?_
      refine va_get (D := (dC, dI)) (ci := 11) (v := .ref jiT) (C := RX11) (T := TX11) (N := 55) hx hb hts qbt hown hK hP 0 rfl rfl 46 (by decide) (hts _ qxZ) (fun _ h9 => h9) rfl (qaa qcn 2 rfl) ?_
      refine lv_iload_n hx hb (qaa qcn 3 rfl) rfl (lv_at hl 2 rfl) ?_
      refine lv_iconst (v := (-1)) hx hb (qaa qcn 4 rfl) (by decide) ?_
      obtain ⟨hi9, hw⟩ := hw
      refine va_iast hx hb hK hP hD hS 11 1 rfl rfl hi9 (qaa qcn 5 rfl) (fun H locs hP hD hS => ?_)
      obtain ⟨f21, ef21⟩ : ∃ y : NI, y = upd jjq l2.toNatClampNeg (-1) := ⟨_, rfl⟩
      have hw := hw f21 ef21
      have hP : va_P (dC, dI) vwCl (qbN a0 jaX jaF jaD ja7 jby jbe jaM jaY jap jaK jal jam jax jao ja5 jaV jbJ jae jag jaf jaN jaC jbw jaw jaI jbG jbg jbB jan jbD jbu jar jaL jah jaB jaa jaz jaH jab jaT a0_s jaq jai jaO jaA jiO jiT jiY jaj jas jaJ jak jad jay jac jaT cyI jb2 a0_s cyI f0_s ja5 cyI jbv jbu cyI jb1 jbB cyI jcb jbG cyI jcu jbg cyI jbT jbJ cyI jcy jiO cyI jjl jiY cyI jjp jiT cyI f21) H := by rw [ef21]; exact hP
      have hD : va_D A (qbN a0 jaX jaF jaD ja7 jby jbe jaM jaY jap jaK jal jam jax jao ja5 jaV jbJ jae jag jaf jaN jaC jbw jaw jaI jbG jbg jbB jan jbD jbu jar jaL jah jaB jaa jaz jaH jab jaT a0_s jaq jai jaO jaA jiO jiT jiY jaj jas jaJ jak jad jay jac jaT cyI jb2 a0_s cyI f0_s ja5 cyI jbv jbu cyI jb1 jbB cyI jcb jbG cyI jcu jbg cyI jbT jbJ cyI jcy jiO cyI jjl jiY cyI jjp jiT cyI f21) := by rw [ef21]; exact hD
      refine lv_aload_n hx hb (qaa qcn 6 rfl) rfl (lv_at hl 0 rfl) ?_
      refine va_get (D := (dC, dI)) (ci := 11) (v := .int jaN) (C := RX11) (T := TX11) (N := 55) hx hb hts qbt hown hK hP 0 rfl rfl 20 (by decide) (hts _ qw6) (fun _ h9 => h9) rfl (qaa qcn 7 rfl) ?_
      refine lv_iconst (v := 1) hx hb (qaa qcn 8 rfl) (by decide) ?_
      refine lv_isub hx hb (qaa qcn 9 rfl) ?_
      refine lv_topi (fun x22 ex22 => ?_)
      have hw := hw x22 ex22
      refine lv_istore_n (lv' := [(3, .int x22), (0, .ref a0), (1, .int l1), (2, .int l2)]) hx hb (qaa qcn 10 rfl) rfl hl (by decide) rfl (fun ls hl => ?_)
      obtain ⟨n9, hw⟩ := hw
      exact q6t dC dI cyB cyI cyJ cyP a0 jaT a0_s jiY ja5 jbu jbB jbG jbg jbJ jiO jiT jaX jaF jaD ja7 jby jbe jaM jaY jap jaK jal jam jax jao jaV jae jag jaf jaw jaI jan jar jaL jah jaB jaa jaz jaH jab jaq jai jaO jaA jaj jas jaJ jak jad jay jac jaN jaC jbw jbD jb2 jbv jcu jbT jcy Q (quR jaN jaC jbw jbD jb2 jbv jcu jbT jcy Q n) ih C0 n9 _ _ _ f0_s jb1 jcb jjl jjp f21 l1 l2 x22 hP hD hS (lv_sub hl [1, 2, 3, 0] rfl) hw
set_option maxHeartbeats 4000000 in
set_option maxRecDepth 100000 in
theorem qaaL {p : Program} {l : Launch} {e : Env} {s : State} {m : MethodId} {args : Array Value} {below : List Frame} {meth : Method} {c : Code} {A : Nat → Prop} (dC : Nat → ClassId) (dI : Nat → Nat → Nat) (cyB cyI cyJ cyP : ClassId) (a0 jaT a0_s jiY ja5 jbu jbB jbG jbg jbJ jiO jiT : Nat) (jaX jaF jaD ja7 jby jbe jaM jaY jap jaK jal jam jax jao jaV jae jag jaf jaw jaI jan jar jaL jah jaB jaa jaz jaH jab jaq jai jaO jaA jaj jas jaJ jak jad jay jac : Value) (jaN jaC jbw jbD : Int32) (jb2 jbv jcu jbT jcy : NI) (Q : NI → NI → NI → NI → NI → NI → Prop) (C0 : cfx p s m args meth c cX11_findSeats none wsX11_findSeats RX11 6 A (dC, dI) (kT cyB cyI cyJ cyP)) : ∀ (n : Nat) (H : Heap) (locs : List Loc) (ls : Array Slot) (f0_s jb1 jcb jjl jjp jjq : NI) (l1 : Int32), va_P (dC, dI) vwCl (qbN a0 jaX jaF jaD ja7 jby jbe jaM jaY jap jaK jal jam jax jao ja5 jaV jbJ jae jag jaf jaN jaC jbw jaw jaI jbG jbg jbB jan jbD jbu jar jaL jah jaB jaa jaz jaH jab jaT a0_s jaq jai jaO jaA jiO jiT jiY jaj jas jaJ jak jad jay jac jaT cyI jb2 a0_s cyI f0_s ja5 cyI jbv jbu cyI jb1 jbB cyI jcb jbG cyI jcu jbg cyI jbT jbJ cyI jcy jiO cyI jjl jiY cyI jjp jiT cyI jjq) H → va_D A (qbN a0 jaX jaF jaD ja7 jby jbe jaM jaY jap jaK jal jam jax jao ja5 jaV jbJ jae jag jaf jaN jaC jbw jaw jaI jbG jbg jbB jan jbD jbu jar jaL jah jaB jaa jaz jaH jab jaT a0_s jaq jai jaO jaA jiO jiT jiY jaj jas jaJ jak jad jay jac jaT cyI jb2 a0_s cyI f0_s ja5 cyI jbv jbu cyI jb1 jbB cyI jcb jbG cyI jcu jbg cyI jbT jbJ cyI jcy jiO cyI jjl jiY cyI jjp jiT cyI jjq) → va_S A s.heap H locs → lv_has ls 6 [(0, .ref a0), (1, .int l1)] → qvT jaN jaC jbw jbD jb2 jbv jcu jbT jcy Q n f0_s jb1 jcb jjl jjp jjq l1 → W p l e (headSpec wsX11_findSeats ({ frames := 7, cells := 0, slots := 0, locals := 160 })).room s m args below meth c H locs 0 0 (MQ below (va_Qv (fun (u : NI × NI × NI × NI × NI × NI) => Q u.1 u.2.1 u.2.2.1 u.2.2.2.1 u.2.2.2.2.1 u.2.2.2.2.2) (cB (dC, dI) (kT cyB cyI cyJ cyP) A (fun u : NI × NI × NI × NI × NI × NI => ((qbN a0 jaX jaF jaD ja7 jby jbe jaM jaY jap jaK jal jam jax jao ja5 jaV jbJ jae jag jaf jaN jaC jbw jaw jaI jbG jbg jbB jan jbD jbu jar jaL jah jaB jaa jaz jaH jab jaT a0_s jaq jai jaO jaA jiO jiT jiY jaj jas jaJ jak jad jay jac jaT cyI jb2 a0_s cyI u.1 ja5 cyI jbv jbu cyI u.2.1 jbB cyI u.2.2.1 jbG cyI jcu jbg cyI jbT jbJ cyI jcy jiO cyI u.2.2.2.1 jiY cyI u.2.2.2.2.1 jiT cyI u.2.2.2.2.2) : va_W))) A) args s 0 0 A) (F0 m 99 ls []) := by
  obtain ⟨hx, hb, hr, hts, hown, hlocks, hml, hA, hK, hNw⟩ := id C0
  intro n
  induction n with
  | zero => intro H locs ls f0_s jb1 jcb jjl jjp jjq l1 hP hD hS hl hw; exact False.elim hw
  | succ n ih =>
    intro H locs ls f0_s jb1 jcb jjl jjp jjq l1 hP hD hS hl hw
    refine lv_iload_n hx hb (qaa qcS 12 rfl) rfl (lv_at hl 1 rfl) ?_
    refine lv_if_lt (tgt := 239) hx hb (qaa qcS 13 rfl) (by decide) (fun c19 => ?_) (fun c19 => ?_)
    · have hw := hw.1 c19
      refine lv_iconst (v := 0) hx hb (qaa qck 9 rfl) (by decide) ?_
      refine lv_istore_n (lv' := [(1, .int 0), (0, .ref a0)]) hx hb (qaa qck 10 rfl) rfl hl (by decide) rfl (fun ls hl => ?_)
      refine lv_iconst (v := 0) hx hb (qaa qck 11 rfl) (by decide) ?_
      refine lv_istore_n (lv' := [(2, .int 0), (1, .int 0), (0, .ref a0)]) hx hb (qaa qck 12 rfl) rfl hl (by decide) rfl (fun ls hl => ?_)
      obtain ⟨n9, hw⟩ := hw
      exact q57 dC dI cyB cyI cyJ cyP a0 jaT a0_s jiY ja5 jbu jbB jbG jbg jbJ jiO jiT jaX jaF jaD ja7 jby jbe jaM jaY jap jaK jal jam jax jao jaV jae jag jaf jaw jaI jan jar jaL jah jaB jaa jaz jaH jab jaq jai jaO jaA jaj jas jaJ jak jad jay jac jaN jaC jbw jbD jb2 jbv jcu jbT jcy Q C0 n9 _ _ _ f0_s jb1 jcb jjl jjp jjq 0 0 hP hD hS (lv_sub hl [2, 1, 0] rfl) hw
    · have hw := hw.2 c19
      refine lv_iconst (v := 0) hx hb (qaa qcS 14 rfl) (by decide) ?_
      refine lv_istore_n (lv' := [(2, .int 0), (0, .ref a0), (1, .int l1)]) hx hb (qaa qcS 15 rfl) rfl hl (by decide) rfl (fun ls hl => ?_)
      obtain ⟨n9, hw⟩ := hw
      exact q5S dC dI cyB cyI cyJ cyP a0 jaT a0_s jiY ja5 jbu jbB jbG jbg jbJ jiO jiT jaX jaF jaD ja7 jby jbe jaM jaY jap jaK jal jam jax jao jaV jae jag jaf jaw jaI jan jar jaL jah jaB jaa jaz jaH jab jaq jai jaO jaA jaj jas jaJ jak jad jay jac jaN jaC jbw jbD jb2 jbv jcu jbT jcy Q (qvT jaN jaC jbw jbD jb2 jbv jcu jbT jcy Q n) ih C0 n9 _ _ _ f0_s jb1 jcb jjl jjp jjq l1 0 hP hD hS (lv_sub hl [1, 2, 0] rfl) hw
set_option maxHeartbeats 4000000 in
set_option maxRecDepth 100000 in
theorem qaco {p : Program} {l : Launch} {e : Env} {s : State} {m : MethodId} {args : Array Value} {below : List Frame} {meth : Method} {c : Code} {A : Nat → Prop} (dC : Nat → ClassId) (dI : Nat → Nat → Nat) (cyB cyI cyJ cyP : ClassId) (a0 jaT a0_s jiY ja5 jbu jbB jbG jbg jbJ jiO jiT : Nat) (jaX jaF jaD ja7 jby jbe jaM jaY jap jaK jal jam jax jao jaV jae jag jaf jaw jaI jan jar jaL jah jaB jaa jaz jaH jab jaq jai jaO jaA jaj jas jaJ jak jad jay jac : Value) (jaN jaC jbw jbD : Int32) (jb2 jbv jcu jbT jcy : NI) (Q : NI → NI → NI → NI → NI → NI → Prop) (C0 : cfx p s m args meth c cX11_findSeats none wsX11_findSeats RX11 6 A (dC, dI) (kT cyB cyI cyJ cyP)) : ∀ (n : Nat) (H : Heap) (locs : List Loc) (ls : Array Slot) (f0_s jb1 jcb jjl jjp jjq : NI) (l1 : Int32), va_P (dC, dI) vwCl (qbN a0 jaX jaF jaD ja7 jby jbe jaM jaY jap jaK jal jam jax jao ja5 jaV jbJ jae jag jaf jaN jaC jbw jaw jaI jbG jbg jbB jan jbD jbu jar jaL jah jaB jaa jaz jaH jab jaT a0_s jaq jai jaO jaA jiO jiT jiY jaj jas jaJ jak jad jay jac jaT cyI jb2 a0_s cyI f0_s ja5 cyI jbv jbu cyI jb1 jbB cyI jcb jbG cyI jcu jbg cyI jbT jbJ cyI jcy jiO cyI jjl jiY cyI jjp jiT cyI jjq) H → va_D A (qbN a0 jaX jaF jaD ja7 jby jbe jaM jaY jap jaK jal jam jax jao ja5 jaV jbJ jae jag jaf jaN jaC jbw jaw jaI jbG jbg jbB jan jbD jbu jar jaL jah jaB jaa jaz jaH jab jaT a0_s jaq jai jaO jaA jiO jiT jiY jaj jas jaJ jak jad jay jac jaT cyI jb2 a0_s cyI f0_s ja5 cyI jbv jbu cyI jb1 jbB cyI jcb jbG cyI jcu jbg cyI jbT jbJ cyI jcy jiO cyI jjl jiY cyI jjp jiT cyI jjq) → va_S A s.heap H locs → lv_has ls 6 [(0, .ref a0), (1, .int l1)] → qzj jaN jaC jbw jbD jb2 jbv jcu jbT jcy Q n f0_s jb1 jcb jjl jjp jjq l1 → W p l e (headSpec wsX11_findSeats ({ frames := 7, cells := 0, slots := 0, locals := 160 })).room s m args below meth c H locs 0 0 (MQ below (va_Qv (fun (u : NI × NI × NI × NI × NI × NI) => Q u.1 u.2.1 u.2.2.1 u.2.2.2.1 u.2.2.2.2.1 u.2.2.2.2.2) (cB (dC, dI) (kT cyB cyI cyJ cyP) A (fun u : NI × NI × NI × NI × NI × NI => ((qbN a0 jaX jaF jaD ja7 jby jbe jaM jaY jap jaK jal jam jax jao ja5 jaV jbJ jae jag jaf jaN jaC jbw jaw jaI jbG jbg jbB jan jbD jbu jar jaL jah jaB jaa jaz jaH jab jaT a0_s jaq jai jaO jaA jiO jiT jiY jaj jas jaJ jak jad jay jac jaT cyI jb2 a0_s cyI u.1 ja5 cyI jbv jbu cyI u.2.1 jbB cyI u.2.2.1 jbG cyI jcu jbg cyI jbT jbJ cyI jcy jiO cyI u.2.2.2.1 jiY cyI u.2.2.2.2.1 jiT cyI u.2.2.2.2.2) : va_W))) A) args s 0 0 A) (F0 m 61 ls []) := by
  obtain ⟨hx, hb, hr, hts, hown, hlocks, hml, hA, hK, hNw⟩ := id C0
  intro n
  induction n with
  | zero => intro H locs ls f0_s jb1 jcb jjl jjp jjq l1 hP hD hS hl hw; exact False.elim hw
  | succ n ih =>
    intro H locs ls f0_s jb1 jcb jjl jjp jjq l1 hP hD hS hl hw
    refine lv_iload_n hx hb (qaa qcQ 5 rfl) rfl (lv_at hl 1 rfl) ?_
    refine lv_iconst (v := 1) hx hb (qaa qcQ 6 rfl) (by decide) ?_
    refine lv_aload_n hx hb (qaa qcQ 7 rfl) rfl (lv_at hl 0 rfl) ?_
    refine va_get (D := (dC, dI)) (ci := 11) (v := .int jaN) (C := RX11) (T := TX11) (N := 55) hx hb hts qbt hown hK hP 0 rfl rfl 20 (by decide) (hts _ qw6) (fun _ h9 => h9) rfl (qaa qcQ 8 rfl) ?_
    refine lv_ishl hx hb (qaa qcQ 9 rfl) ?_
    refine lv_icmp_ge (tgt := 92) hx hb (qaa qcQ 10 rfl) (by decide) (fun c11 => ?_) (fun c11 => ?_)
    · have hw := hw.1 c11
      refine lv_aload_n hx hb (qaa qcS 7 rfl) rfl (lv_at hl 0 rfl) ?_
      refine va_get (D := (dC, dI)) (ci := 11) (v := .int jaC) (C := RX11) (T := TX11) (N := 55) hx hb hts qbt hown hK hP 0 rfl rfl 21 (by decide) (hts _ qxw) (fun _ h9 => h9) rfl (qaa qcS 8 rfl) ?_
      refine lv_iconst (v := 1) hx hb (qaa qcS 9 rfl) (by decide) ?_
      refine lv_isub hx hb (qaa qcS 10 rfl) ?_
      refine lv_topi (fun x12 ex12 => ?_)
      have hw := hw x12 ex12
      refine lv_istore_n (lv' := [(1, .int x12), (0, .ref a0)]) hx hb (qaa qcS 11 rfl) rfl hl (by decide) rfl (fun ls hl => ?_)
      obtain ⟨n9, hw⟩ := hw
      exact qaaL dC dI cyB cyI cyJ cyP a0 jaT a0_s jiY ja5 jbu jbB jbG jbg jbJ jiO jiT jaX jaF jaD ja7 jby jbe jaM jaY jap jaK jal jam jax jao jaV jae jag jaf jaw jaI jan jar jaL jah jaB jaa jaz jaH jab jaq jai jaO jaA jaj jas jaJ jak jad jay jac jaN jaC jbw jbD jb2 jbv jcu jbT jcy Q C0 n9 _ _ _ f0_s jb1 jcb jjl jjp jjq x12 hP hD hS (lv_sub hl [1, 0] rfl) hw
    · have hw := hw.2 c11
      refine lv_aload_n hx hb (qaa qcQ 11 rfl) rfl (lv_at hl 0 rfl) ?_
      refine va_get (D := (dC, dI)) (ci := 11) (v := .ref jiO) (C := RX11) (T := TX11) (N := 55) hx hb hts qbt hown hK hP 0 rfl rfl 45 (by decide) (hts _ qp4) (fun _ h9 => h9) rfl (qaa qcQ 12 rfl) ?_
      refine lv_aload_n hx hb (qaa qcQ 13 rfl) rfl (lv_at hl 0 rfl) ?_
      refine va_get (D := (dC, dI)) (ci := 11) (v := .int jaC) (C := RX11) (T := TX11) (N := 55) hx hb hts qbt hown hK hP 0 rfl rfl 21 (by decide) (hts _ qxw) (fun _ h9 => h9) rfl (qaa qcQ 14 rfl) ?_
      refine lv_bipush (v := 8) hx hb (qaa qcQ 15 rfl) (by decide) ?_
      refine lv_ishl hx hb (qaa qcS 0 rfl) ?_
      refine lv_topi (fun x13 ex13 => ?_)
      have hw := hw x13 ex13
      refine lv_iload_n hx hb (qaa qcS 1 rfl) rfl (lv_at hl 1 rfl) ?_
      refine lv_ior hx hb (qaa qcS 2 rfl) ?_
      refine lv_topi (fun x14 ex14 => ?_)
      have hw := hw x14 ex14
      refine lv_iconst (v := 0) hx hb (qaa qcS 3 rfl) (by decide) ?_
      obtain ⟨hi9, hw⟩ := hw
      refine va_iast hx hb hK hP hD hS 9 1 rfl rfl hi9 (qaa qcS 4 rfl) (fun H locs hP hD hS => ?_)
      obtain ⟨f15, ef15⟩ : ∃ y : NI, y = upd jjl x14.toNatClampNeg 0 := ⟨_, rfl⟩
      have hw := hw f15 ef15
      have hP : va_P (dC, dI) vwCl (qbN a0 jaX jaF jaD ja7 jby jbe jaM jaY jap jaK jal jam jax jao ja5 jaV jbJ jae jag jaf jaN jaC jbw jaw jaI jbG jbg jbB jan jbD jbu jar jaL jah jaB jaa jaz jaH jab jaT a0_s jaq jai jaO jaA jiO jiT jiY jaj jas jaJ jak jad jay jac jaT cyI jb2 a0_s cyI f0_s ja5 cyI jbv jbu cyI jb1 jbB cyI jcb jbG cyI jcu jbg cyI jbT jbJ cyI jcy jiO cyI f15 jiY cyI jjp jiT cyI jjq) H := by rw [ef15]; exact hP
      have hD : va_D A (qbN a0 jaX jaF jaD ja7 jby jbe jaM jaY jap jaK jal jam jax jao ja5 jaV jbJ jae jag jaf jaN jaC jbw jaw jaI jbG jbg jbB jan jbD jbu jar jaL jah jaB jaa jaz jaH jab jaT a0_s jaq jai jaO jaA jiO jiT jiY jaj jas jaJ jak jad jay jac jaT cyI jb2 a0_s cyI f0_s ja5 cyI jbv jbu cyI jb1 jbB cyI jcb jbG cyI jcu jbg cyI jbT jbJ cyI jcy jiO cyI f15 jiY cyI jjp jiT cyI jjq) := by rw [ef15]; exact hD
      obtain ⟨x16, ex16⟩ : ∃ y : Int32, y = l1 + 1 := ⟨_, rfl⟩
      have hw := hw x16 ex16
      refine lv_iinc (v := x16) (lv' := [(1, .int x16), (0, .ref a0)]) hx hb (qaa qcS 5 rfl) hl (k := 1) rfl (by rw [ex16]; rfl) (by decide) rfl (fun ls hl => ?_)
      refine lv_goto (tgt := 61) hx hb (qaa qcS 6 rfl) (by decide) ?_
      exact ih _ _ _ f0_s jb1 jcb f15 jjp jjq x16 hP hD hS (lv_sub hl [1, 0] rfl) hw
set_option maxHeartbeats 4000000 in
set_option maxRecDepth 100000 in
theorem qadj {p : Program} {l : Launch} {e : Env} {s : State} {m : MethodId} {args : Array Value} {below : List Frame} {meth : Method} {c : Code} {A : Nat → Prop} (dC : Nat → ClassId) (dI : Nat → Nat → Nat) (cyB cyI cyJ cyP : ClassId) (a0 jaT a0_s jiY ja5 jbu jbB jbG jbg jbJ jiO jiT : Nat) (jaX jaF jaD ja7 jby jbe jaM jaY jap jaK jal jam jax jao jaV jae jag jaf jaw jaI jan jar jaL jah jaB jaa jaz jaH jab jaq jai jaO jaA jaj jas jaJ jak jad jay jac : Value) (jaN jaC jbw jbD : Int32) (jb2 jbv jcu jbT jcy : NI) (Q : NI → NI → NI → NI → NI → NI → Prop) (C0 : cfx p s m args meth c cX11_findSeats none wsX11_findSeats RX11 6 A (dC, dI) (kT cyB cyI cyJ cyP)) : ∀ (n : Nat) (H : Heap) (locs : List Loc) (ls : Array Slot) (f0_s jb1 jcb jjl jjp jjq : NI) (l1 : Int32), va_P (dC, dI) vwCl (qbN a0 jaX jaF jaD ja7 jby jbe jaM jaY jap jaK jal jam jax jao ja5 jaV jbJ jae jag jaf jaN jaC jbw jaw jaI jbG jbg jbB jan jbD jbu jar jaL jah jaB jaa jaz jaH jab jaT a0_s jaq jai jaO jaA jiO jiT jiY jaj jas jaJ jak jad jay jac jaT cyI jb2 a0_s cyI f0_s ja5 cyI jbv jbu cyI jb1 jbB cyI jcb jbG cyI jcu jbg cyI jbT jbJ cyI jcy jiO cyI jjl jiY cyI jjp jiT cyI jjq) H → va_D A (qbN a0 jaX jaF jaD ja7 jby jbe jaM jaY jap jaK jal jam jax jao ja5 jaV jbJ jae jag jaf jaN jaC jbw jaw jaI jbG jbg jbB jan jbD jbu jar jaL jah jaB jaa jaz jaH jab jaT a0_s jaq jai jaO jaA jiO jiT jiY jaj jas jaJ jak jad jay jac jaT cyI jb2 a0_s cyI f0_s ja5 cyI jbv jbu cyI jb1 jbB cyI jcb jbG cyI jcu jbg cyI jbT jbJ cyI jcy jiO cyI jjl jiY cyI jjp jiT cyI jjq) → va_S A s.heap H locs → lv_has ls 6 [(0, .ref a0), (1, .int l1)] → qsd jaN jaC jbw jbD jb2 jbv jcu jbT jcy Q n f0_s jb1 jcb jjl jjp jjq l1 → W p l e (headSpec wsX11_findSeats ({ frames := 7, cells := 0, slots := 0, locals := 160 })).room s m args below meth c H locs 0 0 (MQ below (va_Qv (fun (u : NI × NI × NI × NI × NI × NI) => Q u.1 u.2.1 u.2.2.1 u.2.2.2.1 u.2.2.2.2.1 u.2.2.2.2.2) (cB (dC, dI) (kT cyB cyI cyJ cyP) A (fun u : NI × NI × NI × NI × NI × NI => ((qbN a0 jaX jaF jaD ja7 jby jbe jaM jaY jap jaK jal jam jax jao ja5 jaV jbJ jae jag jaf jaN jaC jbw jaw jaI jbG jbg jbB jan jbD jbu jar jaL jah jaB jaa jaz jaH jab jaT a0_s jaq jai jaO jaA jiO jiT jiY jaj jas jaJ jak jad jay jac jaT cyI jb2 a0_s cyI u.1 ja5 cyI jbv jbu cyI u.2.1 jbB cyI u.2.2.1 jbG cyI jcu jbg cyI jbT jbJ cyI jcy jiO cyI u.2.2.2.1 jiY cyI u.2.2.2.2.1 jiT cyI u.2.2.2.2.2) : va_W))) A) args s 0 0 A) (F0 m 6 ls []) := by
  obtain ⟨hx, hb, hr, hts, hown, hlocks, hml, hA, hK, hNw⟩ := id C0
  intro n
  induction n with
  | zero => intro H locs ls f0_s jb1 jcb jjl jjp jjq l1 hP hD hS hl hw; exact False.elim hw
  | succ n ih =>
    intro H locs ls f0_s jb1 jcb jjl jjp jjq l1 hP hD hS hl hw
    refine lv_iload_n hx hb (qaa qc4 4 rfl) rfl (lv_at hl 1 rfl) ?_
    refine lv_aload_n hx hb (qaa qc4 5 rfl) rfl (lv_at hl 0 rfl) ?_
    refine va_get (D := (dC, dI)) (ci := 11) (v := .int jaC) (C := RX11) (T := TX11) (N := 55) hx hb hts qbt hown hK hP 0 rfl rfl 21 (by decide) (hts _ qxw) (fun _ h9 => h9) rfl (qaa qc4 6 rfl) ?_
    refine lv_icmp_ge (tgt := 59) hx hb (qaa qc4 7 rfl) (by decide) (fun c2 => ?_) (fun c2 => ?_)
    · have hw := hw.1 c2
      refine lv_iconst (v := 0) hx hb (qaa qcQ 3 rfl) (by decide) ?_
      refine lv_istore_n (lv' := [(1, .int 0), (0, .ref a0)]) hx hb (qaa qcQ 4 rfl) rfl hl (by decide) rfl (fun ls hl => ?_)
      obtain ⟨n9, hw⟩ := hw
      exact qaco dC dI cyB cyI cyJ cyP a0 jaT a0_s jiY ja5 jbu jbB jbG jbg jbJ jiO jiT jaX jaF jaD ja7 jby jbe jaM jaY jap jaK jal jam jax jao jaV jae jag jaf jaw jaI jan jar jaL jah jaB jaa jaz jaH jab jaq jai jaO jaA jaj jas jaJ jak jad jay jac jaN jaC jbw jbD jb2 jbv jcu jbT jcy Q C0 n9 _ _ _ f0_s jb1 jcb jjl jjp jjq 0 hP hD hS (lv_sub hl [1, 0] rfl) hw
    · have hw := hw.2 c2
      refine lv_aload_n hx hb (qaa qc4 8 rfl) rfl (lv_at hl 0 rfl) ?_
      refine va_get (D := (dC, dI)) (ci := 11) (v := .ref jiY) (C := RX11) (T := TX11) (N := 55) hx hb hts qbt hown hK hP 0 rfl rfl 47 (by decide) (hts _ qDn) (fun _ h9 => h9) rfl (qaa qc4 9 rfl) ?_
      refine lv_iload_n hx hb (qaa qc4 10 rfl) rfl (lv_at hl 1 rfl) ?_
      refine lv_aload_n hx hb (qaa qc4 11 rfl) rfl (lv_at hl 0 rfl) ?_
      refine lv_iload_n hx hb (qaa qc4 12 rfl) rfl (lv_at hl 1 rfl) ?_
      obtain ⟨hCc, hPc, hDc, hFc⟩ := qac (ws' := (qa49 a0 jaX jaF jaD ja7 jby jbe jaM jaY jap jaK jal jam jax jao ja5 jaV jbJ jae jag jaf jaN jaC jbw jaw jaI jbG jbg jbB jan jbD jbu jar jaL jah jaB jaa jaz jaH jab jaT a0_s jaq jai jaO jaA jiO jiT jiY jaj jas jaJ jak jad jay jac a0_s cyI f0_s)) hP hD hS hA [0, 2] (by decide +kernel) rfl
      refine va_calli (va_runV (As := [.int l1]) (rest := [.int l1, .ref jiY]) ⟨hx, hb, hml, hown, hts⟩ (qim l dC dI cyB cyI cyJ cyP a0 a0_s H.size (jaX) (jaF) (jaD) (ja7) (jby) (jbe) (jaM) (jaY) (jap) (jaK) (jal) (jam) (jax) (jao) (.ref ja5) (jaV) (.ref jbJ) (jae) (jag) (jaf) (.int jaN) (.int jaC) (.int jbw) (jaw) (jaI) (.ref jbG) (.ref jbg) (.ref jbB) (jan) (.int jbD) (.ref jbu) (jar) (jaL) (jah) (jaB) (jaa) (jaz) (jaH) (jab) (.ref jaT) (jaq) (jai) (jaO) (jaA) (.ref jiO) (.ref jiT) (.ref jiY) (jaj) (jas) (jaJ) (jak) (jad) (jay) (jac) f0_s l1 hw) (cwV 1 hts gX11_findSeats_X11_isCaught rfl rfl rfl (by decide +kernel) ⟨nbq rfl, nbq rfl⟩) ⟨qab, va_recv (q := (RX11, TX11, 55)) hK hPc (ci := 11) (q0 := 0) rfl rfl, qae hPc hK hDc hNw⟩ rfl rfl hl.1 rfl (lv_room (nbq rfl)) (qaa qc4 13 rfl) ⟨nbq rfl, nbq rfl⟩) hS (fun q _ h => hFc q h) hFc (fun r3 u t H1 locs ht hvm hw hB hz1 hk1 hS => ?_)
      obtain ⟨hP1, hK1, hD1⟩ := hB
      rw [ht] at hP1
      obtain ⟨hP, hD⟩ := qad (wr := [(jaT, .inl (cyI, 68, .inl jb2)), (ja5, .inl (cyI, 16, .inl jbv)), (jbu, .inl (cyI, 8, .inl jb1)), (jbB, .inl (cyI, 150, .inl jcb)), (jbG, .inl (cyI, 150, .inl jcu)), (jbg, .inl (cyI, 150, .inl jbT)), (jbJ, .inl (cyI, 8, .inl jcy)), (jiO, .inl (cyI, 1792, .inl jjl)), (jiY, .inl (cyI, 6, .inl jjp)), (jiT, .inl (cyI, 6, .inl jjq))]) (w1 := (qa49 a0 jaX jaF jaD ja7 jby jbe jaM jaY jap jaK jal jam jax jao ja5 jaV jbJ jae jag jaf jaN jaC jbw jaw jaI jbG jbg jbB jan jbD jbu jar jaL jah jaB jaa jaz jaH jab jaT a0_s jaq jai jaO jaA jiO jiT jiY jaj jas jaJ jak jad jay jac a0_s cyI f0_s)) (wn := (qbN a0 jaX jaF jaD ja7 jby jbe jaM jaY jap jaK jal jam jax jao ja5 jaV jbJ jae jag jaf jaN jaC jbw jaw jaI jbG jbg jbB jan jbD jbu jar jaL jah jaB jaa jaz jaH jab jaT a0_s jaq jai jaO jaA jiO jiT jiY jaj jas jaJ jak jad jay jac jaT cyI jb2 a0_s cyI f0_s ja5 cyI jbv jbu cyI jb1 jbB cyI jcb jbG cyI jcu jbg cyI jbT jbJ cyI jcy jiO cyI jjl jiY cyI jjp jiT cyI jjq)) hP hD [0, 2] [1, 3, 4, 5, 6, 7, 8, 9, 10, 11] [10, 0, 11, 1, 2, 3, 4, 5, 6, 7, 8, 9] hCc rfl (by decide +kernel) (by decide +kernel) (by decide +kernel) rfl hk1 hFc hP1 hD1
      generalize H1 = H at hP hS ⊢
      refine lv_if_eq (tgt := 31) hx hb (qaa qc4 14 rfl) (by decide) (fun c4 => ?_) (fun c4 => ?_)
      · have hw := hw.1 c4
        refine lv_aload_n hx hb (qaa qcV 1 rfl) rfl (lv_at hl 0 rfl) ?_
        refine lv_iload_n hx hb (qaa qcV 2 rfl) rfl (lv_at hl 1 rfl) ?_
        obtain ⟨hCc, hPc, hDc, hFc⟩ := qac (ws' := (qa64 a0 jaX jaF jaD ja7 jby jbe jaM jaY jap jaK jal jam jax jao ja5 jaV jbJ jae jag jaf jaN jaC jbw jaw jaI jbG jbg jbB jan jbD jbu jar jaL jah jaB jaa jaz jaH jab jaT a0_s jaq jai jaO jaA jiO jiT jiY jaj jas jaJ jak jad jay jac a0_s cyI f0_s ja5 cyI jbv jbu cyI jb1 jbB cyI jcb jbG cyI jcu jbg cyI jbT)) hP hD hS hA [0, 2, 3, 4, 5, 6, 7] (by decide +kernel) rfl
        refine va_calli (va_runV (As := [.int l1]) (rest := [.int l1, .ref jiY]) ⟨hx, hb, hml, hown, hts⟩ (q7j l dC dI cyB cyI cyJ cyP a0 a0_s ja5 jbu jbB jbG jbg H.size (jaX) (jaF) (jaD) (ja7) (jby) (jbe) (jaM) (jaY) (jap) (jaK) (jal) (jam) (jax) (jao) (jaV) (.ref jbJ) (jae) (jag) (jaf) (.int jbw) (jaw) (jaI) (jan) (jar) (jaL) (jah) (jaB) (jaa) (jaz) (jaH) (jab) (.ref jaT) (jaq) (jai) (jaO) (jaA) (.ref jiO) (.ref jiT) (.ref jiY) (jaj) (jas) (jaJ) (jak) (jad) (jay) (jac) jaN jaC jbD f0_s jbv jcu jbT jb1 jcb l1 hw) (cwV 1 hts gX11_findSeats_X11_rangeOf rfl rfl rfl (by decide +kernel) ⟨nbq rfl, nbq rfl⟩) ⟨qab, va_recv (q := (RX11, TX11, 55)) hK hPc (ci := 11) (q0 := 0) rfl rfl, qae hPc hK hDc hNw⟩ rfl rfl hl.1 rfl (lv_room (nbq rfl)) (qaa qcV 3 rfl) ⟨nbq rfl, nbq rfl⟩) hS (fun q _ h => hFc q h) hFc (fun r7 u t H1 locs ht hvm hw hB hz1 hk1 hS => ?_)
        obtain ⟨f5, f6⟩ := u
        obtain ⟨hP1, hK1, hD1⟩ := hB
        rw [ht] at hP1
        obtain ⟨hP, hD⟩ := qad (wr := [(jaT, .inl (cyI, 68, .inl jb2)), (jbJ, .inl (cyI, 8, .inl jcy)), (jiO, .inl (cyI, 1792, .inl jjl)), (jiY, .inl (cyI, 6, .inl jjp)), (jiT, .inl (cyI, 6, .inl jjq))]) (w1 := (qa64 a0 jaX jaF jaD ja7 jby jbe jaM jaY jap jaK jal jam jax jao ja5 jaV jbJ jae jag jaf jaN jaC jbw jaw jaI jbG jbg jbB jan jbD jbu jar jaL jah jaB jaa jaz jaH jab jaT a0_s jaq jai jaO jaA jiO jiT jiY jaj jas jaJ jak jad jay jac a0_s cyI f0_s ja5 cyI jbv jbu cyI f5 jbB cyI f6 jbG cyI jcu jbg cyI jbT)) (wn := (qbN a0 jaX jaF jaD ja7 jby jbe jaM jaY jap jaK jal jam jax jao ja5 jaV jbJ jae jag jaf jaN jaC jbw jaw jaI jbG jbg jbB jan jbD jbu jar jaL jah jaB jaa jaz jaH jab jaT a0_s jaq jai jaO jaA jiO jiT jiY jaj jas jaJ jak jad jay jac jaT cyI jb2 a0_s cyI f0_s ja5 cyI jbv jbu cyI f5 jbB cyI f6 jbG cyI jcu jbg cyI jbT jbJ cyI jcy jiO cyI jjl jiY cyI jjp jiT cyI jjq)) hP hD [0, 2, 3, 4, 5, 6, 7] [1, 8, 9, 10, 11] [5, 0, 6, 7, 8, 9, 10, 11, 1, 2, 3, 4] hCc rfl (by decide +kernel) (by decide +kernel) (by decide +kernel) rfl hk1 hFc hP1 hD1
        generalize H1 = H at hP hS ⊢
        refine lv_iconst (v := 1) hx hb (qaa qcV 4 rfl) (by decide) ?_
        refine lv_aload_n hx hb (qaa qcV 5 rfl) rfl (lv_at hl 0 rfl) ?_
        refine va_get (D := (dC, dI)) (ci := 11) (v := .ref a0_s) (C := RX11) (T := TX11) (N := 55) hx hb hts qbt hown hK hP 0 rfl rfl 40 (by decide) (hts _ q6I) (fun _ h9 => h9) rfl (qaa qcV 6 rfl) ?_
        refine lv_iconst (v := 0) hx hb (qaa qcV 7 rfl) (by decide) ?_
        refine lv_iload_n hx hb (qaa qcV 8 rfl) rfl (lv_at hl 1 rfl) ?_
        refine lv_iadd hx hb (qaa qcV 9 rfl) ?_
        refine lv_topi (fun x8 ex8 => ?_)
        have hw := hw x8 ex8
        obtain ⟨hi9, hw⟩ := hw
        refine va_iald hx hb hK hP 2 1 rfl rfl hi9 (qaa qcV 10 rfl) ?_
        refine lv_topi (fun x9 ex9 => ?_)
        have hw := hw x9 ex9
        refine lv_ishl hx hb (qaa qcV 11 rfl) ?_
        refine lv_ior hx hb (qaa qcV 12 rfl) ?_
        refine lv_aload_n hx hb (qaa qcV 13 rfl) rfl (lv_at hl 0 rfl) ?_
        obtain ⟨hCc, hPc, hDc, hFc⟩ := qac (ws' := (qa8r a0 jaX jaF jaD ja7 jby jbe jaM jaY jap jaK jal jam jax jao ja5 jaV jbJ jae jag jaf jaN jaC jbw jaw jaI jbG jbg jbB jan jbD jbu jar jaL jah jaB jaa jaz jaH jab jaT a0_s jaq jai jaO jaA jiO jiT jiY jaj jas jaJ jak jad jay jac ja5 cyI jbv jbJ cyI jcy)) hP hD hS hA [0, 3, 8] (by decide +kernel) rfl
        refine va_calli (va_runV (As := []) (rest := [.int (r7 ||| (1 <<< (x9 &&& 31))), .int l1, .ref jiY]) ⟨hx, hb, hml, hown, hts⟩ (qZW l dC dI cyB cyI cyJ cyP a0 ja5 jbJ H.size (jaX) (jaF) (jaD) (ja7) (jby) (jbe) (jaM) (jaY) (jap) (jaK) (jal) (jam) (jax) (jao) (jaV) (jae) (jag) (jaf) (.int jaC) (jaw) (jaI) (.ref jbG) (.ref jbg) (.ref jbB) (jan) (.int jbD) (.ref jbu) (jar) (jaL) (jah) (jaB) (jaa) (jaz) (jaH) (jab) (.ref jaT) (.ref a0_s) (jaq) (jai) (jaO) (jaA) (.ref jiO) (.ref jiT) (.ref jiY) (jaj) (jas) (jaJ) (jak) (jad) (jay) (jac) jaN jbw jbv jcy hw) (cwV 0 hts gX11_findSeats_X11_safeForms rfl rfl rfl (by decide +kernel) ⟨nbq rfl, nbq rfl⟩) ⟨qab, va_recv (q := (RX11, TX11, 55)) hK hPc (ci := 11) (q0 := 0) rfl rfl, qae hPc hK hDc hNw⟩ rfl rfl hl.1 rfl (lv_room (nbq rfl)) (qaa qcV 14 rfl) ⟨nbq rfl, nbq rfl⟩) hS (fun q _ h => hFc q h) hFc (fun r10 u t H1 locs ht hvm hw hB hz1 hk1 hS => ?_)
        obtain ⟨hP1, hK1, hD1⟩ := hB
        rw [ht] at hP1
        obtain ⟨hP, hD⟩ := qad (wr := [(jaT, .inl (cyI, 68, .inl jb2)), (a0_s, .inl (cyI, 68, .inl f0_s)), (jbu, .inl (cyI, 8, .inl f5)), (jbB, .inl (cyI, 150, .inl f6)), (jbG, .inl (cyI, 150, .inl jcu)), (jbg, .inl (cyI, 150, .inl jbT)), (jiO, .inl (cyI, 1792, .inl jjl)), (jiY, .inl (cyI, 6, .inl jjp)), (jiT, .inl (cyI, 6, .inl jjq))]) (w1 := (qa8r a0 jaX jaF jaD ja7 jby jbe jaM jaY jap jaK jal jam jax jao ja5 jaV jbJ jae jag jaf jaN jaC jbw jaw jaI jbG jbg jbB jan jbD jbu jar jaL jah jaB jaa jaz jaH jab jaT a0_s jaq jai jaO jaA jiO jiT jiY jaj jas jaJ jak jad jay jac ja5 cyI jbv jbJ cyI jcy)) (wn := (qbN a0 jaX jaF jaD ja7 jby jbe jaM jaY jap jaK jal jam jax jao ja5 jaV jbJ jae jag jaf jaN jaC jbw jaw jaI jbG jbg jbB jan jbD jbu jar jaL jah jaB jaa jaz jaH jab jaT a0_s jaq jai jaO jaA jiO jiT jiY jaj jas jaJ jak jad jay jac jaT cyI jb2 a0_s cyI f0_s ja5 cyI jbv jbu cyI f5 jbB cyI f6 jbG cyI jcu jbg cyI jbT jbJ cyI jcy jiO cyI jjl jiY cyI jjp jiT cyI jjq)) hP hD [0, 3, 8] [1, 2, 4, 5, 6, 7, 9, 10, 11] [9, 0, 1, 10, 2, 3, 4, 5, 11, 6, 7, 8] hCc rfl (by decide +kernel) (by decide +kernel) (by decide +kernel) rfl hk1 hFc hP1 hD1
        generalize H1 = H at hP hS ⊢
        refine lv_iand hx hb (qaa qcV 15 rfl) ?_
        exact qPI dC dI cyB cyI cyJ cyP a0 jaT a0_s jiY ja5 jbu jbB jbG jbg jbJ jiO jiT jaX jaF jaD ja7 jby jbe jaM jaY jap jaK jal jam jax jao jaV jae jag jaf jaw jaI jan jar jaL jah jaB jaa jaz jaH jab jaq jai jaO jaA jaj jas jaJ jak jad jay jac jaN jaC jbw jbD jb2 jbv jcu jbT jcy Q (qsd jaN jaC jbw jbD jb2 jbv jcu jbT jcy Q n) ih C0 _ _ _ f0_s f5 f6 jjl jjp jjq l1 l1 ((r7 ||| (1 <<< (x9 &&& 31))) &&& r10) hP hD hS (lv_sub hl [0, 1] rfl) hw
      · have hw := hw.2 c4
        refine lv_iconst (v := 0) hx hb (qaa qc4 15 rfl) (by decide) ?_
        refine lv_goto (tgt := 52) hx hb (qaa qcV 0 rfl) (by decide) ?_
        exact qPI dC dI cyB cyI cyJ cyP a0 jaT a0_s jiY ja5 jbu jbB jbG jbg jbJ jiO jiT jaX jaF jaD ja7 jby jbe jaM jaY jap jaK jal jam jax jao jaV jae jag jaf jaw jaI jan jar jaL jah jaB jaa jaz jaH jab jaq jai jaO jaA jaj jas jaJ jak jad jay jac jaN jaC jbw jbD jb2 jbv jcu jbT jcy Q (qsd jaN jaC jbw jbD jb2 jbv jcu jbT jcy Q n) ih C0 _ _ _ f0_s jb1 jcb jjl jjp jjq l1 l1 0 hP hD hS (lv_sub hl [0, 1] rfl) hw
set_option maxHeartbeats 4000000 in
set_option maxRecDepth 100000 in
theorem qZP (l : Launch) (dC : Nat → ClassId) (dI : Nat → Nat → Nat) (cyB cyI cyJ cyP : ClassId) (a0 jaT a0_s jiY ja5 jbu jbB jbG jbg jbJ jiO jiT sz : Nat) (jaX jaF jaD ja7 jby jbe jaM jaY jap jaK jal jam jax jao jaV jae jag jaf jaw jaI jan jar jaL jah jaB jaa jaz jaH jab jaq jai jaO jaA jaj jas jaJ jak jad jay jac : Value) (jaN jaC jbw jbD : Int32) (jb2 jbv jcu jbT jcy f0_s jb1 jcb jjl jjp jjq : NI) {Q : NI → NI → NI → NI → NI → NI → Prop} (hw : qE8 jaN jaC jbw jbD jb2 jbv jcu jbT jcy f0_s jb1 jcb jjl jjp jjq Q) : Met l yX11_findSeats wsX11_findSeats ({ frames := 7, cells := 0, slots := 0, locals := 160 }) (va_Pc [.ref a0] (cPc (dC, dI) (kT cyB cyI cyJ cyP) (qbN a0 jaX jaF jaD ja7 jby jbe jaM jaY jap jaK jal jam jax jao ja5 jaV jbJ jae jag jaf jaN jaC jbw jaw jaI jbG jbg jbB jan jbD jbu jar jaL jah jaB jaa jaz jaH jab jaT a0_s jaq jai jaO jaA jiO jiT jiY jaj jas jaJ jak jad jay jac jaT cyI jb2 a0_s cyI f0_s ja5 cyI jbv jbu cyI jb1 jbB cyI jcb jbG cyI jcu jbg cyI jbT jbJ cyI jcy jiO cyI jjl jiY cyI jjp jiT cyI jjq) sz)) (va_Qv (fun (u : NI × NI × NI × NI × NI × NI) => Q u.1 u.2.1 u.2.2.1 u.2.2.2.1 u.2.2.2.2.1 u.2.2.2.2.2) (cB (dC, dI) (kT cyB cyI cyJ cyP) (va_A (qbN a0 jaX jaF jaD ja7 jby jbe jaM jaY jap jaK jal jam jax jao ja5 jaV jbJ jae jag jaf jaN jaC jbw jaw jaI jbG jbg jbB jan jbD jbu jar jaL jah jaB jaa jaz jaH jab jaT a0_s jaq jai jaO jaA jiO jiT jiY jaj jas jaJ jak jad jay jac jaT cyI jb2 a0_s cyI f0_s ja5 cyI jbv jbu cyI jb1 jbB cyI jcb jbG cyI jcu jbg cyI jbT jbJ cyI jcy jiO cyI jjl jiY cyI jjp jiT cyI jjq) sz) (fun u : NI × NI × NI × NI × NI × NI => ((qbN a0 jaX jaF jaD ja7 jby jbe jaM jaY jap jaK jal jam jax jao ja5 jaV jbJ jae jag jaf jaN jaC jbw jaw jaI jbG jbg jbB jan jbD jbu jar jaL jah jaB jaa jaz jaH jab jaT a0_s jaq jai jaO jaA jiO jiT jiY jaj jas jaJ jak jad jay jac jaT cyI jb2 a0_s cyI u.1 ja5 cyI jbv jbu cyI u.2.1 jbB cyI u.2.2.1 jbG cyI jcu jbg cyI jbT jbJ cyI jcy jiO cyI u.2.2.2.1 jiY cyI u.2.2.2.2.1 jiT cyI u.2.2.2.2.2) : va_W))) (va_A (qbN a0 jaX jaF jaD ja7 jby jbe jaM jaY jap jaK jal jam jax jao ja5 jaV jbJ jae jag jaf jaN jaC jbw jaw jaI jbG jbg jbB jan jbD jbu jar jaL jah jaB jaa jaz jaH jab jaT a0_s jaq jai jaO jaA jiO jiT jiY jaj jas jaJ jak jad jay jac jaT cyI jb2 a0_s cyI f0_s ja5 cyI jbv jbu cyI jb1 jbB cyI jcb jbG cyI jcu jbg cyI jbT jbJ cyI jcy jiO cyI jjl jiY cyI jjp jiT cyI jjq) sz)) 0 0 (va_A (qbN a0 jaX jaF jaD ja7 jby jbe jaM jaY jap jaK jal jam jax jao ja5 jaV jbJ jae jag jaf jaN jaC jbw jaw jaI jbG jbg jbB jan jbD jbu jar jaL jah jaB jaa jaz jaH jab jaT a0_s jaq jai jaO jaA jiO jiT jiY jaj jas jaJ jak jad jay jac jaT cyI jb2 a0_s cyI f0_s ja5 cyI jbv jbu cyI jb1 jbB cyI jcb jbG cyI jcu jbg cyI jbT jbJ cyI jcy jiO cyI jjl jiY cyI jjp jiT cyI jjq) sz) := by
  refine Met.ofW (cc := cX11_findSeats) (maxL := 6) (ret := none) (by decide) rfl ?_
  intro p e s m args below meth c s₁ B hml hv
  obtain ⟨rfl, hsz, hP, hK, hD0, hNw⟩ := hv
  have hx := B.exec
  have hb := B.bytes
  have hr := B.returns
  have hts := atoms_spec (ws := wsX11_findSeats) B.pre
  have hown : s.vm.findClass RX11 = some m.cls := findClass_of_methodNamed B.named
  have hlocks := B.notSynchronized
  subst hsz
  have hD := hD0.self (sz := s.heap.size)
  generalize hAe : va_A (qbN a0 jaX jaF jaD ja7 jby jbe jaM jaY jap jaK jal jam jax jao ja5 jaV jbJ jae jag jaf jaN jaC jbw jaw jaI jbG jbg jbB jan jbD jbu jar jaL jah jaB jaa jaz jaH jab jaT a0_s jaq jai jaO jaA jiO jiT jiY jaj jas jaJ jak jad jay jac jaT cyI jb2 a0_s cyI f0_s ja5 cyI jbv jbu cyI jb1 jbB cyI jcb jbG cyI jcu jbg cyI jbT jbJ cyI jcy jiO cyI jjl jiY cyI jjp jiT cyI jjq) s.heap.size = A at hD ⊢
  have hA : ∀ q : Nat, s.heap.size ≤ q → A q := fun q h => by rw [← hAe]; exact Or.inr h
  have hS : va_S A s.heap s.heap [] := va_S.rf
  have hP : va_P (dC, dI) vwCl (qbN a0 jaX jaF jaD ja7 jby jbe jaM jaY jap jaK jal jam jax jao ja5 jaV jbJ jae jag jaf jaN jaC jbw jaw jaI jbG jbg jbB jan jbD jbu jar jaL jah jaB jaa jaz jaH jab jaT a0_s jaq jai jaO jaA jiO jiT jiY jaj jas jaJ jak jad jay jac jaT cyI jb2 a0_s cyI f0_s ja5 cyI jbv jbu cyI jb1 jbB cyI jcb jbG cyI jcu jbg cyI jbT jbJ cyI jcy jiO cyI jjl jiY cyI jjp jiT cyI jjq) s.heap := hP
  have hl := lv_entry ([.ref a0]) (n := 6) (nbq rfl)
  rw [lg_entry_eq]
  generalize (lg_sl ([.ref a0]) ++ List.replicate (6 - (lg_sl ([.ref a0])).length) Slot.unset).toArray = ls at hl ⊢
  have hl : lv_has ls 6 [(0, .ref a0)] := hl
  have C0 : cfx p s m _ meth c cX11_findSeats none wsX11_findSeats RX11 6 A (dC, dI) (kT cyB cyI cyJ cyP) := ⟨hx, hb, hr, hts, hown, hlocks, hml, hA, hK, hNw⟩
  clear hAe
  obtain ⟨H, hH⟩ : ∃ H, H = s.heap := ⟨_, rfl⟩
  rw [← hH] at hP ⊢
  have hS : va_S A s.heap H [] := by rw [hH]; exact va_S.rf
  have hS := hS
  refine lv_aload_n hx hb (qaa qc4 0 rfl) rfl (lv_at hl 0 rfl) ?_
  obtain ⟨hCc, hPc, hDc, hFc⟩ := qac (ws' := (qa4O a0 jaX jaF jaD ja7 jby jbe jaM jaY jap jaK jal jam jax jao ja5 jaV jbJ jae jag jaf jaN jaC jbw jaw jaI jbG jbg jbB jan jbD jbu jar jaL jah jaB jaa jaz jaH jab jaT a0_s jaq jai jaO jaA jiO jiT jiY jaj jas jaJ jak jad jay jac jaT cyI jb2 a0_s cyI f0_s)) hP hD hS hA [0, 1, 2] (by decide +kernel) rfl
  refine va_callv (va_runV (As := []) (rest := []) ⟨hx, hb, hml, hown, hts⟩ (qq7 l dC dI cyB cyI cyJ cyP a0 jaT a0_s H.size (jaX) (jaF) (jaD) (ja7) (jby) (jbe) (jaM) (jaY) (jap) (jaK) (jal) (jam) (jax) (jao) (.ref ja5) (jaV) (.ref jbJ) (jae) (jag) (jaf) (.int jaN) (.int jaC) (.int jbw) (jaw) (jaI) (.ref jbG) (.ref jbg) (.ref jbB) (jan) (.int jbD) (.ref jbu) (jar) (jaL) (jah) (jaB) (jaa) (jaz) (jaH) (jab) (jaq) (jai) (jaO) (jaA) (.ref jiO) (.ref jiT) (.ref jiY) (jaj) (jas) (jaJ) (jak) (jad) (jay) (jac) jb2 f0_s hw) (cwV 0 hts gX11_findSeats_X11_take rfl rfl rfl (by decide +kernel) ⟨nbq rfl, nbq rfl⟩) ⟨qab, va_recv (q := (RX11, TX11, 55)) hK hPc (ci := 11) (q0 := 0) rfl rfl, qae hPc hK hDc hNw⟩ rfl rfl hl.1 rfl (lv_room (nbq rfl)) (qaa qc4 1 rfl) ⟨nbq rfl, nbq rfl⟩) hS (fun q _ h => hFc q h) hFc (fun u t H1 locs ht hvm hw hB hz1 hk1 hS => ?_)
  obtain ⟨f1, rfl⟩ : ∃ z, z = u := ⟨_, rfl⟩
  obtain ⟨hP1, hK1, hD1⟩ := hB
  rw [ht] at hP1
  obtain ⟨hP, hD⟩ := qad (wr := [(ja5, .inl (cyI, 16, .inl jbv)), (jbu, .inl (cyI, 8, .inl jb1)), (jbB, .inl (cyI, 150, .inl jcb)), (jbG, .inl (cyI, 150, .inl jcu)), (jbg, .inl (cyI, 150, .inl jbT)), (jbJ, .inl (cyI, 8, .inl jcy)), (jiO, .inl (cyI, 1792, .inl jjl)), (jiY, .inl (cyI, 6, .inl jjp)), (jiT, .inl (cyI, 6, .inl jjq))]) (w1 := (qa4O a0 jaX jaF jaD ja7 jby jbe jaM jaY jap jaK jal jam jax jao ja5 jaV jbJ jae jag jaf jaN jaC jbw jaw jaI jbG jbg jbB jan jbD jbu jar jaL jah jaB jaa jaz jaH jab jaT a0_s jaq jai jaO jaA jiO jiT jiY jaj jas jaJ jak jad jay jac jaT cyI jb2 a0_s cyI f1)) (wn := (qbN a0 jaX jaF jaD ja7 jby jbe jaM jaY jap jaK jal jam jax jao ja5 jaV jbJ jae jag jaf jaN jaC jbw jaw jaI jbG jbg jbB jan jbD jbu jar jaL jah jaB jaa jaz jaH jab jaT a0_s jaq jai jaO jaA jiO jiT jiY jaj jas jaJ jak jad jay jac jaT cyI jb2 a0_s cyI f1 ja5 cyI jbv jbu cyI jb1 jbB cyI jcb jbG cyI jcu jbg cyI jbT jbJ cyI jcy jiO cyI jjl jiY cyI jjp jiT cyI jjq)) hP hD [0, 1, 2] [3, 4, 5, 6, 7, 8, 9, 10, 11] [9, 10, 11, 0, 1, 2, 3, 4, 5, 6, 7, 8] hCc rfl (by decide +kernel) (by decide +kernel) (by decide +kernel) rfl hk1 hFc hP1 hD1
  generalize H1 = H at hP hS ⊢
  refine lv_iconst (v := 0) hx hb (qaa qc4 2 rfl) (by decide) ?_
  refine lv_istore_n (lv' := [(1, .int 0), (0, .ref a0)]) hx hb (qaa qc4 3 rfl) rfl hl (by decide) rfl (fun ls hl => ?_)
  obtain ⟨n9, hw⟩ := hw
  exact qadj dC dI cyB cyI cyJ cyP a0 jaT a0_s jiY ja5 jbu jbB jbG jbg jbJ jiO jiT jaX jaF jaD ja7 jby jbe jaM jaY jap jaK jal jam jax jao jaV jae jag jaf jaw jaI jan jar jaL jah jaB jaa jaz jaH jab jaq jai jaO jaA jaj jas jaJ jak jad jay jac jaN jaC jbw jbD jb2 jbv jcu jbT jcy Q C0 n9 _ _ _ f1 jb1 jcb jjl jjp jjq 0 hP hD hS (lv_sub hl [1, 0] rfl) hw
